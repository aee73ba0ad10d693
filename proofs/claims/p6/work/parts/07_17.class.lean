theorem dJ6_compare_7cf53_0 : decode cJ6_compare_7cf53 0 = .ok (.iload_n 0, 1) := oc_26 (by decide +kernel)
theorem dJ6_compare_7cf53_1 : decode cJ6_compare_7cf53 1 = .ok (.iload_n 1, 1) := oc_27 (by decide +kernel)
theorem dJ6_compare_7cf53_2 : decode cJ6_compare_7cf53 2 = .ok (.if_icmp .ge 7, 3) := oc_162 (a := 0) (b := 7) (by decide +kernel)
theorem dJ6_compare_7cf53_9 : decode cJ6_compare_7cf53 9 = .ok (.iload_n 0, 1) := oc_26 (by decide +kernel)
theorem dJ6_compare_7cf53_10 : decode cJ6_compare_7cf53 10 = .ok (.iload_n 1, 1) := oc_27 (by decide +kernel)
theorem dJ6_compare_7cf53_11 : decode cJ6_compare_7cf53 11 = .ok (.if_icmp .ne 7, 3) := oc_160 (a := 0) (b := 7) (by decide +kernel)
theorem dJ6_compare_7cf53_18 : decode cJ6_compare_7cf53 18 = .ok (.iconst 1, 1) := oc_4 (by decide +kernel)
theorem dJ6_compare_7cf53_19 : decode cJ6_compare_7cf53 19 = .ok (.ireturn, 1) := oc_172 (by decide +kernel)
theorem dJ6_compare_7cf53_14 : decode cJ6_compare_7cf53 14 = .ok (.iconst 0, 1) := oc_3 (by decide +kernel)
theorem dJ6_compare_7cf53_15 : decode cJ6_compare_7cf53 15 = .ok (.goto 4, 3) := oc_167 (a := 0) (b := 4) (by decide +kernel)
theorem dJ6_compare_7cf53_5 : decode cJ6_compare_7cf53 5 = .ok (.iconst (-1), 1) := oc_2 (by decide +kernel)
theorem dJ6_compare_7cf53_6 : decode cJ6_compare_7cf53 6 = .ok (.goto 13, 3) := oc_167 (a := 0) (b := 13) (by decide +kernel)
theorem dX8_isAhead_0 : decode cX8_isAhead 0 = .ok (.iload_n 1, 1) := oc_27 (by decide +kernel)
theorem dX8_isAhead_12 : decode cX8_isAhead 12 = .ok (.iconst 0, 1) := oc_3 (by decide +kernel)
theorem dX8_isAhead_13 : decode cX8_isAhead 13 = .ok (.ireturn, 1) := oc_172 (by decide +kernel)
theorem dX8_isAhead_1 : decode cX8_isAhead 1 = .ok (.ifCond .lt 11, 3) := oc_155 (a := 0) (b := 11) (by decide +kernel)
theorem dX8_isAhead_4 : decode cX8_isAhead 4 = .ok (.iload_n 1, 1) := oc_27 (by decide +kernel)
theorem dX8_isAhead_5 : decode cX8_isAhead 5 = .ok (.aload_n 0, 1) := oc_42 (by decide +kernel)
theorem dX8_isAhead_6 : decode cX8_isAhead 6 = .ok (.getfield 21, 3) := oc_180 (a := 0) (b := 21) (by decide +kernel)
theorem dX8_isAhead_9 : decode cX8_isAhead 9 = .ok (.if_icmp .lt 5, 3) := oc_161 (a := 0) (b := 5) (by decide +kernel)
theorem dX8_isAhead_14 : decode cX8_isAhead 14 = .ok (.aload_n 0, 1) := oc_42 (by decide +kernel)
theorem dX8_isAhead_15 : decode cX8_isAhead 15 = .ok (.getfield 15, 3) := oc_180 (a := 0) (b := 15) (by decide +kernel)
theorem dX8_isAhead_18 : decode cX8_isAhead 18 = .ok (.iload_n 1, 1) := oc_27 (by decide +kernel)
theorem dX8_isAhead_19 : decode cX8_isAhead 19 = .ok (.iaload, 1) := oc_46 (by decide +kernel)
theorem dX8_isAhead_20 : decode cX8_isAhead 20 = .ok (.istore 5, 2) := oc_54 (by decide +kernel)
theorem dX8_isAhead_22 : decode cX8_isAhead 22 = .ok (.iload 5, 2) := oc_21 (by decide +kernel)
theorem dX8_isAhead_24 : decode cX8_isAhead 24 = .ok (.aload_n 0, 1) := oc_42 (by decide +kernel)
theorem dX8_isAhead_25 : decode cX8_isAhead 25 = .ok (.getfield 15, 3) := oc_180 (a := 0) (b := 15) (by decide +kernel)
theorem dX8_isAhead_28 : decode cX8_isAhead 28 = .ok (.iload_n 1, 1) := oc_27 (by decide +kernel)
theorem dX8_isAhead_29 : decode cX8_isAhead 29 = .ok (.iconst 1, 1) := oc_4 (by decide +kernel)
theorem dX8_isAhead_30 : decode cX8_isAhead 30 = .ok (.iadd, 1) := oc_96 (by decide +kernel)
theorem dX8_isAhead_31 : decode cX8_isAhead 31 = .ok (.iaload, 1) := oc_46 (by decide +kernel)
theorem dX8_isAhead_32 : decode cX8_isAhead 32 = .ok (.if_icmp .ge 82, 3) := oc_162 (a := 0) (b := 82) (by decide +kernel)
theorem dX8_isAhead_114 : decode cX8_isAhead 114 = .ok (.iconst 0, 1) := oc_3 (by decide +kernel)
theorem dX8_isAhead_115 : decode cX8_isAhead 115 = .ok (.ireturn, 1) := oc_172 (by decide +kernel)
theorem dX8_isAhead_35 : decode cX8_isAhead 35 = .ok (.aload_n 0, 1) := oc_42 (by decide +kernel)
theorem dX8_isAhead_36 : decode cX8_isAhead 36 = .ok (.getfield 18, 3) := oc_180 (a := 0) (b := 18) (by decide +kernel)
theorem dX8_isAhead_39 : decode cX8_isAhead 39 = .ok (.iload 5, 2) := oc_21 (by decide +kernel)
theorem dX8_isAhead_41 : decode cX8_isAhead 41 = .ok (.iaload, 1) := oc_46 (by decide +kernel)
theorem tw_483 : Cond.methodLink RX8 33 Lib.Math.abs.name ∈ wsL_law := sg_21 _ (List.mem_of_getElem? (i := 3) rfl)
theorem dX8_isAhead_42 : decode cX8_isAhead 42 = .ok (.invokestatic 33, 3) := oc_184 (a := 0) (b := 33) (by decide +kernel)
theorem dX8_isAhead_45 : decode cX8_isAhead 45 = .ok (.istore 6, 2) := oc_54 (by decide +kernel)
theorem dX8_isAhead_47 : decode cX8_isAhead 47 = .ok (.aload_n 2, 1) := oc_44 (by decide +kernel)
theorem dX8_isAhead_48 : decode cX8_isAhead 48 = .ok (.iload_n 3, 1) := oc_29 (by decide +kernel)
theorem dX8_isAhead_49 : decode cX8_isAhead 49 = .ok (.iload 6, 2) := oc_21 (by decide +kernel)
theorem dX8_isAhead_51 : decode cX8_isAhead 51 = .ok (.iconst 0, 1) := oc_3 (by decide +kernel)
theorem tw_486 : Cond.methodLink RX8 38 yX0_valueOf ∈ wsL_law := sg_21 _ (List.mem_of_getElem? (i := 6) rfl)
theorem dX8_isAhead_52 : decode cX8_isAhead 52 = .ok (.invokevirtual 38, 3) := oc_182 (a := 0) (b := 38) (by decide +kernel)
theorem dX8_isAhead_55 : decode cX8_isAhead 55 = .ok (.aload_n 2, 1) := oc_44 (by decide +kernel)
theorem dX8_isAhead_56 : decode cX8_isAhead 56 = .ok (.iload 4, 2) := oc_21 (by decide +kernel)
theorem dX8_isAhead_58 : decode cX8_isAhead 58 = .ok (.iload 6, 2) := oc_21 (by decide +kernel)
theorem dX8_isAhead_60 : decode cX8_isAhead 60 = .ok (.iconst 0, 1) := oc_3 (by decide +kernel)
theorem dX8_isAhead_61 : decode cX8_isAhead 61 = .ok (.invokevirtual 38, 3) := oc_182 (a := 0) (b := 38) (by decide +kernel)
theorem tw_490 : Cond.methodLink RX8 44 yJ6_compare_7cf53 ∈ wsL_law := sg_21 _ (List.mem_of_getElem? (i := 10) rfl)
theorem tw_491 : Cond.static yJ6_compare_7cf53 ∈ wsL_law := sg_21 _ (List.mem_of_getElem? (i := 11) rfl)
theorem tw_493 : Cond.code yJ6_compare_7cf53 cJ6_compare_7cf53 2 (some .int) ∈ wsL_law := sg_21 _ (List.mem_of_getElem? (i := 13) rfl)
theorem dX8_isAhead_64 : decode cX8_isAhead 64 = .ok (.invokestatic 44, 3) := oc_184 (a := 0) (b := 44) (by decide +kernel)
theorem dX8_isAhead_67 : decode cX8_isAhead 67 = .ok (.istore 7, 2) := oc_54 (by decide +kernel)
theorem dX8_isAhead_69 : decode cX8_isAhead 69 = .ok (.iload 7, 2) := oc_21 (by decide +kernel)
theorem dX8_isAhead_71 : decode cX8_isAhead 71 = .ok (.ifCond .eq 37, 3) := oc_153 (a := 0) (b := 37) (by decide +kernel)
theorem dX8_isAhead_108 : decode cX8_isAhead 108 = .ok (.iinc 5 1, 3) := oc_132 (b := 1) (by decide +kernel)
theorem dX8_isAhead_111 : decode cX8_isAhead 111 = .ok (.goto (-89), 3) := oc_167 (a := 255) (b := 167) (by decide +kernel)
theorem dX8_isAhead_74 : decode cX8_isAhead 74 = .ok (.aload_n 0, 1) := oc_42 (by decide +kernel)
theorem dX8_isAhead_75 : decode cX8_isAhead 75 = .ok (.getfield 18, 3) := oc_180 (a := 0) (b := 18) (by decide +kernel)
theorem dX8_isAhead_78 : decode cX8_isAhead 78 = .ok (.iload 5, 2) := oc_21 (by decide +kernel)
theorem dX8_isAhead_80 : decode cX8_isAhead 80 = .ok (.iaload, 1) := oc_46 (by decide +kernel)
theorem dX8_isAhead_81 : decode cX8_isAhead 81 = .ok (.ifCond .ge 16, 3) := oc_156 (a := 0) (b := 16) (by decide +kernel)
theorem dX8_isAhead_97 : decode cX8_isAhead 97 = .ok (.iload 7, 2) := oc_21 (by decide +kernel)
theorem dX8_isAhead_99 : decode cX8_isAhead 99 = .ok (.ifCond .ge 7, 3) := oc_156 (a := 0) (b := 7) (by decide +kernel)
theorem dX8_isAhead_106 : decode cX8_isAhead 106 = .ok (.iconst 0, 1) := oc_3 (by decide +kernel)
theorem dX8_isAhead_107 : decode cX8_isAhead 107 = .ok (.ireturn, 1) := oc_172 (by decide +kernel)
theorem dX8_isAhead_102 : decode cX8_isAhead 102 = .ok (.iconst 1, 1) := oc_4 (by decide +kernel)
theorem dX8_isAhead_103 : decode cX8_isAhead 103 = .ok (.goto 4, 3) := oc_167 (a := 0) (b := 4) (by decide +kernel)
theorem dX8_isAhead_84 : decode cX8_isAhead 84 = .ok (.iload 7, 2) := oc_21 (by decide +kernel)
theorem dX8_isAhead_86 : decode cX8_isAhead 86 = .ok (.ifCond .le 7, 3) := oc_158 (a := 0) (b := 7) (by decide +kernel)
theorem dX8_isAhead_93 : decode cX8_isAhead 93 = .ok (.iconst 0, 1) := oc_3 (by decide +kernel)
theorem dX8_isAhead_94 : decode cX8_isAhead 94 = .ok (.goto 13, 3) := oc_167 (a := 0) (b := 13) (by decide +kernel)
theorem dX8_isAhead_89 : decode cX8_isAhead 89 = .ok (.iconst 1, 1) := oc_4 (by decide +kernel)
theorem dX8_isAhead_90 : decode cX8_isAhead 90 = .ok (.goto 17, 3) := oc_167 (a := 0) (b := 17) (by decide +kernel)
theorem dX9_dig_0 : decode cX9_dig 0 = .ok (.aload_n 0, 1) := oc_42 (by decide +kernel)
theorem dX9_dig_1 : decode cX9_dig 1 = .ok (.getfield 9, 3) := oc_180 (a := 0) (b := 9) (by decide +kernel)
theorem dX9_dig_4 : decode cX9_dig 4 = .ok (.iload_n 1, 1) := oc_27 (by decide +kernel)
theorem dX9_dig_5 : decode cX9_dig 5 = .ok (.iload_n 2, 1) := oc_28 (by decide +kernel)
theorem dX9_dig_6 : decode cX9_dig 6 = .ok (.iastore, 1) := oc_79 (by decide +kernel)
theorem dX9_dig_7 : decode cX9_dig 7 = .ok (.aload_n 0, 1) := oc_42 (by decide +kernel)
theorem dX9_dig_8 : decode cX9_dig 8 = .ok (.getfield 15, 3) := oc_180 (a := 0) (b := 15) (by decide +kernel)
theorem dX9_dig_11 : decode cX9_dig 11 = .ok (.iload_n 1, 1) := oc_27 (by decide +kernel)
theorem dX9_dig_12 : decode cX9_dig 12 = .ok (.iload_n 3, 1) := oc_29 (by decide +kernel)
theorem dX9_dig_13 : decode cX9_dig 13 = .ok (.iastore, 1) := oc_79 (by decide +kernel)
theorem dX9_dig_14 : decode cX9_dig 14 = .ok (.aload_n 0, 1) := oc_42 (by decide +kernel)
theorem dX9_dig_15 : decode cX9_dig 15 = .ok (.getfield 18, 3) := oc_180 (a := 0) (b := 18) (by decide +kernel)
theorem dX9_dig_18 : decode cX9_dig 18 = .ok (.iload_n 1, 1) := oc_27 (by decide +kernel)
theorem dX9_dig_19 : decode cX9_dig 19 = .ok (.iload 4, 2) := oc_21 (by decide +kernel)
theorem dX9_dig_21 : decode cX9_dig 21 = .ok (.iastore, 1) := oc_79 (by decide +kernel)
theorem dX9_dig_22 : decode cX9_dig 22 = .ok (.return_, 1) := oc_177 (by decide +kernel)
theorem dX10_copyFrom_0 : decode cX10_copyFrom 0 = .ok (.aload_n 0, 1) := oc_42 (by decide +kernel)
theorem dX10_copyFrom_1 : decode cX10_copyFrom 1 = .ok (.aload_n 1, 1) := oc_43 (by decide +kernel)
theorem dX10_copyFrom_2 : decode cX10_copyFrom 2 = .ok (.getfield 67, 3) := oc_180 (a := 0) (b := 67) (by decide +kernel)
theorem dX10_copyFrom_5 : decode cX10_copyFrom 5 = .ok (.putfield 67, 3) := oc_181 (a := 0) (b := 67) (by decide +kernel)
theorem dX10_copyFrom_8 : decode cX10_copyFrom 8 = .ok (.aload_n 0, 1) := oc_42 (by decide +kernel)
theorem dX10_copyFrom_9 : decode cX10_copyFrom 9 = .ok (.aload_n 1, 1) := oc_43 (by decide +kernel)
theorem tw_1131 : Cond.fieldLink RX10 70 "RingsUnder$World" "fund" "I" ∈ wsL_law := sg_48 _ (List.mem_of_getElem? (i := 3) rfl)
theorem dX10_copyFrom_10 : decode cX10_copyFrom 10 = .ok (.getfield 70, 3) := oc_180 (a := 0) (b := 70) (by decide +kernel)
theorem dX10_copyFrom_13 : decode cX10_copyFrom 13 = .ok (.putfield 70, 3) := oc_181 (a := 0) (b := 70) (by decide +kernel)
theorem dX10_copyFrom_16 : decode cX10_copyFrom 16 = .ok (.aload_n 0, 1) := oc_42 (by decide +kernel)
theorem dX10_copyFrom_17 : decode cX10_copyFrom 17 = .ok (.aload_n 1, 1) := oc_43 (by decide +kernel)
theorem tw_1046 : Cond.fieldLink RX10 73 "RingsUnder$World" "boats" "I" ∈ wsL_law := sg_44 _ (List.mem_of_getElem? (i := 14) rfl)
theorem dX10_copyFrom_18 : decode cX10_copyFrom 18 = .ok (.getfield 73, 3) := oc_180 (a := 0) (b := 73) (by decide +kernel)
theorem dX10_copyFrom_21 : decode cX10_copyFrom 21 = .ok (.putfield 73, 3) := oc_181 (a := 0) (b := 73) (by decide +kernel)
theorem dX10_copyFrom_24 : decode cX10_copyFrom 24 = .ok (.aload_n 0, 1) := oc_42 (by decide +kernel)
theorem dX10_copyFrom_25 : decode cX10_copyFrom 25 = .ok (.aload_n 1, 1) := oc_43 (by decide +kernel)
theorem tw_31 : Cond.fieldLink RX10 9 "RingsUnder$World" "cantMonth" "I" ∈ wsL_law := sg_2 _ (List.mem_of_getElem? (i := 7) rfl)
theorem dX10_copyFrom_26 : decode cX10_copyFrom 26 = .ok (.getfield 9, 3) := oc_180 (a := 0) (b := 9) (by decide +kernel)
theorem dX10_copyFrom_29 : decode cX10_copyFrom 29 = .ok (.putfield 9, 3) := oc_181 (a := 0) (b := 9) (by decide +kernel)
theorem dX10_copyFrom_32 : decode cX10_copyFrom 32 = .ok (.aload_n 0, 1) := oc_42 (by decide +kernel)
theorem dX10_copyFrom_33 : decode cX10_copyFrom 33 = .ok (.aload_n 1, 1) := oc_43 (by decide +kernel)
theorem tw_32 : Cond.fieldLink RX10 15 "RingsUnder$World" "area" "I" ∈ wsL_law := sg_2 _ (List.mem_of_getElem? (i := 8) rfl)
theorem dX10_copyFrom_34 : decode cX10_copyFrom 34 = .ok (.getfield 15, 3) := oc_180 (a := 0) (b := 15) (by decide +kernel)
theorem dX10_copyFrom_37 : decode cX10_copyFrom 37 = .ok (.putfield 15, 3) := oc_181 (a := 0) (b := 15) (by decide +kernel)
theorem dX10_copyFrom_40 : decode cX10_copyFrom 40 = .ok (.aload_n 1, 1) := oc_43 (by decide +kernel)
theorem tw_34 : Cond.fieldLink RX10 18 "RingsUnder$World" "holder" "[I" ∈ wsL_law := sg_2 _ (List.mem_of_getElem? (i := 10) rfl)
theorem dX10_copyFrom_41 : decode cX10_copyFrom 41 = .ok (.getfield 18, 3) := oc_180 (a := 0) (b := 18) (by decide +kernel)
theorem dX10_copyFrom_44 : decode cX10_copyFrom 44 = .ok (.aload_n 0, 1) := oc_42 (by decide +kernel)
theorem dX10_copyFrom_45 : decode cX10_copyFrom 45 = .ok (.getfield 18, 3) := oc_180 (a := 0) (b := 18) (by decide +kernel)
theorem dX10_copyFrom_48 : decode cX10_copyFrom 48 = .ok (.invokestatic 76, 3) := oc_184 (a := 0) (b := 76) (by decide +kernel)
theorem dX10_copyFrom_51 : decode cX10_copyFrom 51 = .ok (.aload_n 0, 1) := oc_42 (by decide +kernel)
theorem dX10_copyFrom_52 : decode cX10_copyFrom 52 = .ok (.getfield 25, 3) := oc_180 (a := 0) (b := 25) (by decide +kernel)
theorem dX10_copyFrom_55 : decode cX10_copyFrom 55 = .ok (.aload_n 1, 1) := oc_43 (by decide +kernel)
theorem dX10_copyFrom_56 : decode cX10_copyFrom 56 = .ok (.getfield 25, 3) := oc_180 (a := 0) (b := 25) (by decide +kernel)
theorem tw_1366 : Cond.methodLink RX10 80 yX7_copyFrom ∈ wsL_law := sg_57 _ (List.mem_of_getElem? (i := 22) rfl)
theorem tw_1367 : Cond.instanceMethod yX7_copyFrom ∈ wsL_law := sg_57 _ (List.mem_of_getElem? (i := 23) rfl)
theorem tw_1368 : Cond.selects RX7 yX7_copyFrom yX7_copyFrom ∈ wsL_law := sg_58 _ (List.mem_of_getElem? (i := 0) rfl)
theorem tw_1369 : Cond.code yX7_copyFrom cX7_copyFrom 2 none ∈ wsL_law := sg_58 _ (List.mem_of_getElem? (i := 1) rfl)
theorem dX10_copyFrom_59 : decode cX10_copyFrom 59 = .ok (.invokevirtual 80, 3) := oc_182 (a := 0) (b := 80) (by decide +kernel)
theorem dX10_copyFrom_62 : decode cX10_copyFrom 62 = .ok (.aload_n 0, 1) := oc_42 (by decide +kernel)
theorem dX10_copyFrom_63 : decode cX10_copyFrom 63 = .ok (.getfield 32, 3) := oc_180 (a := 0) (b := 32) (by decide +kernel)
theorem dX10_copyFrom_66 : decode cX10_copyFrom 66 = .ok (.aload_n 1, 1) := oc_43 (by decide +kernel)
theorem dX10_copyFrom_67 : decode cX10_copyFrom 67 = .ok (.getfield 32, 3) := oc_180 (a := 0) (b := 32) (by decide +kernel)
theorem tw_1370 : Cond.methodLink RX10 84 yX2_copyFrom ∈ wsL_law := sg_58 _ (List.mem_of_getElem? (i := 2) rfl)
theorem tw_1371 : Cond.instanceMethod yX2_copyFrom ∈ wsL_law := sg_58 _ (List.mem_of_getElem? (i := 3) rfl)
theorem tw_1372 : Cond.selects RX2 yX2_copyFrom yX2_copyFrom ∈ wsL_law := sg_58 _ (List.mem_of_getElem? (i := 4) rfl)
theorem tw_1373 : Cond.code yX2_copyFrom cX2_copyFrom 2 none ∈ wsL_law := sg_58 _ (List.mem_of_getElem? (i := 5) rfl)
theorem dX10_copyFrom_70 : decode cX10_copyFrom 70 = .ok (.invokevirtual 84, 3) := oc_182 (a := 0) (b := 84) (by decide +kernel)
theorem dX10_copyFrom_73 : decode cX10_copyFrom 73 = .ok (.aload_n 0, 1) := oc_42 (by decide +kernel)
theorem tw_46 : Cond.fieldLink RX10 39 "RingsUnder$World" "folk" "LRingsUnder$Folk;" ∈ wsL_law := sg_2 _ (List.mem_of_getElem? (i := 22) rfl)
theorem dX10_copyFrom_74 : decode cX10_copyFrom 74 = .ok (.getfield 39, 3) := oc_180 (a := 0) (b := 39) (by decide +kernel)
theorem dX10_copyFrom_77 : decode cX10_copyFrom 77 = .ok (.aload_n 1, 1) := oc_43 (by decide +kernel)
theorem dX10_copyFrom_78 : decode cX10_copyFrom 78 = .ok (.getfield 39, 3) := oc_180 (a := 0) (b := 39) (by decide +kernel)
theorem tw_1380 : Cond.methodLink RX10 87 yX0_copyFrom ∈ wsL_law := sg_58 _ (List.mem_of_getElem? (i := 12) rfl)
theorem tw_1381 : Cond.instanceMethod yX0_copyFrom ∈ wsL_law := sg_58 _ (List.mem_of_getElem? (i := 13) rfl)
theorem tw_1382 : Cond.selects RX0 yX0_copyFrom yX0_copyFrom ∈ wsL_law := sg_58 _ (List.mem_of_getElem? (i := 14) rfl)
theorem tw_1383 : Cond.code yX0_copyFrom cX0_copyFrom 2 none ∈ wsL_law := sg_58 _ (List.mem_of_getElem? (i := 15) rfl)
theorem dX10_copyFrom_81 : decode cX10_copyFrom 81 = .ok (.invokevirtual 87, 3) := oc_182 (a := 0) (b := 87) (by decide +kernel)
theorem dX10_copyFrom_84 : decode cX10_copyFrom 84 = .ok (.aload_n 0, 1) := oc_42 (by decide +kernel)
theorem tw_50 : Cond.fieldLink RX10 46 "RingsUnder$World" "law" "LRingsUnder$Law;" ∈ wsL_law := sg_3 _ (List.mem_of_getElem? (i := 2) rfl)
theorem dX10_copyFrom_85 : decode cX10_copyFrom 85 = .ok (.getfield 46, 3) := oc_180 (a := 0) (b := 46) (by decide +kernel)
theorem dX10_copyFrom_88 : decode cX10_copyFrom 88 = .ok (.aload_n 1, 1) := oc_43 (by decide +kernel)
theorem dX10_copyFrom_89 : decode cX10_copyFrom 89 = .ok (.getfield 46, 3) := oc_180 (a := 0) (b := 46) (by decide +kernel)
theorem tw_1384 : Cond.methodLink RX10 90 yX3_copyFrom ∈ wsL_law := sg_58 _ (List.mem_of_getElem? (i := 16) rfl)
theorem tw_1385 : Cond.instanceMethod yX3_copyFrom ∈ wsL_law := sg_58 _ (List.mem_of_getElem? (i := 17) rfl)
theorem tw_1386 : Cond.selects RX3 yX3_copyFrom yX3_copyFrom ∈ wsL_law := sg_58 _ (List.mem_of_getElem? (i := 18) rfl)
theorem tw_1387 : Cond.code yX3_copyFrom cX3_copyFrom 3 none ∈ wsL_law := sg_58 _ (List.mem_of_getElem? (i := 19) rfl)
theorem dX10_copyFrom_92 : decode cX10_copyFrom 92 = .ok (.invokevirtual 90, 3) := oc_182 (a := 0) (b := 90) (by decide +kernel)
theorem dX10_copyFrom_95 : decode cX10_copyFrom 95 = .ok (.aload_n 0, 1) := oc_42 (by decide +kernel)
theorem tw_54 : Cond.fieldLink RX10 53 "RingsUnder$World" "graves" "LRingsUnder$Graves;" ∈ wsL_law := sg_3 _ (List.mem_of_getElem? (i := 6) rfl)
theorem dX10_copyFrom_96 : decode cX10_copyFrom 96 = .ok (.getfield 53, 3) := oc_180 (a := 0) (b := 53) (by decide +kernel)
theorem dX10_copyFrom_99 : decode cX10_copyFrom 99 = .ok (.aload_n 1, 1) := oc_43 (by decide +kernel)
theorem dX10_copyFrom_100 : decode cX10_copyFrom 100 = .ok (.getfield 53, 3) := oc_180 (a := 0) (b := 53) (by decide +kernel)
theorem tw_1389 : Cond.methodLink RX10 93 yX1_copyFrom ∈ wsL_law := sg_58 _ (List.mem_of_getElem? (i := 21) rfl)
theorem tw_1390 : Cond.instanceMethod yX1_copyFrom ∈ wsL_law := sg_58 _ (List.mem_of_getElem? (i := 22) rfl)
theorem tw_1391 : Cond.selects RX1 yX1_copyFrom yX1_copyFrom ∈ wsL_law := sg_58 _ (List.mem_of_getElem? (i := 23) rfl)
theorem tw_53 : Cond.initialized RX1 ∈ wsL_law := sg_3 _ (List.mem_of_getElem? (i := 5) rfl)
theorem tw_1392 : Cond.code yX1_copyFrom cX1_copyFrom 2 none ∈ wsL_law := sg_59 _ (List.mem_of_getElem? (i := 0) rfl)
theorem dX10_copyFrom_103 : decode cX10_copyFrom 103 = .ok (.invokevirtual 93, 3) := oc_182 (a := 0) (b := 93) (by decide +kernel)
theorem dX10_copyFrom_106 : decode cX10_copyFrom 106 = .ok (.return_, 1) := oc_177 (by decide +kernel)
theorem dX10_reckon_0 : decode cX10_reckon 0 = .ok (.aload_n 0, 1) := oc_42 (by decide +kernel)
theorem dX10_reckon_1 : decode cX10_reckon 1 = .ok (.getfield 67, 3) := oc_180 (a := 0) (b := 67) (by decide +kernel)
theorem dX10_reckon_4 : decode cX10_reckon 4 = .ok (.sipush 600, 3) := oc_17 (a := 2) (b := 88) (by decide +kernel)
theorem dX10_reckon_7 : decode cX10_reckon 7 = .ok (.if_icmp .lt 4, 3) := oc_161 (a := 0) (b := 4) (by decide +kernel)
theorem dX10_reckon_11 : decode cX10_reckon 11 = .ok (.aload_n 0, 1) := oc_42 (by decide +kernel)
theorem dX10_reckon_12 : decode cX10_reckon 12 = .ok (.getfield 46, 3) := oc_180 (a := 0) (b := 46) (by decide +kernel)
theorem dX10_reckon_15 : decode cX10_reckon 15 = .ok (.aload_n 0, 1) := oc_42 (by decide +kernel)
theorem dX10_reckon_16 : decode cX10_reckon 16 = .ok (.getfield 67, 3) := oc_180 (a := 0) (b := 67) (by decide +kernel)
theorem tw_1133 : Cond.methodLink RX10 191 yX3_fixIn ∈ wsL_law := sg_48 _ (List.mem_of_getElem? (i := 5) rfl)
theorem tw_1009 : Cond.instanceMethod yX3_fixIn ∈ wsL_law := sg_43 _ (List.mem_of_getElem? (i := 1) rfl)
theorem tw_1010 : Cond.selects RX3 yX3_fixIn yX3_fixIn ∈ wsL_law := sg_43 _ (List.mem_of_getElem? (i := 2) rfl)
theorem tw_1011 : Cond.code yX3_fixIn cX3_fixIn 2 (some .int) ∈ wsL_law := sg_43 _ (List.mem_of_getElem? (i := 3) rfl)
theorem dX10_reckon_19 : decode cX10_reckon 19 = .ok (.invokevirtual 191, 3) := oc_182 (a := 0) (b := 191) (by decide +kernel)
theorem dX10_reckon_22 : decode cX10_reckon 22 = .ok (.istore_n 1, 1) := oc_60 (by decide +kernel)
theorem dX10_reckon_23 : decode cX10_reckon 23 = .ok (.iload_n 1, 1) := oc_27 (by decide +kernel)
theorem dX10_reckon_43 : decode cX10_reckon 43 = .ok (.istore_n 2, 1) := oc_61 (by decide +kernel)
theorem dX10_reckon_44 : decode cX10_reckon 44 = .ok (.aload_n 0, 1) := oc_42 (by decide +kernel)
theorem dX10_reckon_45 : decode cX10_reckon 45 = .ok (.aload_n 0, 1) := oc_42 (by decide +kernel)
theorem dX10_reckon_46 : decode cX10_reckon 46 = .ok (.getfield 32, 3) := oc_180 (a := 0) (b := 32) (by decide +kernel)
theorem dX10_reckon_49 : decode cX10_reckon 49 = .ok (.aload_n 0, 1) := oc_42 (by decide +kernel)
theorem dX10_reckon_50 : decode cX10_reckon 50 = .ok (.getfield 32, 3) := oc_180 (a := 0) (b := 32) (by decide +kernel)
theorem tw_1129 : Cond.fieldLink RX10 195 "RingsUnder$Land" "rocks" "[J" ∈ wsL_law := sg_48 _ (List.mem_of_getElem? (i := 1) rfl)
theorem dX10_reckon_53 : decode cX10_reckon 53 = .ok (.getfield 195, 3) := oc_180 (a := 0) (b := 195) (by decide +kernel)
theorem dX10_reckon_56 : decode cX10_reckon 56 = .ok (.iload_n 2, 1) := oc_28 (by decide +kernel)
theorem dX10_reckon_57 : decode cX10_reckon 57 = .ok (.laload, 1) := oc_47 (by decide +kernel)
theorem dX10_reckon_58 : decode cX10_reckon 58 = .ok (.aload_n 0, 1) := oc_42 (by decide +kernel)
theorem dX10_reckon_59 : decode cX10_reckon 59 = .ok (.getfield 25, 3) := oc_180 (a := 0) (b := 25) (by decide +kernel)
theorem tw_1130 : Cond.fieldLink RX10 199 "RingsUnder$Seas" "reach" "I" ∈ wsL_law := sg_48 _ (List.mem_of_getElem? (i := 2) rfl)
theorem dX10_reckon_62 : decode cX10_reckon 62 = .ok (.getfield 199, 3) := oc_180 (a := 0) (b := 199) (by decide +kernel)
theorem tw_1134 : Cond.methodLink RX10 202 yX2_countArea ∈ wsL_law := sg_48 _ (List.mem_of_getElem? (i := 6) rfl)
theorem tw_1135 : Cond.instanceMethod yX2_countArea ∈ wsL_law := sg_48 _ (List.mem_of_getElem? (i := 7) rfl)
theorem tw_1136 : Cond.selects RX2 yX2_countArea yX2_countArea ∈ wsL_law := sg_48 _ (List.mem_of_getElem? (i := 8) rfl)
theorem tw_1137 : Cond.code yX2_countArea cX2_countArea 6 (some .int) ∈ wsL_law := sg_48 _ (List.mem_of_getElem? (i := 9) rfl)
theorem dX10_reckon_65 : decode cX10_reckon 65 = .ok (.invokevirtual 202, 3) := oc_182 (a := 0) (b := 202) (by decide +kernel)
theorem dX10_reckon_68 : decode cX10_reckon 68 = .ok (.putfield 15, 3) := oc_181 (a := 0) (b := 15) (by decide +kernel)
theorem dX10_reckon_71 : decode cX10_reckon 71 = .ok (.aload_n 0, 1) := oc_42 (by decide +kernel)
theorem dX10_reckon_72 : decode cX10_reckon 72 = .ok (.dup, 1) := oc_89 (by decide +kernel)
theorem dX10_reckon_73 : decode cX10_reckon 73 = .ok (.getfield 70, 3) := oc_180 (a := 0) (b := 70) (by decide +kernel)
theorem dX10_reckon_76 : decode cX10_reckon 76 = .ok (.aload_n 0, 1) := oc_42 (by decide +kernel)
theorem dX10_reckon_77 : decode cX10_reckon 77 = .ok (.getfield 39, 3) := oc_180 (a := 0) (b := 39) (by decide +kernel)
theorem tw_1153 : Cond.methodLink RX10 206 yX0_sendings ∈ wsL_law := sg_49 _ (List.mem_of_getElem? (i := 1) rfl)
theorem tw_1154 : Cond.instanceMethod yX0_sendings ∈ wsL_law := sg_49 _ (List.mem_of_getElem? (i := 2) rfl)
theorem tw_1155 : Cond.selects RX0 yX0_sendings yX0_sendings ∈ wsL_law := sg_49 _ (List.mem_of_getElem? (i := 3) rfl)
theorem tw_1156 : Cond.code yX0_sendings cX0_sendings 3 (some .int) ∈ wsL_law := sg_49 _ (List.mem_of_getElem? (i := 4) rfl)
theorem dX10_reckon_80 : decode cX10_reckon 80 = .ok (.invokevirtual 206, 3) := oc_182 (a := 0) (b := 206) (by decide +kernel)
theorem dX10_reckon_83 : decode cX10_reckon 83 = .ok (.aload_n 0, 1) := oc_42 (by decide +kernel)
theorem dX10_reckon_84 : decode cX10_reckon 84 = .ok (.getfield 46, 3) := oc_180 (a := 0) (b := 46) (by decide +kernel)
theorem dX10_reckon_87 : decode cX10_reckon 87 = .ok (.aload_n 0, 1) := oc_42 (by decide +kernel)
theorem dX10_reckon_88 : decode cX10_reckon 88 = .ok (.getfield 67, 3) := oc_180 (a := 0) (b := 67) (by decide +kernel)
theorem tw_1157 : Cond.methodLink RX10 210 yX3_leaveIn ∈ wsL_law := sg_49 _ (List.mem_of_getElem? (i := 5) rfl)
theorem tw_1005 : Cond.instanceMethod yX3_leaveIn ∈ wsL_law := sg_42 _ (List.mem_of_getElem? (i := 21) rfl)
theorem tw_1006 : Cond.selects RX3 yX3_leaveIn yX3_leaveIn ∈ wsL_law := sg_42 _ (List.mem_of_getElem? (i := 22) rfl)
theorem tw_1007 : Cond.code yX3_leaveIn cX3_leaveIn 2 (some .int) ∈ wsL_law := sg_42 _ (List.mem_of_getElem? (i := 23) rfl)
theorem dX10_reckon_91 : decode cX10_reckon 91 = .ok (.invokevirtual 210, 3) := oc_182 (a := 0) (b := 210) (by decide +kernel)
theorem dX10_reckon_94 : decode cX10_reckon 94 = .ok (.aload_n 0, 1) := oc_42 (by decide +kernel)
theorem dX10_reckon_95 : decode cX10_reckon 95 = .ok (.getfield 15, 3) := oc_180 (a := 0) (b := 15) (by decide +kernel)
theorem dX10_reckon_98 : decode cX10_reckon 98 = .ok (.imul, 1) := oc_104 (by decide +kernel)
theorem dX10_reckon_99 : decode cX10_reckon 99 = .ok (.bipush 100, 2) := oc_16 (a := 100) (by decide +kernel)
theorem dX10_reckon_101 : decode cX10_reckon 101 = .ok (.idiv, 1) := oc_108 (by decide +kernel)
theorem dX10_reckon_102 : decode cX10_reckon 102 = .ok (.iadd, 1) := oc_96 (by decide +kernel)
theorem dX10_reckon_103 : decode cX10_reckon 103 = .ok (.aload_n 0, 1) := oc_42 (by decide +kernel)
theorem dX10_reckon_104 : decode cX10_reckon 104 = .ok (.getfield 25, 3) := oc_180 (a := 0) (b := 25) (by decide +kernel)
theorem tw_1132 : Cond.fieldLink RX10 213 "RingsUnder$Seas" "cost" "I" ∈ wsL_law := sg_48 _ (List.mem_of_getElem? (i := 4) rfl)
theorem dX10_reckon_107 : decode cX10_reckon 107 = .ok (.getfield 213, 3) := oc_180 (a := 0) (b := 213) (by decide +kernel)
theorem dX10_reckon_110 : decode cX10_reckon 110 = .ok (.aload_n 0, 1) := oc_42 (by decide +kernel)
theorem dX10_reckon_111 : decode cX10_reckon 111 = .ok (.getfield 32, 3) := oc_180 (a := 0) (b := 32) (by decide +kernel)
theorem tw_1158 : Cond.methodLink RX10 216 yX2_countWalls ∈ wsL_law := sg_49 _ (List.mem_of_getElem? (i := 6) rfl)
theorem tw_1159 : Cond.instanceMethod yX2_countWalls ∈ wsL_law := sg_49 _ (List.mem_of_getElem? (i := 7) rfl)
theorem tw_1160 : Cond.selects RX2 yX2_countWalls yX2_countWalls ∈ wsL_law := sg_49 _ (List.mem_of_getElem? (i := 8) rfl)
theorem tw_1161 : Cond.code yX2_countWalls cX2_countWalls 3 (some .int) ∈ wsL_law := sg_49 _ (List.mem_of_getElem? (i := 9) rfl)
theorem dX10_reckon_114 : decode cX10_reckon 114 = .ok (.invokevirtual 216, 3) := oc_182 (a := 0) (b := 216) (by decide +kernel)
theorem dX10_reckon_117 : decode cX10_reckon 117 = .ok (.imul, 1) := oc_104 (by decide +kernel)
theorem dX10_reckon_118 : decode cX10_reckon 118 = .ok (.isub, 1) := oc_100 (by decide +kernel)
theorem dX10_reckon_119 : decode cX10_reckon 119 = .ok (.iadd, 1) := oc_96 (by decide +kernel)
theorem dX10_reckon_120 : decode cX10_reckon 120 = .ok (.putfield 70, 3) := oc_181 (a := 0) (b := 70) (by decide +kernel)
theorem dX10_reckon_123 : decode cX10_reckon 123 = .ok (.aload_n 0, 1) := oc_42 (by decide +kernel)
theorem dX10_reckon_124 : decode cX10_reckon 124 = .ok (.getfield 70, 3) := oc_180 (a := 0) (b := 70) (by decide +kernel)
theorem dX10_reckon_127 : decode cX10_reckon 127 = .ok (.ifCond .ge 19, 3) := oc_156 (a := 0) (b := 19) (by decide +kernel)
theorem dX10_reckon_146 : decode cX10_reckon 146 = .ok (.return_, 1) := oc_177 (by decide +kernel)
theorem dX10_reckon_130 : decode cX10_reckon 130 = .ok (.aload_n 0, 1) := oc_42 (by decide +kernel)
theorem dX10_reckon_131 : decode cX10_reckon 131 = .ok (.getfield 9, 3) := oc_180 (a := 0) (b := 9) (by decide +kernel)
theorem dX10_reckon_134 : decode cX10_reckon 134 = .ok (.iconst (-1), 1) := oc_2 (by decide +kernel)
theorem dX10_reckon_135 : decode cX10_reckon 135 = .ok (.if_icmp .ne 11, 3) := oc_160 (a := 0) (b := 11) (by decide +kernel)
theorem dX10_reckon_138 : decode cX10_reckon 138 = .ok (.aload_n 0, 1) := oc_42 (by decide +kernel)
theorem dX10_reckon_139 : decode cX10_reckon 139 = .ok (.aload_n 0, 1) := oc_42 (by decide +kernel)
theorem dX10_reckon_140 : decode cX10_reckon 140 = .ok (.getfield 67, 3) := oc_180 (a := 0) (b := 67) (by decide +kernel)
theorem dX10_reckon_143 : decode cX10_reckon 143 = .ok (.putfield 9, 3) := oc_181 (a := 0) (b := 9) (by decide +kernel)
theorem dX10_reckon_39 : decode cX10_reckon 39 = .ok (.aload_n 0, 1) := oc_42 (by decide +kernel)
theorem dX10_reckon_40 : decode cX10_reckon 40 = .ok (.getfield 67, 3) := oc_180 (a := 0) (b := 67) (by decide +kernel)
theorem dX10_reckon_24 : decode cX10_reckon 24 = .ok (.ifCond .lt 15, 3) := oc_155 (a := 0) (b := 15) (by decide +kernel)
theorem dX10_reckon_27 : decode cX10_reckon 27 = .ok (.iload_n 1, 1) := oc_27 (by decide +kernel)
theorem dX10_reckon_28 : decode cX10_reckon 28 = .ok (.aload_n 0, 1) := oc_42 (by decide +kernel)
theorem dX10_reckon_29 : decode cX10_reckon 29 = .ok (.getfield 67, 3) := oc_180 (a := 0) (b := 67) (by decide +kernel)
theorem dX10_reckon_32 : decode cX10_reckon 32 = .ok (.if_icmp .ge 7, 3) := oc_162 (a := 0) (b := 7) (by decide +kernel)
theorem dX10_reckon_35 : decode cX10_reckon 35 = .ok (.iload_n 1, 1) := oc_27 (by decide +kernel)
theorem dX10_reckon_36 : decode cX10_reckon 36 = .ok (.goto 7, 3) := oc_167 (a := 0) (b := 7) (by decide +kernel)
theorem dX10_reckon_10 : decode cX10_reckon 10 = .ok (.return_, 1) := oc_177 (by decide +kernel)
set_option maxRecDepth 100000 in
def g_J6_compare_7cf53 (a0 : Int32) (a1 : Int32) : Int32 := (if a1 ≤ a0 then (if a0 = a1 then (0 : Int32) else (1 : Int32)) else (-1 : Int32))
set_option maxRecDepth 100000 in
theorem g_J6_compare_7cf53_e {a0 : Int32} {a1 : Int32} : g_J6_compare_7cf53 a0 a1 = (if a1 ≤ a0 then (if a0 = a1 then (0 : Int32) else (1 : Int32)) else (-1 : Int32)) := rfl
set_option maxHeartbeats 4000000 in
set_option maxRecDepth 100000 in
theorem s_J6_compare_7cf53 (l : Launch) (D : va_G) (t : pq_T) (σ : pq_S) (I : Nat → Nat → Int32) (J : Nat → Nat → Int64) (ri : Nat → Nat → Int32) (rj : Nat → Nat → Int64) (rq : Nat → Nat → Option Nat) (sz : Nat) (tg : Nat → Nat) (hSH : SH σ tg) (hG0 : GS tg σ I ri rq) (a0 : Int32) (a1 : Int32) : MetI l yJ6_compare_7cf53 (wa yJ6_compare_7cf53 cJ6_compare_7cf53 2 (some .int)) ({ frames := 0, cells := 0, slots := 0, locals := 0 }) [.int a0, .int a1] D t σ (I, J, ri, rj, rq) sz 0 0 (fun (r : Int32) (u : pq_S × pq_M) => u = (σ, I, J, ri, rj, rq) ∧ g_J6_compare_7cf53 a0 a1 = r ∧ rg r (-1) 1) := by
  refine Met.ofW (cc := cJ6_compare_7cf53) (maxL := 2) (ret := (some .int)) (by decide +kernel) rfl ?_
  intro p e s m args below meth c s₁ B hml hv
  obtain ⟨rfl, hsz, hP, hK, hD0, hN⟩ := hv
  have hx := B.exec
  have hb := B.bytes
  have hr := B.returns
  have hts := atoms_spec (ws := (wa yJ6_compare_7cf53 cJ6_compare_7cf53 2 (some .int))) B.pre
  have hown : s.vm.findClass RJ6 = some m.cls := findClass_of_methodNamed B.named
  have hlocks := B.notSynchronized
  subst hsz
  have hD : va_D (pq_B t σ (I, J, ri, rj, rq) s.heap.size) (pq_P t σ (I, J, ri, rj, rq)) := hD0.self
  generalize hAe : pq_B t σ (I, J, ri, rj, rq) s.heap.size = A at hD ⊢
  have hA : ∀ q : Nat, s.heap.size ≤ q → A q := fun q h => by rw [← hAe]; exact Or.inr h
  have hS : va_S A s.heap s.heap [] := va_S.rf
  have hG : GX [] tg σ I ri rj I ri rj rq := ⟨hG0, fun _ _ _ => rfl, fun _ _ _ _ _ => rfl, fun _ _ _ _ _ => rfl⟩
  have hl := lv_entry ([.int a0, .int a1]) (n := 2) (Nat.le_of_ble_eq_true rfl)
  rw [lg_entry_eq]
  generalize (lg_sl ([.int a0, .int a1]) ++ List.replicate (2 - (lg_sl ([.int a0, .int a1])).length) Slot.unset).toArray = ls at hl ⊢
  have hl : lv_has ls 2 [(0, .int a0), (1, .int a1)] := hl
  refine q_gen (fun Q hQ => ?_)
  have go : ∀ (H : Heap) (locs : List Loc) (ls : Array Slot), va_P D vwCl (pq_P t σ (I, J, ri, rj, rq)) H → va_D A (pq_P t σ (I, J, ri, rj, rq)) → va_S A s.heap H locs → lv_has ls 2 [(0, .int a0), (1, .int a1)] → W p l e ({ frames := 0, cells := 0, slots := 0, locals := 0 } : Room) s m (List.toArray ([.int a0, .int a1] : List Value)) below meth c H locs 0 0 Q (F0 m 0 ls []) := by
    intro H locs ls hP hD hS hl
    obtain ⟨F, hF0⟩ : ∃ F, F = g_J6_compare_7cf53 a0 a1 := ⟨_, rfl⟩
    have hF := hF0.trans g_J6_compare_7cf53_e
    refine lv_iload_n hx hb dJ6_compare_7cf53_0 rfl (lv_at hl 0 rfl) ?_
    refine lv_iload_n hx hb dJ6_compare_7cf53_1 rfl (lv_at hl 1 rfl) ?_
    refine lv_icmp_ge (tgt := 9) hx hb dJ6_compare_7cf53_2 (by decide +kernel) (fun c_1 => ?_) (fun c_1 => ?_)
    · replace hF := hF.trans (if_pos c_1)
      refine lv_iload_n hx hb dJ6_compare_7cf53_9 rfl (lv_at hl 0 rfl) ?_
      refine lv_iload_n hx hb dJ6_compare_7cf53_10 rfl (lv_at hl 1 rfl) ?_
      refine lv_icmp_ne (tgt := 18) hx hb dJ6_compare_7cf53_11 (by decide +kernel) (fun c_4 => ?_) (fun c_4 => ?_)
      · replace hF := hF.trans (if_neg c_4)
        refine lv_iconst (v := 1) hx hb dJ6_compare_7cf53_18 (by decide +kernel) ?_
        subst hQ
        exact W.iret (v := 1) hx hb hr (fun t1 ht hW => ⟨⟨1, (σ, I, J, ri, rj, rq), rfl, ⟨rfl, (hF0.symm.trans hF), (rg_w (rg_k (1 : Int32) 1 rfl) (by decide +kernel))⟩, by rw [ht]; exact hP, va_K.moved hW.alike hK, hD⟩, hS.F ht⟩) hS.2.2 dJ6_compare_7cf53_19
      · replace hF := hF.trans (if_pos c_4)
        refine lv_iconst (v := 0) hx hb dJ6_compare_7cf53_14 (by decide +kernel) ?_
        refine lv_goto (tgt := 19) hx hb dJ6_compare_7cf53_15 (by decide +kernel) ?_
        subst hQ
        exact W.iret (v := 0) hx hb hr (fun t1 ht hW => ⟨⟨0, (σ, I, J, ri, rj, rq), rfl, ⟨rfl, (hF0.symm.trans hF), (rg_w (rg_k (0 : Int32) 0 rfl) (by decide +kernel))⟩, by rw [ht]; exact hP, va_K.moved hW.alike hK, hD⟩, hS.F ht⟩) hS.2.2 dJ6_compare_7cf53_19
    · replace hF := hF.trans (if_neg c_1)
      have h_5 : rg a0 (-2147483648) 2147483646 := rg_lt1 (nle c_1) (rg_full _) (rg_full _) (by decide +kernel)
      have h_6 : rg a1 (-2147483647) 2147483647 := rg_lt2 (nle c_1) (rg_full _) (rg_full _) (by decide +kernel)
      refine lv_iconst (v := (-1)) hx hb dJ6_compare_7cf53_5 (by decide +kernel) ?_
      refine lv_goto (tgt := 19) hx hb dJ6_compare_7cf53_6 (by decide +kernel) ?_
      subst hQ
      exact W.iret (v := (-1)) hx hb hr (fun t1 ht hW => ⟨⟨(-1), (σ, I, J, ri, rj, rq), rfl, ⟨rfl, (hF0.symm.trans hF), (rg_w (rg_k (-1 : Int32) (-1) rfl) (by decide +kernel))⟩, by rw [ht]; exact hP, va_K.moved hW.alike hK, hD⟩, hS.F ht⟩) hS.2.2 dJ6_compare_7cf53_19
  exact go _ _ _ hP hD hS hl

set_option maxRecDepth 100000 in
def g_X8_isAhead_K12 (I : Nat → Int32) (J : Nat → Int64) (ri : Nat → Nat → Int32) (rj : Nat → Nat → Int64) (rq : Nat → Nat → Option Nat) : Int32 × vM := ((0 : Int32), I, J, ri, rj, rq)
set_option maxRecDepth 100000 in
theorem g_X8_isAhead_K12_e {I : Nat → Int32} {J : Nat → Int64} {ri : Nat → Nat → Int32} {rj : Nat → Nat → Int64} {rq : Nat → Nat → Option Nat} : g_X8_isAhead_K12 I J ri rj rq  = ((0 : Int32), I, J, ri, rj, rq) := rfl
set_option maxRecDepth 100000 in
def g_X8_isAhead_L22 (this : Nat) (a0 : Int32) (a2 : Int32) (a3 : Int32) (I : Nat → Int32) (J : Nat → Int64) (ri : Nat → Nat → Int32) (rj : Nat → Nat → Int64) (rq : Nat → Nat → Option Nat) (tR : Nat → Nat → Nat → Int32) : Nat → (Int32) → Int32 × vM
  | 0, x_393 => ((0 : Int32), I, J, ri, rj, rq)
  | n_440 + 1, x_393 => (ap1 (a0 + (1 : Int32)) fun (x_445 : Int32) => (ap1 (tR 258 this (x_445).toNatClampNeg) fun (x_447 : Int32) => (if x_447 ≤ x_393 then ((0 : Int32), I, J, ri, rj, rq) else (ap1 (tR 259 this (x_393).toNatClampNeg) fun (x_455 : Int32) => (ap1 (if (0 : Int32) ≤ x_455 then x_455 else 0 - x_455) fun (x_456 : Int32) => (bnI (g_X0_valueOf a2 x_456 (0 : Int32) I J ri rj rq) fun (x_457 : Int32) (_ : Nat → Int32) (_ : Nat → Int64) (_ : Nat → Nat → Int32) (_ : Nat → Nat → Int64) (_ : Nat → Nat → Option Nat) => (bnI (g_X0_valueOf a3 x_456 (0 : Int32) I J ri rj rq) fun (x_464 : Int32) (_ : Nat → Int32) (_ : Nat → Int64) (_ : Nat → Nat → Int32) (_ : Nat → Nat → Int64) (_ : Nat → Nat → Option Nat) => (ap1 (g_J6_compare_7cf53 x_457 x_464) fun (x_471 : Int32) => (if x_471 = (0 : Int32) then (ap1 (x_393 + Int32.ofInt 1) fun (x_481 : Int32) => ((g_X8_isAhead_L22 this a0 a2 a3 I J ri rj rq tR n_440) x_481)) else (if (0 : Int32) ≤ x_455 then (if (0 : Int32) ≤ x_471 then ((0 : Int32), I, J, ri, rj, rq) else ((1 : Int32), I, J, ri, rj, rq)) else (if x_471 ≤ (0 : Int32) then ((0 : Int32), I, J, ri, rj, rq) else ((1 : Int32), I, J, ri, rj, rq))))))))))))
set_option maxRecDepth 100000 in
theorem g_X8_isAhead_L22_e {this : Nat} {a0 : Int32} {a2 : Int32} {a3 : Int32} {I : Nat → Int32} {J : Nat → Int64} {ri : Nat → Nat → Int32} {rj : Nat → Nat → Int64} {rq : Nat → Nat → Option Nat} {tR : Nat → Nat → Nat → Int32} {n_440 : Nat} {x_393 : Int32} : g_X8_isAhead_L22 this a0 a2 a3 I J ri rj rq tR (n_440 + 1) x_393 = (ap1 (a0 + (1 : Int32)) fun (x_445 : Int32) => (ap1 (tR 258 this (x_445).toNatClampNeg) fun (x_447 : Int32) => (if x_447 ≤ x_393 then ((0 : Int32), I, J, ri, rj, rq) else (ap1 (tR 259 this (x_393).toNatClampNeg) fun (x_455 : Int32) => (ap1 (if (0 : Int32) ≤ x_455 then x_455 else 0 - x_455) fun (x_456 : Int32) => (bnI (g_X0_valueOf a2 x_456 (0 : Int32) I J ri rj rq) fun (x_457 : Int32) (_ : Nat → Int32) (_ : Nat → Int64) (_ : Nat → Nat → Int32) (_ : Nat → Nat → Int64) (_ : Nat → Nat → Option Nat) => (bnI (g_X0_valueOf a3 x_456 (0 : Int32) I J ri rj rq) fun (x_464 : Int32) (_ : Nat → Int32) (_ : Nat → Int64) (_ : Nat → Nat → Int32) (_ : Nat → Nat → Int64) (_ : Nat → Nat → Option Nat) => (ap1 (g_J6_compare_7cf53 x_457 x_464) fun (x_471 : Int32) => (if x_471 = (0 : Int32) then (ap1 (x_393 + Int32.ofInt 1) fun (x_481 : Int32) => ((g_X8_isAhead_L22 this a0 a2 a3 I J ri rj rq tR n_440) x_481)) else (if (0 : Int32) ≤ x_455 then (if (0 : Int32) ≤ x_471 then ((0 : Int32), I, J, ri, rj, rq) else ((1 : Int32), I, J, ri, rj, rq)) else (if x_471 ≤ (0 : Int32) then ((0 : Int32), I, J, ri, rj, rq) else ((1 : Int32), I, J, ri, rj, rq)))))))))))) := rfl
set_option maxRecDepth 100000 in
def g_X8_isAhead (tI : Nat → Nat → Int32) (tR : Nat → Nat → Nat → Int32) (this : Nat) (a0 : Int32) (a2 : Int32) (a3 : Int32) (I : Nat → Int32) (J : Nat → Int64) (ri : Nat → Nat → Int32) (rj : Nat → Nat → Int64) (rq : Nat → Nat → Option Nat) : Int32 × vM := (if a0 < (0 : Int32) then (g_X8_isAhead_K12 I J ri rj rq ) else (ap1 (tI 256 this) fun (y_248 : Int32) => (if a0 < (y_248) then (ap1 (tR 258 this (a0).toNatClampNeg) fun (x_255 : Int32) => (g_X8_isAhead_L22 this a0 a2 a3 I J ri rj rq tR ((300 - (x_255).toInt).toNat + 1) x_255)) else (g_X8_isAhead_K12 I J ri rj rq ))))
set_option maxRecDepth 100000 in
theorem g_X8_isAhead_e {tI : Nat → Nat → Int32} {tR : Nat → Nat → Nat → Int32} {this : Nat} {a0 : Int32} {a2 : Int32} {a3 : Int32} {I : Nat → Int32} {J : Nat → Int64} {ri : Nat → Nat → Int32} {rj : Nat → Nat → Int64} {rq : Nat → Nat → Option Nat} : g_X8_isAhead tI tR this a0 a2 a3 I J ri rj rq = (if a0 < (0 : Int32) then (g_X8_isAhead_K12 I J ri rj rq ) else (ap1 (tI 256 this) fun (y_248 : Int32) => (if a0 < (y_248) then (ap1 (tR 258 this (a0).toNatClampNeg) fun (x_255 : Int32) => (g_X8_isAhead_L22 this a0 a2 a3 I J ri rj rq tR ((300 - (x_255).toInt).toNat + 1) x_255)) else (g_X8_isAhead_K12 I J ri rj rq )))) := rfl
set_option maxHeartbeats 4000000 in
set_option maxRecDepth 100000 in
theorem s_X8_isAhead (l : Launch) (D : va_G) (t : pq_T) (σ : pq_S) (I : Nat → Nat → Int32) (J : Nat → Nat → Int64) (ri : Nat → Nat → Int32) (rj : Nat → Nat → Int64) (rq : Nat → Nat → Option Nat) (sz : Nat) (tg : Nat → Nat) (hSH : SH σ tg) (hG0 : GS tg σ I ri rq) (this : Nat) (a0 : Int32) (a1 : Nat) (a2 : Int32) (a3 : Int32) (hL_this : this ∈ σ.1) (hK_this : σ.2.1 this = 8) (hL_a1 : a1 ∈ σ.1) (hK_a1 : σ.2.1 a1 = 0) (h_a2 : rg a2 0 39) (h_a3 : rg a3 0 39) (M : Nat) (hL_M : M ∈ σ.1) (hK_M : σ.2.1 M = 10) (hO_a1 : a1 = vo σ 0 M) : MetI l yX8_isAhead (wa yX8_isAhead cX8_isAhead 8 (some .boolean)) ({ frames := 1, cells := 0, slots := 0, locals := 40 }) [.ref this, .int a0, .ref a1, .int a2, .int a3] D t σ (I, J, ri, rj, rq) sz 0 0 (fun (r : Int32) (u : pq_S × pq_M) => u = (σ, I, J, ri, rj, rq) ∧ g_X8_isAhead (tI σ I) (tR σ ri) this a0 a2 a3 (vI 10 σ M I) (vJ 10 σ M J) (vR 10 σ M ri) (vL 10 σ M rj) (vQ 10 σ M rq) = (r, (vI 10 σ M I), (vJ 10 σ M J), (vR 10 σ M ri), (vL 10 σ M rj), (vQ 10 σ M rq)) ∧ ((r = 1 ∧ rg a0 0 19) ∨ (r = 0 ∧ True))) := by
  refine Met.ofW (cc := cX8_isAhead) (maxL := 8) (ret := (some .boolean)) (by decide +kernel) rfl ?_
  intro p e s m args below meth c s₁ B hml hv
  obtain ⟨rfl, hsz, hP, hK, hD0, hN⟩ := hv
  have hx := B.exec
  have hb := B.bytes
  have hr := B.returns
  have hts := atoms_spec (ws := (wa yX8_isAhead cX8_isAhead 8 (some .boolean))) B.pre
  have hown : s.vm.findClass RX8 = some m.cls := findClass_of_methodNamed B.named
  have hlocks := B.notSynchronized
  subst hsz
  have hD : va_D (pq_B t σ (I, J, ri, rj, rq) s.heap.size) (pq_P t σ (I, J, ri, rj, rq)) := hD0.self
  generalize hAe : pq_B t σ (I, J, ri, rj, rq) s.heap.size = A at hD ⊢
  have hA : ∀ q : Nat, s.heap.size ≤ q → A q := fun q h => by rw [← hAe]; exact Or.inr h
  have hS : va_S A s.heap s.heap [] := va_S.rf
  have hG : GX [] tg σ I ri rj I ri rj rq := ⟨hG0, fun _ _ _ => rfl, fun _ _ _ _ _ => rfl, fun _ _ _ _ _ => rfl⟩
  have hl := lv_entry ([.ref this, .int a0, .ref a1, .int a2, .int a3]) (n := 8) (Nat.le_of_ble_eq_true rfl)
  rw [lg_entry_eq]
  generalize (lg_sl ([.ref this, .int a0, .ref a1, .int a2, .int a3]) ++ List.replicate (8 - (lg_sl ([.ref this, .int a0, .ref a1, .int a2, .int a3])).length) Slot.unset).toArray = ls at hl ⊢
  have hl : lv_has ls 8 [(0, .ref this), (1, .int a0), (2, .ref a1), (3, .int a2), (4, .int a3)] := hl
  refine q_gen (fun Q hQ => ?_)
  have go : ∀ (H : Heap) (locs : List Loc) (ls : Array Slot), va_P D vwCl (pq_P t σ (I, J, ri, rj, rq)) H → va_D A (pq_P t σ (I, J, ri, rj, rq)) → va_S A s.heap H locs → lv_has ls 8 [(0, .ref this), (1, .int a0), (2, .ref a1), (3, .int a2), (4, .int a3)] → W p l e ({ frames := 1, cells := 0, slots := 0, locals := 40 } : Room) s m (List.toArray ([.ref this, .int a0, .ref a1, .int a2, .int a3] : List Value)) below meth c H locs 0 0 Q (F0 m 0 ls []) := by
    intro H locs ls hP hD hS hl
    have hVT : VT 10 σ tg M := vt_10 hSH hL_M hK_M
    have hFr : FR 10 tg σ M (I, J, ri, rj, rq) (I, J, ri, rj, rq) := fr_rf
    obtain ⟨F, hF0⟩ : ∃ F, F = g_X8_isAhead (tI σ I) (tR σ ri) this a0 a2 a3 (vI 10 σ M I) (vJ 10 σ M J) (vR 10 σ M ri) (vL 10 σ M rj) (vQ 10 σ M rq) := ⟨_, rfl⟩
    have hF := hF0.trans g_X8_isAhead_e
    refine lv_iload_n hx hb dX8_isAhead_0 rfl (lv_at hl 1 rfl) ?_
    have K_241 : ∀  (H : Heap) (locs : List Loc) (ls : Array Slot), F = g_X8_isAhead_K12 (vI 10 σ M I) (vJ 10 σ M J) (vR 10 σ M ri) (vL 10 σ M rj) (vQ 10 σ M rq)  → FR 10 tg σ M (I, J, ri, rj, rq) (I, J, ri, rj, rq) → GX [] tg σ I ri rj I ri rj rq → va_P D vwCl (pq_P t σ (I, J, ri, rj, rq)) H → va_D A (pq_P t σ (I, J, ri, rj, rq)) → va_S A s.heap H locs → lv_has ls 8 [] → W p l e ({ frames := 1, cells := 0, slots := 0, locals := 40 } : Room) s m (List.toArray ([.ref this, .int a0, .ref a1, .int a2, .int a3] : List Value)) below meth c H locs 0 0 Q (F0 m 12 ls []) := by
      intro H locs ls hF hFr hG hP hD hS hl
      replace hF := hF.trans g_X8_isAhead_K12_e
      refine lv_iconst (v := 0) hx hb dX8_isAhead_12 (by decide +kernel) ?_
      subst hQ
      exact W.zret (v := 0) hx hb hr (by decide +kernel) (fun t1 ht hW => ⟨⟨0, (σ, I, J, ri, rj, rq), rfl, ⟨rfl, (hF0.symm.trans hF), (Or.inr ⟨rfl, trivial⟩)⟩, by rw [ht]; exact hP, va_K.moved hW.alike hK, hD⟩, hS.F ht⟩) hS.2.2 dX8_isAhead_13
    refine lv_if_lt (tgt := 12) hx hb dX8_isAhead_1 (by decide +kernel) (fun c_242 => ?_) (fun c_242 => ?_)
    · replace hF := hF.trans (if_pos c_242)
      have h_245 : rg a0 (-2147483648) (-1) := rg_lt1 c_242 (rg_full _) (rg_k (0 : Int32) 0 rfl) (by decide +kernel)
      exact K_241 _ _ _ hF hFr hG hP hD hS (lv_sub hl [] rfl)
    · replace hF := hF.trans (if_neg c_242)
      have h_246 : rg a0 0 2147483647 := rg_le2 (nlt c_242) (rg_k (0 : Int32) 0 rfl) (rg_full _) (by decide +kernel)
      refine lv_iload_n hx hb dX8_isAhead_4 rfl (lv_at hl 1 rfl) ?_
      refine lv_aload_n hx hb dX8_isAhead_5 rfl (lv_at hl 0 rfl) ?_
      refine pg_f (v := .int (I 256 this)) (C := RX8) (T := TX8) (N := 4) hx hb hts (tw_i inlX8) hown hK hP hL_this hK_this (by decide +kernel) rfl 0 (by decide +kernel) (hts _ (tw_c tw_478)) rfl dX8_isAhead_6 ?_
      have h_247 : rg (I 256 this) 0 20 := GX.rI hG 256 rfl
      replace hF := hF.trans (ap_n (tI_e (f := 256) hFr hL_this hK_this (by decide +kernel)))
      refine lv_icmp_lt (tgt := 14) hx hb dX8_isAhead_9 (by decide +kernel) (fun c_249 => ?_) (fun c_249 => ?_)
      · replace hF := hF.trans (if_pos c_249)
        have h_252 : rg a0 0 19 := rg_lt1 c_249 h_246 h_247 (by decide +kernel)
        have h_253 : rg (I 256 this) 1 20 := rg_lt2 c_249 h_246 h_247 (by decide +kernel)
        refine lv_aload_n hx hb dX8_isAhead_14 rfl (lv_at hl 0 rfl) ?_
        obtain ⟨w_254, hR_w_254, hL_w_254, hK_w_254, hN_w_254, hT_w_254⟩ := sh_a hSH 258 (ci := 8) (kd := 13) (len := 21) rfl (by decide +kernel) hL_this hK_this
        refine pg_f (v := .ref w_254) (C := RX8) (T := TX8) (N := 4) hx hb hts (tw_i inlX8) hown hK hP hL_this hK_this (by decide +kernel) rfl 2 (by decide +kernel) (hts _ (tw_c tw_170)) (pq_hv rfl hR_w_254) dX8_isAhead_15 ?_
        refine lv_iload_n hx hb dX8_isAhead_18 rfl (lv_at hl 1 rfl) ?_
        refine pl_i hx hb hK hP hL_w_254 hK_w_254 hN_w_254 (rg_in h_252 (by decide +kernel)) dX8_isAhead_19 ?_
        refine lv_topi (fun x_255 ex_255 => ?_)
        replace hF := hF.trans (ap_n (tR_r hFr hVT hL_this hK_this hR_w_254 hT_w_254 (by decide +kernel) ex_255))
        have h_256 : rg x_255 0 300 := rg_of_eq ex_255 (GX.rR hG hT_w_254 rfl)
        refine lv_istore (lv' := [(5, .int x_255), (0, .ref this), (1, .int a0), (2, .ref a1), (3, .int a2), (4, .int a3)]) hx hb dX8_isAhead_20 hl (by decide +kernel) rfl (fun ls hl => ?_)
        have L_441 : ∀ (n_440 : Nat) (x_393 : Int32) (H : Heap) (locs : List Loc) (ls : Array Slot), rg x_393 0 300 → (300 - (x_393).toInt).toNat < n_440 → F = g_X8_isAhead_L22 this a0 a2 a3 (vI 10 σ M I) (vJ 10 σ M J) (vR 10 σ M ri) (vL 10 σ M rj) (vQ 10 σ M rq) (tR σ ri) n_440 x_393 → FR 10 tg σ M (I, J, ri, rj, rq) (I, J, ri, rj, rq) → GX [] tg σ I ri rj I ri rj rq → va_P D vwCl (pq_P t σ (I, J, ri, rj, rq)) H → va_D A (pq_P t σ (I, J, ri, rj, rq)) → va_S A s.heap H locs → lv_has ls 8 [(0, .ref this), (1, .int a0), (2, .ref a1), (3, .int a2), (4, .int a3), (5, .int x_393)] → W p l e ({ frames := 1, cells := 0, slots := 0, locals := 40 } : Room) s m (List.toArray ([.ref this, .int a0, .ref a1, .int a2, .int a3] : List Value)) below meth c H locs 0 0 Q (F0 m 22 ls []) := by
          intro n_440
          induction n_440 with
          | zero => intro x_393 H locs ls h_444 hm_439 hF hFr hG hP hD hS hl; exact absurd hm_439 (Nat.not_lt_zero _)
          | succ n_440 ih_442 =>
            intro x_393 H locs ls h_444 hm_439 hF hFr hG hP hD hS hl
            replace hF := hF.trans g_X8_isAhead_L22_e
            refine lv_iload hx hb dX8_isAhead_22 (lv_at hl 5 rfl) ?_
            refine lv_aload_n hx hb dX8_isAhead_24 rfl (lv_at hl 0 rfl) ?_
            refine pg_f (v := .ref w_254) (C := RX8) (T := TX8) (N := 4) hx hb hts (tw_i inlX8) hown hK hP hL_this hK_this (by decide +kernel) rfl 2 (by decide +kernel) (hts _ (tw_c tw_170)) (pq_hv rfl hR_w_254) dX8_isAhead_25 ?_
            refine lv_iload_n hx hb dX8_isAhead_28 rfl (lv_at hl 1 rfl) ?_
            refine lv_iconst (v := 1) hx hb dX8_isAhead_29 (by decide +kernel) ?_
            refine lv_iadd hx hb dX8_isAhead_30 ?_
            refine lv_topi (fun x_445 ex_445 => ?_)
            replace hF := hF.trans (ap_n ex_445)
            have h_446 : rg x_445 1 20 := rg_of_eq ex_445 (rg_add h_252 (rg_k (1 : Int32) 1 rfl) (by decide +kernel))
            refine pl_i hx hb hK hP hL_w_254 hK_w_254 hN_w_254 (rg_in h_446 (by decide +kernel)) dX8_isAhead_31 ?_
            refine lv_topi (fun x_447 ex_447 => ?_)
            replace hF := hF.trans (ap_n (tR_r hFr hVT hL_this hK_this hR_w_254 hT_w_254 (by decide +kernel) ex_447))
            have h_448 : rg x_447 0 300 := rg_of_eq ex_447 (GX.rR hG hT_w_254 rfl)
            refine lv_icmp_ge (tgt := 114) hx hb dX8_isAhead_32 (by decide +kernel) (fun c_449 => ?_) (fun c_449 => ?_)
            · replace hF := hF.trans (if_pos c_449)
              refine lv_iconst (v := 0) hx hb dX8_isAhead_114 (by decide +kernel) ?_
              subst hQ
              exact W.zret (v := 0) hx hb hr (by decide +kernel) (fun t1 ht hW => ⟨⟨0, (σ, I, J, ri, rj, rq), rfl, ⟨rfl, (hF0.symm.trans hF), (Or.inr ⟨rfl, trivial⟩)⟩, by rw [ht]; exact hP, va_K.moved hW.alike hK, hD⟩, hS.F ht⟩) hS.2.2 dX8_isAhead_115
            · replace hF := hF.trans (if_neg c_449)
              have h_452 : rg x_393 0 299 := rg_lt1 (nle c_449) h_444 h_448 (by decide +kernel)
              have h_453 : rg x_447 1 300 := rg_lt2 (nle c_449) h_444 h_448 (by decide +kernel)
              refine lv_aload_n hx hb dX8_isAhead_35 rfl (lv_at hl 0 rfl) ?_
              obtain ⟨w_454, hR_w_454, hL_w_454, hK_w_454, hN_w_454, hT_w_454⟩ := sh_a hSH 259 (ci := 8) (kd := 13) (len := 300) rfl (by decide +kernel) hL_this hK_this
              refine pg_f (v := .ref w_454) (C := RX8) (T := TX8) (N := 4) hx hb hts (tw_i inlX8) hown hK hP hL_this hK_this (by decide +kernel) rfl 3 (by decide +kernel) (hts _ (tw_c tw_171)) (pq_hv rfl hR_w_454) dX8_isAhead_36 ?_
              refine lv_iload hx hb dX8_isAhead_39 (lv_at hl 5 rfl) ?_
              refine pl_i hx hb hK hP hL_w_454 hK_w_454 hN_w_454 (rg_in h_452 (by decide +kernel)) dX8_isAhead_41 ?_
              refine lv_topi (fun x_455 ex_455 => ?_)
              replace hF := hF.trans (ap_n (tR_r hFr hVT hL_this hK_this hR_w_454 hT_w_454 (by decide +kernel) ex_455))
              refine va_mabs hx hb (hml.trans hl.1.symm) hown (hts _ (tw_c tw_483)) (hts _ (tw_c tw_484)) (hts _ (tw_c tw_276)) (hts _ (tw_c tw_485)) (Nat.le_of_ble_eq_true rfl) (Nat.le_of_ble_eq_true rfl) (Nat.zero_le _) (Nat.zero_le _) dX8_isAhead_42 ?_
              refine lv_topi (fun x_456 ex_456 => ?_)
              replace hF := hF.trans (ap_n ex_456)
              refine lv_istore (lv' := [(6, .int x_456), (0, .ref this), (1, .int a0), (2, .ref a1), (3, .int a2), (4, .int a3), (5, .int x_393)]) hx hb dX8_isAhead_45 hl (by decide +kernel) rfl (fun ls hl => ?_)
              refine lv_aload_n hx hb dX8_isAhead_47 rfl (lv_at hl 3 rfl) ?_
              refine lv_iload_n hx hb dX8_isAhead_48 rfl (lv_at hl 4 rfl) ?_
              refine lv_iload hx hb dX8_isAhead_49 (lv_at hl 0 rfl) ?_
              refine lv_iconst (v := 0) hx hb dX8_isAhead_51 (by decide +kernel) ?_
              refine pk_i (va_runV (As := [.int a2, .int x_456, .int 0]) (rest := []) ⟨hx, hb, hml, hown, hts⟩ (s_X0_valueOf l D t σ I J ri rj rq H.size tg hSH hG.1 a1 a2 x_456 (0 : Int32) hL_a1 hK_a1 (rg_w h_a2 (by decide +kernel)) M hL_M hK_M hO_a1) (cwV 3 hts (tw_V tw_486 tw_487 tw_488 tw_45 tw_489) rfl rfl rfl cv_yX0_valueOf_3 ⟨Nat.le_of_ble_eq_true rfl, Nat.le_of_ble_eq_true rfl⟩) ⟨pq_blind, pq_recv hK hP hL_a1 hK_a1 (by decide +kernel) rfl, pq_pre hK hN hP hD⟩ rfl rfl hl.1 rfl (lv_room (Nat.le_of_ble_eq_true rfl)) dX8_isAhead_52 ⟨Nat.le_of_ble_eq_true rfl, Nat.le_of_ble_eq_true rfl⟩) hD hS hA (fun x_457 σ1 μ1 H locs hw_458 hP hD hS => ?_)
              obtain ⟨hu_459, hfn_462⟩ := hw_458
              obtain ⟨hu_459a, hu_459b⟩ := Prod.mk.inj hu_459
              rw [hu_459a, hu_459b] at hP hD
              replace hF := hF.trans (bn_n hfn_462)
              refine lv_aload_n hx hb dX8_isAhead_55 rfl (lv_at hl 3 rfl) ?_
              refine lv_iload hx hb dX8_isAhead_56 (lv_at hl 5 rfl) ?_
              refine lv_iload hx hb dX8_isAhead_58 (lv_at hl 0 rfl) ?_
              refine lv_iconst (v := 0) hx hb dX8_isAhead_60 (by decide +kernel) ?_
              refine pk_i (va_runV (As := [.int a3, .int x_456, .int 0]) (rest := [.int x_457]) ⟨hx, hb, hml, hown, hts⟩ (s_X0_valueOf l D t σ I J ri rj rq H.size tg hSH hG.1 a1 a3 x_456 (0 : Int32) hL_a1 hK_a1 (rg_w h_a3 (by decide +kernel)) M hL_M hK_M hO_a1) (cwV 3 hts (tw_V tw_486 tw_487 tw_488 tw_45 tw_489) rfl rfl rfl cv_yX0_valueOf_3 ⟨Nat.le_of_ble_eq_true rfl, Nat.le_of_ble_eq_true rfl⟩) ⟨pq_blind, pq_recv hK hP hL_a1 hK_a1 (by decide +kernel) rfl, pq_pre hK hN hP hD⟩ rfl rfl hl.1 rfl (lv_room (Nat.le_of_ble_eq_true rfl)) dX8_isAhead_61 ⟨Nat.le_of_ble_eq_true rfl, Nat.le_of_ble_eq_true rfl⟩) hD hS hA (fun x_464 σ1 μ1 H locs hw_465 hP hD hS => ?_)
              obtain ⟨hu_466, hfn_469⟩ := hw_465
              obtain ⟨hu_466a, hu_466b⟩ := Prod.mk.inj hu_466
              rw [hu_466a, hu_466b] at hP hD
              replace hF := hF.trans (bn_n hfn_469)
              refine pk_i (va_runS (As := [.int x_457, .int x_464]) (rest := []) ⟨hx, hb, hml, hown, hts⟩ (s_J6_compare_7cf53 l D t σ I J ri rj rq H.size tg hSH hG.1 x_457 x_464) (va_cwS 2 hts (tw_S tw_490 tw_491 tw_492 tw_493) rfl rfl rfl cd_yJ6_compare_7cf53_2 ⟨Nat.le_of_ble_eq_true rfl, Nat.le_of_ble_eq_true rfl⟩) ⟨pq_blind, pq_pre hK hN hP hD⟩ rfl rfl hl.1 rfl (lv_room (Nat.le_of_ble_eq_true rfl)) dX8_isAhead_64 ⟨Nat.le_of_ble_eq_true rfl, Nat.le_of_ble_eq_true rfl⟩) hD hS hA (fun x_471 σ1 μ1 H locs hw_472 hP hD hS => ?_)
              obtain ⟨hu_473, hfn_476, hr_475⟩ := hw_472
              obtain ⟨hu_473a, hu_473b⟩ := Prod.mk.inj hu_473
              rw [hu_473a, hu_473b] at hP hD
              replace hF := hF.trans (ap_n hfn_476.symm)
              refine lv_istore (lv' := [(7, .int x_471), (6, .int x_456), (0, .ref this), (1, .int a0), (2, .ref a1), (3, .int a2), (4, .int a3), (5, .int x_393)]) hx hb dX8_isAhead_67 hl (by decide +kernel) rfl (fun ls hl => ?_)
              refine lv_iload hx hb dX8_isAhead_69 (lv_at hl 0 rfl) ?_
              refine lv_if_eq (tgt := 108) hx hb dX8_isAhead_71 (by decide +kernel) (fun c_478 => ?_) (fun c_478 => ?_)
              · replace hF := hF.trans (if_pos c_478)
                have h_480 : rg x_471 0 0 := rg_and hr_475 (rg_of_eq c_478 (rg_k (0 : Int32) 0 rfl)) (by decide +kernel)
                obtain ⟨x_481, ex_481⟩ : ∃ y : Int32, y = x_393 + Int32.ofInt 1 := ⟨_, rfl⟩
                replace hF := hF.trans (ap_n ex_481)
                have h_482 : rg x_481 1 300 := rg_of_eq ex_481 (rg_add h_452 (rg_k (Int32.ofInt 1) 1 rfl) (by decide +kernel))
                refine lv_iinc (v := x_481) (lv' := [(5, .int x_481), (7, .int x_471), (6, .int x_456), (0, .ref this), (1, .int a0), (2, .ref a1), (3, .int a2), (4, .int a3)]) hx hb dX8_isAhead_108 hl (k := 7) rfl ex_481.symm (by decide +kernel) rfl (fun ls hl => ?_)
                refine lv_goto (tgt := 22) hx hb dX8_isAhead_111 (by decide +kernel) ?_
                exact ih_442 x_481 _ _ _ (rg_w h_482 (by decide +kernel)) (ms_up 1 hm_439 ex_481 rfl (by decide +kernel) h_452 (by decide +kernel) (by decide +kernel)) hF hFr hG hP hD hS (lv_sub hl [3, 4, 5, 6, 7, 0] rfl)
              · replace hF := hF.trans (if_neg c_478)
                refine lv_aload_n hx hb dX8_isAhead_74 rfl (lv_at hl 2 rfl) ?_
                refine pg_f (v := .ref w_454) (C := RX8) (T := TX8) (N := 4) hx hb hts (tw_i inlX8) hown hK hP hL_this hK_this (by decide +kernel) rfl 3 (by decide +kernel) (hts _ (tw_c tw_171)) (pq_hv rfl hR_w_454) dX8_isAhead_75 ?_
                refine lv_iload hx hb dX8_isAhead_78 (lv_at hl 7 rfl) ?_
                refine pl_i hx hb hK hP hL_w_454 hK_w_454 hN_w_454 (rg_in h_452 (by decide +kernel)) dX8_isAhead_80 ?_
                refine lv_tov x_455 ex_455.symm ?_
                refine lv_if_ge (tgt := 97) hx hb dX8_isAhead_81 (by decide +kernel) (fun c_483 => ?_) (fun c_483 => ?_)
                · replace hF := hF.trans (if_pos c_483)
                  have h_486 : rg x_455 0 2147483647 := rg_le2 c_483 (rg_k (0 : Int32) 0 rfl) (rg_full _) (by decide +kernel)
                  refine lv_iload hx hb dX8_isAhead_97 (lv_at hl 0 rfl) ?_
                  refine lv_if_ge (tgt := 106) hx hb dX8_isAhead_99 (by decide +kernel) (fun c_487 => ?_) (fun c_487 => ?_)
                  · replace hF := hF.trans (if_pos c_487)
                    have h_490 : rg x_471 0 1 := rg_le2 c_487 (rg_k (0 : Int32) 0 rfl) hr_475 (by decide +kernel)
                    refine lv_iconst (v := 0) hx hb dX8_isAhead_106 (by decide +kernel) ?_
                    subst hQ
                    exact W.zret (v := 0) hx hb hr (by decide +kernel) (fun t1 ht hW => ⟨⟨0, (σ, I, J, ri, rj, rq), rfl, ⟨rfl, (hF0.symm.trans hF), (Or.inr ⟨rfl, trivial⟩)⟩, by rw [ht]; exact hP, va_K.moved hW.alike hK, hD⟩, hS.F ht⟩) hS.2.2 dX8_isAhead_107
                  · replace hF := hF.trans (if_neg c_487)
                    have h_491 : rg x_471 (-1) (-1) := rg_lt1 (nle c_487) hr_475 (rg_k (0 : Int32) 0 rfl) (by decide +kernel)
                    refine lv_iconst (v := 1) hx hb dX8_isAhead_102 (by decide +kernel) ?_
                    refine lv_goto (tgt := 107) hx hb dX8_isAhead_103 (by decide +kernel) ?_
                    subst hQ
                    exact W.zret (v := 1) hx hb hr (by decide +kernel) (fun t1 ht hW => ⟨⟨1, (σ, I, J, ri, rj, rq), rfl, ⟨rfl, (hF0.symm.trans hF), (Or.inl ⟨rfl, (rg_w h_252 (by decide +kernel))⟩)⟩, by rw [ht]; exact hP, va_K.moved hW.alike hK, hD⟩, hS.F ht⟩) hS.2.2 dX8_isAhead_107
                · replace hF := hF.trans (if_neg c_483)
                  have h_492 : rg x_455 (-2147483648) (-1) := rg_lt1 (nle c_483) (rg_full _) (rg_k (0 : Int32) 0 rfl) (by decide +kernel)
                  refine lv_iload hx hb dX8_isAhead_84 (lv_at hl 0 rfl) ?_
                  refine lv_if_le (tgt := 93) hx hb dX8_isAhead_86 (by decide +kernel) (fun c_493 => ?_) (fun c_493 => ?_)
                  · replace hF := hF.trans (if_pos c_493)
                    have h_496 : rg x_471 (-1) 0 := rg_le1 c_493 hr_475 (rg_k (0 : Int32) 0 rfl) (by decide +kernel)
                    refine lv_iconst (v := 0) hx hb dX8_isAhead_93 (by decide +kernel) ?_
                    refine lv_goto (tgt := 107) hx hb dX8_isAhead_94 (by decide +kernel) ?_
                    subst hQ
                    exact W.zret (v := 0) hx hb hr (by decide +kernel) (fun t1 ht hW => ⟨⟨0, (σ, I, J, ri, rj, rq), rfl, ⟨rfl, (hF0.symm.trans hF), (Or.inr ⟨rfl, trivial⟩)⟩, by rw [ht]; exact hP, va_K.moved hW.alike hK, hD⟩, hS.F ht⟩) hS.2.2 dX8_isAhead_107
                  · replace hF := hF.trans (if_neg c_493)
                    have h_497 : rg x_471 1 1 := rg_lt2 (nle c_493) (rg_k (0 : Int32) 0 rfl) hr_475 (by decide +kernel)
                    refine lv_iconst (v := 1) hx hb dX8_isAhead_89 (by decide +kernel) ?_
                    refine lv_goto (tgt := 107) hx hb dX8_isAhead_90 (by decide +kernel) ?_
                    subst hQ
                    exact W.zret (v := 1) hx hb hr (by decide +kernel) (fun t1 ht hW => ⟨⟨1, (σ, I, J, ri, rj, rq), rfl, ⟨rfl, (hF0.symm.trans hF), (Or.inl ⟨rfl, (rg_w h_252 (by decide +kernel))⟩)⟩, by rw [ht]; exact hP, va_K.moved hW.alike hK, hD⟩, hS.F ht⟩) hS.2.2 dX8_isAhead_107
        exact L_441 _ x_255 _ _ _ (rg_w h_256 (by decide +kernel)) (Nat.lt_succ_self _) hF hFr hG hP hD hS (lv_sub hl [1, 2, 3, 4, 5, 0] rfl)
      · replace hF := hF.trans (if_neg c_249)
        exact K_241 _ _ _ hF hFr hG hP hD hS (lv_sub hl [] rfl)
  exact go _ _ _ hP hD hS hl

set_option maxRecDepth 100000 in
def g_X9_dig (a0 : Int32) (a1 : Int32) (a2 : Int32) (a3 : Int32) (I : Nat → Int32) (J : Nat → Int64) (ri : Nat → Nat → Int32) (rj : Nat → Nat → Int64) (rq : Nat → Nat → Option Nat) : vM := (ap1 (va_up ri 288 (upd (ri 288) (a0).toNatClampNeg a1)) fun (r_2 : Nat → Nat → Int32) => (ap1 (va_up r_2 289 (upd (r_2 289) (a0).toNatClampNeg a2)) fun (r_4 : Nat → Nat → Int32) => (ap1 (va_up r_4 290 (upd (r_4 290) (a0).toNatClampNeg a3)) fun (r_6 : Nat → Nat → Int32) => (I, J, r_6, rj, rq))))
set_option maxRecDepth 100000 in
theorem g_X9_dig_e {a0 : Int32} {a1 : Int32} {a2 : Int32} {a3 : Int32} {I : Nat → Int32} {J : Nat → Int64} {ri : Nat → Nat → Int32} {rj : Nat → Nat → Int64} {rq : Nat → Nat → Option Nat} : g_X9_dig a0 a1 a2 a3 I J ri rj rq = (ap1 (va_up ri 288 (upd (ri 288) (a0).toNatClampNeg a1)) fun (r_2 : Nat → Nat → Int32) => (ap1 (va_up r_2 289 (upd (r_2 289) (a0).toNatClampNeg a2)) fun (r_4 : Nat → Nat → Int32) => (ap1 (va_up r_4 290 (upd (r_4 290) (a0).toNatClampNeg a3)) fun (r_6 : Nat → Nat → Int32) => (I, J, r_6, rj, rq)))) := rfl
set_option maxHeartbeats 4000000 in
set_option maxRecDepth 100000 in
theorem s_X9_dig (l : Launch) (D : va_G) (t : pq_T) (σ : pq_S) (I : Nat → Nat → Int32) (J : Nat → Nat → Int64) (ri : Nat → Nat → Int32) (rj : Nat → Nat → Int64) (rq : Nat → Nat → Option Nat) (sz : Nat) (tg : Nat → Nat) (hSH : SH σ tg) (hG0 : GS tg σ I ri rq) (this : Nat) (a0 : Int32) (a1 : Int32) (a2 : Int32) (a3 : Int32) (hL_this : this ∈ σ.1) (hK_this : σ.2.1 this = 9) (h_a0 : rg a0 0 39) (M : Nat) (hL_M : M ∈ σ.1) (hK_M : σ.2.1 M = 10) (hO_this : this = vo σ 9 M) : MetV l yX9_dig (wa yX9_dig cX9_dig 5 none) ({ frames := 0, cells := 0, slots := 0, locals := 0 }) [.ref this, .int a0, .int a1, .int a2, .int a3] D t σ (I, J, ri, rj, rq) sz 0 0 (fun (u : pq_S × pq_M) => ∃ ri' : Nat → Nat → Int32, u = (σ, I, J, ri', rj, rq) ∧ GX [1288] tg σ I ri rj I ri' rj rq ∧ g_X9_dig a0 a1 a2 a3 (vI 10 σ M I) (vJ 10 σ M J) (vR 10 σ M ri) (vL 10 σ M rj) (vQ 10 σ M rq) = ((vI 10 σ M I), (vJ 10 σ M J), (vR 10 σ M ri'), (vL 10 σ M rj), (vQ 10 σ M rq)) ∧ FR 10 tg σ M (I, J, ri, rj, rq) (I, J, ri', rj, rq)) := by
  refine Met.ofW (cc := cX9_dig) (maxL := 5) (ret := none) (by decide +kernel) rfl ?_
  intro p e s m args below meth c s₁ B hml hv
  obtain ⟨rfl, hsz, hP, hK, hD0, hN⟩ := hv
  have hx := B.exec
  have hb := B.bytes
  have hr := B.returns
  have hts := atoms_spec (ws := (wa yX9_dig cX9_dig 5 none)) B.pre
  have hown : s.vm.findClass RX9 = some m.cls := findClass_of_methodNamed B.named
  have hlocks := B.notSynchronized
  subst hsz
  have hD : va_D (pq_B t σ (I, J, ri, rj, rq) s.heap.size) (pq_P t σ (I, J, ri, rj, rq)) := hD0.self
  generalize hAe : pq_B t σ (I, J, ri, rj, rq) s.heap.size = A at hD ⊢
  have hA : ∀ q : Nat, s.heap.size ≤ q → A q := fun q h => by rw [← hAe]; exact Or.inr h
  have hS : va_S A s.heap s.heap [] := va_S.rf
  have hG : GX [1288] tg σ I ri rj I ri rj rq := ⟨hG0, fun _ _ _ => rfl, fun _ _ _ _ _ => rfl, fun _ _ _ _ _ => rfl⟩
  have hl := lv_entry ([.ref this, .int a0, .int a1, .int a2, .int a3]) (n := 5) (Nat.le_of_ble_eq_true rfl)
  rw [lg_entry_eq]
  generalize (lg_sl ([.ref this, .int a0, .int a1, .int a2, .int a3]) ++ List.replicate (5 - (lg_sl ([.ref this, .int a0, .int a1, .int a2, .int a3])).length) Slot.unset).toArray = ls at hl ⊢
  have hl : lv_has ls 5 [(0, .ref this), (1, .int a0), (2, .int a1), (3, .int a2), (4, .int a3)] := hl
  refine q_gen (fun Q hQ => ?_)
  have go : ∀ (H : Heap) (locs : List Loc) (ls : Array Slot), va_P D vwCl (pq_P t σ (I, J, ri, rj, rq)) H → va_D A (pq_P t σ (I, J, ri, rj, rq)) → va_S A s.heap H locs → lv_has ls 5 [(0, .ref this), (1, .int a0), (2, .int a1), (3, .int a2), (4, .int a3)] → W p l e ({ frames := 0, cells := 0, slots := 0, locals := 0 } : Room) s m (List.toArray ([.ref this, .int a0, .int a1, .int a2, .int a3] : List Value)) below meth c H locs 0 0 Q (F0 m 0 ls []) := by
    intro H locs ls hP hD hS hl
    have hVT : VT 10 σ tg M := vt_10 hSH hL_M hK_M
    have hFr : FR 10 tg σ M (I, J, ri, rj, rq) (I, J, ri, rj, rq) := fr_rf
    obtain ⟨F, hF0⟩ : ∃ F, F = g_X9_dig a0 a1 a2 a3 (vI 10 σ M I) (vJ 10 σ M J) (vR 10 σ M ri) (vL 10 σ M rj) (vQ 10 σ M rq) := ⟨_, rfl⟩
    have hF := hF0.trans g_X9_dig_e
    refine lv_aload_n hx hb dX9_dig_0 rfl (lv_at hl 0 rfl) ?_
    obtain ⟨w_1, hR_w_1, hL_w_1, hK_w_1, hN_w_1, hT_w_1⟩ := sh_a hSH 288 (ci := 9) (kd := 13) (len := 40) rfl (by decide +kernel) hL_this hK_this
    have hO_w_1 : w_1 = vrow σ 288 M := vo_k (c := 9) hO_this hR_w_1
    refine pg_f (v := .ref w_1) (C := RX9) (T := TX9) (N := 3) hx hb hts (tw_i inlX9) hown hK hP hL_this hK_this (by decide +kernel) rfl 0 (by decide +kernel) (hts _ (tw_c tw_104)) (pq_hv rfl hR_w_1) dX9_dig_1 ?_
    refine lv_iload_n hx hb dX9_dig_4 rfl (lv_at hl 1 rfl) ?_
    refine lv_iload_n hx hb dX9_dig_5 rfl (lv_at hl 2 rfl) ?_
    refine pt_i hx hb hK hP hD hS hL_w_1 hK_w_1 hN_w_1 (rg_in h_a0 (by decide +kernel)) dX9_dig_6 (fun r_2 H locs er_2 hP hD hS => ?_)
    replace hFr := fr_R hFr hO_w_1 (by decide +kernel) er_2
    replace hF := hF.trans (ap_n (vR_st hVT hO_w_1 (by decide +kernel) er_2))
    have hG := GX.wR hG hSH hT_w_1 rfl er_2 (rg_w (rg_full _) (by decide +kernel)) (by decide +kernel)
    refine lv_aload_n hx hb dX9_dig_7 rfl (lv_at hl 0 rfl) ?_
    obtain ⟨w_3, hR_w_3, hL_w_3, hK_w_3, hN_w_3, hT_w_3⟩ := sh_a hSH 289 (ci := 9) (kd := 13) (len := 40) rfl (by decide +kernel) hL_this hK_this
    have hO_w_3 : w_3 = vrow σ 289 M := vo_k (c := 9) hO_this hR_w_3
    refine pg_f (v := .ref w_3) (C := RX9) (T := TX9) (N := 3) hx hb hts (tw_i inlX9) hown hK hP hL_this hK_this (by decide +kernel) rfl 1 (by decide +kernel) (hts _ (tw_c tw_105)) (pq_hv rfl hR_w_3) dX9_dig_8 ?_
    refine lv_iload_n hx hb dX9_dig_11 rfl (lv_at hl 1 rfl) ?_
    refine lv_iload_n hx hb dX9_dig_12 rfl (lv_at hl 3 rfl) ?_
    refine pt_i hx hb hK hP hD hS hL_w_3 hK_w_3 hN_w_3 (rg_in h_a0 (by decide +kernel)) dX9_dig_13 (fun r_4 H locs er_4 hP hD hS => ?_)
    replace hFr := fr_R hFr hO_w_3 (by decide +kernel) er_4
    replace hF := hF.trans (ap_n (vR_st hVT hO_w_3 (by decide +kernel) er_4))
    have hG := GX.wR hG hSH hT_w_3 rfl er_4 (rg_w (rg_full _) (by decide +kernel)) (by decide +kernel)
    refine lv_aload_n hx hb dX9_dig_14 rfl (lv_at hl 0 rfl) ?_
    obtain ⟨w_5, hR_w_5, hL_w_5, hK_w_5, hN_w_5, hT_w_5⟩ := sh_a hSH 290 (ci := 9) (kd := 13) (len := 40) rfl (by decide +kernel) hL_this hK_this
    have hO_w_5 : w_5 = vrow σ 290 M := vo_k (c := 9) hO_this hR_w_5
    refine pg_f (v := .ref w_5) (C := RX9) (T := TX9) (N := 3) hx hb hts (tw_i inlX9) hown hK hP hL_this hK_this (by decide +kernel) rfl 2 (by decide +kernel) (hts _ (tw_c tw_106)) (pq_hv rfl hR_w_5) dX9_dig_15 ?_
    refine lv_iload_n hx hb dX9_dig_18 rfl (lv_at hl 1 rfl) ?_
    refine lv_iload hx hb dX9_dig_19 (lv_at hl 4 rfl) ?_
    refine pt_i hx hb hK hP hD hS hL_w_5 hK_w_5 hN_w_5 (rg_in h_a0 (by decide +kernel)) dX9_dig_21 (fun r_6 H locs er_6 hP hD hS => ?_)
    replace hFr := fr_R hFr hO_w_5 (by decide +kernel) er_6
    replace hF := hF.trans (ap_n (vR_st hVT hO_w_5 (by decide +kernel) er_6))
    have hG := GX.wR hG hSH hT_w_5 rfl er_6 (rg_w (rg_full _) (by decide +kernel)) (by decide +kernel)
    subst hQ
    exact W.vret hx hb hr (fun t1 ht hW => ⟨⟨(σ, I, J, r_6, rj, rq), rfl, ⟨r_6, rfl, hG, (hF0.symm.trans hF), hFr⟩, by rw [ht]; exact hP, va_K.moved hW.alike hK, hD⟩, hS.F ht⟩) hS.2.2 dX9_dig_22
  exact go _ _ _ hP hD hS hl

set_option maxHeartbeats 4000000 in
set_option maxRecDepth 100000 in
theorem s_X11_copy_325_325 (l : Launch) (D : va_G) (t : pq_T) (σ : pq_S) (I : Nat → Nat → Int32) (J : Nat → Nat → Int64) (ri : Nat → Nat → Int32) (rj : Nat → Nat → Int64) (rq : Nat → Nat → Option Nat) (sz : Nat) (tg : Nat → Nat) (hSH : SH σ tg) (hG0 : GS tg σ I ri rq) (a0 : Nat) (a1 : Nat) (hL_a0 : a0 ∈ σ.1) (hK_a0 : σ.2.1 a0 = 13) (hN_a0 : σ.2.2.2 a0 = 40) (hT_a0 : tg a0 = 325) (hL_a1 : a1 ∈ σ.1) (hK_a1 : σ.2.1 a1 = 13) (hN_a1 : σ.2.2.2 a1 = 40) (hT_a1 : tg a1 = 325) : MetV l yX11_copy (wa yX11_copy cX11_copy 2 none) ({ frames := 1, cells := 0, slots := 0, locals := 60 }) [.ref a0, .ref a1] D t σ (I, J, ri, rj, rq) sz 0 0 (fun (u : pq_S × pq_M) => ∃ ri' : Nat → Nat → Int32, u = (σ, I, J, ri', rj, rq) ∧ GX [] tg σ I ri rj I ri' rj rq ∧ (∀ j, j < 40 → ri' a1 j = ri a0 j) ∧ (∀ q, q ≠ a1 → ri' q = ri q) ∧ (ri' = va_up ri a1 (va_cpy (ri a0) (ri a1) 0 0 40))) := by
  refine Met.ofW (cc := cX11_copy) (maxL := 2) (ret := none) (by decide +kernel) rfl ?_
  intro p e s m args below meth c s₁ B hml hv
  obtain ⟨rfl, hsz, hP, hK, hD0, hN⟩ := hv
  have hx := B.exec
  have hb := B.bytes
  have hr := B.returns
  have hts := atoms_spec (ws := (wa yX11_copy cX11_copy 2 none)) B.pre
  have hown : s.vm.findClass RX11 = some m.cls := findClass_of_methodNamed B.named
  have hlocks := B.notSynchronized
  subst hsz
  have hD : va_D (pq_B t σ (I, J, ri, rj, rq) s.heap.size) (pq_P t σ (I, J, ri, rj, rq)) := hD0.self
  generalize hAe : pq_B t σ (I, J, ri, rj, rq) s.heap.size = A at hD ⊢
  have hA : ∀ q : Nat, s.heap.size ≤ q → A q := fun q h => by rw [← hAe]; exact Or.inr h
  have hS : va_S A s.heap s.heap [] := va_S.rf
  have hG : GX [] tg σ I ri rj I ri rj rq := ⟨hG0, fun _ _ _ => rfl, fun _ _ _ _ _ => rfl, fun _ _ _ _ _ => rfl⟩
  have hl := lv_entry ([.ref a0, .ref a1]) (n := 2) (Nat.le_of_ble_eq_true rfl)
  rw [lg_entry_eq]
  generalize (lg_sl ([.ref a0, .ref a1]) ++ List.replicate (2 - (lg_sl ([.ref a0, .ref a1])).length) Slot.unset).toArray = ls at hl ⊢
  have hl : lv_has ls 2 [(0, .ref a0), (1, .ref a1)] := hl
  refine q_gen (fun Q hQ => ?_)
  have go : ∀ (H : Heap) (locs : List Loc) (ls : Array Slot), va_P D vwCl (pq_P t σ (I, J, ri, rj, rq)) H → va_D A (pq_P t σ (I, J, ri, rj, rq)) → va_S A s.heap H locs → lv_has ls 2 [(0, .ref a0), (1, .ref a1)] → W p l e ({ frames := 1, cells := 0, slots := 0, locals := 60 } : Room) s m (List.toArray ([.ref a0, .ref a1] : List Value)) below meth c H locs 0 0 Q (F0 m 0 ls []) := by
    intro H locs ls hP hD hS hl
    refine lv_aload_n hx hb dX11_copy_0 rfl (lv_at hl 0 rfl) ?_
    refine lv_iconst (v := 0) hx hb dX11_copy_1 (by decide +kernel) ?_
    refine lv_aload_n hx hb dX11_copy_2 rfl (lv_at hl 1 rfl) ?_
    refine lv_iconst (v := 0) hx hb dX11_copy_3 (by decide +kernel) ?_
    refine lv_aload_n hx hb dX11_copy_4 rfl (lv_at hl 0 rfl) ?_
    refine pn_i (v := 40) hx hb hK hP hL_a0 hK_a0 hN_a0 (by decide +kernel) dX11_copy_5 ?_
    refine lv_aload_n hx hb dX11_copy_6 rfl (lv_at hl 1 rfl) ?_
    refine pn_i (v := 40) hx hb hK hP hL_a1 hK_a1 hN_a1 (by decide +kernel) dX11_copy_7 ?_
    refine va_mmin hx hb (hml.trans hl.1.symm) hown (hts _ (tw_c tw_1103)) (hts _ (tw_c tw_467)) (hts _ (tw_c tw_276)) (hts _ (tw_c tw_468)) (Nat.le_of_ble_eq_true rfl) (Nat.le_of_ble_eq_true rfl) (Nat.zero_le _) (Nat.zero_le _) dX11_copy_8 ?_
    refine lv_topi (fun x_1 ex_1 => ?_)
    have h_2 : rg x_1 40 40 := rg_of_eq ex_1 (rg_min2 (rg_k (40 : Int32) 40 rfl) (rg_k (40 : Int32) 40 rfl) (by decide +kernel))
    refine pc_i hx hb (hml.trans hl.1.symm) hown (hts _ (tw_c tw_1104)) (hts _ (tw_c tw_1105)) (hts _ (tw_c tw_1106)) (hts _ (tw_c tw_1107)) hK hP hD hS hL_a0 hK_a0 hN_a0 hL_a1 hK_a1 hN_a1 (rg_pos (rg_k (0 : Int32) 0 rfl) (by decide +kernel)) (rg_pos h_2 (by decide +kernel)) (rg_cp (rg_k (0 : Int32) 0 rfl) h_2 (by decide +kernel)) (rg_cl h_2 (by decide +kernel)) (Nat.le_of_ble_eq_true rfl) (Nat.le_of_ble_eq_true rfl) dX11_copy_11 (fun r_3 H locs er_3 hP hD hS => ?_)
    have hG := GX.cR hG hSH hT_a0 rfl hT_a1 rfl er_3 (by decide +kernel)
    subst hQ
    exact W.vret hx hb hr (fun t1 ht hW => ⟨⟨(σ, I, J, r_3, rj, rq), rfl, ⟨r_3, rfl, hG, (cpy_eq er_3 h_2 rfl), (fun q hq => by rw [er_3, va_up_ne _ _ hq]), (by rw [er_3, show (x_1).toNatClampNeg = 40 from by have z_i := clampE x_1; have z_r := h_2; have z_1 := z_r.1; have z_2 := z_r.2; omega]; rfl)⟩, by rw [ht]; exact hP, va_K.moved hW.alike hK, hD⟩, hS.F ht⟩) hS.2.2 dX11_copy_14
  exact go _ _ _ hP hD hS hl

set_option maxRecDepth 100000 in
def g_X10_copyFrom (nI : Nat → Int32) (nJ : Nat → Int64) (nR : Nat → Nat → Int32) (nL : Nat → Nat → Int64) (nQ : Nat → Nat → Option Nat) (I : Nat → Int32) (J : Nat → Int64) (ri : Nat → Nat → Int32) (rj : Nat → Nat → Int64) (rq : Nat → Nat → Option Nat) : vM := (ap1 (nI 320) fun (y_2 : Int32) => (ap1 (va_up I 320 (y_2)) fun (I_3 : Nat → Int32) => (ap1 (nI 321) fun (y_4 : Int32) => (ap1 (va_up I_3 321 (y_4)) fun (I_5 : Nat → Int32) => (ap1 (nI 322) fun (y_6 : Int32) => (ap1 (va_up I_5 322 (y_6)) fun (I_7 : Nat → Int32) => (ap1 (nI 323) fun (y_8 : Int32) => (ap1 (va_up I_7 323 (y_8)) fun (I_9 : Nat → Int32) => (ap1 (nI 324) fun (y_10 : Int32) => (ap1 (va_up I_9 324 (y_10)) fun (I_11 : Nat → Int32) => (ap1 (va_up ri 325 (va_cpy (nR 325) (ri 325) 0 0 40)) fun (ri_16 : Nat → Nat → Int32) => (bnV (g_X7_copyFrom nI nR I_11 J ri_16 rj rq) fun (I_29 : Nat → Int32) (_ : Nat → Int64) (ri_30 : Nat → Nat → Int32) (_ : Nat → Nat → Int64) (_ : Nat → Nat → Option Nat) => (bnV (g_X2_copyFrom nI nJ nR nL I_29 J ri_30 rj rq) fun (I_40 : Nat → Int32) (J_41 : Nat → Int64) (ri_42 : Nat → Nat → Int32) (rj_43 : Nat → Nat → Int64) (_ : Nat → Nat → Option Nat) => (bnV (g_X0_copyFrom nI nR I_40 J_41 ri_42 rj_43 rq) fun (I_53 : Nat → Int32) (_ : Nat → Int64) (ri_54 : Nat → Nat → Int32) (_ : Nat → Nat → Int64) (_ : Nat → Nat → Option Nat) => (bnV (g_X3_copyFrom nI nR nQ I_53 J_41 ri_54 rj_43 rq) fun (I_64 : Nat → Int32) (_ : Nat → Int64) (ri_65 : Nat → Nat → Int32) (_ : Nat → Nat → Int64) (rq_66 : Nat → Nat → Option Nat) => (bnV (g_X1_copyFrom nI nR nL I_64 J_41 ri_65 rj_43 rq_66) fun (I_76 : Nat → Int32) (_ : Nat → Int64) (ri_77 : Nat → Nat → Int32) (rj_78 : Nat → Nat → Int64) (_ : Nat → Nat → Option Nat) => (I_76, J_41, ri_77, rj_78, rq_66)))))))))))))))))
set_option maxRecDepth 100000 in
theorem g_X10_copyFrom_e {nI : Nat → Int32} {nJ : Nat → Int64} {nR : Nat → Nat → Int32} {nL : Nat → Nat → Int64} {nQ : Nat → Nat → Option Nat} {I : Nat → Int32} {J : Nat → Int64} {ri : Nat → Nat → Int32} {rj : Nat → Nat → Int64} {rq : Nat → Nat → Option Nat} : g_X10_copyFrom nI nJ nR nL nQ I J ri rj rq = (ap1 (nI 320) fun (y_2 : Int32) => (ap1 (va_up I 320 (y_2)) fun (I_3 : Nat → Int32) => (ap1 (nI 321) fun (y_4 : Int32) => (ap1 (va_up I_3 321 (y_4)) fun (I_5 : Nat → Int32) => (ap1 (nI 322) fun (y_6 : Int32) => (ap1 (va_up I_5 322 (y_6)) fun (I_7 : Nat → Int32) => (ap1 (nI 323) fun (y_8 : Int32) => (ap1 (va_up I_7 323 (y_8)) fun (I_9 : Nat → Int32) => (ap1 (nI 324) fun (y_10 : Int32) => (ap1 (va_up I_9 324 (y_10)) fun (I_11 : Nat → Int32) => (ap1 (va_up ri 325 (va_cpy (nR 325) (ri 325) 0 0 40)) fun (ri_16 : Nat → Nat → Int32) => (bnV (g_X7_copyFrom nI nR I_11 J ri_16 rj rq) fun (I_29 : Nat → Int32) (_ : Nat → Int64) (ri_30 : Nat → Nat → Int32) (_ : Nat → Nat → Int64) (_ : Nat → Nat → Option Nat) => (bnV (g_X2_copyFrom nI nJ nR nL I_29 J ri_30 rj rq) fun (I_40 : Nat → Int32) (J_41 : Nat → Int64) (ri_42 : Nat → Nat → Int32) (rj_43 : Nat → Nat → Int64) (_ : Nat → Nat → Option Nat) => (bnV (g_X0_copyFrom nI nR I_40 J_41 ri_42 rj_43 rq) fun (I_53 : Nat → Int32) (_ : Nat → Int64) (ri_54 : Nat → Nat → Int32) (_ : Nat → Nat → Int64) (_ : Nat → Nat → Option Nat) => (bnV (g_X3_copyFrom nI nR nQ I_53 J_41 ri_54 rj_43 rq) fun (I_64 : Nat → Int32) (_ : Nat → Int64) (ri_65 : Nat → Nat → Int32) (_ : Nat → Nat → Int64) (rq_66 : Nat → Nat → Option Nat) => (bnV (g_X1_copyFrom nI nR nL I_64 J_41 ri_65 rj_43 rq_66) fun (I_76 : Nat → Int32) (_ : Nat → Int64) (ri_77 : Nat → Nat → Int32) (rj_78 : Nat → Nat → Int64) (_ : Nat → Nat → Option Nat) => (I_76, J_41, ri_77, rj_78, rq_66))))))))))))))))) := rfl
set_option maxHeartbeats 4000000 in
set_option maxRecDepth 100000 in
theorem s_X10_copyFrom (l : Launch) (D : va_G) (t : pq_T) (σ : pq_S) (I : Nat → Nat → Int32) (J : Nat → Nat → Int64) (ri : Nat → Nat → Int32) (rj : Nat → Nat → Int64) (rq : Nat → Nat → Option Nat) (sz : Nat) (tg : Nat → Nat) (hSH : SH σ tg) (hG0 : GS tg σ I ri rq) (this : Nat) (a0 : Nat) (hL_this : this ∈ σ.1) (hK_this : σ.2.1 this = 10) (hL_a0 : a0 ∈ σ.1) (hK_a0 : σ.2.1 a0 = 10) (hap : AP 10 tg σ this a0) : MetV l yX10_copyFrom (wa yX10_copyFrom cX10_copyFrom 2 none) ({ frames := 4, cells := 0, slots := 0, locals := 123 }) [.ref this, .ref a0] D t σ (I, J, ri, rj, rq) sz 0 0 (fun (u : pq_S × pq_M) => ∃ I' : Nat → Nat → Int32, ∃ J' : Nat → Nat → Int64, ∃ ri' : Nat → Nat → Int32, ∃ rj' : Nat → Nat → Int64, ∃ rq' : Nat → Nat → Option Nat, u = (σ, I', J', ri', rj', rq') ∧ GX [320, 224, 1225, 1226, 1227, 1228, 1229, 1230, 1231, 1232, 1233, 234, 235, 236, 64, 65, 1069, 1070, 1073, 1074, 1075, 1288, 1079, 0, 1005, 10, 96, 98, 32, 1033, 1034] tg σ I ri rj I' ri' rj' rq' ∧ (I' 320 this = I 320 a0) ∧ g_X10_copyFrom (vI 10 σ a0 I) (vJ 10 σ a0 J) (vR 10 σ a0 ri) (vL 10 σ a0 rj) (vQ 10 σ a0 rq) (vI 10 σ this I) (vJ 10 σ this J) (vR 10 σ this ri) (vL 10 σ this rj) (vQ 10 σ this rq) = ((vI 10 σ this I'), (vJ 10 σ this J'), (vR 10 σ this ri'), (vL 10 σ this rj'), (vQ 10 σ this rq')) ∧ FR 10 tg σ this (I, J, ri, rj, rq) (I', J', ri', rj', rq')) := by
  refine Met.ofW (cc := cX10_copyFrom) (maxL := 2) (ret := none) (by decide +kernel) rfl ?_
  intro p e s m args below meth c s₁ B hml hv
  obtain ⟨rfl, hsz, hP, hK, hD0, hN⟩ := hv
  have hx := B.exec
  have hb := B.bytes
  have hr := B.returns
  have hts := atoms_spec (ws := (wa yX10_copyFrom cX10_copyFrom 2 none)) B.pre
  have hown : s.vm.findClass RX10 = some m.cls := findClass_of_methodNamed B.named
  have hlocks := B.notSynchronized
  subst hsz
  have hD : va_D (pq_B t σ (I, J, ri, rj, rq) s.heap.size) (pq_P t σ (I, J, ri, rj, rq)) := hD0.self
  generalize hAe : pq_B t σ (I, J, ri, rj, rq) s.heap.size = A at hD ⊢
  have hA : ∀ q : Nat, s.heap.size ≤ q → A q := fun q h => by rw [← hAe]; exact Or.inr h
  have hS : va_S A s.heap s.heap [] := va_S.rf
  have hG : GX [320, 224, 1225, 1226, 1227, 1228, 1229, 1230, 1231, 1232, 1233, 234, 235, 236, 64, 65, 1069, 1070, 1073, 1074, 1075, 1288, 1079, 0, 1005, 10, 96, 98, 32, 1033, 1034] tg σ I ri rj I ri rj rq := ⟨hG0, fun _ _ _ => rfl, fun _ _ _ _ _ => rfl, fun _ _ _ _ _ => rfl⟩
  have hl := lv_entry ([.ref this, .ref a0]) (n := 2) (Nat.le_of_ble_eq_true rfl)
  rw [lg_entry_eq]
  generalize (lg_sl ([.ref this, .ref a0]) ++ List.replicate (2 - (lg_sl ([.ref this, .ref a0])).length) Slot.unset).toArray = ls at hl ⊢
  have hl : lv_has ls 2 [(0, .ref this), (1, .ref a0)] := hl
  refine q_gen (fun Q hQ => ?_)
  have go : ∀ (H : Heap) (locs : List Loc) (ls : Array Slot), va_P D vwCl (pq_P t σ (I, J, ri, rj, rq)) H → va_D A (pq_P t σ (I, J, ri, rj, rq)) → va_S A s.heap H locs → lv_has ls 2 [(0, .ref this), (1, .ref a0)] → W p l e ({ frames := 4, cells := 0, slots := 0, locals := 123 } : Room) s m (List.toArray ([.ref this, .ref a0] : List Value)) below meth c H locs 0 0 Q (F0 m 0 ls []) := by
    intro H locs ls hP hD hS hl
    have hO_this : this = vo σ 10 this := rfl
    have hO_a0 : a0 = vo σ 10 a0 := rfl
    have hVT : VT 10 σ tg this := vt_10 hSH hL_this hK_this
    have hFr : FR 10 tg σ this (I, J, ri, rj, rq) (I, J, ri, rj, rq) := fr_rf
    obtain ⟨F, hF0⟩ : ∃ F, F = g_X10_copyFrom (vI 10 σ a0 I) (vJ 10 σ a0 J) (vR 10 σ a0 ri) (vL 10 σ a0 rj) (vQ 10 σ a0 rq) (vI 10 σ this I) (vJ 10 σ this J) (vR 10 σ this ri) (vL 10 σ this rj) (vQ 10 σ this rq) := ⟨_, rfl⟩
    have hF := hF0.trans g_X10_copyFrom_e
    refine lv_aload_n hx hb dX10_copyFrom_0 rfl (lv_at hl 0 rfl) ?_
    refine lv_aload_n hx hb dX10_copyFrom_1 rfl (lv_at hl 1 rfl) ?_
    refine pg_f (v := .int (I 320 a0)) (C := RX10) (T := TX10) (N := 13) hx hb hts (tw_i inlX10) hown hK hP hL_a0 hK_a0 (by decide +kernel) rfl 0 (by decide +kernel) (hts _ (tw_c tw_457)) rfl dX10_copyFrom_2 ?_
    have h_1 : rg (I 320 a0) 0 600 := GX.rI hG 320 rfl
    replace hF := hF.trans (ap_n (cI_e (f := 320) hFr hap hO_a0 (by decide +kernel)))
    refine pp_i (v := (I 320 a0)) (ty := .int) (C := RX10) (T := TX10) (N := 13) hx hb hts (tw_i inlX10) tyX10 tyX10_ok nmX10 hown hK hP hD hS hL_this hK_this (by decide +kernel) rfl 0 320 (by decide +kernel) (hts _ (tw_c tw_457)) rfl (tyX10_ok 0 (by decide +kernel)) rfl rfl (Nat.le_of_ble_eq_true rfl) (ps_320 _ _ _ _ _) dX10_copyFrom_5 (fun I_3 H locs eI_3 hP hD hS => ?_)
    replace hFr := fr_I (f := 320) hFr hO_this (by decide +kernel) eI_3
    replace hF := hF.trans (ap_n (vI_st (f := 320) hO_this (by decide +kernel) eI_3))
    have hG := GX.wI hG 320 rfl eI_3 (rg_w h_1 (by decide +kernel)) (by decide +kernel)
    refine lv_aload_n hx hb dX10_copyFrom_8 rfl (lv_at hl 0 rfl) ?_
    refine lv_aload_n hx hb dX10_copyFrom_9 rfl (lv_at hl 1 rfl) ?_
    refine pg_f (v := .int (I_3 321 a0)) (C := RX10) (T := TX10) (N := 13) hx hb hts (tw_i inlX10) hown hK hP hL_a0 hK_a0 (by decide +kernel) rfl 1 (by decide +kernel) (hts _ (tw_c tw_1131)) rfl dX10_copyFrom_10 ?_
    replace hF := hF.trans (ap_n (cI_e (f := 321) hFr hap hO_a0 (by decide +kernel)))
    refine pp_i (v := (I_3 321 a0)) (ty := .int) (C := RX10) (T := TX10) (N := 13) hx hb hts (tw_i inlX10) tyX10 tyX10_ok nmX10 hown hK hP hD hS hL_this hK_this (by decide +kernel) rfl 1 321 (by decide +kernel) (hts _ (tw_c tw_1131)) rfl (tyX10_ok 1 (by decide +kernel)) rfl rfl (Nat.le_of_ble_eq_true rfl) (ps_321 _ _ _ _ _) dX10_copyFrom_13 (fun I_5 H locs eI_5 hP hD hS => ?_)
    replace hFr := fr_I (f := 321) hFr hO_this (by decide +kernel) eI_5
    replace hF := hF.trans (ap_n (vI_st (f := 321) hO_this (by decide +kernel) eI_5))
    have hG := GX.wI hG 321 rfl eI_5 (rg_w (rg_full _) (by decide +kernel)) (by decide +kernel)
    refine lv_aload_n hx hb dX10_copyFrom_16 rfl (lv_at hl 0 rfl) ?_
    refine lv_aload_n hx hb dX10_copyFrom_17 rfl (lv_at hl 1 rfl) ?_
    refine pg_f (v := .int (I_5 322 a0)) (C := RX10) (T := TX10) (N := 13) hx hb hts (tw_i inlX10) hown hK hP hL_a0 hK_a0 (by decide +kernel) rfl 2 (by decide +kernel) (hts _ (tw_c tw_1046)) rfl dX10_copyFrom_18 ?_
    replace hF := hF.trans (ap_n (cI_e (f := 322) hFr hap hO_a0 (by decide +kernel)))
    refine pp_i (v := (I_5 322 a0)) (ty := .int) (C := RX10) (T := TX10) (N := 13) hx hb hts (tw_i inlX10) tyX10 tyX10_ok nmX10 hown hK hP hD hS hL_this hK_this (by decide +kernel) rfl 2 322 (by decide +kernel) (hts _ (tw_c tw_1046)) rfl (tyX10_ok 2 (by decide +kernel)) rfl rfl (Nat.le_of_ble_eq_true rfl) (ps_322 _ _ _ _ _) dX10_copyFrom_21 (fun I_7 H locs eI_7 hP hD hS => ?_)
    replace hFr := fr_I (f := 322) hFr hO_this (by decide +kernel) eI_7
    replace hF := hF.trans (ap_n (vI_st (f := 322) hO_this (by decide +kernel) eI_7))
    have hG := GX.wI hG 322 rfl eI_7 (rg_w (rg_full _) (by decide +kernel)) (by decide +kernel)
    refine lv_aload_n hx hb dX10_copyFrom_24 rfl (lv_at hl 0 rfl) ?_
    refine lv_aload_n hx hb dX10_copyFrom_25 rfl (lv_at hl 1 rfl) ?_
    refine pg_f (v := .int (I_7 323 a0)) (C := RX10) (T := TX10) (N := 13) hx hb hts (tw_i inlX10) hown hK hP hL_a0 hK_a0 (by decide +kernel) rfl 3 (by decide +kernel) (hts _ (tw_c tw_31)) rfl dX10_copyFrom_26 ?_
    replace hF := hF.trans (ap_n (cI_e (f := 323) hFr hap hO_a0 (by decide +kernel)))
    refine pp_i (v := (I_7 323 a0)) (ty := .int) (C := RX10) (T := TX10) (N := 13) hx hb hts (tw_i inlX10) tyX10 tyX10_ok nmX10 hown hK hP hD hS hL_this hK_this (by decide +kernel) rfl 3 323 (by decide +kernel) (hts _ (tw_c tw_31)) rfl (tyX10_ok 3 (by decide +kernel)) rfl rfl (Nat.le_of_ble_eq_true rfl) (ps_323 _ _ _ _ _) dX10_copyFrom_29 (fun I_9 H locs eI_9 hP hD hS => ?_)
    replace hFr := fr_I (f := 323) hFr hO_this (by decide +kernel) eI_9
    replace hF := hF.trans (ap_n (vI_st (f := 323) hO_this (by decide +kernel) eI_9))
    have hG := GX.wI hG 323 rfl eI_9 (rg_w (rg_full _) (by decide +kernel)) (by decide +kernel)
    refine lv_aload_n hx hb dX10_copyFrom_32 rfl (lv_at hl 0 rfl) ?_
    refine lv_aload_n hx hb dX10_copyFrom_33 rfl (lv_at hl 1 rfl) ?_
    refine pg_f (v := .int (I_9 324 a0)) (C := RX10) (T := TX10) (N := 13) hx hb hts (tw_i inlX10) hown hK hP hL_a0 hK_a0 (by decide +kernel) rfl 4 (by decide +kernel) (hts _ (tw_c tw_32)) rfl dX10_copyFrom_34 ?_
    replace hF := hF.trans (ap_n (cI_e (f := 324) hFr hap hO_a0 (by decide +kernel)))
    refine pp_i (v := (I_9 324 a0)) (ty := .int) (C := RX10) (T := TX10) (N := 13) hx hb hts (tw_i inlX10) tyX10 tyX10_ok nmX10 hown hK hP hD hS hL_this hK_this (by decide +kernel) rfl 4 324 (by decide +kernel) (hts _ (tw_c tw_32)) rfl (tyX10_ok 4 (by decide +kernel)) rfl rfl (Nat.le_of_ble_eq_true rfl) (ps_324 _ _ _ _ _) dX10_copyFrom_37 (fun I_11 H locs eI_11 hP hD hS => ?_)
    replace hFr := fr_I (f := 324) hFr hO_this (by decide +kernel) eI_11
    replace hF := hF.trans (ap_n (vI_st (f := 324) hO_this (by decide +kernel) eI_11))
    have hG := GX.wI hG 324 rfl eI_11 (rg_w (rg_full _) (by decide +kernel)) (by decide +kernel)
    refine lv_aload_n hx hb dX10_copyFrom_40 rfl (lv_at hl 1 rfl) ?_
    obtain ⟨w_12, hR_w_12, hL_w_12, hK_w_12, hN_w_12, hT_w_12⟩ := sh_a hSH 325 (ci := 10) (kd := 13) (len := 40) rfl (by decide +kernel) hL_a0 hK_a0
    have hO_w_12 : w_12 = vrow σ 325 a0 := vo_k (c := 10) hO_a0 hR_w_12
    refine pg_f (v := .ref w_12) (C := RX10) (T := TX10) (N := 13) hx hb hts (tw_i inlX10) hown hK hP hL_a0 hK_a0 (by decide +kernel) rfl 5 (by decide +kernel) (hts _ (tw_c tw_34)) (pq_hv rfl hR_w_12) dX10_copyFrom_41 ?_
    refine lv_aload_n hx hb dX10_copyFrom_44 rfl (lv_at hl 0 rfl) ?_
    obtain ⟨w_13, hR_w_13, hL_w_13, hK_w_13, hN_w_13, hT_w_13⟩ := sh_a hSH 325 (ci := 10) (kd := 13) (len := 40) rfl (by decide +kernel) hL_this hK_this
    have hO_w_13 : w_13 = vrow σ 325 this := vo_k (c := 10) hO_this hR_w_13
    refine pg_f (v := .ref w_13) (C := RX10) (T := TX10) (N := 13) hx hb hts (tw_i inlX10) hown hK hP hL_this hK_this (by decide +kernel) rfl 5 (by decide +kernel) (hts _ (tw_c tw_34)) (pq_hv rfl hR_w_13) dX10_copyFrom_45 ?_
    refine pk_v (va_runSN (As := [.ref w_12, .ref w_13]) (rest := []) ⟨hx, hb, hml, hown, hts⟩ (s_X11_copy_325_325 l D t σ I_11 J ri rj rq H.size tg hSH hG.1 w_12 w_13 hL_w_12 hK_w_12 hN_w_12 hT_w_12 hL_w_13 hK_w_13 hN_w_13 hT_w_13) ⟨va_cnB (host := "RingsUnder") 2 hts (tw_W tw_1102) rfl rfl rfl (nl_17 hN) (hts _ (tw_c tw_2)) cd_yX11_copy_2 ⟨Nat.le_of_ble_eq_true rfl, Nat.le_of_ble_eq_true rfl⟩, hts (.static yX11_copy) (tw_c tq_static_yX11_copy), trivial⟩ ⟨pq_blind, pq_pre hK hN hP hD⟩ rfl rfl hl.1 rfl (lv_room (Nat.le_of_ble_eq_true rfl)) dX10_copyFrom_48 ⟨Nat.le_of_ble_eq_true rfl, Nat.le_of_ble_eq_true rfl⟩) hD hS hA (fun σ1 μ1 H locs hw_15 hP hD hS => ?_)
    obtain ⟨ri_16, hu_17, hg_18, hp_20, hp_21, hp_22⟩ := hw_15
    obtain ⟨hu_17a, hu_17b⟩ := Prod.mk.inj hu_17
    rw [hu_17a, hu_17b] at hP hD
    replace hF := hF.trans (ap_n (vR_cp hVT hO_w_13 (by decide +kernel) (funext fun _ => (cR_r hFr hap hO_w_12 (by decide +kernel) rfl)) hp_22))
    replace hFr := fr_R hFr hO_w_13 (by decide +kernel) hp_22
    have hG := GX.tr hG hg_18 (by decide +kernel)
    refine lv_aload_n hx hb dX10_copyFrom_51 rfl (lv_at hl 0 rfl) ?_
    obtain ⟨w_25, hR_w_25, hL_w_25, hK_w_25⟩ := sh_o hSH 326 (ci := 10) (kd := 7) rfl hL_this hK_this
    have hO_w_25 : w_25 = vo σ 7 this := vo_k (c := 10) hO_this hR_w_25
    refine pg_f (v := .ref w_25) (C := RX10) (T := TX10) (N := 13) hx hb hts (tw_i inlX10) hown hK hP hL_this hK_this (by decide +kernel) rfl 6 (by decide +kernel) (hts _ (tw_c tw_38)) (pq_hv rfl hR_w_25) dX10_copyFrom_52 ?_
    refine lv_aload_n hx hb dX10_copyFrom_55 rfl (lv_at hl 1 rfl) ?_
    obtain ⟨w_26, hR_w_26, hL_w_26, hK_w_26⟩ := sh_o hSH 326 (ci := 10) (kd := 7) rfl hL_a0 hK_a0
    have hO_w_26 : w_26 = vo σ 7 a0 := vo_k (c := 10) hO_a0 hR_w_26
    refine pg_f (v := .ref w_26) (C := RX10) (T := TX10) (N := 13) hx hb hts (tw_i inlX10) hown hK hP hL_a0 hK_a0 (by decide +kernel) rfl 6 (by decide +kernel) (hts _ (tw_c tw_38)) (pq_hv rfl hR_w_26) dX10_copyFrom_56 ?_
    refine pk_v (va_runV (As := [.ref w_26]) (rest := []) ⟨hx, hb, hml, hown, hts⟩ (s_X7_copyFrom l D t σ I_11 J ri_16 rj rq H.size tg hSH hG.1 w_25 w_26 hL_w_25 hK_w_25 hL_w_26 hK_w_26 this hL_this hK_this a0 hL_a0 hK_a0 hO_w_25 hO_w_26 hap) (cwV 1 hts (tw_V tw_1366 tw_1367 tw_1368 tw_37 tw_1369) rfl rfl rfl cv_yX7_copyFrom_1 ⟨Nat.le_of_ble_eq_true rfl, Nat.le_of_ble_eq_true rfl⟩) ⟨pq_blind, pq_recv hK hP hL_w_25 hK_w_25 (by decide +kernel) rfl, pq_pre hK hN hP hD⟩ rfl rfl hl.1 rfl (lv_room (Nat.le_of_ble_eq_true rfl)) dX10_copyFrom_59 ⟨Nat.le_of_ble_eq_true rfl, Nat.le_of_ble_eq_true rfl⟩) hD hS hA (fun σ1 μ1 H locs hw_28 hP hD hS => ?_)
    obtain ⟨I_29, ri_30, hu_31, hg_32, hfn_34, hfr_35⟩ := hw_28
    obtain ⟨hu_31a, hu_31b⟩ := Prod.mk.inj hu_31
    rw [hu_31a, hu_31b] at hP hD
    rw [fr_cI hFr hap, fr_cR hFr hap] at hfn_34
    replace hF := hF.trans (bv_n hfn_34)
    replace hFr := fr_tr hFr hfr_35
    have hG := GX.tr hG hg_32 (by decide +kernel)
    refine lv_aload_n hx hb dX10_copyFrom_62 rfl (lv_at hl 0 rfl) ?_
    obtain ⟨w_36, hR_w_36, hL_w_36, hK_w_36⟩ := sh_o hSH 327 (ci := 10) (kd := 2) rfl hL_this hK_this
    have hO_w_36 : w_36 = vo σ 2 this := vo_k (c := 10) hO_this hR_w_36
    refine pg_f (v := .ref w_36) (C := RX10) (T := TX10) (N := 13) hx hb hts (tw_i inlX10) hown hK hP hL_this hK_this (by decide +kernel) rfl 7 (by decide +kernel) (hts _ (tw_c tw_42)) (pq_hv rfl hR_w_36) dX10_copyFrom_63 ?_
    refine lv_aload_n hx hb dX10_copyFrom_66 rfl (lv_at hl 1 rfl) ?_
    obtain ⟨w_37, hR_w_37, hL_w_37, hK_w_37⟩ := sh_o hSH 327 (ci := 10) (kd := 2) rfl hL_a0 hK_a0
    have hO_w_37 : w_37 = vo σ 2 a0 := vo_k (c := 10) hO_a0 hR_w_37
    refine pg_f (v := .ref w_37) (C := RX10) (T := TX10) (N := 13) hx hb hts (tw_i inlX10) hown hK hP hL_a0 hK_a0 (by decide +kernel) rfl 7 (by decide +kernel) (hts _ (tw_c tw_42)) (pq_hv rfl hR_w_37) dX10_copyFrom_67 ?_
    refine pk_v (va_runV (As := [.ref w_37]) (rest := []) ⟨hx, hb, hml, hown, hts⟩ (s_X2_copyFrom l D t σ I_29 J ri_30 rj rq H.size tg hSH hG.1 w_36 w_37 hL_w_36 hK_w_36 hL_w_37 hK_w_37 this hL_this hK_this a0 hL_a0 hK_a0 hO_w_36 hO_w_37 hap) (cwV 1 hts (tw_V tw_1370 tw_1371 tw_1372 tw_41 tw_1373) rfl rfl rfl cv_yX2_copyFrom_1 ⟨Nat.le_of_ble_eq_true rfl, Nat.le_of_ble_eq_true rfl⟩) ⟨pq_blind, pq_recv hK hP hL_w_36 hK_w_36 (by decide +kernel) rfl, pq_pre hK hN hP hD⟩ rfl rfl hl.1 rfl (lv_room (Nat.le_of_ble_eq_true rfl)) dX10_copyFrom_70 ⟨Nat.le_of_ble_eq_true rfl, Nat.le_of_ble_eq_true rfl⟩) hD hS hA (fun σ1 μ1 H locs hw_39 hP hD hS => ?_)
    obtain ⟨I_40, J_41, ri_42, rj_43, hu_44, hg_45, hfn_47, hfr_48⟩ := hw_39
    obtain ⟨hu_44a, hu_44b⟩ := Prod.mk.inj hu_44
    rw [hu_44a, hu_44b] at hP hD
    rw [fr_cI hFr hap, fr_cJ hFr hap, fr_cR hFr hap, fr_cL hFr hap] at hfn_47
    replace hF := hF.trans (bv_n hfn_47)
    replace hFr := fr_tr hFr hfr_48
    have hG := GX.tr hG hg_45 (by decide +kernel)
    refine lv_aload_n hx hb dX10_copyFrom_73 rfl (lv_at hl 0 rfl) ?_
    obtain ⟨w_49, hR_w_49, hL_w_49, hK_w_49⟩ := sh_o hSH 328 (ci := 10) (kd := 0) rfl hL_this hK_this
    have hO_w_49 : w_49 = vo σ 0 this := vo_k (c := 10) hO_this hR_w_49
    refine pg_f (v := .ref w_49) (C := RX10) (T := TX10) (N := 13) hx hb hts (tw_i inlX10) hown hK hP hL_this hK_this (by decide +kernel) rfl 8 (by decide +kernel) (hts _ (tw_c tw_46)) (pq_hv rfl hR_w_49) dX10_copyFrom_74 ?_
    refine lv_aload_n hx hb dX10_copyFrom_77 rfl (lv_at hl 1 rfl) ?_
    obtain ⟨w_50, hR_w_50, hL_w_50, hK_w_50⟩ := sh_o hSH 328 (ci := 10) (kd := 0) rfl hL_a0 hK_a0
    have hO_w_50 : w_50 = vo σ 0 a0 := vo_k (c := 10) hO_a0 hR_w_50
    refine pg_f (v := .ref w_50) (C := RX10) (T := TX10) (N := 13) hx hb hts (tw_i inlX10) hown hK hP hL_a0 hK_a0 (by decide +kernel) rfl 8 (by decide +kernel) (hts _ (tw_c tw_46)) (pq_hv rfl hR_w_50) dX10_copyFrom_78 ?_
    refine pk_v (va_runV (As := [.ref w_50]) (rest := []) ⟨hx, hb, hml, hown, hts⟩ (s_X0_copyFrom l D t σ I_40 J_41 ri_42 rj_43 rq H.size tg hSH hG.1 w_49 w_50 hL_w_49 hK_w_49 hL_w_50 hK_w_50 this hL_this hK_this a0 hL_a0 hK_a0 hO_w_49 hO_w_50 hap) (cwV 1 hts (tw_V tw_1380 tw_1381 tw_1382 tw_45 tw_1383) rfl rfl rfl cv_yX0_copyFrom_1 ⟨Nat.le_of_ble_eq_true rfl, Nat.le_of_ble_eq_true rfl⟩) ⟨pq_blind, pq_recv hK hP hL_w_49 hK_w_49 (by decide +kernel) rfl, pq_pre hK hN hP hD⟩ rfl rfl hl.1 rfl (lv_room (Nat.le_of_ble_eq_true rfl)) dX10_copyFrom_81 ⟨Nat.le_of_ble_eq_true rfl, Nat.le_of_ble_eq_true rfl⟩) hD hS hA (fun σ1 μ1 H locs hw_52 hP hD hS => ?_)
    obtain ⟨I_53, ri_54, hu_55, hg_56, hfn_58, hfr_59⟩ := hw_52
    obtain ⟨hu_55a, hu_55b⟩ := Prod.mk.inj hu_55
    rw [hu_55a, hu_55b] at hP hD
    rw [fr_cI hFr hap, fr_cR hFr hap] at hfn_58
    replace hF := hF.trans (bv_n hfn_58)
    replace hFr := fr_tr hFr hfr_59
    have hG := GX.tr hG hg_56 (by decide +kernel)
    refine lv_aload_n hx hb dX10_copyFrom_84 rfl (lv_at hl 0 rfl) ?_
    obtain ⟨w_60, hR_w_60, hL_w_60, hK_w_60⟩ := sh_o hSH 329 (ci := 10) (kd := 3) rfl hL_this hK_this
    have hO_w_60 : w_60 = vo σ 3 this := vo_k (c := 10) hO_this hR_w_60
    refine pg_f (v := .ref w_60) (C := RX10) (T := TX10) (N := 13) hx hb hts (tw_i inlX10) hown hK hP hL_this hK_this (by decide +kernel) rfl 9 (by decide +kernel) (hts _ (tw_c tw_50)) (pq_hv rfl hR_w_60) dX10_copyFrom_85 ?_
    refine lv_aload_n hx hb dX10_copyFrom_88 rfl (lv_at hl 1 rfl) ?_
    obtain ⟨w_61, hR_w_61, hL_w_61, hK_w_61⟩ := sh_o hSH 329 (ci := 10) (kd := 3) rfl hL_a0 hK_a0
    have hO_w_61 : w_61 = vo σ 3 a0 := vo_k (c := 10) hO_a0 hR_w_61
    refine pg_f (v := .ref w_61) (C := RX10) (T := TX10) (N := 13) hx hb hts (tw_i inlX10) hown hK hP hL_a0 hK_a0 (by decide +kernel) rfl 9 (by decide +kernel) (hts _ (tw_c tw_50)) (pq_hv rfl hR_w_61) dX10_copyFrom_89 ?_
    refine pk_v (va_runV (As := [.ref w_61]) (rest := []) ⟨hx, hb, hml, hown, hts⟩ (s_X3_copyFrom l D t σ I_53 J_41 ri_54 rj_43 rq H.size tg hSH hG.1 w_60 w_61 hL_w_60 hK_w_60 hL_w_61 hK_w_61 this hL_this hK_this a0 hL_a0 hK_a0 hO_w_60 hO_w_61 hap) (cwV 1 hts (tw_V tw_1384 tw_1385 tw_1386 tw_49 tw_1387) rfl rfl rfl cv_yX3_copyFrom_1 ⟨Nat.le_of_ble_eq_true rfl, Nat.le_of_ble_eq_true rfl⟩) ⟨pq_blind, pq_recv hK hP hL_w_60 hK_w_60 (by decide +kernel) rfl, pq_pre hK hN hP hD⟩ rfl rfl hl.1 rfl (lv_room (Nat.le_of_ble_eq_true rfl)) dX10_copyFrom_92 ⟨Nat.le_of_ble_eq_true rfl, Nat.le_of_ble_eq_true rfl⟩) hD hS hA (fun σ1 μ1 H locs hw_63 hP hD hS => ?_)
    obtain ⟨I_64, ri_65, rq_66, hu_67, hg_68, hfn_70, hfr_71⟩ := hw_63
    obtain ⟨hu_67a, hu_67b⟩ := Prod.mk.inj hu_67
    rw [hu_67a, hu_67b] at hP hD
    rw [fr_cI hFr hap, fr_cR hFr hap, fr_cQ hFr hap] at hfn_70
    replace hF := hF.trans (bv_n hfn_70)
    replace hFr := fr_tr hFr hfr_71
    have hG := GX.tr hG hg_68 (by decide +kernel)
    refine lv_aload_n hx hb dX10_copyFrom_95 rfl (lv_at hl 0 rfl) ?_
    obtain ⟨w_72, hR_w_72, hL_w_72, hK_w_72⟩ := sh_o hSH 330 (ci := 10) (kd := 1) rfl hL_this hK_this
    have hO_w_72 : w_72 = vo σ 1 this := vo_k (c := 10) hO_this hR_w_72
    refine pg_f (v := .ref w_72) (C := RX10) (T := TX10) (N := 13) hx hb hts (tw_i inlX10) hown hK hP hL_this hK_this (by decide +kernel) rfl 10 (by decide +kernel) (hts _ (tw_c tw_54)) (pq_hv rfl hR_w_72) dX10_copyFrom_96 ?_
    refine lv_aload_n hx hb dX10_copyFrom_99 rfl (lv_at hl 1 rfl) ?_
    obtain ⟨w_73, hR_w_73, hL_w_73, hK_w_73⟩ := sh_o hSH 330 (ci := 10) (kd := 1) rfl hL_a0 hK_a0
    have hO_w_73 : w_73 = vo σ 1 a0 := vo_k (c := 10) hO_a0 hR_w_73
    refine pg_f (v := .ref w_73) (C := RX10) (T := TX10) (N := 13) hx hb hts (tw_i inlX10) hown hK hP hL_a0 hK_a0 (by decide +kernel) rfl 10 (by decide +kernel) (hts _ (tw_c tw_54)) (pq_hv rfl hR_w_73) dX10_copyFrom_100 ?_
    refine pk_v (va_runV (As := [.ref w_73]) (rest := []) ⟨hx, hb, hml, hown, hts⟩ (s_X1_copyFrom l D t σ I_64 J_41 ri_65 rj_43 rq_66 H.size tg hSH hG.1 w_72 w_73 hL_w_72 hK_w_72 hL_w_73 hK_w_73 this hL_this hK_this a0 hL_a0 hK_a0 hO_w_72 hO_w_73 hap) (cwV 1 hts (tw_V tw_1389 tw_1390 tw_1391 tw_53 tw_1392) rfl rfl rfl cv_yX1_copyFrom_1 ⟨Nat.le_of_ble_eq_true rfl, Nat.le_of_ble_eq_true rfl⟩) ⟨pq_blind, pq_recv hK hP hL_w_72 hK_w_72 (by decide +kernel) rfl, pq_pre hK hN hP hD⟩ rfl rfl hl.1 rfl (lv_room (Nat.le_of_ble_eq_true rfl)) dX10_copyFrom_103 ⟨Nat.le_of_ble_eq_true rfl, Nat.le_of_ble_eq_true rfl⟩) hD hS hA (fun σ1 μ1 H locs hw_75 hP hD hS => ?_)
    obtain ⟨I_76, ri_77, rj_78, hu_79, hg_80, hfn_82, hfr_83⟩ := hw_75
    obtain ⟨hu_79a, hu_79b⟩ := Prod.mk.inj hu_79
    rw [hu_79a, hu_79b] at hP hD
    rw [fr_cI hFr hap, fr_cR hFr hap, fr_cL hFr hap] at hfn_82
    replace hF := hF.trans (bv_n hfn_82)
    replace hFr := fr_tr hFr hfr_83
    have hG := GX.tr hG hg_80 (by decide +kernel)
    subst hQ
    exact W.vret hx hb hr (fun t1 ht hW => ⟨⟨(σ, I_76, J_41, ri_77, rj_78, rq_66), rfl, ⟨I_76, J_41, ri_77, rj_78, rq_66, rfl, hG, ((congrFun (hg_80.2.1 320 (by decide +kernel) (by decide +kernel)) this).trans ((congrFun (hg_68.2.1 320 (by decide +kernel) (by decide +kernel)) this).trans ((congrFun (hg_56.2.1 320 (by decide +kernel) (by decide +kernel)) this).trans ((congrFun (hg_45.2.1 320 (by decide +kernel) (by decide +kernel)) this).trans ((congrFun (hg_32.2.1 320 (by decide +kernel) (by decide +kernel)) this).trans ((congrFun (show I_11 320 = I_9 320 from by rw [eI_11]; exact pq_uf _ _ _ (by decide +kernel)) this).trans ((congrFun (show I_9 320 = I_7 320 from by rw [eI_9]; exact pq_uf _ _ _ (by decide +kernel)) this).trans ((congrFun (show I_7 320 = I_5 320 from by rw [eI_7]; exact pq_uf _ _ _ (by decide +kernel)) this).trans ((congrFun (show I_5 320 = I_3 320 from by rw [eI_5]; exact pq_uf _ _ _ (by decide +kernel)) this).trans (by rw [eI_3]; exact pq_us _ _ _ _)))))))))), (hF0.symm.trans hF), hFr⟩, by rw [ht]; exact hP, va_K.moved hW.alike hK, hD⟩, hS.F ht⟩) hS.2.2 dX10_copyFrom_106
  exact go _ _ _ hP hD hS hl

set_option maxRecDepth 100000 in
def g_X2_countBeds_332_L34 (a1 : Int32) (I : Nat → Int32) (J : Nat → Int64) (rj : Nat → Nat → Int64) (rq : Nat → Nat → Option Nat) : Nat → (Int32) → (Nat → Nat → Int32) → vM
  | 0, x_1157, ri_1158 => (I, J, ri_1158, rj, rq)
  | n_1178 + 1, x_1157, ri_1158 => (ap1 (I 65) fun (y_1184 : Int32) => (if (y_1184) ≤ x_1157 then (I, J, ri_1158, rj, rq) else (ap1 (ri_1158 69 (x_1157).toNatClampNeg) fun (x_1191 : Int32) => (ap1 (a1 + x_1191) fun (x_1193 : Int32) => (ap1 (ri_1158 332 (x_1193).toNatClampNeg) fun (x_1195 : Int32) => (ap1 (ri_1158 76 (x_1157).toNatClampNeg) fun (x_1197 : Int32) => (ap1 (x_1195 + x_1197) fun (x_1198 : Int32) => (ap1 (va_up ri_1158 332 (upd (ri_1158 332) (x_1193).toNatClampNeg x_1198)) fun (r_1199 : Nat → Nat → Int32) => (ap1 (x_1157 + Int32.ofInt 1) fun (x_1200 : Int32) => ((g_X2_countBeds_332_L34 a1 I J rj rq n_1178) x_1200 r_1199))))))))))
set_option maxRecDepth 100000 in
theorem g_X2_countBeds_332_L34_e {a1 : Int32} {I : Nat → Int32} {J : Nat → Int64} {rj : Nat → Nat → Int64} {rq : Nat → Nat → Option Nat} {n_1178 : Nat} {x_1157 : Int32} {ri_1158 : Nat → Nat → Int32} : g_X2_countBeds_332_L34 a1 I J rj rq (n_1178 + 1) x_1157 ri_1158 = (ap1 (I 65) fun (y_1184 : Int32) => (if (y_1184) ≤ x_1157 then (I, J, ri_1158, rj, rq) else (ap1 (ri_1158 69 (x_1157).toNatClampNeg) fun (x_1191 : Int32) => (ap1 (a1 + x_1191) fun (x_1193 : Int32) => (ap1 (ri_1158 332 (x_1193).toNatClampNeg) fun (x_1195 : Int32) => (ap1 (ri_1158 76 (x_1157).toNatClampNeg) fun (x_1197 : Int32) => (ap1 (x_1195 + x_1197) fun (x_1198 : Int32) => (ap1 (va_up ri_1158 332 (upd (ri_1158 332) (x_1193).toNatClampNeg x_1198)) fun (r_1199 : Nat → Nat → Int32) => (ap1 (x_1157 + Int32.ofInt 1) fun (x_1200 : Int32) => ((g_X2_countBeds_332_L34 a1 I J rj rq n_1178) x_1200 r_1199)))))))))) := rfl
set_option maxRecDepth 100000 in
def g_X2_countBeds_332_L15 (a1 : Int32) (I : Nat → Int32) (J : Nat → Int64) (rj : Nat → Nat → Int64) (rq : Nat → Nat → Option Nat) : Nat → (Int32) → (Nat → Nat → Int32) → vM
  | 0, x_622, ri_623 => (I, J, ri_623, rj, rq)
  | n_911 + 1, x_622, ri_623 => (if (5 : Int32) ≤ x_622 then (g_X2_countBeds_332_L34 a1 I J rj rq ((40 - ((0 : Int32)).toInt).toNat + 1) (0 : Int32) ri_623) else (ap1 (a1 + x_622) fun (x_1203 : Int32) => (ap1 (va_up ri_623 332 (upd (ri_623 332) (x_1203).toNatClampNeg (0 : Int32))) fun (r_1205 : Nat → Nat → Int32) => (ap1 (x_622 + Int32.ofInt 1) fun (x_1206 : Int32) => ((g_X2_countBeds_332_L15 a1 I J rj rq n_911) x_1206 r_1205)))))
set_option maxRecDepth 100000 in
theorem g_X2_countBeds_332_L15_e {a1 : Int32} {I : Nat → Int32} {J : Nat → Int64} {rj : Nat → Nat → Int64} {rq : Nat → Nat → Option Nat} {n_911 : Nat} {x_622 : Int32} {ri_623 : Nat → Nat → Int32} : g_X2_countBeds_332_L15 a1 I J rj rq (n_911 + 1) x_622 ri_623 = (if (5 : Int32) ≤ x_622 then (g_X2_countBeds_332_L34 a1 I J rj rq ((40 - ((0 : Int32)).toInt).toNat + 1) (0 : Int32) ri_623) else (ap1 (a1 + x_622) fun (x_1203 : Int32) => (ap1 (va_up ri_623 332 (upd (ri_623 332) (x_1203).toNatClampNeg (0 : Int32))) fun (r_1205 : Nat → Nat → Int32) => (ap1 (x_622 + Int32.ofInt 1) fun (x_1206 : Int32) => ((g_X2_countBeds_332_L15 a1 I J rj rq n_911) x_1206 r_1205))))) := rfl
set_option maxRecDepth 100000 in
def g_X2_countBeds_332 (a1 : Int32) (I : Nat → Int32) (J : Nat → Int64) (ri : Nat → Nat → Int32) (rj : Nat → Nat → Int64) (rq : Nat → Nat → Option Nat) : vM := (ap1 (a1 + (5 : Int32)) fun (x_2 : Int32) => (g_X2_countBeds_332_L15 a1 I J rj rq ((5 - ((0 : Int32)).toInt).toNat + 1) (0 : Int32) ri))
set_option maxRecDepth 100000 in
theorem g_X2_countBeds_332_e {a1 : Int32} {I : Nat → Int32} {J : Nat → Int64} {ri : Nat → Nat → Int32} {rj : Nat → Nat → Int64} {rq : Nat → Nat → Option Nat} : g_X2_countBeds_332 a1 I J ri rj rq = (ap1 (a1 + (5 : Int32)) fun (x_2 : Int32) => (g_X2_countBeds_332_L15 a1 I J rj rq ((5 - ((0 : Int32)).toInt).toNat + 1) (0 : Int32) ri)) := rfl
set_option maxHeartbeats 4000000 in
set_option maxRecDepth 100000 in
theorem s_X2_countBeds_332 (l : Launch) (D : va_G) (t : pq_T) (σ : pq_S) (I : Nat → Nat → Int32) (J : Nat → Nat → Int64) (ri : Nat → Nat → Int32) (rj : Nat → Nat → Int64) (rq : Nat → Nat → Option Nat) (sz : Nat) (tg : Nat → Nat) (hSH : SH σ tg) (hG0 : GS tg σ I ri rq) (this : Nat) (a0 : Nat) (a1 : Int32) (hL_this : this ∈ σ.1) (hK_this : σ.2.1 this = 2) (hL_a0 : a0 ∈ σ.1) (hK_a0 : σ.2.1 a0 = 13) (hN_a0 : σ.2.2.2 a0 = 5) (hT_a0 : tg a0 = 332) (h_a1 : rg a1 0 0) (M : Nat) (hL_M : M ∈ σ.1) (hK_M : σ.2.1 M = 10) (hO_this : this = vo σ 2 M) (hO_a0 : a0 = vrow σ 332 M) : MetV l yX2_countBeds (wa yX2_countBeds cX2_countBeds 4 none) ({ frames := 0, cells := 0, slots := 0, locals := 0 }) [.ref this, .ref a0, .int a1] D t σ (I, J, ri, rj, rq) sz 0 0 (fun (u : pq_S × pq_M) => ∃ ri' : Nat → Nat → Int32, u = (σ, I, J, ri', rj, rq) ∧ GX [] tg σ I ri rj I ri' rj rq ∧ g_X2_countBeds_332 a1 (vI 10 σ M I) (vJ 10 σ M J) (vR 10 σ M ri) (vL 10 σ M rj) (vQ 10 σ M rq) = ((vI 10 σ M I), (vJ 10 σ M J), (vR 10 σ M ri'), (vL 10 σ M rj), (vQ 10 σ M rq)) ∧ FR 10 tg σ M (I, J, ri, rj, rq) (I, J, ri', rj, rq)) := by
  refine Met.ofW (cc := cX2_countBeds) (maxL := 4) (ret := none) (by decide +kernel) rfl ?_
  intro p e s m args below meth c s₁ B hml hv
  obtain ⟨rfl, hsz, hP, hK, hD0, hN⟩ := hv
  have hx := B.exec
  have hb := B.bytes
  have hr := B.returns
  have hts := atoms_spec (ws := (wa yX2_countBeds cX2_countBeds 4 none)) B.pre
  have hown : s.vm.findClass RX2 = some m.cls := findClass_of_methodNamed B.named
  have hlocks := B.notSynchronized
  subst hsz
  have hD : va_D (pq_B t σ (I, J, ri, rj, rq) s.heap.size) (pq_P t σ (I, J, ri, rj, rq)) := hD0.self
  generalize hAe : pq_B t σ (I, J, ri, rj, rq) s.heap.size = A at hD ⊢
  have hA : ∀ q : Nat, s.heap.size ≤ q → A q := fun q h => by rw [← hAe]; exact Or.inr h
  have hS : va_S A s.heap s.heap [] := va_S.rf
  have hG : GX [] tg σ I ri rj I ri rj rq := ⟨hG0, fun _ _ _ => rfl, fun _ _ _ _ _ => rfl, fun _ _ _ _ _ => rfl⟩
  have hl := lv_entry ([.ref this, .ref a0, .int a1]) (n := 4) (Nat.le_of_ble_eq_true rfl)
  rw [lg_entry_eq]
  generalize (lg_sl ([.ref this, .ref a0, .int a1]) ++ List.replicate (4 - (lg_sl ([.ref this, .ref a0, .int a1])).length) Slot.unset).toArray = ls at hl ⊢
  have hl : lv_has ls 4 [(0, .ref this), (1, .ref a0), (2, .int a1)] := hl
  refine q_gen (fun Q hQ => ?_)
  have go : ∀ (H : Heap) (locs : List Loc) (ls : Array Slot), va_P D vwCl (pq_P t σ (I, J, ri, rj, rq)) H → va_D A (pq_P t σ (I, J, ri, rj, rq)) → va_S A s.heap H locs → lv_has ls 4 [(0, .ref this), (1, .ref a0), (2, .int a1)] → W p l e ({ frames := 0, cells := 0, slots := 0, locals := 0 } : Room) s m (List.toArray ([.ref this, .ref a0, .int a1] : List Value)) below meth c H locs 0 0 Q (F0 m 0 ls []) := by
    intro H locs ls hP hD hS hl
    have hVT : VT 10 σ tg M := vt_10 hSH hL_M hK_M
    have hFr : FR 10 tg σ M (I, J, ri, rj, rq) (I, J, ri, rj, rq) := fr_rf
    obtain ⟨F, hF0⟩ : ∃ F, F = g_X2_countBeds_332 a1 (vI 10 σ M I) (vJ 10 σ M J) (vR 10 σ M ri) (vL 10 σ M rj) (vQ 10 σ M rq) := ⟨_, rfl⟩
    have hF := hF0.trans g_X2_countBeds_332_e
    refine lv_iload_n hx hb dX2_countBeds_0 rfl (lv_at hl 2 rfl) ?_
    refine lv_if_lt (tgt := 12) hx hb dX2_countBeds_1 (by decide +kernel) (fun c_1 => ?_) (fun c_1 => ?_)
    · exact (rg_empty (rg_lt1 c_1 h_a1 (rg_k (0 : Int32) 0 rfl) (lo := 0) (hi := (-1)) (by decide +kernel)) (by decide +kernel)).elim
    · refine lv_iload_n hx hb dX2_countBeds_4 rfl (lv_at hl 2 rfl) ?_
      refine lv_iconst (v := 5) hx hb dX2_countBeds_5 (by decide +kernel) ?_
      refine lv_iadd hx hb dX2_countBeds_6 ?_
      refine lv_topi (fun x_2 ex_2 => ?_)
      replace hF := hF.trans (ap_n ex_2)
      have h_3 : rg x_2 5 5 := rg_of_eq ex_2 (rg_add h_a1 (rg_k (5 : Int32) 5 rfl) (by decide +kernel))
      refine lv_aload_n hx hb dX2_countBeds_7 rfl (lv_at hl 1 rfl) ?_
      refine pn_i (v := 5) hx hb hK hP hL_a0 hK_a0 hN_a0 (by decide +kernel) dX2_countBeds_8 ?_
      refine lv_icmp_le (tgt := 13) hx hb dX2_countBeds_9 (by decide +kernel) (fun c_4 => ?_) (fun c_4 => ?_)
      · refine lv_iconst (v := 0) hx hb dX2_countBeds_13 (by decide +kernel) ?_
        refine lv_istore_n (lv' := [(3, .int 0), (0, .ref this), (1, .ref a0), (2, .int a1)]) hx hb dX2_countBeds_14 rfl hl (by decide +kernel) rfl (fun ls hl => ?_)
        have L_912 : ∀ (n_911 : Nat) (x_622 : Int32) (ri_623 : Nat → Nat → Int32) (H : Heap) (locs : List Loc) (ls : Array Slot), rg x_622 0 5 → (5 - (x_622).toInt).toNat < n_911 → F = g_X2_countBeds_332_L15 a1 (vI 10 σ M I) (vJ 10 σ M J) (vL 10 σ M rj) (vQ 10 σ M rq) n_911 x_622 (vR 10 σ M ri_623) → FR 10 tg σ M (I, J, ri, rj, rq) (I, J, ri_623, rj, rq) → GX [] tg σ I ri rj I ri_623 rj rq → va_P D vwCl (pq_P t σ (I, J, ri_623, rj, rq)) H → va_D A (pq_P t σ (I, J, ri_623, rj, rq)) → va_S A s.heap H locs → lv_has ls 4 [(0, .ref this), (1, .ref a0), (2, .int a1), (3, .int x_622)] → W p l e ({ frames := 0, cells := 0, slots := 0, locals := 0 } : Room) s m (List.toArray ([.ref this, .ref a0, .int a1] : List Value)) below meth c H locs 0 0 Q (F0 m 15 ls []) := by
          intro n_911
          induction n_911 with
          | zero => intro x_622 ri_623 H locs ls h_915 hm_910 hF hFr hG hP hD hS hl; exact absurd hm_910 (Nat.not_lt_zero _)
          | succ n_911 ih_913 =>
            intro x_622 ri_623 H locs ls h_915 hm_910 hF hFr hG hP hD hS hl
            replace hF := hF.trans g_X2_countBeds_332_L15_e
            refine lv_iload_n hx hb dX2_countBeds_15 rfl (lv_at hl 3 rfl) ?_
            refine lv_iconst (v := 5) hx hb dX2_countBeds_16 (by decide +kernel) ?_
            refine lv_icmp_ge (tgt := 32) hx hb dX2_countBeds_17 (by decide +kernel) (fun c_916 => ?_) (fun c_916 => ?_)
            · replace hF := hF.trans (if_pos c_916)
              have h_919 : rg x_622 5 5 := rg_le2 c_916 (rg_k (5 : Int32) 5 rfl) h_915 (by decide +kernel)
              refine lv_iconst (v := 0) hx hb dX2_countBeds_32 (by decide +kernel) ?_
              refine lv_istore_n (lv' := [(3, .int 0), (0, .ref this), (1, .ref a0), (2, .int a1)]) hx hb dX2_countBeds_33 rfl hl (by decide +kernel) rfl (fun ls hl => ?_)
              have L_1179 : ∀ (n_1178 : Nat) (x_1157 : Int32) (ri_1158 : Nat → Nat → Int32) (H : Heap) (locs : List Loc) (ls : Array Slot), rg x_1157 0 40 → (40 - (x_1157).toInt).toNat < n_1178 → F = g_X2_countBeds_332_L34 a1 (vI 10 σ M I) (vJ 10 σ M J) (vL 10 σ M rj) (vQ 10 σ M rq) n_1178 x_1157 (vR 10 σ M ri_1158) → FR 10 tg σ M (I, J, ri, rj, rq) (I, J, ri_1158, rj, rq) → GX [] tg σ I ri rj I ri_1158 rj rq → va_P D vwCl (pq_P t σ (I, J, ri_1158, rj, rq)) H → va_D A (pq_P t σ (I, J, ri_1158, rj, rq)) → va_S A s.heap H locs → lv_has ls 4 [(0, .ref this), (1, .ref a0), (2, .int a1), (3, .int x_1157)] → W p l e ({ frames := 0, cells := 0, slots := 0, locals := 0 } : Room) s m (List.toArray ([.ref this, .ref a0, .int a1] : List Value)) below meth c H locs 0 0 Q (F0 m 34 ls []) := by
                intro n_1178
                induction n_1178 with
                | zero => intro x_1157 ri_1158 H locs ls h_1182 hm_1177 hF hFr hG hP hD hS hl; exact absurd hm_1177 (Nat.not_lt_zero _)
                | succ n_1178 ih_1180 =>
                  intro x_1157 ri_1158 H locs ls h_1182 hm_1177 hF hFr hG hP hD hS hl
                  replace hF := hF.trans g_X2_countBeds_332_L34_e
                  refine lv_iload_n hx hb dX2_countBeds_34 rfl (lv_at hl 3 rfl) ?_
                  refine lv_aload_n hx hb dX2_countBeds_35 rfl (lv_at hl 0 rfl) ?_
                  refine pg_f (v := .int (I 65 this)) (C := RX2) (T := TX2) (N := 20) hx hb hts (tw_i inlX2) hown hK hP hL_this hK_this (by decide +kernel) rfl 1 (by decide +kernel) (hts _ (tw_c tw_222)) rfl dX2_countBeds_36 ?_
                  have h_1183 : rg (I 65 this) 0 40 := GX.rI hG 65 rfl
                  replace hF := hF.trans (ap_n (vI_e (f := 65) hO_this (by decide +kernel)))
                  refine lv_icmp_ge (tgt := 67) hx hb dX2_countBeds_39 (by decide +kernel) (fun c_1185 => ?_) (fun c_1185 => ?_)
                  · replace hF := hF.trans (if_pos c_1185)
                    subst hQ
                    exact W.vret hx hb hr (fun t1 ht hW => ⟨⟨(σ, I, J, ri_1158, rj, rq), rfl, ⟨ri_1158, rfl, hG, (hF0.symm.trans hF), hFr⟩, by rw [ht]; exact hP, va_K.moved hW.alike hK, hD⟩, hS.F ht⟩) hS.2.2 dX2_countBeds_67
                  · replace hF := hF.trans (if_neg c_1185)
                    have h_1188 : rg x_1157 0 39 := rg_lt1 (nle c_1185) h_1182 h_1183 (by decide +kernel)
                    have h_1189 : rg (I 65 this) 1 40 := rg_lt2 (nle c_1185) h_1182 h_1183 (by decide +kernel)
                    refine lv_aload_n hx hb dX2_countBeds_42 rfl (lv_at hl 1 rfl) ?_
                    refine lv_iload_n hx hb dX2_countBeds_43 rfl (lv_at hl 2 rfl) ?_
                    refine lv_aload_n hx hb dX2_countBeds_44 rfl (lv_at hl 0 rfl) ?_
                    obtain ⟨w_1190, hR_w_1190, hL_w_1190, hK_w_1190, hN_w_1190, hT_w_1190⟩ := sh_a hSH 69 (ci := 2) (kd := 13) (len := 40) rfl (by decide +kernel) hL_this hK_this
                    have hO_w_1190 : w_1190 = vrow σ 69 M := vo_k (c := 2) hO_this hR_w_1190
                    refine pg_f (v := .ref w_1190) (C := RX2) (T := TX2) (N := 20) hx hb hts (tw_i inlX2) hown hK hP hL_this hK_this (by decide +kernel) rfl 5 (by decide +kernel) (hts _ (tw_c tw_83)) (pq_hv rfl hR_w_1190) dX2_countBeds_45 ?_
                    refine lv_iload_n hx hb dX2_countBeds_48 rfl (lv_at hl 3 rfl) ?_
                    refine pl_i hx hb hK hP hL_w_1190 hK_w_1190 hN_w_1190 (rg_in h_1188 (by decide +kernel)) dX2_countBeds_49 ?_
                    refine lv_topi (fun x_1191 ex_1191 => ?_)
                    replace hF := hF.trans (ap_n (vR_r hO_w_1190 (by decide +kernel) ex_1191))
                    have h_1192 : rg x_1191 0 4 := rg_of_eq ex_1191 (GX.rR hG hT_w_1190 rfl)
                    refine lv_iadd hx hb dX2_countBeds_50 ?_
                    refine lv_topi (fun x_1193 ex_1193 => ?_)
                    replace hF := hF.trans (ap_n ex_1193)
                    have h_1194 : rg x_1193 0 4 := rg_of_eq ex_1193 (rg_add h_a1 h_1192 (by decide +kernel))
                    refine lv_dup2_11 hx hb dX2_countBeds_51 rfl rfl ?_
                    refine pl_i hx hb hK hP hL_a0 hK_a0 hN_a0 (rg_in h_1194 (by decide +kernel)) dX2_countBeds_52 ?_
                    refine lv_topi (fun x_1195 ex_1195 => ?_)
                    replace hF := hF.trans (ap_n (vR_r hO_a0 (by decide +kernel) ex_1195))
                    refine lv_aload_n hx hb dX2_countBeds_53 rfl (lv_at hl 0 rfl) ?_
                    obtain ⟨w_1196, hR_w_1196, hL_w_1196, hK_w_1196, hN_w_1196, hT_w_1196⟩ := sh_a hSH 76 (ci := 2) (kd := 13) (len := 40) rfl (by decide +kernel) hL_this hK_this
                    have hO_w_1196 : w_1196 = vrow σ 76 M := vo_k (c := 2) hO_this hR_w_1196
                    refine pg_f (v := .ref w_1196) (C := RX2) (T := TX2) (N := 20) hx hb hts (tw_i inlX2) hown hK hP hL_this hK_this (by decide +kernel) rfl 12 (by decide +kernel) (hts _ (tw_c tw_90)) (pq_hv rfl hR_w_1196) dX2_countBeds_54 ?_
                    refine lv_iload_n hx hb dX2_countBeds_57 rfl (lv_at hl 3 rfl) ?_
                    refine pl_i hx hb hK hP hL_w_1196 hK_w_1196 hN_w_1196 (rg_in h_1188 (by decide +kernel)) dX2_countBeds_58 ?_
                    refine lv_topi (fun x_1197 ex_1197 => ?_)
                    replace hF := hF.trans (ap_n (vR_r hO_w_1196 (by decide +kernel) ex_1197))
                    refine lv_iadd hx hb dX2_countBeds_59 ?_
                    refine lv_topi (fun x_1198 ex_1198 => ?_)
                    replace hF := hF.trans (ap_n ex_1198)
                    refine pt_i hx hb hK hP hD hS hL_a0 hK_a0 hN_a0 (rg_in h_1194 (by decide +kernel)) dX2_countBeds_60 (fun r_1199 H locs er_1199 hP hD hS => ?_)
                    replace hFr := fr_R hFr hO_a0 (by decide +kernel) er_1199
                    replace hF := hF.trans (ap_n (vR_st hVT hO_a0 (by decide +kernel) er_1199))
                    have hG := GX.wR hG hSH hT_a0 rfl er_1199 (rg_w (rg_full _) (by decide +kernel)) (by decide +kernel)
                    obtain ⟨x_1200, ex_1200⟩ : ∃ y : Int32, y = x_1157 + Int32.ofInt 1 := ⟨_, rfl⟩
                    replace hF := hF.trans (ap_n ex_1200)
                    have h_1201 : rg x_1200 1 40 := rg_of_eq ex_1200 (rg_add h_1188 (rg_k (Int32.ofInt 1) 1 rfl) (by decide +kernel))
                    refine lv_iinc (v := x_1200) (lv' := [(3, .int x_1200), (0, .ref this), (1, .ref a0), (2, .int a1)]) hx hb dX2_countBeds_61 hl (k := 3) rfl ex_1200.symm (by decide +kernel) rfl (fun ls hl => ?_)
                    refine lv_goto (tgt := 34) hx hb dX2_countBeds_64 (by decide +kernel) ?_
                    exact ih_1180 x_1200 r_1199 _ _ _ (rg_w h_1201 (by decide +kernel)) (ms_up 1 hm_1177 ex_1200 rfl (by decide +kernel) h_1188 (by decide +kernel) (by decide +kernel)) hF hFr hG hP hD hS (lv_sub hl [1, 2, 3, 0] rfl)
              exact L_1179 _ (0 : Int32) ri_623 _ _ _ (rg_w (rg_k (0 : Int32) 0 rfl) (by decide +kernel)) (Nat.lt_succ_self _) hF hFr hG hP hD hS (lv_sub hl [1, 2, 3, 0] rfl)
            · replace hF := hF.trans (if_neg c_916)
              have h_1202 : rg x_622 0 4 := rg_lt1 (nle c_916) h_915 (rg_k (5 : Int32) 5 rfl) (by decide +kernel)
              refine lv_aload_n hx hb dX2_countBeds_20 rfl (lv_at hl 1 rfl) ?_
              refine lv_iload_n hx hb dX2_countBeds_21 rfl (lv_at hl 2 rfl) ?_
              refine lv_iload_n hx hb dX2_countBeds_22 rfl (lv_at hl 3 rfl) ?_
              refine lv_iadd hx hb dX2_countBeds_23 ?_
              refine lv_topi (fun x_1203 ex_1203 => ?_)
              replace hF := hF.trans (ap_n ex_1203)
              have h_1204 : rg x_1203 0 4 := rg_of_eq ex_1203 (rg_add h_a1 h_1202 (by decide +kernel))
              refine lv_iconst (v := 0) hx hb dX2_countBeds_24 (by decide +kernel) ?_
              refine pt_i hx hb hK hP hD hS hL_a0 hK_a0 hN_a0 (rg_in h_1204 (by decide +kernel)) dX2_countBeds_25 (fun r_1205 H locs er_1205 hP hD hS => ?_)
              replace hFr := fr_R hFr hO_a0 (by decide +kernel) er_1205
              replace hF := hF.trans (ap_n (vR_st hVT hO_a0 (by decide +kernel) er_1205))
              have hG := GX.wR hG hSH hT_a0 rfl er_1205 (rg_w (rg_k (0 : Int32) 0 rfl) (by decide +kernel)) (by decide +kernel)
              obtain ⟨x_1206, ex_1206⟩ : ∃ y : Int32, y = x_622 + Int32.ofInt 1 := ⟨_, rfl⟩
              replace hF := hF.trans (ap_n ex_1206)
              have h_1207 : rg x_1206 1 5 := rg_of_eq ex_1206 (rg_add h_1202 (rg_k (Int32.ofInt 1) 1 rfl) (by decide +kernel))
              refine lv_iinc (v := x_1206) (lv' := [(3, .int x_1206), (0, .ref this), (1, .ref a0), (2, .int a1)]) hx hb dX2_countBeds_26 hl (k := 3) rfl ex_1206.symm (by decide +kernel) rfl (fun ls hl => ?_)
              refine lv_goto (tgt := 15) hx hb dX2_countBeds_29 (by decide +kernel) ?_
              exact ih_913 x_1206 r_1205 _ _ _ (rg_w h_1207 (by decide +kernel)) (ms_up 1 hm_910 ex_1206 rfl (by decide +kernel) h_1202 (by decide +kernel) (by decide +kernel)) hF hFr hG hP hD hS (lv_sub hl [1, 2, 3, 0] rfl)
        exact L_912 _ (0 : Int32) ri _ _ _ (rg_w (rg_k (0 : Int32) 0 rfl) (by decide +kernel)) (Nat.lt_succ_self _) hF hFr hG hP hD hS (lv_sub hl [1, 2, 3, 0] rfl)
      · exact (rg_empty (rg_lt2 (nle c_4) (rg_k (5 : Int32) 5 rfl) h_3 (lo := 6) (hi := 5) (by decide +kernel)) (by decide +kernel)).elim
  exact go _ _ _ hP hD hS hl

set_option maxRecDepth 100000 in
def g_X0_sleep_332_K96 (x_2181 : Int32) (k_g_X0_sleep_332_L30 : (Int32) → (Int32) → (Nat → Nat → Int32) → Int32 × vM) (x_2262 : Int32) (ri_2263 : Nat → Nat → Int32) : Int32 × vM := (ap1 (x_2181 + Int32.ofInt 1) fun (x_2267 : Int32) => (k_g_X0_sleep_332_L30 x_2262 x_2267 ri_2263))
set_option maxRecDepth 100000 in
theorem g_X0_sleep_332_K96_e {x_2181 : Int32} {k_g_X0_sleep_332_L30 : (Int32) → (Int32) → (Nat → Nat → Int32) → Int32 × vM} {x_2262 : Int32} {ri_2263 : Nat → Nat → Int32} : g_X0_sleep_332_K96 x_2181 k_g_X0_sleep_332_L30 x_2262 ri_2263 = (ap1 (x_2181 + Int32.ofInt 1) fun (x_2267 : Int32) => (k_g_X0_sleep_332_L30 x_2262 x_2267 ri_2263)) := rfl
set_option maxRecDepth 100000 in
def g_X0_sleep_332_L30 (I : Nat → Int32) (J : Nat → Int64) (rj : Nat → Nat → Int64) (rq : Nat → Nat → Option Nat) : Nat → (Int32) → (Int32) → (Nat → Nat → Int32) → Int32 × vM
  | 0, x_2180, x_2181, ri_2182 => ((0 : Int32), I, J, ri_2182, rj, rq)
  | n_2222 + 1, x_2180, x_2181, ri_2182 => (ap1 (I 0) fun (y_2228 : Int32) => (if (y_2228) ≤ x_2181 then (x_2180, I, J, ri_2182, rj, rq) else (bnI (g_X0_isOnRing x_2181 I J ri_2182 rj rq) fun (x_2235 : Int32) (_ : Nat → Int32) (_ : Nat → Int64) (_ : Nat → Nat → Int32) (_ : Nat → Nat → Int64) (_ : Nat → Nat → Option Nat) => (if x_2235 = (0 : Int32) then (g_X0_sleep_332_K96 x_2181 (g_X0_sleep_332_L30 I J rj rq n_2222) x_2180 ri_2182) else (ap1 (ri_2182 5 (x_2181).toNatClampNeg) fun (x_2278 : Int32) => (ap1 (ri_2182 12 (x_2278).toNatClampNeg) fun (x_2280 : Int32) => (if x_2280 ≤ (0 : Int32) then (ap1 (ri_2182 7 (x_2181).toNatClampNeg) fun (x_2286 : Int32) => (ap1 (x_2286 + (1 : Int32)) fun (x_2287 : Int32) => (ap1 (va_up ri_2182 7 (upd (ri_2182 7) (x_2181).toNatClampNeg x_2287)) fun (r_2288 : Nat → Nat → Int32) => (ap1 (x_2180 + Int32.ofInt 1) fun (x_2289 : Int32) => (g_X0_sleep_332_K96 x_2181 (g_X0_sleep_332_L30 I J rj rq n_2222) x_2289 r_2288))))) else (ap1 (x_2280 - (1 : Int32)) fun (x_2291 : Int32) => (ap1 (va_up ri_2182 12 (upd (ri_2182 12) (x_2278).toNatClampNeg x_2291)) fun (r_2293 : Nat → Nat → Int32) => (g_X0_sleep_332_K96 x_2181 (g_X0_sleep_332_L30 I J rj rq n_2222) x_2180 r_2293))))))))))
set_option maxRecDepth 100000 in
theorem g_X0_sleep_332_L30_e {I : Nat → Int32} {J : Nat → Int64} {rj : Nat → Nat → Int64} {rq : Nat → Nat → Option Nat} {n_2222 : Nat} {x_2180 : Int32} {x_2181 : Int32} {ri_2182 : Nat → Nat → Int32} : g_X0_sleep_332_L30 I J rj rq (n_2222 + 1) x_2180 x_2181 ri_2182 = (ap1 (I 0) fun (y_2228 : Int32) => (if (y_2228) ≤ x_2181 then (x_2180, I, J, ri_2182, rj, rq) else (bnI (g_X0_isOnRing x_2181 I J ri_2182 rj rq) fun (x_2235 : Int32) (_ : Nat → Int32) (_ : Nat → Int64) (_ : Nat → Nat → Int32) (_ : Nat → Nat → Int64) (_ : Nat → Nat → Option Nat) => (if x_2235 = (0 : Int32) then (g_X0_sleep_332_K96 x_2181 (g_X0_sleep_332_L30 I J rj rq n_2222) x_2180 ri_2182) else (ap1 (ri_2182 5 (x_2181).toNatClampNeg) fun (x_2278 : Int32) => (ap1 (ri_2182 12 (x_2278).toNatClampNeg) fun (x_2280 : Int32) => (if x_2280 ≤ (0 : Int32) then (ap1 (ri_2182 7 (x_2181).toNatClampNeg) fun (x_2286 : Int32) => (ap1 (x_2286 + (1 : Int32)) fun (x_2287 : Int32) => (ap1 (va_up ri_2182 7 (upd (ri_2182 7) (x_2181).toNatClampNeg x_2287)) fun (r_2288 : Nat → Nat → Int32) => (ap1 (x_2180 + Int32.ofInt 1) fun (x_2289 : Int32) => (g_X0_sleep_332_K96 x_2181 (g_X0_sleep_332_L30 I J rj rq n_2222) x_2289 r_2288))))) else (ap1 (x_2280 - (1 : Int32)) fun (x_2291 : Int32) => (ap1 (va_up ri_2182 12 (upd (ri_2182 12) (x_2278).toNatClampNeg x_2291)) fun (r_2293 : Nat → Nat → Int32) => (g_X0_sleep_332_K96 x_2181 (g_X0_sleep_332_L30 I J rj rq n_2222) x_2180 r_2293)))))))))) := rfl
set_option maxRecDepth 100000 in
def g_X0_sleep_332 (a1 : Int32) (I : Nat → Int32) (J : Nat → Int64) (ri : Nat → Nat → Int32) (rj : Nat → Nat → Int64) (rq : Nat → Nat → Option Nat) : Int32 × vM := (ap1 (a1 + (5 : Int32)) fun (x_1132 : Int32) => (ap1 (va_up ri 12 (va_cpy (ri 332) (ri 12) (a1).toNatClampNeg 0 ((5 : Int32)).toNatClampNeg)) fun (r_1136 : Nat → Nat → Int32) => (g_X0_sleep_332_L30 I J rj rq ((40 - ((0 : Int32)).toInt).toNat + 1) (0 : Int32) (0 : Int32) r_1136)))
set_option maxRecDepth 100000 in
theorem g_X0_sleep_332_e {a1 : Int32} {I : Nat → Int32} {J : Nat → Int64} {ri : Nat → Nat → Int32} {rj : Nat → Nat → Int64} {rq : Nat → Nat → Option Nat} : g_X0_sleep_332 a1 I J ri rj rq = (ap1 (a1 + (5 : Int32)) fun (x_1132 : Int32) => (ap1 (va_up ri 12 (va_cpy (ri 332) (ri 12) (a1).toNatClampNeg 0 ((5 : Int32)).toNatClampNeg)) fun (r_1136 : Nat → Nat → Int32) => (g_X0_sleep_332_L30 I J rj rq ((40 - ((0 : Int32)).toInt).toNat + 1) (0 : Int32) (0 : Int32) r_1136))) := rfl
set_option maxHeartbeats 4000000 in
set_option maxRecDepth 100000 in
theorem s_X0_sleep_332 (l : Launch) (D : va_G) (t : pq_T) (σ : pq_S) (I : Nat → Nat → Int32) (J : Nat → Nat → Int64) (ri : Nat → Nat → Int32) (rj : Nat → Nat → Int64) (rq : Nat → Nat → Option Nat) (sz : Nat) (tg : Nat → Nat) (hSH : SH σ tg) (hG0 : GS tg σ I ri rq) (this : Nat) (a0 : Nat) (a1 : Int32) (hL_this : this ∈ σ.1) (hK_this : σ.2.1 this = 0) (hL_a0 : a0 ∈ σ.1) (hK_a0 : σ.2.1 a0 = 13) (hN_a0 : σ.2.2.2 a0 = 5) (hT_a0 : tg a0 = 332) (h_a1 : rg a1 0 0) (M : Nat) (hL_M : M ∈ σ.1) (hK_M : σ.2.1 M = 10) (hO_this : this = vo σ 0 M) (hO_a0 : a0 = vrow σ 332 M) : MetI l yX0_sleep (wa yX0_sleep cX0_sleep 5 (some .int)) ({ frames := 1, cells := 0, slots := 0, locals := 60 }) [.ref this, .ref a0, .int a1] D t σ (I, J, ri, rj, rq) sz 0 0 (fun (r : Int32) (u : pq_S × pq_M) => ∃ ri' : Nat → Nat → Int32, u = (σ, I, J, ri', rj, rq) ∧ GX [] tg σ I ri rj I ri' rj rq ∧ g_X0_sleep_332 a1 (vI 10 σ M I) (vJ 10 σ M J) (vR 10 σ M ri) (vL 10 σ M rj) (vQ 10 σ M rq) = (r, (vI 10 σ M I), (vJ 10 σ M J), (vR 10 σ M ri'), (vL 10 σ M rj), (vQ 10 σ M rq)) ∧ FR 10 tg σ M (I, J, ri, rj, rq) (I, J, ri', rj, rq)) := by
  refine Met.ofW (cc := cX0_sleep) (maxL := 5) (ret := (some .int)) (by decide +kernel) rfl ?_
  intro p e s m args below meth c s₁ B hml hv
  obtain ⟨rfl, hsz, hP, hK, hD0, hN⟩ := hv
  have hx := B.exec
  have hb := B.bytes
  have hr := B.returns
  have hts := atoms_spec (ws := (wa yX0_sleep cX0_sleep 5 (some .int))) B.pre
  have hown : s.vm.findClass RX0 = some m.cls := findClass_of_methodNamed B.named
  have hlocks := B.notSynchronized
  subst hsz
  have hD : va_D (pq_B t σ (I, J, ri, rj, rq) s.heap.size) (pq_P t σ (I, J, ri, rj, rq)) := hD0.self
  generalize hAe : pq_B t σ (I, J, ri, rj, rq) s.heap.size = A at hD ⊢
  have hA : ∀ q : Nat, s.heap.size ≤ q → A q := fun q h => by rw [← hAe]; exact Or.inr h
  have hS : va_S A s.heap s.heap [] := va_S.rf
  have hG : GX [] tg σ I ri rj I ri rj rq := ⟨hG0, fun _ _ _ => rfl, fun _ _ _ _ _ => rfl, fun _ _ _ _ _ => rfl⟩
  have hl := lv_entry ([.ref this, .ref a0, .int a1]) (n := 5) (Nat.le_of_ble_eq_true rfl)
  rw [lg_entry_eq]
  generalize (lg_sl ([.ref this, .ref a0, .int a1]) ++ List.replicate (5 - (lg_sl ([.ref this, .ref a0, .int a1])).length) Slot.unset).toArray = ls at hl ⊢
  have hl : lv_has ls 5 [(0, .ref this), (1, .ref a0), (2, .int a1)] := hl
  refine q_gen (fun Q hQ => ?_)
  have go : ∀ (H : Heap) (locs : List Loc) (ls : Array Slot), va_P D vwCl (pq_P t σ (I, J, ri, rj, rq)) H → va_D A (pq_P t σ (I, J, ri, rj, rq)) → va_S A s.heap H locs → lv_has ls 5 [(0, .ref this), (1, .ref a0), (2, .int a1)] → W p l e ({ frames := 1, cells := 0, slots := 0, locals := 60 } : Room) s m (List.toArray ([.ref this, .ref a0, .int a1] : List Value)) below meth c H locs 0 0 Q (F0 m 0 ls []) := by
    intro H locs ls hP hD hS hl
    have hVT : VT 10 σ tg M := vt_10 hSH hL_M hK_M
    have hFr : FR 10 tg σ M (I, J, ri, rj, rq) (I, J, ri, rj, rq) := fr_rf
    obtain ⟨F, hF0⟩ : ∃ F, F = g_X0_sleep_332 a1 (vI 10 σ M I) (vJ 10 σ M J) (vR 10 σ M ri) (vL 10 σ M rj) (vQ 10 σ M rq) := ⟨_, rfl⟩
    have hF := hF0.trans g_X0_sleep_332_e
    refine lv_iload_n hx hb dX0_sleep_0 rfl (lv_at hl 2 rfl) ?_
    refine lv_if_lt (tgt := 12) hx hb dX0_sleep_1 (by decide +kernel) (fun c_1131 => ?_) (fun c_1131 => ?_)
    · exact (rg_empty (rg_lt1 c_1131 h_a1 (rg_k (0 : Int32) 0 rfl) (lo := 0) (hi := (-1)) (by decide +kernel)) (by decide +kernel)).elim
    · refine lv_iload_n hx hb dX0_sleep_4 rfl (lv_at hl 2 rfl) ?_
      refine lv_iconst (v := 5) hx hb dX0_sleep_5 (by decide +kernel) ?_
      refine lv_iadd hx hb dX0_sleep_6 ?_
      refine lv_topi (fun x_1132 ex_1132 => ?_)
      replace hF := hF.trans (ap_n ex_1132)
      have h_1133 : rg x_1132 5 5 := rg_of_eq ex_1132 (rg_add h_a1 (rg_k (5 : Int32) 5 rfl) (by decide +kernel))
      refine lv_aload_n hx hb dX0_sleep_7 rfl (lv_at hl 1 rfl) ?_
      refine pn_i (v := 5) hx hb hK hP hL_a0 hK_a0 hN_a0 (by decide +kernel) dX0_sleep_8 ?_
      refine lv_icmp_le (tgt := 14) hx hb dX0_sleep_9 (by decide +kernel) (fun c_1134 => ?_) (fun c_1134 => ?_)
      · refine lv_aload_n hx hb dX0_sleep_14 rfl (lv_at hl 1 rfl) ?_
        refine lv_iload_n hx hb dX0_sleep_15 rfl (lv_at hl 2 rfl) ?_
        refine lv_aload_n hx hb dX0_sleep_16 rfl (lv_at hl 0 rfl) ?_
        obtain ⟨w_1135, hR_w_1135, hL_w_1135, hK_w_1135, hN_w_1135, hT_w_1135⟩ := sh_a hSH 12 (ci := 0) (kd := 13) (len := 5) rfl (by decide +kernel) hL_this hK_this
        have hO_w_1135 : w_1135 = vrow σ 12 M := vo_k (c := 0) hO_this hR_w_1135
        refine pg_f (v := .ref w_1135) (C := RX0) (T := TX0) (N := 16) hx hb hts (tw_i inlX0) hown hK hP hL_this hK_this (by decide +kernel) rfl 12 (by decide +kernel) (hts _ (tw_c tw_120)) (pq_hv rfl hR_w_1135) dX0_sleep_17 ?_
        refine lv_iconst (v := 0) hx hb dX0_sleep_20 (by decide +kernel) ?_
        refine lv_iconst (v := 5) hx hb dX0_sleep_21 (by decide +kernel) ?_
        refine pc_i hx hb (hml.trans hl.1.symm) hown (hts _ (tw_c tw_1124)) (hts _ (tw_c tw_1105)) (hts _ (tw_c tw_1106)) (hts _ (tw_c tw_1107)) hK hP hD hS hL_a0 hK_a0 hN_a0 hL_w_1135 hK_w_1135 hN_w_1135 (rg_pos h_a1 (by decide +kernel)) (rg_pos (rg_k (5 : Int32) 5 rfl) (by decide +kernel)) (rg_cp h_a1 (rg_k (5 : Int32) 5 rfl) (by decide +kernel)) (rg_cl (rg_k (5 : Int32) 5 rfl) (by decide +kernel)) (Nat.le_of_ble_eq_true rfl) (Nat.le_of_ble_eq_true rfl) dX0_sleep_22 (fun r_1136 H locs er_1136 hP hD hS => ?_)
        replace hF := hF.trans (ap_n (vR_cp hVT hO_w_1135 (by decide +kernel) (funext fun _ => (vR_r hO_a0 (by decide +kernel) rfl)) er_1136))
        replace hFr := fr_R hFr hO_w_1135 (by decide +kernel) er_1136
        have hG := GX.cR hG hSH hT_a0 rfl hT_w_1135 rfl er_1136 (by decide +kernel)
        refine lv_iconst (v := 0) hx hb dX0_sleep_25 (by decide +kernel) ?_
        refine lv_istore_n (lv' := [(3, .int 0), (0, .ref this), (1, .ref a0), (2, .int a1)]) hx hb dX0_sleep_26 rfl hl (by decide +kernel) rfl (fun ls hl => ?_)
        refine lv_iconst (v := 0) hx hb dX0_sleep_27 (by decide +kernel) ?_
        refine lv_istore (lv' := [(4, .int 0), (3, .int 0), (0, .ref this), (1, .ref a0), (2, .int a1)]) hx hb dX0_sleep_28 hl (by decide +kernel) rfl (fun ls hl => ?_)
        have L_2223 : ∀ (n_2222 : Nat) (x_2180 : Int32) (x_2181 : Int32) (ri_2182 : Nat → Nat → Int32) (H : Heap) (locs : List Loc) (ls : Array Slot), rg x_2181 0 40 → (40 - (x_2181).toInt).toNat < n_2222 → F = g_X0_sleep_332_L30 (vI 10 σ M I) (vJ 10 σ M J) (vL 10 σ M rj) (vQ 10 σ M rq) n_2222 x_2180 x_2181 (vR 10 σ M ri_2182) → FR 10 tg σ M (I, J, ri, rj, rq) (I, J, ri_2182, rj, rq) → GX [] tg σ I ri rj I ri_2182 rj rq → va_P D vwCl (pq_P t σ (I, J, ri_2182, rj, rq)) H → va_D A (pq_P t σ (I, J, ri_2182, rj, rq)) → va_S A s.heap H locs → lv_has ls 5 [(0, .ref this), (3, .int x_2180), (4, .int x_2181)] → W p l e ({ frames := 1, cells := 0, slots := 0, locals := 60 } : Room) s m (List.toArray ([.ref this, .ref a0, .int a1] : List Value)) below meth c H locs 0 0 Q (F0 m 30 ls []) := by
          intro n_2222
          induction n_2222 with
          | zero => intro x_2180 x_2181 ri_2182 H locs ls h_2226 hm_2221 hF hFr hG hP hD hS hl; exact absurd hm_2221 (Nat.not_lt_zero _)
          | succ n_2222 ih_2224 =>
            intro x_2180 x_2181 ri_2182 H locs ls h_2226 hm_2221 hF hFr hG hP hD hS hl
            replace hF := hF.trans g_X0_sleep_332_L30_e
            refine lv_iload hx hb dX0_sleep_30 (lv_at hl 2 rfl) ?_
            refine lv_aload_n hx hb dX0_sleep_32 rfl (lv_at hl 0 rfl) ?_
            refine pg_f (v := .int (I 0 this)) (C := RX0) (T := TX0) (N := 16) hx hb hts (tw_i inlX0) hown hK hP hL_this hK_this (by decide +kernel) rfl 0 (by decide +kernel) (hts _ (tw_c tw_395)) rfl dX0_sleep_33 ?_
            have h_2227 : rg (I 0 this) 0 40 := GX.rI hG 0 rfl
            replace hF := hF.trans (ap_n (vI_e (f := 0) hO_this (by decide +kernel)))
            refine lv_icmp_ge (tgt := 102) hx hb dX0_sleep_36 (by decide +kernel) (fun c_2229 => ?_) (fun c_2229 => ?_)
            · replace hF := hF.trans (if_pos c_2229)
              refine lv_iload_n hx hb dX0_sleep_102 rfl (lv_at hl 1 rfl) ?_
              subst hQ
              exact W.iret (v := x_2180) hx hb hr (fun t1 ht hW => ⟨⟨x_2180, (σ, I, J, ri_2182, rj, rq), rfl, ⟨ri_2182, rfl, hG, (hF0.symm.trans hF), hFr⟩, by rw [ht]; exact hP, va_K.moved hW.alike hK, hD⟩, hS.F ht⟩) hS.2.2 dX0_sleep_103
            · replace hF := hF.trans (if_neg c_2229)
              have h_2232 : rg x_2181 0 39 := rg_lt1 (nle c_2229) h_2226 h_2227 (by decide +kernel)
              have h_2233 : rg (I 0 this) 1 40 := rg_lt2 (nle c_2229) h_2226 h_2227 (by decide +kernel)
              refine lv_aload_n hx hb dX0_sleep_39 rfl (lv_at hl 0 rfl) ?_
              refine lv_iload hx hb dX0_sleep_40 (lv_at hl 2 rfl) ?_
              obtain ⟨w_2234, hR_w_2234, hL_w_2234, hK_w_2234, hN_w_2234, hT_w_2234⟩ := sh_a hSH 5 (ci := 0) (kd := 13) (len := 40) rfl (by decide +kernel) hL_this hK_this
              have hO_w_2234 : w_2234 = vrow σ 5 M := vo_k (c := 0) hO_this hR_w_2234
              refine pk_i (va_runV (As := [.int x_2181]) (rest := []) ⟨hx, hb, hml, hown, hts⟩ (s_X0_isOnRing l D t σ I J ri_2182 rj rq H.size tg hSH hG.1 this x_2181 hL_this hK_this (rg_w h_2232 (by decide +kernel)) w_2234 hR_w_2234 hL_w_2234 hK_w_2234 hN_w_2234 hT_w_2234 M hL_M hK_M hO_this) (cwV 1 hts (tw_V tw_1108 tw_1109 tw_1110 tw_45 tw_1111) rfl rfl rfl cv_yX0_isOnRing_1 ⟨Nat.le_of_ble_eq_true rfl, Nat.le_of_ble_eq_true rfl⟩) ⟨pq_blind, pq_recv hK hP hL_this hK_this (by decide +kernel) rfl, pq_pre hK hN hP hD⟩ rfl rfl hl.1 rfl (lv_room (Nat.le_of_ble_eq_true rfl)) dX0_sleep_42 ⟨Nat.le_of_ble_eq_true rfl, Nat.le_of_ble_eq_true rfl⟩) hD hS hA (fun x_2235 σ1 μ1 H locs hw_2236 hP hD hS => ?_)
              obtain ⟨hu_2237, hfn_2240, hr_2239⟩ := hw_2236
              obtain ⟨hu_2237a, hu_2237b⟩ := Prod.mk.inj hu_2237
              rw [hu_2237a, hu_2237b] at hP hD
              replace hF := hF.trans (bn_n hfn_2240)
              have h_2242 : rg x_2235 0 1 := by rcases hr_2239 with ⟨q, -⟩ | ⟨q, -⟩ <;> rw [q] <;> exact ⟨by decide +kernel, by decide +kernel⟩
              have K_2266 : ∀  (x_2262 : Int32) (ri_2263 : Nat → Nat → Int32) (H : Heap) (locs : List Loc) (ls : Array Slot), F = g_X0_sleep_332_K96 x_2181 (g_X0_sleep_332_L30 (vI 10 σ M I) (vJ 10 σ M J) (vL 10 σ M rj) (vQ 10 σ M rq) n_2222) x_2262 (vR 10 σ M ri_2263) → FR 10 tg σ M (I, J, ri, rj, rq) (I, J, ri_2263, rj, rq) → GX [] tg σ I ri rj I ri_2263 rj rq → va_P D vwCl (pq_P t σ (I, J, ri_2263, rj, rq)) H → va_D A (pq_P t σ (I, J, ri_2263, rj, rq)) → va_S A s.heap H locs → lv_has ls 5 [(0, .ref this), (3, .int x_2262), (4, .int x_2181)] → W p l e ({ frames := 1, cells := 0, slots := 0, locals := 60 } : Room) s m (List.toArray ([.ref this, .ref a0, .int a1] : List Value)) below meth c H locs 0 0 Q (F0 m 96 ls []) := by
                intro x_2262 ri_2263 H locs ls hF hFr hG hP hD hS hl
                replace hF := hF.trans g_X0_sleep_332_K96_e
                obtain ⟨x_2267, ex_2267⟩ : ∃ y : Int32, y = x_2181 + Int32.ofInt 1 := ⟨_, rfl⟩
                replace hF := hF.trans (ap_n ex_2267)
                have h_2268 : rg x_2267 1 40 := rg_of_eq ex_2267 (rg_add h_2232 (rg_k (Int32.ofInt 1) 1 rfl) (by decide +kernel))
                refine lv_iinc (v := x_2267) (lv' := [(4, .int x_2267), (0, .ref this), (3, .int x_2262)]) hx hb dX0_sleep_96 hl (k := 2) rfl ex_2267.symm (by decide +kernel) rfl (fun ls hl => ?_)
                refine lv_goto (tgt := 30) hx hb dX0_sleep_99 (by decide +kernel) ?_
                exact ih_2224 x_2262 x_2267 ri_2263 _ _ _ (rg_w h_2268 (by decide +kernel)) (ms_up 1 hm_2221 ex_2267 rfl (by decide +kernel) h_2232 (by decide +kernel) (by decide +kernel)) hF hFr hG hP hD hS (lv_sub hl [1, 2, 0] rfl)
              refine lv_if_eq (tgt := 96) hx hb dX0_sleep_45 (by decide +kernel) (fun c_2269 => ?_) (fun c_2269 => ?_)
              · replace hF := hF.trans (if_pos c_2269)
                have f_2274 := (hr_2239.resolve_left (fun q => absurd (q.1.symm.trans c_2269) (by decide +kernel))).2
                have h_2275 : rg x_2235 0 0 := rg_and h_2242 (rg_of_eq c_2269 (rg_k (0 : Int32) 0 rfl)) (by decide +kernel)
                exact K_2266 x_2180 ri_2182 _ _ _ hF hFr hG hP hD hS (lv_sub hl [0, 1, 2] rfl)
              · replace hF := hF.trans (if_neg c_2269)
                have f_2276 := (hr_2239.resolve_right (fun q => c_2269 q.1)).2
                have h_2277 : rg x_2235 1 1 := rg_ne c_2269 h_2242 0 rfl (by decide +kernel)
                refine lv_aload_n hx hb dX0_sleep_48 rfl (lv_at hl 0 rfl) ?_
                refine pg_f (v := .ref w_1135) (C := RX0) (T := TX0) (N := 16) hx hb hts (tw_i inlX0) hown hK hP hL_this hK_this (by decide +kernel) rfl 12 (by decide +kernel) (hts _ (tw_c tw_120)) (pq_hv rfl hR_w_1135) dX0_sleep_49 ?_
                refine lv_aload_n hx hb dX0_sleep_52 rfl (lv_at hl 0 rfl) ?_
                refine pg_f (v := .ref w_2234) (C := RX0) (T := TX0) (N := 16) hx hb hts (tw_i inlX0) hown hK hP hL_this hK_this (by decide +kernel) rfl 5 (by decide +kernel) (hts _ (tw_c tw_114)) (pq_hv rfl hR_w_2234) dX0_sleep_53 ?_
                refine lv_iload hx hb dX0_sleep_56 (lv_at hl 2 rfl) ?_
                refine pl_i hx hb hK hP hL_w_2234 hK_w_2234 hN_w_2234 (rg_in h_2232 (by decide +kernel)) dX0_sleep_58 ?_
                refine lv_topi (fun x_2278 ex_2278 => ?_)
                replace hF := hF.trans (ap_n (vR_r hO_w_2234 (by decide +kernel) ex_2278))
                have h_2279 : rg x_2278 0 4 := rg_of_eq ex_2278 (f_2276)
                refine pl_i hx hb hK hP hL_w_1135 hK_w_1135 hN_w_1135 (rg_in h_2279 (by decide +kernel)) dX0_sleep_59 ?_
                refine lv_topi (fun x_2280 ex_2280 => ?_)
                replace hF := hF.trans (ap_n (vR_r hO_w_1135 (by decide +kernel) ex_2280))
                refine lv_if_le (tgt := 82) hx hb dX0_sleep_60 (by decide +kernel) (fun c_2281 => ?_) (fun c_2281 => ?_)
                · replace hF := hF.trans (if_pos c_2281)
                  have h_2284 : rg x_2280 (-2147483648) 0 := rg_le1 c_2281 (rg_full _) (rg_k (0 : Int32) 0 rfl) (by decide +kernel)
                  refine lv_aload_n hx hb dX0_sleep_82 rfl (lv_at hl 0 rfl) ?_
                  obtain ⟨w_2285, hR_w_2285, hL_w_2285, hK_w_2285, hN_w_2285, hT_w_2285⟩ := sh_a hSH 7 (ci := 0) (kd := 13) (len := 40) rfl (by decide +kernel) hL_this hK_this
                  have hO_w_2285 : w_2285 = vrow σ 7 M := vo_k (c := 0) hO_this hR_w_2285
                  refine pg_f (v := .ref w_2285) (C := RX0) (T := TX0) (N := 16) hx hb hts (tw_i inlX0) hown hK hP hL_this hK_this (by decide +kernel) rfl 7 (by decide +kernel) (hts _ (tw_c tw_116)) (pq_hv rfl hR_w_2285) dX0_sleep_83 ?_
                  refine lv_iload hx hb dX0_sleep_86 (lv_at hl 2 rfl) ?_
                  refine lv_dup2_11 hx hb dX0_sleep_88 rfl rfl ?_
                  refine pl_i hx hb hK hP hL_w_2285 hK_w_2285 hN_w_2285 (rg_in h_2232 (by decide +kernel)) dX0_sleep_89 ?_
                  refine lv_topi (fun x_2286 ex_2286 => ?_)
                  replace hF := hF.trans (ap_n (vR_r hO_w_2285 (by decide +kernel) ex_2286))
                  refine lv_iconst (v := 1) hx hb dX0_sleep_90 (by decide +kernel) ?_
                  refine lv_iadd hx hb dX0_sleep_91 ?_
                  refine lv_topi (fun x_2287 ex_2287 => ?_)
                  replace hF := hF.trans (ap_n ex_2287)
                  refine pt_i hx hb hK hP hD hS hL_w_2285 hK_w_2285 hN_w_2285 (rg_in h_2232 (by decide +kernel)) dX0_sleep_92 (fun r_2288 H locs er_2288 hP hD hS => ?_)
                  replace hFr := fr_R hFr hO_w_2285 (by decide +kernel) er_2288
                  replace hF := hF.trans (ap_n (vR_st hVT hO_w_2285 (by decide +kernel) er_2288))
                  have hG := GX.wR hG hSH hT_w_2285 rfl er_2288 (rg_w (rg_full _) (by decide +kernel)) (by decide +kernel)
                  obtain ⟨x_2289, ex_2289⟩ : ∃ y : Int32, y = x_2180 + Int32.ofInt 1 := ⟨_, rfl⟩
                  replace hF := hF.trans (ap_n ex_2289)
                  refine lv_iinc (v := x_2289) (lv' := [(3, .int x_2289), (0, .ref this), (4, .int x_2181)]) hx hb dX0_sleep_93 hl (k := 1) rfl ex_2289.symm (by decide +kernel) rfl (fun ls hl => ?_)
                  exact K_2266 x_2289 r_2288 _ _ _ hF hFr hG hP hD hS (lv_sub hl [1, 0, 2] rfl)
                · replace hF := hF.trans (if_neg c_2281)
                  have h_2290 : rg x_2280 1 2147483647 := rg_lt2 (nle c_2281) (rg_k (0 : Int32) 0 rfl) (rg_full _) (by decide +kernel)
                  refine lv_aload_n hx hb dX0_sleep_63 rfl (lv_at hl 0 rfl) ?_
                  refine pg_f (v := .ref w_1135) (C := RX0) (T := TX0) (N := 16) hx hb hts (tw_i inlX0) hown hK hP hL_this hK_this (by decide +kernel) rfl 12 (by decide +kernel) (hts _ (tw_c tw_120)) (pq_hv rfl hR_w_1135) dX0_sleep_64 ?_
                  refine lv_aload_n hx hb dX0_sleep_67 rfl (lv_at hl 0 rfl) ?_
                  refine pg_f (v := .ref w_2234) (C := RX0) (T := TX0) (N := 16) hx hb hts (tw_i inlX0) hown hK hP hL_this hK_this (by decide +kernel) rfl 5 (by decide +kernel) (hts _ (tw_c tw_114)) (pq_hv rfl hR_w_2234) dX0_sleep_68 ?_
                  refine lv_iload hx hb dX0_sleep_71 (lv_at hl 2 rfl) ?_
                  refine pl_i hx hb hK hP hL_w_2234 hK_w_2234 hN_w_2234 (rg_in h_2232 (by decide +kernel)) dX0_sleep_73 ?_
                  refine lv_tov x_2278 ex_2278.symm ?_
                  refine lv_dup2_11 hx hb dX0_sleep_74 rfl rfl ?_
                  refine pl_i hx hb hK hP hL_w_1135 hK_w_1135 hN_w_1135 (rg_in h_2279 (by decide +kernel)) dX0_sleep_75 ?_
                  refine lv_tov x_2280 ex_2280.symm ?_
                  refine lv_iconst (v := 1) hx hb dX0_sleep_76 (by decide +kernel) ?_
                  refine lv_isub hx hb dX0_sleep_77 ?_
                  refine lv_topi (fun x_2291 ex_2291 => ?_)
                  replace hF := hF.trans (ap_n ex_2291)
                  have h_2292 : rg x_2291 0 2147483646 := rg_of_eq ex_2291 (rg_sub h_2290 (rg_k (1 : Int32) 1 rfl) (by decide +kernel))
                  refine pt_i hx hb hK hP hD hS hL_w_1135 hK_w_1135 hN_w_1135 (rg_in h_2279 (by decide +kernel)) dX0_sleep_78 (fun r_2293 H locs er_2293 hP hD hS => ?_)
                  replace hFr := fr_R hFr hO_w_1135 (by decide +kernel) er_2293
                  replace hF := hF.trans (ap_n (vR_st hVT hO_w_1135 (by decide +kernel) er_2293))
                  have hG := GX.wR hG hSH hT_w_1135 rfl er_2293 (rg_w h_2292 (by decide +kernel)) (by decide +kernel)
                  refine lv_goto (tgt := 96) hx hb dX0_sleep_79 (by decide +kernel) ?_
                  exact K_2266 x_2180 r_2293 _ _ _ hF hFr hG hP hD hS (lv_sub hl [0, 1, 2] rfl)
        exact L_2223 _ (0 : Int32) (0 : Int32) r_1136 _ _ _ (rg_w (rg_k (0 : Int32) 0 rfl) (by decide +kernel)) (Nat.lt_succ_self _) hF hFr hG hP hD hS (lv_sub hl [2, 1, 0] rfl)
      · exact (rg_empty (rg_lt2 (nle c_1134) (rg_k (5 : Int32) 5 rfl) h_1133 (lo := 6) (hi := 5) (by decide +kernel)) (by decide +kernel)).elim
  exact go _ _ _ hP hD hS hl

set_option maxRecDepth 100000 in
def g_X10_reckon_K43 (I : Nat → Int32) (J : Nat → Int64) (ri : Nat → Nat → Int32) (rj : Nat → Nat → Int64) (rq : Nat → Nat → Option Nat) (tI : Nat → Nat → Int32) (tR : Nat → Nat → Nat → Int32) (x_21 : Int32) : vM := (ap1 (rj 68 (x_21).toNatClampNeg) fun (x_87 : Int64) => (ap1 (I 237) fun (y_90 : Int32) => (bnI (g_X2_countArea x_87 (y_90) I J ri rj rq) fun (x_91 : Int32) (_ : Nat → Int32) (_ : Nat → Int64) (ri_93 : Nat → Nat → Int32) (_ : Nat → Nat → Int64) (_ : Nat → Nat → Option Nat) => (ap1 (va_up I 324 x_91) fun (I_99 : Nat → Int32) => (ap1 (I_99 321) fun (y_100 : Int32) => (bnI (g_X0_sendings I_99 J ri_93 rj rq) fun (x_102 : Int32) (_ : Nat → Int32) (_ : Nat → Int64) (_ : Nat → Nat → Int32) (_ : Nat → Nat → Int64) (_ : Nat → Nat → Option Nat) => (ap1 (I_99 320) fun (y_110 : Int32) => (bnI (g_X3_leaveIn tI tR (y_110) I_99 J ri_93 rj rq) fun (x_111 : Int32) (_ : Nat → Int32) (_ : Nat → Int64) (_ : Nat → Nat → Int32) (_ : Nat → Nat → Int64) (_ : Nat → Nat → Option Nat) => (ap1 (I_99 324) fun (y_118 : Int32) => (ap1 (x_111 * (y_118)) fun (x_119 : Int32) => (ap1 (x_119 / (100 : Int32)) fun (x_120 : Int32) => (ap1 (x_102 + x_120) fun (x_121 : Int32) => (ap1 (I_99 238) fun (y_122 : Int32) => (bnI (g_X2_countWalls I_99 J ri_93 rj rq) fun (x_123 : Int32) (_ : Nat → Int32) (_ : Nat → Int64) (_ : Nat → Nat → Int32) (_ : Nat → Nat → Int64) (_ : Nat → Nat → Option Nat) => (ap1 ((y_122) * x_123) fun (x_130 : Int32) => (ap1 (x_121 - x_130) fun (x_131 : Int32) => (ap1 ((y_100) + x_131) fun (x_132 : Int32) => (ap1 (va_up I_99 321 x_132) fun (I_133 : Nat → Int32) => (ap1 (I_133 321) fun (y_134 : Int32) => (if (0 : Int32) ≤ (y_134) then (I_133, J, ri_93, rj, rq) else (ap1 (I_133 323) fun (y_140 : Int32) => (if (y_140) = (-1 : Int32) then (ap1 (I_133 320) fun (y_145 : Int32) => (ap1 (va_up I_133 323 (y_145)) fun (I_146 : Nat → Int32) => (I_146, J, ri_93, rj, rq))) else (I_133, J, ri_93, rj, rq)))))))))))))))))))))))
set_option maxRecDepth 100000 in
theorem g_X10_reckon_K43_e {I : Nat → Int32} {J : Nat → Int64} {ri : Nat → Nat → Int32} {rj : Nat → Nat → Int64} {rq : Nat → Nat → Option Nat} {tI : Nat → Nat → Int32} {tR : Nat → Nat → Nat → Int32} {x_21 : Int32} : g_X10_reckon_K43 I J ri rj rq tI tR x_21 = (ap1 (rj 68 (x_21).toNatClampNeg) fun (x_87 : Int64) => (ap1 (I 237) fun (y_90 : Int32) => (bnI (g_X2_countArea x_87 (y_90) I J ri rj rq) fun (x_91 : Int32) (_ : Nat → Int32) (_ : Nat → Int64) (ri_93 : Nat → Nat → Int32) (_ : Nat → Nat → Int64) (_ : Nat → Nat → Option Nat) => (ap1 (va_up I 324 x_91) fun (I_99 : Nat → Int32) => (ap1 (I_99 321) fun (y_100 : Int32) => (bnI (g_X0_sendings I_99 J ri_93 rj rq) fun (x_102 : Int32) (_ : Nat → Int32) (_ : Nat → Int64) (_ : Nat → Nat → Int32) (_ : Nat → Nat → Int64) (_ : Nat → Nat → Option Nat) => (ap1 (I_99 320) fun (y_110 : Int32) => (bnI (g_X3_leaveIn tI tR (y_110) I_99 J ri_93 rj rq) fun (x_111 : Int32) (_ : Nat → Int32) (_ : Nat → Int64) (_ : Nat → Nat → Int32) (_ : Nat → Nat → Int64) (_ : Nat → Nat → Option Nat) => (ap1 (I_99 324) fun (y_118 : Int32) => (ap1 (x_111 * (y_118)) fun (x_119 : Int32) => (ap1 (x_119 / (100 : Int32)) fun (x_120 : Int32) => (ap1 (x_102 + x_120) fun (x_121 : Int32) => (ap1 (I_99 238) fun (y_122 : Int32) => (bnI (g_X2_countWalls I_99 J ri_93 rj rq) fun (x_123 : Int32) (_ : Nat → Int32) (_ : Nat → Int64) (_ : Nat → Nat → Int32) (_ : Nat → Nat → Int64) (_ : Nat → Nat → Option Nat) => (ap1 ((y_122) * x_123) fun (x_130 : Int32) => (ap1 (x_121 - x_130) fun (x_131 : Int32) => (ap1 ((y_100) + x_131) fun (x_132 : Int32) => (ap1 (va_up I_99 321 x_132) fun (I_133 : Nat → Int32) => (ap1 (I_133 321) fun (y_134 : Int32) => (if (0 : Int32) ≤ (y_134) then (I_133, J, ri_93, rj, rq) else (ap1 (I_133 323) fun (y_140 : Int32) => (if (y_140) = (-1 : Int32) then (ap1 (I_133 320) fun (y_145 : Int32) => (ap1 (va_up I_133 323 (y_145)) fun (I_146 : Nat → Int32) => (I_146, J, ri_93, rj, rq))) else (I_133, J, ri_93, rj, rq))))))))))))))))))))))) := rfl
set_option maxRecDepth 100000 in
def g_X10_reckon_K39 (I : Nat → Int32) (J : Nat → Int64) (ri : Nat → Nat → Int32) (rj : Nat → Nat → Int64) (rq : Nat → Nat → Option Nat) (y_2 : Int32) (tI : Nat → Nat → Int32) (tR : Nat → Nat → Nat → Int32) : vM := (g_X10_reckon_K43 I J ri rj rq tI tR (y_2))
set_option maxRecDepth 100000 in
theorem g_X10_reckon_K39_e {I : Nat → Int32} {J : Nat → Int64} {ri : Nat → Nat → Int32} {rj : Nat → Nat → Int64} {rq : Nat → Nat → Option Nat} {y_2 : Int32} {tI : Nat → Nat → Int32} {tR : Nat → Nat → Nat → Int32} : g_X10_reckon_K39 I J ri rj rq y_2 tI tR  = (g_X10_reckon_K43 I J ri rj rq tI tR (y_2)) := rfl
set_option maxRecDepth 100000 in
def g_X10_reckon (tI : Nat → Nat → Int32) (tR : Nat → Nat → Nat → Int32) (I : Nat → Int32) (J : Nat → Int64) (ri : Nat → Nat → Int32) (rj : Nat → Nat → Int64) (rq : Nat → Nat → Option Nat) : vM := (ap1 (I 320) fun (y_2 : Int32) => (if (y_2) < (600 : Int32) then (bnI (g_X3_fixIn tI tR (y_2) I J ri rj rq) fun (x_8 : Int32) (_ : Nat → Int32) (_ : Nat → Int64) (_ : Nat → Nat → Int32) (_ : Nat → Nat → Int64) (_ : Nat → Nat → Option Nat) => (if x_8 < (0 : Int32) then (g_X10_reckon_K39 I J ri rj rq y_2 tI tR ) else (if (y_2) ≤ x_8 then (g_X10_reckon_K39 I J ri rj rq y_2 tI tR ) else (g_X10_reckon_K43 I J ri rj rq tI tR x_8)))) else (I, J, ri, rj, rq)))
set_option maxRecDepth 100000 in
theorem g_X10_reckon_e {tI : Nat → Nat → Int32} {tR : Nat → Nat → Nat → Int32} {I : Nat → Int32} {J : Nat → Int64} {ri : Nat → Nat → Int32} {rj : Nat → Nat → Int64} {rq : Nat → Nat → Option Nat} : g_X10_reckon tI tR I J ri rj rq = (ap1 (I 320) fun (y_2 : Int32) => (if (y_2) < (600 : Int32) then (bnI (g_X3_fixIn tI tR (y_2) I J ri rj rq) fun (x_8 : Int32) (_ : Nat → Int32) (_ : Nat → Int64) (_ : Nat → Nat → Int32) (_ : Nat → Nat → Int64) (_ : Nat → Nat → Option Nat) => (if x_8 < (0 : Int32) then (g_X10_reckon_K39 I J ri rj rq y_2 tI tR ) else (if (y_2) ≤ x_8 then (g_X10_reckon_K39 I J ri rj rq y_2 tI tR ) else (g_X10_reckon_K43 I J ri rj rq tI tR x_8)))) else (I, J, ri, rj, rq))) := rfl
set_option maxHeartbeats 4000000 in
set_option maxRecDepth 100000 in
theorem s_X10_reckon (l : Launch) (D : va_G) (t : pq_T) (σ : pq_S) (I : Nat → Nat → Int32) (J : Nat → Nat → Int64) (ri : Nat → Nat → Int32) (rj : Nat → Nat → Int64) (rq : Nat → Nat → Option Nat) (sz : Nat) (tg : Nat → Nat) (hSH : SH σ tg) (hG0 : GS tg σ I ri rq) (this : Nat) (hL_this : this ∈ σ.1) (hK_this : σ.2.1 this = 10) : MetV l yX10_reckon (wa yX10_reckon cX10_reckon 3 none) ({ frames := 4, cells := 0, slots := 0, locals := 94 }) [.ref this] D t σ (I, J, ri, rj, rq) sz 0 0 (fun (u : pq_S × pq_M) => ∃ I' : Nat → Nat → Int32, ∃ ri' : Nat → Nat → Int32, u = (σ, I', J, ri', rj, rq) ∧ GX [] tg σ I ri rj I' ri' rj rq ∧ g_X10_reckon (tI σ I) (tR σ ri) (vI 10 σ this I) (vJ 10 σ this J) (vR 10 σ this ri) (vL 10 σ this rj) (vQ 10 σ this rq) = ((vI 10 σ this I'), (vJ 10 σ this J), (vR 10 σ this ri'), (vL 10 σ this rj), (vQ 10 σ this rq)) ∧ FR 10 tg σ this (I, J, ri, rj, rq) (I', J, ri', rj, rq)) := by
  refine Met.ofW (cc := cX10_reckon) (maxL := 3) (ret := none) (by decide +kernel) rfl ?_
  intro p e s m args below meth c s₁ B hml hv
  obtain ⟨rfl, hsz, hP, hK, hD0, hN⟩ := hv
  have hx := B.exec
  have hb := B.bytes
  have hr := B.returns
  have hts := atoms_spec (ws := (wa yX10_reckon cX10_reckon 3 none)) B.pre
  have hown : s.vm.findClass RX10 = some m.cls := findClass_of_methodNamed B.named
  have hlocks := B.notSynchronized
  subst hsz
  have hD : va_D (pq_B t σ (I, J, ri, rj, rq) s.heap.size) (pq_P t σ (I, J, ri, rj, rq)) := hD0.self
  generalize hAe : pq_B t σ (I, J, ri, rj, rq) s.heap.size = A at hD ⊢
  have hA : ∀ q : Nat, s.heap.size ≤ q → A q := fun q h => by rw [← hAe]; exact Or.inr h
  have hS : va_S A s.heap s.heap [] := va_S.rf
  have hG : GX [] tg σ I ri rj I ri rj rq := ⟨hG0, fun _ _ _ => rfl, fun _ _ _ _ _ => rfl, fun _ _ _ _ _ => rfl⟩
  have hl := lv_entry ([.ref this]) (n := 3) (Nat.le_of_ble_eq_true rfl)
  rw [lg_entry_eq]
  generalize (lg_sl ([.ref this]) ++ List.replicate (3 - (lg_sl ([.ref this])).length) Slot.unset).toArray = ls at hl ⊢
  have hl : lv_has ls 3 [(0, .ref this)] := hl
  refine q_gen (fun Q hQ => ?_)
  have go : ∀ (H : Heap) (locs : List Loc) (ls : Array Slot), va_P D vwCl (pq_P t σ (I, J, ri, rj, rq)) H → va_D A (pq_P t σ (I, J, ri, rj, rq)) → va_S A s.heap H locs → lv_has ls 3 [(0, .ref this)] → W p l e ({ frames := 4, cells := 0, slots := 0, locals := 94 } : Room) s m (List.toArray ([.ref this] : List Value)) below meth c H locs 0 0 Q (F0 m 0 ls []) := by
    intro H locs ls hP hD hS hl
    have hO_this : this = vo σ 10 this := rfl
    have hVT : VT 10 σ tg this := vt_10 hSH hL_this hK_this
    have hFr : FR 10 tg σ this (I, J, ri, rj, rq) (I, J, ri, rj, rq) := fr_rf
    obtain ⟨F, hF0⟩ : ∃ F, F = g_X10_reckon (tI σ I) (tR σ ri) (vI 10 σ this I) (vJ 10 σ this J) (vR 10 σ this ri) (vL 10 σ this rj) (vQ 10 σ this rq) := ⟨_, rfl⟩
    have hF := hF0.trans g_X10_reckon_e
    refine lv_aload_n hx hb dX10_reckon_0 rfl (lv_at hl 0 rfl) ?_
    refine pg_f (v := .int (I 320 this)) (C := RX10) (T := TX10) (N := 13) hx hb hts (tw_i inlX10) hown hK hP hL_this hK_this (by decide +kernel) rfl 0 (by decide +kernel) (hts _ (tw_c tw_457)) rfl dX10_reckon_1 ?_
    have h_1 : rg (I 320 this) 0 600 := GX.rI hG 320 rfl
    replace hF := hF.trans (ap_n (vI_e (f := 320) hO_this (by decide +kernel)))
    refine lv_sipush (v := 600) hx hb dX10_reckon_4 (by decide +kernel) ?_
    refine lv_icmp_lt (tgt := 11) hx hb dX10_reckon_7 (by decide +kernel) (fun c_3 => ?_) (fun c_3 => ?_)
    · replace hF := hF.trans (if_pos c_3)
      have h_6 : rg (I 320 this) 0 599 := rg_lt1 c_3 h_1 (rg_k (600 : Int32) 600 rfl) (by decide +kernel)
      refine lv_aload_n hx hb dX10_reckon_11 rfl (lv_at hl 0 rfl) ?_
      obtain ⟨w_7, hR_w_7, hL_w_7, hK_w_7⟩ := sh_o hSH 329 (ci := 10) (kd := 3) rfl hL_this hK_this
      have hO_w_7 : w_7 = vo σ 3 this := vo_k (c := 10) hO_this hR_w_7
      refine pg_f (v := .ref w_7) (C := RX10) (T := TX10) (N := 13) hx hb hts (tw_i inlX10) hown hK hP hL_this hK_this (by decide +kernel) rfl 9 (by decide +kernel) (hts _ (tw_c tw_50)) (pq_hv rfl hR_w_7) dX10_reckon_12 ?_
      refine lv_aload_n hx hb dX10_reckon_15 rfl (lv_at hl 0 rfl) ?_
      refine pg_f (v := .int (I 320 this)) (C := RX10) (T := TX10) (N := 13) hx hb hts (tw_i inlX10) hown hK hP hL_this hK_this (by decide +kernel) rfl 0 (by decide +kernel) (hts _ (tw_c tw_457)) rfl dX10_reckon_16 ?_
      refine pk_i (va_runV (As := [.int (I 320 this)]) (rest := []) ⟨hx, hb, hml, hown, hts⟩ (s_X3_fixIn l D t σ I J ri rj rq H.size tg hSH hG.1 w_7 (I 320 this) hL_w_7 hK_w_7 this hL_this hK_this hO_w_7) (cwV 1 hts (tw_V tw_1133 tw_1009 tw_1010 tw_49 tw_1011) rfl rfl rfl cv_yX3_fixIn_1 ⟨Nat.le_of_ble_eq_true rfl, Nat.le_of_ble_eq_true rfl⟩) ⟨pq_blind, pq_recv hK hP hL_w_7 hK_w_7 (by decide +kernel) rfl, pq_pre hK hN hP hD⟩ rfl rfl hl.1 rfl (lv_room (Nat.le_of_ble_eq_true rfl)) dX10_reckon_19 ⟨Nat.le_of_ble_eq_true rfl, Nat.le_of_ble_eq_true rfl⟩) hD hS hA (fun x_8 σ1 μ1 H locs hw_9 hP hD hS => ?_)
      obtain ⟨hu_10, hfn_13⟩ := hw_9
      obtain ⟨hu_10a, hu_10b⟩ := Prod.mk.inj hu_10
      rw [hu_10a, hu_10b] at hP hD
      replace hF := hF.trans (bn_n hfn_13)
      refine lv_istore_n (lv' := [(1, .int x_8), (0, .ref this)]) hx hb dX10_reckon_22 rfl hl (by decide +kernel) rfl (fun ls hl => ?_)
      refine lv_iload_n hx hb dX10_reckon_23 rfl (lv_at hl 0 rfl) ?_
      have K_82 : ∀  (x_21 : Int32) (H : Heap) (locs : List Loc) (ls : Array Slot), rg x_21 0 599 → F = g_X10_reckon_K43 (vI 10 σ this I) (vJ 10 σ this J) (vR 10 σ this ri) (vL 10 σ this rj) (vQ 10 σ this rq) (tI σ I) (tR σ ri) x_21 → FR 10 tg σ this (I, J, ri, rj, rq) (I, J, ri, rj, rq) → GX [] tg σ I ri rj I ri rj rq → va_P D vwCl (pq_P t σ (I, J, ri, rj, rq)) H → va_D A (pq_P t σ (I, J, ri, rj, rq)) → va_S A s.heap H locs → lv_has ls 3 [(0, .ref this)] → W p l e ({ frames := 4, cells := 0, slots := 0, locals := 94 } : Room) s m (List.toArray ([.ref this] : List Value)) below meth c H locs 0 0 Q (F0 m 43 ls [.int x_21]) := by
        intro x_21 H locs ls h_84 hF hFr hG hP hD hS hl
        replace hF := hF.trans g_X10_reckon_K43_e
        refine lv_istore_n (lv' := [(2, .int x_21), (0, .ref this)]) hx hb dX10_reckon_43 rfl hl (by decide +kernel) rfl (fun ls hl => ?_)
        refine lv_aload_n hx hb dX10_reckon_44 rfl (lv_at hl 1 rfl) ?_
        refine lv_aload_n hx hb dX10_reckon_45 rfl (lv_at hl 1 rfl) ?_
        obtain ⟨w_85, hR_w_85, hL_w_85, hK_w_85⟩ := sh_o hSH 327 (ci := 10) (kd := 2) rfl hL_this hK_this
        have hO_w_85 : w_85 = vo σ 2 this := vo_k (c := 10) hO_this hR_w_85
        refine pg_f (v := .ref w_85) (C := RX10) (T := TX10) (N := 13) hx hb hts (tw_i inlX10) hown hK hP hL_this hK_this (by decide +kernel) rfl 7 (by decide +kernel) (hts _ (tw_c tw_42)) (pq_hv rfl hR_w_85) dX10_reckon_46 ?_
        refine lv_aload_n hx hb dX10_reckon_49 rfl (lv_at hl 1 rfl) ?_
        refine pg_f (v := .ref w_85) (C := RX10) (T := TX10) (N := 13) hx hb hts (tw_i inlX10) hown hK hP hL_this hK_this (by decide +kernel) rfl 7 (by decide +kernel) (hts _ (tw_c tw_42)) (pq_hv rfl hR_w_85) dX10_reckon_50 ?_
        obtain ⟨w_86, hR_w_86, hL_w_86, hK_w_86, hN_w_86, hT_w_86⟩ := sh_a hSH 68 (ci := 2) (kd := 14) (len := 600) rfl (by decide +kernel) hL_w_85 hK_w_85
        have hO_w_86 : w_86 = vrow σ 68 this := vo_k (c := 2) hO_w_85 hR_w_86
        refine pg_f (v := .ref w_86) (C := RX2) (T := TX2) (N := 20) hx hb hts (tw_i inlX2) hown hK hP hL_w_85 hK_w_85 (by decide +kernel) rfl 4 (by decide +kernel) (hts _ (tw_c tw_1129)) (pq_hv rfl hR_w_86) dX10_reckon_53 ?_
        refine lv_iload_n hx hb dX10_reckon_56 rfl (lv_at hl 0 rfl) ?_
        refine pl_l hx hb hK hP hL_w_86 hK_w_86 hN_w_86 (rg_in h_84 (by decide +kernel)) dX10_reckon_57 ?_
        refine lv_topl (fun x_87 ex_87 => ?_)
        replace hF := hF.trans (ap_n (vL_r hO_w_86 (by decide +kernel) ex_87))
        refine lv_aload_n hx hb dX10_reckon_58 rfl (lv_at hl 1 rfl) ?_
        obtain ⟨w_88, hR_w_88, hL_w_88, hK_w_88⟩ := sh_o hSH 326 (ci := 10) (kd := 7) rfl hL_this hK_this
        have hO_w_88 : w_88 = vo σ 7 this := vo_k (c := 10) hO_this hR_w_88
        refine pg_f (v := .ref w_88) (C := RX10) (T := TX10) (N := 13) hx hb hts (tw_i inlX10) hown hK hP hL_this hK_this (by decide +kernel) rfl 6 (by decide +kernel) (hts _ (tw_c tw_38)) (pq_hv rfl hR_w_88) dX10_reckon_59 ?_
        refine pg_f (v := .int (I 237 w_88)) (C := RX7) (T := TX7) (N := 15) hx hb hts (tw_i inlX7) hown hK hP hL_w_88 hK_w_88 (by decide +kernel) rfl 13 (by decide +kernel) (hts _ (tw_c tw_1130)) rfl dX10_reckon_62 ?_
        have h_89 : rg (I 237 w_88) 0 20 := GX.rI hG 237 rfl
        replace hF := hF.trans (ap_n (vI_e (f := 237) hO_w_88 (by decide +kernel)))
        refine pk_i (va_runV (As := [.long x_87, .int (I 237 w_88)]) (rest := [.ref this]) ⟨hx, hb, hml, hown, hts⟩ (s_X2_countArea l D t σ I J ri rj rq H.size tg hSH hG.1 w_85 x_87 (I 237 w_88) hL_w_85 hK_w_85 (rg_w h_89 (by decide +kernel)) this hL_this hK_this hO_w_85) (cwV 2 hts (tw_V tw_1134 tw_1135 tw_1136 tw_41 tw_1137) rfl rfl rfl cv_yX2_countArea_2 ⟨Nat.le_of_ble_eq_true rfl, Nat.le_of_ble_eq_true rfl⟩) ⟨pq_blind, pq_recv hK hP hL_w_85 hK_w_85 (by decide +kernel) rfl, pq_pre hK hN hP hD⟩ rfl rfl hl.1 rfl (lv_room (Nat.le_of_ble_eq_true rfl)) dX10_reckon_65 ⟨Nat.le_of_ble_eq_true rfl, Nat.le_of_ble_eq_true rfl⟩) hD hS hA (fun x_91 σ1 μ1 H locs hw_92 hP hD hS => ?_)
        obtain ⟨ri_93, hu_94, hg_95, hfn_97, hfr_98⟩ := hw_92
        obtain ⟨hu_94a, hu_94b⟩ := Prod.mk.inj hu_94
        rw [hu_94a, hu_94b] at hP hD
        replace hF := hF.trans (bn_n hfn_97)
        replace hFr := fr_tr hFr hfr_98
        have hG := GX.tr hG hg_95 (by decide +kernel)
        refine pp_i (v := x_91) (ty := .int) (C := RX10) (T := TX10) (N := 13) hx hb hts (tw_i inlX10) tyX10 tyX10_ok nmX10 hown hK hP hD hS hL_this hK_this (by decide +kernel) rfl 4 324 (by decide +kernel) (hts _ (tw_c tw_32)) rfl (tyX10_ok 4 (by decide +kernel)) rfl rfl (Nat.le_of_ble_eq_true rfl) (ps_324 _ _ _ _ _) dX10_reckon_68 (fun I_99 H locs eI_99 hP hD hS => ?_)
        replace hFr := fr_I (f := 324) hFr hO_this (by decide +kernel) eI_99
        replace hF := hF.trans (ap_n (vI_st (f := 324) hO_this (by decide +kernel) eI_99))
        have hG := GX.wI hG 324 rfl eI_99 (rg_w (rg_full _) (by decide +kernel)) (by decide +kernel)
        refine lv_aload_n hx hb dX10_reckon_71 rfl (lv_at hl 1 rfl) ?_
        refine lv_dup hx hb dX10_reckon_72 rfl ?_
        refine pg_f (v := .int (I_99 321 this)) (C := RX10) (T := TX10) (N := 13) hx hb hts (tw_i inlX10) hown hK hP hL_this hK_this (by decide +kernel) rfl 1 (by decide +kernel) (hts _ (tw_c tw_1131)) rfl dX10_reckon_73 ?_
        replace hF := hF.trans (ap_n (vI_e (f := 321) hO_this (by decide +kernel)))
        refine lv_aload_n hx hb dX10_reckon_76 rfl (lv_at hl 1 rfl) ?_
        obtain ⟨w_101, hR_w_101, hL_w_101, hK_w_101⟩ := sh_o hSH 328 (ci := 10) (kd := 0) rfl hL_this hK_this
        have hO_w_101 : w_101 = vo σ 0 this := vo_k (c := 10) hO_this hR_w_101
        refine pg_f (v := .ref w_101) (C := RX10) (T := TX10) (N := 13) hx hb hts (tw_i inlX10) hown hK hP hL_this hK_this (by decide +kernel) rfl 8 (by decide +kernel) (hts _ (tw_c tw_46)) (pq_hv rfl hR_w_101) dX10_reckon_77 ?_
        refine pk_i (va_runV (As := []) (rest := [.int (I_99 321 this), .ref this]) ⟨hx, hb, hml, hown, hts⟩ (s_X0_sendings l D t σ I_99 J ri_93 rj rq H.size tg hSH hG.1 w_101 hL_w_101 hK_w_101 this hL_this hK_this hO_w_101) (cwV 0 hts (tw_V tw_1153 tw_1154 tw_1155 tw_45 tw_1156) rfl rfl rfl cv_yX0_sendings_0 ⟨Nat.le_of_ble_eq_true rfl, Nat.le_of_ble_eq_true rfl⟩) ⟨pq_blind, pq_recv hK hP hL_w_101 hK_w_101 (by decide +kernel) rfl, pq_pre hK hN hP hD⟩ rfl rfl hl.1 rfl (lv_room (Nat.le_of_ble_eq_true rfl)) dX10_reckon_80 ⟨Nat.le_of_ble_eq_true rfl, Nat.le_of_ble_eq_true rfl⟩) hD hS hA (fun x_102 σ1 μ1 H locs hw_103 hP hD hS => ?_)
        obtain ⟨hu_104, hfn_107⟩ := hw_103
        obtain ⟨hu_104a, hu_104b⟩ := Prod.mk.inj hu_104
        rw [hu_104a, hu_104b] at hP hD
        replace hF := hF.trans (bn_n hfn_107)
        refine lv_aload_n hx hb dX10_reckon_83 rfl (lv_at hl 1 rfl) ?_
        refine pg_f (v := .ref w_7) (C := RX10) (T := TX10) (N := 13) hx hb hts (tw_i inlX10) hown hK hP hL_this hK_this (by decide +kernel) rfl 9 (by decide +kernel) (hts _ (tw_c tw_50)) (pq_hv rfl hR_w_7) dX10_reckon_84 ?_
        refine lv_aload_n hx hb dX10_reckon_87 rfl (lv_at hl 1 rfl) ?_
        refine pg_f (v := .int (I_99 320 this)) (C := RX10) (T := TX10) (N := 13) hx hb hts (tw_i inlX10) hown hK hP hL_this hK_this (by decide +kernel) rfl 0 (by decide +kernel) (hts _ (tw_c tw_457)) rfl dX10_reckon_88 ?_
        have h_109 : rg (I_99 320 this) 0 599 := (by rw [hG.2.1 320 (by decide +kernel) (by decide +kernel)]; exact h_6)
        replace hF := hF.trans (ap_n (vI_e (f := 320) hO_this (by decide +kernel)))
        refine pk_i (va_runV (As := [.int (I_99 320 this)]) (rest := [.int x_102, .int (I_99 321 this), .ref this]) ⟨hx, hb, hml, hown, hts⟩ (s_X3_leaveIn l D t σ I_99 J ri_93 rj rq H.size tg hSH hG.1 w_7 (I_99 320 this) hL_w_7 hK_w_7 this hL_this hK_this hO_w_7) (cwV 1 hts (tw_V tw_1157 tw_1005 tw_1006 tw_49 tw_1007) rfl rfl rfl cv_yX3_leaveIn_1 ⟨Nat.le_of_ble_eq_true rfl, Nat.le_of_ble_eq_true rfl⟩) ⟨pq_blind, pq_recv hK hP hL_w_7 hK_w_7 (by decide +kernel) rfl, pq_pre hK hN hP hD⟩ rfl rfl hl.1 rfl (lv_room (Nat.le_of_ble_eq_true rfl)) dX10_reckon_91 ⟨Nat.le_of_ble_eq_true rfl, Nat.le_of_ble_eq_true rfl⟩) hD hS hA (fun x_111 σ1 μ1 H locs hw_112 hP hD hS => ?_)
        obtain ⟨hu_113, hfn_116⟩ := hw_112
        obtain ⟨hu_113a, hu_113b⟩ := Prod.mk.inj hu_113
        rw [hu_113a, hu_113b] at hP hD
        rw [fr_tI hFr hVT, fr_tR hFr hVT] at hfn_116
        replace hF := hF.trans (bn_n hfn_116)
        refine lv_aload_n hx hb dX10_reckon_94 rfl (lv_at hl 1 rfl) ?_
        refine pg_f (v := .int (I_99 324 this)) (C := RX10) (T := TX10) (N := 13) hx hb hts (tw_i inlX10) hown hK hP hL_this hK_this (by decide +kernel) rfl 4 (by decide +kernel) (hts _ (tw_c tw_32)) rfl dX10_reckon_95 ?_
        replace hF := hF.trans (ap_n (vI_e (f := 324) hO_this (by decide +kernel)))
        refine lv_imul hx hb dX10_reckon_98 ?_
        refine lv_topi (fun x_119 ex_119 => ?_)
        replace hF := hF.trans (ap_n ex_119)
        refine lv_bipush (v := 100) hx hb dX10_reckon_99 (by decide +kernel) ?_
        refine lv_idiv hx hb dX10_reckon_101 (by decide +kernel) ?_
        refine lv_topi (fun x_120 ex_120 => ?_)
        replace hF := hF.trans (ap_n ex_120)
        refine lv_iadd hx hb dX10_reckon_102 ?_
        refine lv_topi (fun x_121 ex_121 => ?_)
        replace hF := hF.trans (ap_n ex_121)
        refine lv_aload_n hx hb dX10_reckon_103 rfl (lv_at hl 1 rfl) ?_
        refine pg_f (v := .ref w_88) (C := RX10) (T := TX10) (N := 13) hx hb hts (tw_i inlX10) hown hK hP hL_this hK_this (by decide +kernel) rfl 6 (by decide +kernel) (hts _ (tw_c tw_38)) (pq_hv rfl hR_w_88) dX10_reckon_104 ?_
        refine pg_f (v := .int (I_99 238 w_88)) (C := RX7) (T := TX7) (N := 15) hx hb hts (tw_i inlX7) hown hK hP hL_w_88 hK_w_88 (by decide +kernel) rfl 14 (by decide +kernel) (hts _ (tw_c tw_1132)) rfl dX10_reckon_107 ?_
        replace hF := hF.trans (ap_n (vI_e (f := 238) hO_w_88 (by decide +kernel)))
        refine lv_aload_n hx hb dX10_reckon_110 rfl (lv_at hl 1 rfl) ?_
        refine pg_f (v := .ref w_85) (C := RX10) (T := TX10) (N := 13) hx hb hts (tw_i inlX10) hown hK hP hL_this hK_this (by decide +kernel) rfl 7 (by decide +kernel) (hts _ (tw_c tw_42)) (pq_hv rfl hR_w_85) dX10_reckon_111 ?_
        refine pk_i (va_runV (As := []) (rest := [.int (I_99 238 w_88), .int x_121, .int (I_99 321 this), .ref this]) ⟨hx, hb, hml, hown, hts⟩ (s_X2_countWalls l D t σ I_99 J ri_93 rj rq H.size tg hSH hG.1 w_85 hL_w_85 hK_w_85 this hL_this hK_this hO_w_85) (cwV 0 hts (tw_V tw_1158 tw_1159 tw_1160 tw_41 tw_1161) rfl rfl rfl cv_yX2_countWalls_0 ⟨Nat.le_of_ble_eq_true rfl, Nat.le_of_ble_eq_true rfl⟩) ⟨pq_blind, pq_recv hK hP hL_w_85 hK_w_85 (by decide +kernel) rfl, pq_pre hK hN hP hD⟩ rfl rfl hl.1 rfl (lv_room (Nat.le_of_ble_eq_true rfl)) dX10_reckon_114 ⟨Nat.le_of_ble_eq_true rfl, Nat.le_of_ble_eq_true rfl⟩) hD hS hA (fun x_123 σ1 μ1 H locs hw_124 hP hD hS => ?_)
        obtain ⟨hu_125, hfn_128⟩ := hw_124
        obtain ⟨hu_125a, hu_125b⟩ := Prod.mk.inj hu_125
        rw [hu_125a, hu_125b] at hP hD
        replace hF := hF.trans (bn_n hfn_128)
        refine lv_imul hx hb dX10_reckon_117 ?_
        refine lv_topi (fun x_130 ex_130 => ?_)
        replace hF := hF.trans (ap_n ex_130)
        refine lv_isub hx hb dX10_reckon_118 ?_
        refine lv_topi (fun x_131 ex_131 => ?_)
        replace hF := hF.trans (ap_n ex_131)
        refine lv_iadd hx hb dX10_reckon_119 ?_
        refine lv_topi (fun x_132 ex_132 => ?_)
        replace hF := hF.trans (ap_n ex_132)
        refine pp_i (v := x_132) (ty := .int) (C := RX10) (T := TX10) (N := 13) hx hb hts (tw_i inlX10) tyX10 tyX10_ok nmX10 hown hK hP hD hS hL_this hK_this (by decide +kernel) rfl 1 321 (by decide +kernel) (hts _ (tw_c tw_1131)) rfl (tyX10_ok 1 (by decide +kernel)) rfl rfl (Nat.le_of_ble_eq_true rfl) (ps_321 _ _ _ _ _) dX10_reckon_120 (fun I_133 H locs eI_133 hP hD hS => ?_)
        replace hFr := fr_I (f := 321) hFr hO_this (by decide +kernel) eI_133
        replace hF := hF.trans (ap_n (vI_st (f := 321) hO_this (by decide +kernel) eI_133))
        have hG := GX.wI hG 321 rfl eI_133 (rg_w (rg_full _) (by decide +kernel)) (by decide +kernel)
        refine lv_aload_n hx hb dX10_reckon_123 rfl (lv_at hl 1 rfl) ?_
        refine pg_f (v := .int (I_133 321 this)) (C := RX10) (T := TX10) (N := 13) hx hb hts (tw_i inlX10) hown hK hP hL_this hK_this (by decide +kernel) rfl 1 (by decide +kernel) (hts _ (tw_c tw_1131)) rfl dX10_reckon_124 ?_
        replace hF := hF.trans (ap_n (vI_e (f := 321) hO_this (by decide +kernel)))
        refine lv_if_ge (tgt := 146) hx hb dX10_reckon_127 (by decide +kernel) (fun c_135 => ?_) (fun c_135 => ?_)
        · replace hF := hF.trans (if_pos c_135)
          have h_138 : rg (I_133 321 this) 0 2147483647 := rg_le2 c_135 (rg_k (0 : Int32) 0 rfl) (rg_full _) (by decide +kernel)
          subst hQ
          exact W.vret hx hb hr (fun t1 ht hW => ⟨⟨(σ, I_133, J, ri_93, rj, rq), rfl, ⟨I_133, ri_93, rfl, hG, (hF0.symm.trans hF), hFr⟩, by rw [ht]; exact hP, va_K.moved hW.alike hK, hD⟩, hS.F ht⟩) hS.2.2 dX10_reckon_146
        · replace hF := hF.trans (if_neg c_135)
          have h_139 : rg (I_133 321 this) (-2147483648) (-1) := rg_lt1 (nle c_135) (rg_full _) (rg_k (0 : Int32) 0 rfl) (by decide +kernel)
          refine lv_aload_n hx hb dX10_reckon_130 rfl (lv_at hl 1 rfl) ?_
          refine pg_f (v := .int (I_133 323 this)) (C := RX10) (T := TX10) (N := 13) hx hb hts (tw_i inlX10) hown hK hP hL_this hK_this (by decide +kernel) rfl 3 (by decide +kernel) (hts _ (tw_c tw_31)) rfl dX10_reckon_131 ?_
          replace hF := hF.trans (ap_n (vI_e (f := 323) hO_this (by decide +kernel)))
          refine lv_iconst (v := (-1)) hx hb dX10_reckon_134 (by decide +kernel) ?_
          refine lv_icmp_ne (tgt := 146) hx hb dX10_reckon_135 (by decide +kernel) (fun c_141 => ?_) (fun c_141 => ?_)
          · replace hF := hF.trans (if_neg c_141)
            subst hQ
            exact W.vret hx hb hr (fun t1 ht hW => ⟨⟨(σ, I_133, J, ri_93, rj, rq), rfl, ⟨I_133, ri_93, rfl, hG, (hF0.symm.trans hF), hFr⟩, by rw [ht]; exact hP, va_K.moved hW.alike hK, hD⟩, hS.F ht⟩) hS.2.2 dX10_reckon_146
          · replace hF := hF.trans (if_pos c_141)
            have h_143 : rg (I_133 323 this) (-1) (-1) := rg_and (rg_full _) (rg_of_eq c_141 (rg_k (-1 : Int32) (-1) rfl)) (by decide +kernel)
            refine lv_aload_n hx hb dX10_reckon_138 rfl (lv_at hl 1 rfl) ?_
            refine lv_aload_n hx hb dX10_reckon_139 rfl (lv_at hl 1 rfl) ?_
            refine pg_f (v := .int (I_133 320 this)) (C := RX10) (T := TX10) (N := 13) hx hb hts (tw_i inlX10) hown hK hP hL_this hK_this (by decide +kernel) rfl 0 (by decide +kernel) (hts _ (tw_c tw_457)) rfl dX10_reckon_140 ?_
            have h_144 : rg (I_133 320 this) 0 599 := (by rw [hG.2.1 320 (by decide +kernel) (by decide +kernel)]; exact h_6)
            replace hF := hF.trans (ap_n (vI_e (f := 320) hO_this (by decide +kernel)))
            refine pp_i (v := (I_133 320 this)) (ty := .int) (C := RX10) (T := TX10) (N := 13) hx hb hts (tw_i inlX10) tyX10 tyX10_ok nmX10 hown hK hP hD hS hL_this hK_this (by decide +kernel) rfl 3 323 (by decide +kernel) (hts _ (tw_c tw_31)) rfl (tyX10_ok 3 (by decide +kernel)) rfl rfl (Nat.le_of_ble_eq_true rfl) (ps_323 _ _ _ _ _) dX10_reckon_143 (fun I_146 H locs eI_146 hP hD hS => ?_)
            replace hFr := fr_I (f := 323) hFr hO_this (by decide +kernel) eI_146
            replace hF := hF.trans (ap_n (vI_st (f := 323) hO_this (by decide +kernel) eI_146))
            have hG := GX.wI hG 323 rfl eI_146 (rg_w h_144 (by decide +kernel)) (by decide +kernel)
            subst hQ
            exact W.vret hx hb hr (fun t1 ht hW => ⟨⟨(σ, I_146, J, ri_93, rj, rq), rfl, ⟨I_146, ri_93, rfl, hG, (hF0.symm.trans hF), hFr⟩, by rw [ht]; exact hP, va_K.moved hW.alike hK, hD⟩, hS.F ht⟩) hS.2.2 dX10_reckon_146
      have K_147 : ∀  (H : Heap) (locs : List Loc) (ls : Array Slot), F = g_X10_reckon_K39 (vI 10 σ this I) (vJ 10 σ this J) (vR 10 σ this ri) (vL 10 σ this rj) (vQ 10 σ this rq) (I 320 this) (tI σ I) (tR σ ri)  → FR 10 tg σ this (I, J, ri, rj, rq) (I, J, ri, rj, rq) → GX [] tg σ I ri rj I ri rj rq → va_P D vwCl (pq_P t σ (I, J, ri, rj, rq)) H → va_D A (pq_P t σ (I, J, ri, rj, rq)) → va_S A s.heap H locs → lv_has ls 3 [(0, .ref this)] → W p l e ({ frames := 4, cells := 0, slots := 0, locals := 94 } : Room) s m (List.toArray ([.ref this] : List Value)) below meth c H locs 0 0 Q (F0 m 39 ls []) := by
        intro H locs ls hF hFr hG hP hD hS hl
        replace hF := hF.trans g_X10_reckon_K39_e
        refine lv_aload_n hx hb dX10_reckon_39 rfl (lv_at hl 0 rfl) ?_
        refine pg_f (v := .int (I 320 this)) (C := RX10) (T := TX10) (N := 13) hx hb hts (tw_i inlX10) hown hK hP hL_this hK_this (by decide +kernel) rfl 0 (by decide +kernel) (hts _ (tw_c tw_457)) rfl dX10_reckon_40 ?_
        exact K_82 (I 320 this) _ _ _ (rg_w h_6 (by decide +kernel)) hF hFr hG hP hD hS (lv_sub hl [0] rfl)
      refine lv_if_lt (tgt := 39) hx hb dX10_reckon_24 (by decide +kernel) (fun c_148 => ?_) (fun c_148 => ?_)
      · replace hF := hF.trans (if_pos c_148)
        have h_151 : rg x_8 (-2147483648) (-1) := rg_lt1 c_148 (rg_full _) (rg_k (0 : Int32) 0 rfl) (by decide +kernel)
        exact K_147 _ _ _ hF hFr hG hP hD hS (lv_sub hl [1] rfl)
      · replace hF := hF.trans (if_neg c_148)
        have h_152 : rg x_8 0 2147483647 := rg_le2 (nlt c_148) (rg_k (0 : Int32) 0 rfl) (rg_full _) (by decide +kernel)
        refine lv_iload_n hx hb dX10_reckon_27 rfl (lv_at hl 0 rfl) ?_
        refine lv_aload_n hx hb dX10_reckon_28 rfl (lv_at hl 1 rfl) ?_
        refine pg_f (v := .int (I 320 this)) (C := RX10) (T := TX10) (N := 13) hx hb hts (tw_i inlX10) hown hK hP hL_this hK_this (by decide +kernel) rfl 0 (by decide +kernel) (hts _ (tw_c tw_457)) rfl dX10_reckon_29 ?_
        refine lv_icmp_ge (tgt := 39) hx hb dX10_reckon_32 (by decide +kernel) (fun c_153 => ?_) (fun c_153 => ?_)
        · replace hF := hF.trans (if_pos c_153)
          exact K_147 _ _ _ hF hFr hG hP hD hS (lv_sub hl [1] rfl)
        · replace hF := hF.trans (if_neg c_153)
          have h_156 : rg x_8 0 598 := rg_lt1 (nle c_153) h_152 h_6 (by decide +kernel)
          have h_157 : rg (I 320 this) 1 599 := rg_lt2 (nle c_153) h_152 h_6 (by decide +kernel)
          refine lv_iload_n hx hb dX10_reckon_35 rfl (lv_at hl 0 rfl) ?_
          refine lv_goto (tgt := 43) hx hb dX10_reckon_36 (by decide +kernel) ?_
          exact K_82 x_8 _ _ _ (rg_w h_156 (by decide +kernel)) hF hFr hG hP hD hS (lv_sub hl [1] rfl)
    · replace hF := hF.trans (if_neg c_3)
      have h_158 : rg (I 320 this) 600 600 := rg_le2 (nlt c_3) (rg_k (600 : Int32) 600 rfl) h_1 (by decide +kernel)
      subst hQ
      exact W.vret hx hb hr (fun t1 ht hW => ⟨⟨(σ, I, J, ri, rj, rq), rfl, ⟨I, ri, rfl, hG, (hF0.symm.trans hF), hFr⟩, by rw [ht]; exact hP, va_K.moved hW.alike hK, hD⟩, hS.F ht⟩) hS.2.2 dX10_reckon_10
  exact go _ _ _ hP hD hS hl
theorem dX3_line_0 : decode cX3_line 0 = .ok (.aload_n 3, 1) := oc_45 (by decide +kernel)
theorem dX3_line_1 : decode cX3_line 1 = .ok (.getfield 60, 3) := oc_180 (a := 0) (b := 60) (by decide +kernel)
theorem dX3_line_4 : decode cX3_line 4 = .ok (.aload 4, 2) := oc_25 (by decide +kernel)
theorem dX3_line_6 : decode cX3_line 6 = .ok (.arraylength, 1) := oc_190 (by decide +kernel)
theorem tw_466 : Cond.methodLink RX3 80 Lib.Math.min.name ∈ wsL_law := sg_20 _ (List.mem_of_getElem? (i := 10) rfl)
theorem dX3_line_7 : decode cX3_line 7 = .ok (.invokestatic 80, 3) := oc_184 (a := 0) (b := 80) (by decide +kernel)
theorem dX3_line_10 : decode cX3_line 10 = .ok (.istore 5, 2) := oc_54 (by decide +kernel)
theorem dX3_line_12 : decode cX3_line 12 = .ok (.iconst 0, 1) := oc_3 (by decide +kernel)
theorem dX3_line_13 : decode cX3_line 13 = .ok (.istore 6, 2) := oc_54 (by decide +kernel)
theorem dX3_line_15 : decode cX3_line 15 = .ok (.iload 6, 2) := oc_21 (by decide +kernel)
theorem dX3_line_17 : decode cX3_line 17 = .ok (.iload 5, 2) := oc_21 (by decide +kernel)
theorem dX3_line_19 : decode cX3_line 19 = .ok (.if_icmp .ge 16, 3) := oc_162 (a := 0) (b := 16) (by decide +kernel)
theorem dX3_line_35 : decode cX3_line 35 = .ok (.aload_n 0, 1) := oc_42 (by decide +kernel)
theorem dX3_line_36 : decode cX3_line 36 = .ok (.iload_n 1, 1) := oc_27 (by decide +kernel)
theorem dX3_line_37 : decode cX3_line 37 = .ok (.iload_n 2, 1) := oc_28 (by decide +kernel)
theorem dX3_line_38 : decode cX3_line 38 = .ok (.invokevirtual 52, 3) := oc_182 (a := 0) (b := 52) (by decide +kernel)
theorem dX3_line_41 : decode cX3_line 41 = .ok (.astore 6, 2) := oc_58 (by decide +kernel)
theorem dX3_line_43 : decode cX3_line 43 = .ok (.aload 6, 2) := oc_25 (by decide +kernel)
theorem dX3_line_45 : decode cX3_line 45 = .ok (.ifnonnull 4, 3) := oc_199 (a := 0) (b := 4) (by decide +kernel)
theorem dX3_line_48 : decode cX3_line 48 = .ok (.return_, 1) := oc_177 (by decide +kernel)
theorem dX3_line_49 : decode cX3_line 49 = .ok (.aload 6, 2) := oc_25 (by decide +kernel)
theorem dX3_line_51 : decode cX3_line 51 = .ok (.iload_n 1, 1) := oc_27 (by decide +kernel)
theorem dX3_line_52 : decode cX3_line 52 = .ok (.invokevirtual 44, 3) := oc_182 (a := 0) (b := 44) (by decide +kernel)
theorem dX3_line_55 : decode cX3_line 55 = .ok (.istore 7, 2) := oc_54 (by decide +kernel)
theorem dX3_line_57 : decode cX3_line 57 = .ok (.iconst 1, 1) := oc_4 (by decide +kernel)
theorem dX3_line_58 : decode cX3_line 58 = .ok (.istore 8, 2) := oc_54 (by decide +kernel)
theorem dX3_line_60 : decode cX3_line 60 = .ok (.iload 8, 2) := oc_21 (by decide +kernel)
theorem dX3_line_62 : decode cX3_line 62 = .ok (.iload 5, 2) := oc_21 (by decide +kernel)
theorem dX3_line_64 : decode cX3_line 64 = .ok (.if_icmp .ge 70, 3) := oc_162 (a := 0) (b := 70) (by decide +kernel)
theorem dX3_line_134 : decode cX3_line 134 = .ok (.return_, 1) := oc_177 (by decide +kernel)
theorem dX3_line_67 : decode cX3_line 67 = .ok (.aload 4, 2) := oc_25 (by decide +kernel)
theorem dX3_line_69 : decode cX3_line 69 = .ok (.iload 8, 2) := oc_21 (by decide +kernel)
theorem dX3_line_71 : decode cX3_line 71 = .ok (.iaload, 1) := oc_46 (by decide +kernel)
theorem dX3_line_72 : decode cX3_line 72 = .ok (.istore 9, 2) := oc_54 (by decide +kernel)
theorem dX3_line_74 : decode cX3_line 74 = .ok (.iload 8, 2) := oc_21 (by decide +kernel)
theorem dX3_line_76 : decode cX3_line 76 = .ok (.istore 10, 2) := oc_54 (by decide +kernel)
theorem dX3_line_78 : decode cX3_line 78 = .ok (.iload 10, 2) := oc_21 (by decide +kernel)
theorem dX3_line_121 : decode cX3_line 121 = .ok (.aload 4, 2) := oc_25 (by decide +kernel)
theorem dX3_line_123 : decode cX3_line 123 = .ok (.iload 10, 2) := oc_21 (by decide +kernel)
theorem dX3_line_125 : decode cX3_line 125 = .ok (.iload 9, 2) := oc_21 (by decide +kernel)
theorem dX3_line_127 : decode cX3_line 127 = .ok (.iastore, 1) := oc_79 (by decide +kernel)
theorem dX3_line_128 : decode cX3_line 128 = .ok (.iinc 8 1, 3) := oc_132 (b := 1) (by decide +kernel)
theorem dX3_line_131 : decode cX3_line 131 = .ok (.goto (-71), 3) := oc_167 (a := 255) (b := 185) (by decide +kernel)
theorem dX3_line_80 : decode cX3_line 80 = .ok (.ifCond .le 41, 3) := oc_158 (a := 0) (b := 41) (by decide +kernel)
theorem dX3_line_83 : decode cX3_line 83 = .ok (.aload 6, 2) := oc_25 (by decide +kernel)
theorem dX3_line_85 : decode cX3_line 85 = .ok (.iload 7, 2) := oc_21 (by decide +kernel)
theorem dX3_line_87 : decode cX3_line 87 = .ok (.aload_n 3, 1) := oc_45 (by decide +kernel)
theorem dX3_line_88 : decode cX3_line 88 = .ok (.iload 9, 2) := oc_21 (by decide +kernel)
theorem dX3_line_90 : decode cX3_line 90 = .ok (.aload 4, 2) := oc_25 (by decide +kernel)
theorem dX3_line_92 : decode cX3_line 92 = .ok (.iload 10, 2) := oc_21 (by decide +kernel)
theorem dX3_line_94 : decode cX3_line 94 = .ok (.iconst 1, 1) := oc_4 (by decide +kernel)
theorem dX3_line_95 : decode cX3_line 95 = .ok (.isub, 1) := oc_100 (by decide +kernel)
theorem dX3_line_96 : decode cX3_line 96 = .ok (.iaload, 1) := oc_46 (by decide +kernel)
theorem tw_479 : Cond.methodLink RX3 85 yX8_isAhead ∈ wsL_law := sg_20 _ (List.mem_of_getElem? (i := 23) rfl)
theorem tw_480 : Cond.instanceMethod yX8_isAhead ∈ wsL_law := sg_21 _ (List.mem_of_getElem? (i := 0) rfl)
theorem tw_481 : Cond.selects RX8 yX8_isAhead yX8_isAhead ∈ wsL_law := sg_21 _ (List.mem_of_getElem? (i := 1) rfl)
theorem tw_482 : Cond.code yX8_isAhead cX8_isAhead 8 (some .boolean) ∈ wsL_law := sg_21 _ (List.mem_of_getElem? (i := 2) rfl)
theorem dX3_line_97 : decode cX3_line 97 = .ok (.invokevirtual 85, 3) := oc_182 (a := 0) (b := 85) (by decide +kernel)
theorem dX3_line_100 : decode cX3_line 100 = .ok (.ifCond .eq 21, 3) := oc_153 (a := 0) (b := 21) (by decide +kernel)
theorem dX3_line_103 : decode cX3_line 103 = .ok (.aload 4, 2) := oc_25 (by decide +kernel)
theorem dX3_line_105 : decode cX3_line 105 = .ok (.iload 10, 2) := oc_21 (by decide +kernel)
theorem dX3_line_107 : decode cX3_line 107 = .ok (.aload 4, 2) := oc_25 (by decide +kernel)
theorem dX3_line_109 : decode cX3_line 109 = .ok (.iload 10, 2) := oc_21 (by decide +kernel)
theorem dX3_line_111 : decode cX3_line 111 = .ok (.iconst 1, 1) := oc_4 (by decide +kernel)
theorem dX3_line_112 : decode cX3_line 112 = .ok (.isub, 1) := oc_100 (by decide +kernel)
theorem dX3_line_113 : decode cX3_line 113 = .ok (.iaload, 1) := oc_46 (by decide +kernel)
theorem dX3_line_114 : decode cX3_line 114 = .ok (.iastore, 1) := oc_79 (by decide +kernel)
theorem dX3_line_115 : decode cX3_line 115 = .ok (.iinc 10 (-1), 3) := oc_132 (b := 255) (by decide +kernel)
theorem dX3_line_118 : decode cX3_line 118 = .ok (.goto (-40), 3) := oc_167 (a := 255) (b := 216) (by decide +kernel)
theorem dX3_line_22 : decode cX3_line 22 = .ok (.aload 4, 2) := oc_25 (by decide +kernel)
theorem dX3_line_24 : decode cX3_line 24 = .ok (.iload 6, 2) := oc_21 (by decide +kernel)
theorem dX3_line_26 : decode cX3_line 26 = .ok (.iload 6, 2) := oc_21 (by decide +kernel)
theorem dX3_line_28 : decode cX3_line 28 = .ok (.iastore, 1) := oc_79 (by decide +kernel)
theorem dX3_line_29 : decode cX3_line 29 = .ok (.iinc 6 1, 3) := oc_132 (b := 1) (by decide +kernel)
theorem dX3_line_32 : decode cX3_line 32 = .ok (.goto (-17), 3) := oc_167 (a := 255) (b := 239) (by decide +kernel)
theorem dX10_goBy_0 : decode cX10_goBy 0 = .ok (.aload_n 0, 1) := oc_42 (by decide +kernel)
theorem dX10_goBy_1 : decode cX10_goBy 1 = .ok (.getfield 67, 3) := oc_180 (a := 0) (b := 67) (by decide +kernel)
theorem dX10_goBy_4 : decode cX10_goBy 4 = .ok (.sipush 600, 3) := oc_17 (a := 2) (b := 88) (by decide +kernel)
theorem dX10_goBy_7 : decode cX10_goBy 7 = .ok (.if_icmp .lt 4, 3) := oc_161 (a := 0) (b := 4) (by decide +kernel)
theorem dX10_goBy_11 : decode cX10_goBy 11 = .ok (.aload_n 0, 1) := oc_42 (by decide +kernel)
theorem dX10_goBy_12 : decode cX10_goBy 12 = .ok (.iload_n 1, 1) := oc_27 (by decide +kernel)
theorem tw_1047 : Cond.methodLink RX10 96 yX10_nature ∈ wsL_law := sg_44 _ (List.mem_of_getElem? (i := 15) rfl)
theorem dX10_goBy_13 : decode cX10_goBy 13 = .ok (.invokevirtual 96, 3) := oc_182 (a := 0) (b := 96) (by decide +kernel)
theorem dX10_goBy_16 : decode cX10_goBy 16 = .ok (.aload_n 0, 1) := oc_42 (by decide +kernel)
theorem dX10_goBy_17 : decode cX10_goBy 17 = .ok (.getfield 32, 3) := oc_180 (a := 0) (b := 32) (by decide +kernel)
theorem tw_1043 : Cond.fieldLink RX10 100 "RingsUnder$Land" "wells" "LRingsUnder$Wells;" ∈ wsL_law := sg_44 _ (List.mem_of_getElem? (i := 11) rfl)
theorem dX10_goBy_20 : decode cX10_goBy 20 = .ok (.getfield 100, 3) := oc_180 (a := 0) (b := 100) (by decide +kernel)
theorem dX10_goBy_23 : decode cX10_goBy 23 = .ok (.aload_n 0, 1) := oc_42 (by decide +kernel)
theorem dX10_goBy_24 : decode cX10_goBy 24 = .ok (.getfield 32, 3) := oc_180 (a := 0) (b := 32) (by decide +kernel)
theorem tw_498 : Cond.fieldLink RX10 104 "RingsUnder$Land" "cells" "I" ∈ wsL_law := sg_21 _ (List.mem_of_getElem? (i := 18) rfl)
theorem dX10_goBy_27 : decode cX10_goBy 27 = .ok (.getfield 104, 3) := oc_180 (a := 0) (b := 104) (by decide +kernel)
theorem dX10_goBy_30 : decode cX10_goBy 30 = .ok (.aload_n 0, 1) := oc_42 (by decide +kernel)
theorem dX10_goBy_31 : decode cX10_goBy 31 = .ok (.getfield 32, 3) := oc_180 (a := 0) (b := 32) (by decide +kernel)
theorem tw_1044 : Cond.fieldLink RX10 107 "RingsUnder$Land" "dry" "J" ∈ wsL_law := sg_44 _ (List.mem_of_getElem? (i := 12) rfl)
theorem dX10_goBy_34 : decode cX10_goBy 34 = .ok (.getfield 107, 3) := oc_180 (a := 0) (b := 107) (by decide +kernel)
theorem dX10_goBy_37 : decode cX10_goBy 37 = .ok (.aload_n 0, 1) := oc_42 (by decide +kernel)
theorem dX10_goBy_38 : decode cX10_goBy 38 = .ok (.getfield 25, 3) := oc_180 (a := 0) (b := 25) (by decide +kernel)
theorem tw_1045 : Cond.fieldLink RX10 111 "RingsUnder$Seas" "rain" "[I" ∈ wsL_law := sg_44 _ (List.mem_of_getElem? (i := 13) rfl)
theorem dX10_goBy_41 : decode cX10_goBy 41 = .ok (.getfield 111, 3) := oc_180 (a := 0) (b := 111) (by decide +kernel)
theorem dX10_goBy_44 : decode cX10_goBy 44 = .ok (.aload_n 0, 1) := oc_42 (by decide +kernel)
theorem dX10_goBy_45 : decode cX10_goBy 45 = .ok (.getfield 67, 3) := oc_180 (a := 0) (b := 67) (by decide +kernel)
theorem dX10_goBy_48 : decode cX10_goBy 48 = .ok (.bipush 12, 2) := oc_16 (a := 12) (by decide +kernel)
theorem dX10_goBy_50 : decode cX10_goBy 50 = .ok (.irem, 1) := oc_112 (by decide +kernel)
theorem dX10_goBy_51 : decode cX10_goBy 51 = .ok (.iaload, 1) := oc_46 (by decide +kernel)
theorem tw_1083 : Cond.methodLink RX10 114 yX9_fillUp ∈ wsL_law := sg_46 _ (List.mem_of_getElem? (i := 3) rfl)
theorem dX10_goBy_52 : decode cX10_goBy 52 = .ok (.invokevirtual 114, 3) := oc_182 (a := 0) (b := 114) (by decide +kernel)
theorem dX10_goBy_55 : decode cX10_goBy 55 = .ok (.aload_n 0, 1) := oc_42 (by decide +kernel)
theorem dX10_goBy_56 : decode cX10_goBy 56 = .ok (.getfield 32, 3) := oc_180 (a := 0) (b := 32) (by decide +kernel)
theorem dX10_goBy_59 : decode cX10_goBy 59 = .ok (.aload_n 0, 1) := oc_42 (by decide +kernel)
theorem tw_56 : Cond.fieldLink RX10 60 "RingsUnder$World" "ringBeds" "[I" ∈ wsL_law := sg_3 _ (List.mem_of_getElem? (i := 8) rfl)
theorem dX10_goBy_60 : decode cX10_goBy 60 = .ok (.getfield 60, 3) := oc_180 (a := 0) (b := 60) (by decide +kernel)
theorem dX10_goBy_63 : decode cX10_goBy 63 = .ok (.iconst 0, 1) := oc_3 (by decide +kernel)
theorem tw_1090 : Cond.methodLink RX10 120 yX2_countBeds ∈ wsL_law := sg_46 _ (List.mem_of_getElem? (i := 10) rfl)
theorem dX10_goBy_64 : decode cX10_goBy 64 = .ok (.invokevirtual 120, 3) := oc_182 (a := 0) (b := 120) (by decide +kernel)
theorem dX10_goBy_67 : decode cX10_goBy 67 = .ok (.aload_n 0, 1) := oc_42 (by decide +kernel)
theorem dX10_goBy_68 : decode cX10_goBy 68 = .ok (.getfield 39, 3) := oc_180 (a := 0) (b := 39) (by decide +kernel)
theorem dX10_goBy_71 : decode cX10_goBy 71 = .ok (.aload_n 0, 1) := oc_42 (by decide +kernel)
theorem dX10_goBy_72 : decode cX10_goBy 72 = .ok (.getfield 32, 3) := oc_180 (a := 0) (b := 32) (by decide +kernel)
theorem tw_1094 : Cond.methodLink RX10 123 yX0_drink ∈ wsL_law := sg_46 _ (List.mem_of_getElem? (i := 14) rfl)
theorem dX10_goBy_75 : decode cX10_goBy 75 = .ok (.invokevirtual 123, 3) := oc_182 (a := 0) (b := 123) (by decide +kernel)
theorem dX10_goBy_78 : decode cX10_goBy 78 = .ok (.pop, 1) := oc_87 (by decide +kernel)
theorem dX10_goBy_79 : decode cX10_goBy 79 = .ok (.aload_n 0, 1) := oc_42 (by decide +kernel)
theorem dX10_goBy_80 : decode cX10_goBy 80 = .ok (.getfield 39, 3) := oc_180 (a := 0) (b := 39) (by decide +kernel)
theorem dX10_goBy_83 : decode cX10_goBy 83 = .ok (.aload_n 0, 1) := oc_42 (by decide +kernel)
theorem dX10_goBy_84 : decode cX10_goBy 84 = .ok (.getfield 60, 3) := oc_180 (a := 0) (b := 60) (by decide +kernel)
theorem dX10_goBy_87 : decode cX10_goBy 87 = .ok (.iconst 0, 1) := oc_3 (by decide +kernel)
theorem tw_1120 : Cond.methodLink RX10 127 yX0_sleep ∈ wsL_law := sg_47 _ (List.mem_of_getElem? (i := 16) rfl)
theorem dX10_goBy_88 : decode cX10_goBy 88 = .ok (.invokevirtual 127, 3) := oc_182 (a := 0) (b := 127) (by decide +kernel)
theorem dX10_goBy_91 : decode cX10_goBy 91 = .ok (.pop, 1) := oc_87 (by decide +kernel)
theorem dX10_goBy_92 : decode cX10_goBy 92 = .ok (.aload_n 0, 1) := oc_42 (by decide +kernel)
theorem tw_1125 : Cond.methodLink RX10 131 yX10_reckon ∈ wsL_law := sg_47 _ (List.mem_of_getElem? (i := 21) rfl)
theorem tw_1126 : Cond.instanceMethod yX10_reckon ∈ wsL_law := sg_47 _ (List.mem_of_getElem? (i := 22) rfl)
theorem tw_1127 : Cond.selects RX10 yX10_reckon yX10_reckon ∈ wsL_law := sg_47 _ (List.mem_of_getElem? (i := 23) rfl)
theorem tw_1128 : Cond.code yX10_reckon cX10_reckon 3 none ∈ wsL_law := sg_48 _ (List.mem_of_getElem? (i := 0) rfl)
theorem dX10_goBy_93 : decode cX10_goBy 93 = .ok (.invokevirtual 131, 3) := oc_182 (a := 0) (b := 131) (by decide +kernel)
theorem dX10_goBy_96 : decode cX10_goBy 96 = .ok (.aload_n 0, 1) := oc_42 (by decide +kernel)
theorem dX10_goBy_97 : decode cX10_goBy 97 = .ok (.getfield 73, 3) := oc_180 (a := 0) (b := 73) (by decide +kernel)
theorem dX10_goBy_174 : decode cX10_goBy 174 = .ok (.aload_n 0, 1) := oc_42 (by decide +kernel)
theorem dX10_goBy_175 : decode cX10_goBy 175 = .ok (.dup, 1) := oc_89 (by decide +kernel)
theorem dX10_goBy_176 : decode cX10_goBy 176 = .ok (.getfield 67, 3) := oc_180 (a := 0) (b := 67) (by decide +kernel)
theorem dX10_goBy_179 : decode cX10_goBy 179 = .ok (.iconst 1, 1) := oc_4 (by decide +kernel)
theorem dX10_goBy_180 : decode cX10_goBy 180 = .ok (.iadd, 1) := oc_96 (by decide +kernel)
theorem dX10_goBy_181 : decode cX10_goBy 181 = .ok (.putfield 67, 3) := oc_181 (a := 0) (b := 67) (by decide +kernel)
theorem dX10_goBy_184 : decode cX10_goBy 184 = .ok (.return_, 1) := oc_177 (by decide +kernel)
theorem dX10_goBy_100 : decode cX10_goBy 100 = .ok (.ifCond .le 74, 3) := oc_158 (a := 0) (b := 74) (by decide +kernel)
theorem dX10_goBy_103 : decode cX10_goBy 103 = .ok (.aload_n 0, 1) := oc_42 (by decide +kernel)
theorem dX10_goBy_104 : decode cX10_goBy 104 = .ok (.getfield 46, 3) := oc_180 (a := 0) (b := 46) (by decide +kernel)
theorem dX10_goBy_107 : decode cX10_goBy 107 = .ok (.iconst 4, 1) := oc_7 (by decide +kernel)
theorem dX10_goBy_108 : decode cX10_goBy 108 = .ok (.aload_n 0, 1) := oc_42 (by decide +kernel)
theorem dX10_goBy_109 : decode cX10_goBy 109 = .ok (.getfield 67, 3) := oc_180 (a := 0) (b := 67) (by decide +kernel)
theorem dX10_goBy_112 : decode cX10_goBy 112 = .ok (.aload_n 0, 1) := oc_42 (by decide +kernel)
theorem dX10_goBy_113 : decode cX10_goBy 113 = .ok (.getfield 39, 3) := oc_180 (a := 0) (b := 39) (by decide +kernel)
theorem dX10_goBy_116 : decode cX10_goBy 116 = .ok (.aload_n 0, 1) := oc_42 (by decide +kernel)
theorem tw_55 : Cond.fieldLink RX10 57 "RingsUnder$World" "queue" "[I" ∈ wsL_law := sg_3 _ (List.mem_of_getElem? (i := 7) rfl)
theorem dX10_goBy_117 : decode cX10_goBy 117 = .ok (.getfield 57, 3) := oc_180 (a := 0) (b := 57) (by decide +kernel)
theorem tw_461 : Cond.methodLink RX10 134 yX3_line ∈ wsL_law := sg_20 _ (List.mem_of_getElem? (i := 5) rfl)
theorem tw_462 : Cond.instanceMethod yX3_line ∈ wsL_law := sg_20 _ (List.mem_of_getElem? (i := 6) rfl)
theorem tw_463 : Cond.selects RX3 yX3_line yX3_line ∈ wsL_law := sg_20 _ (List.mem_of_getElem? (i := 7) rfl)
theorem tw_464 : Cond.code yX3_line cX3_line 11 none ∈ wsL_law := sg_20 _ (List.mem_of_getElem? (i := 8) rfl)
theorem dX10_goBy_120 : decode cX10_goBy 120 = .ok (.invokevirtual 134, 3) := oc_182 (a := 0) (b := 134) (by decide +kernel)
theorem dX10_goBy_123 : decode cX10_goBy 123 = .ok (.aload_n 0, 1) := oc_42 (by decide +kernel)
theorem dX10_goBy_124 : decode cX10_goBy 124 = .ok (.getfield 46, 3) := oc_180 (a := 0) (b := 46) (by decide +kernel)
theorem dX10_goBy_127 : decode cX10_goBy 127 = .ok (.iconst 2, 1) := oc_5 (by decide +kernel)
theorem dX10_goBy_128 : decode cX10_goBy 128 = .ok (.aload_n 0, 1) := oc_42 (by decide +kernel)
theorem dX10_goBy_129 : decode cX10_goBy 129 = .ok (.getfield 67, 3) := oc_180 (a := 0) (b := 67) (by decide +kernel)
theorem dX10_goBy_132 : decode cX10_goBy 132 = .ok (.aload_n 0, 1) := oc_42 (by decide +kernel)
theorem dX10_goBy_133 : decode cX10_goBy 133 = .ok (.getfield 39, 3) := oc_180 (a := 0) (b := 39) (by decide +kernel)
theorem dX10_goBy_136 : decode cX10_goBy 136 = .ok (.aload_n 0, 1) := oc_42 (by decide +kernel)
theorem dX10_goBy_137 : decode cX10_goBy 137 = .ok (.getfield 39, 3) := oc_180 (a := 0) (b := 39) (by decide +kernel)
theorem tw_1162 : Cond.methodLink RX10 138 yX0_onRings ∈ wsL_law := sg_49 _ (List.mem_of_getElem? (i := 10) rfl)
theorem dX10_goBy_140 : decode cX10_goBy 140 = .ok (.invokevirtual 138, 3) := oc_182 (a := 0) (b := 138) (by decide +kernel)
theorem tw_1166 : Cond.methodLink RX10 142 yX3_whoIsSo ∈ wsL_law := sg_49 _ (List.mem_of_getElem? (i := 14) rfl)
theorem dX10_goBy_143 : decode cX10_goBy 143 = .ok (.invokevirtual 142, 3) := oc_182 (a := 0) (b := 142) (by decide +kernel)
theorem dX10_goBy_146 : decode cX10_goBy 146 = .ok (.lstore_n 2, 1) := oc_65 (by decide +kernel)
theorem dX10_goBy_147 : decode cX10_goBy 147 = .ok (.aload_n 0, 1) := oc_42 (by decide +kernel)
theorem dX10_goBy_148 : decode cX10_goBy 148 = .ok (.getfield 39, 3) := oc_180 (a := 0) (b := 39) (by decide +kernel)
theorem dX10_goBy_151 : decode cX10_goBy 151 = .ok (.lload_n 2, 1) := oc_32 (by decide +kernel)
theorem dX10_goBy_152 : decode cX10_goBy 152 = .ok (.aload_n 0, 1) := oc_42 (by decide +kernel)
theorem dX10_goBy_153 : decode cX10_goBy 153 = .ok (.getfield 57, 3) := oc_180 (a := 0) (b := 57) (by decide +kernel)
theorem dX10_goBy_156 : decode cX10_goBy 156 = .ok (.aload_n 0, 1) := oc_42 (by decide +kernel)
theorem dX10_goBy_157 : decode cX10_goBy 157 = .ok (.getfield 39, 3) := oc_180 (a := 0) (b := 39) (by decide +kernel)
theorem tw_458 : Cond.fieldLink RX10 146 "RingsUnder$Folk" "persons" "I" ∈ wsL_law := sg_20 _ (List.mem_of_getElem? (i := 2) rfl)
theorem dX10_goBy_160 : decode cX10_goBy 160 = .ok (.getfield 146, 3) := oc_180 (a := 0) (b := 146) (by decide +kernel)
theorem dX10_goBy_163 : decode cX10_goBy 163 = .ok (.aload_n 0, 1) := oc_42 (by decide +kernel)
theorem dX10_goBy_164 : decode cX10_goBy 164 = .ok (.getfield 73, 3) := oc_180 (a := 0) (b := 73) (by decide +kernel)
theorem dX10_goBy_167 : decode cX10_goBy 167 = .ok (.aload_n 0, 1) := oc_42 (by decide +kernel)
theorem dX10_goBy_168 : decode cX10_goBy 168 = .ok (.getfield 67, 3) := oc_180 (a := 0) (b := 67) (by decide +kernel)
theorem tw_1167 : Cond.methodLink RX10 149 yX0_board ∈ wsL_law := sg_49 _ (List.mem_of_getElem? (i := 15) rfl)
theorem dX10_goBy_171 : decode cX10_goBy 171 = .ok (.invokevirtual 149, 3) := oc_182 (a := 0) (b := 149) (by decide +kernel)
theorem dX10_goBy_10 : decode cX10_goBy 10 = .ok (.return_, 1) := oc_177 (by decide +kernel)
theorem dX10_sandBehind_0 : decode cX10_sandBehind 0 = .ok (.iconst 0, 1) := oc_3 (by decide +kernel)
theorem dX10_sandBehind_1 : decode cX10_sandBehind 1 = .ok (.istore_n 3, 1) := oc_62 (by decide +kernel)
theorem dX10_sandBehind_2 : decode cX10_sandBehind 2 = .ok (.iload_n 3, 1) := oc_29 (by decide +kernel)
theorem dX10_sandBehind_3 : decode cX10_sandBehind 3 = .ok (.iload_n 1, 1) := oc_27 (by decide +kernel)
theorem dX10_sandBehind_4 : decode cX10_sandBehind 4 = .ok (.if_icmp .ge 33, 3) := oc_162 (a := 0) (b := 33) (by decide +kernel)
theorem dX10_sandBehind_37 : decode cX10_sandBehind 37 = .ok (.aload_n 0, 1) := oc_42 (by decide +kernel)
theorem dX10_sandBehind_38 : decode cX10_sandBehind 38 = .ok (.getfield 32, 3) := oc_180 (a := 0) (b := 32) (by decide +kernel)
theorem tw_1419 : Cond.fieldLink RX10 219 "RingsUnder$Land" "sand" "[I" ∈ wsL_law := sg_60 _ (List.mem_of_getElem? (i := 3) rfl)
theorem dX10_sandBehind_41 : decode cX10_sandBehind 41 = .ok (.getfield 219, 3) := oc_180 (a := 0) (b := 219) (by decide +kernel)
theorem dX10_sandBehind_44 : decode cX10_sandBehind 44 = .ok (.iload_n 2, 1) := oc_28 (by decide +kernel)
theorem dX10_sandBehind_45 : decode cX10_sandBehind 45 = .ok (.iaload, 1) := oc_46 (by decide +kernel)
theorem dX10_sandBehind_46 : decode cX10_sandBehind 46 = .ok (.ireturn, 1) := oc_172 (by decide +kernel)
theorem dX10_sandBehind_7 : decode cX10_sandBehind 7 = .ok (.aload_n 0, 1) := oc_42 (by decide +kernel)
theorem dX10_sandBehind_8 : decode cX10_sandBehind 8 = .ok (.getfield 32, 3) := oc_180 (a := 0) (b := 32) (by decide +kernel)
theorem dX10_sandBehind_11 : decode cX10_sandBehind 11 = .ok (.aload_n 0, 1) := oc_42 (by decide +kernel)
theorem dX10_sandBehind_12 : decode cX10_sandBehind 12 = .ok (.getfield 25, 3) := oc_180 (a := 0) (b := 25) (by decide +kernel)
theorem dX10_sandBehind_15 : decode cX10_sandBehind 15 = .ok (.getfield 172, 3) := oc_180 (a := 0) (b := 172) (by decide +kernel)
theorem dX10_sandBehind_18 : decode cX10_sandBehind 18 = .ok (.aload_n 0, 1) := oc_42 (by decide +kernel)
theorem dX10_sandBehind_19 : decode cX10_sandBehind 19 = .ok (.getfield 67, 3) := oc_180 (a := 0) (b := 67) (by decide +kernel)
theorem dX10_sandBehind_22 : decode cX10_sandBehind 22 = .ok (.iload_n 3, 1) := oc_29 (by decide +kernel)
theorem dX10_sandBehind_23 : decode cX10_sandBehind 23 = .ok (.iadd, 1) := oc_96 (by decide +kernel)
theorem dX10_sandBehind_24 : decode cX10_sandBehind 24 = .ok (.bipush 12, 2) := oc_16 (a := 12) (by decide +kernel)
theorem dX10_sandBehind_26 : decode cX10_sandBehind 26 = .ok (.irem, 1) := oc_112 (by decide +kernel)
theorem dX10_sandBehind_27 : decode cX10_sandBehind 27 = .ok (.iaload, 1) := oc_46 (by decide +kernel)
theorem dX10_sandBehind_28 : decode cX10_sandBehind 28 = .ok (.invokevirtual 175, 3) := oc_182 (a := 0) (b := 175) (by decide +kernel)
theorem dX10_sandBehind_31 : decode cX10_sandBehind 31 = .ok (.iinc 3 1, 3) := oc_132 (b := 1) (by decide +kernel)
theorem dX10_sandBehind_34 : decode cX10_sandBehind 34 = .ok (.goto (-32), 3) := oc_167 (a := 255) (b := 224) (by decide +kernel)
set_option maxRecDepth 100000 in
def g_X3_line_331_K121 (x_23081 : Int32) (x_22744 : Int32) (k_g_X3_line_331_L60 : (Int32) → (Nat → Nat → Int32) → vM) (x_22954 : Int32) (ri_23082 : Nat → Nat → Int32) : vM := (ap1 (va_up ri_23082 331 (upd (ri_23082 331) (x_23081).toNatClampNeg x_22954)) fun (r_23151 : Nat → Nat → Int32) => (ap1 (x_22744 + Int32.ofInt 1) fun (x_23152 : Int32) => (k_g_X3_line_331_L60 x_23152 r_23151)))
set_option maxRecDepth 100000 in
theorem g_X3_line_331_K121_e {x_23081 : Int32} {x_22744 : Int32} {k_g_X3_line_331_L60 : (Int32) → (Nat → Nat → Int32) → vM} {x_22954 : Int32} {ri_23082 : Nat → Nat → Int32} : g_X3_line_331_K121 x_23081 x_22744 k_g_X3_line_331_L60 x_22954 ri_23082  = (ap1 (va_up ri_23082 331 (upd (ri_23082 331) (x_23081).toNatClampNeg x_22954)) fun (r_23151 : Nat → Nat → Int32) => (ap1 (x_22744 + Int32.ofInt 1) fun (x_23152 : Int32) => (k_g_X3_line_331_L60 x_23152 r_23151))) := rfl
set_option maxRecDepth 100000 in
def g_X3_line_331_L78 (I : Nat → Int32) (J : Nat → Int64) (rj : Nat → Nat → Int64) (rq : Nat → Nat → Option Nat) (tI : Nat → Nat → Int32) (tR : Nat → Nat → Nat → Int32) (w_x_20549 : Nat) (x_20556 : Int32) (x_22744 : Int32) (k_g_X3_line_331_L60 : (Int32) → (Nat → Nat → Int32) → vM) (x_22954 : Int32) : Nat → (Int32) → (Nat → Nat → Int32) → vM
  | 0, x_23081, ri_23082 => (I, J, ri_23082, rj, rq)
  | n_23115 + 1, x_23081, ri_23082 => (if x_23081 ≤ (0 : Int32) then (g_X3_line_331_K121 x_23081 x_22744 k_g_X3_line_331_L60 x_22954 ri_23082 ) else (ap1 (x_23081 - (1 : Int32)) fun (x_23159 : Int32) => (ap1 (ri_23082 331 (x_23159).toNatClampNeg) fun (x_23161 : Int32) => (bnI (g_X8_isAhead tI tR w_x_20549 x_20556 x_22954 x_23161 I J ri_23082 rj rq) fun (x_23163 : Int32) (_ : Nat → Int32) (_ : Nat → Int64) (_ : Nat → Nat → Int32) (_ : Nat → Nat → Int64) (_ : Nat → Nat → Option Nat) => (if x_23163 = (0 : Int32) then (g_X3_line_331_K121 x_23081 x_22744 k_g_X3_line_331_L60 x_22954 ri_23082 ) else (ap1 (x_23081 - (1 : Int32)) fun (x_23180 : Int32) => (ap1 (ri_23082 331 (x_23180).toNatClampNeg) fun (x_23182 : Int32) => (ap1 (va_up ri_23082 331 (upd (ri_23082 331) (x_23081).toNatClampNeg x_23182)) fun (r_23184 : Nat → Nat → Int32) => (ap1 (x_23081 + Int32.ofInt (-1)) fun (x_23185 : Int32) => ((g_X3_line_331_L78 I J rj rq tI tR w_x_20549 x_20556 x_22744 k_g_X3_line_331_L60 x_22954 n_23115) x_23185 r_23184))))))))))
set_option maxRecDepth 100000 in
theorem g_X3_line_331_L78_e {I : Nat → Int32} {J : Nat → Int64} {rj : Nat → Nat → Int64} {rq : Nat → Nat → Option Nat} {tI : Nat → Nat → Int32} {tR : Nat → Nat → Nat → Int32} {w_x_20549 : Nat} {x_20556 : Int32} {x_22744 : Int32} {k_g_X3_line_331_L60 : (Int32) → (Nat → Nat → Int32) → vM} {x_22954 : Int32} {n_23115 : Nat} {x_23081 : Int32} {ri_23082 : Nat → Nat → Int32} : g_X3_line_331_L78 I J rj rq tI tR w_x_20549 x_20556 x_22744 k_g_X3_line_331_L60 x_22954 (n_23115 + 1) x_23081 ri_23082 = (if x_23081 ≤ (0 : Int32) then (g_X3_line_331_K121 x_23081 x_22744 k_g_X3_line_331_L60 x_22954 ri_23082 ) else (ap1 (x_23081 - (1 : Int32)) fun (x_23159 : Int32) => (ap1 (ri_23082 331 (x_23159).toNatClampNeg) fun (x_23161 : Int32) => (bnI (g_X8_isAhead tI tR w_x_20549 x_20556 x_22954 x_23161 I J ri_23082 rj rq) fun (x_23163 : Int32) (_ : Nat → Int32) (_ : Nat → Int64) (_ : Nat → Nat → Int32) (_ : Nat → Nat → Int64) (_ : Nat → Nat → Option Nat) => (if x_23163 = (0 : Int32) then (g_X3_line_331_K121 x_23081 x_22744 k_g_X3_line_331_L60 x_22954 ri_23082 ) else (ap1 (x_23081 - (1 : Int32)) fun (x_23180 : Int32) => (ap1 (ri_23082 331 (x_23180).toNatClampNeg) fun (x_23182 : Int32) => (ap1 (va_up ri_23082 331 (upd (ri_23082 331) (x_23081).toNatClampNeg x_23182)) fun (r_23184 : Nat → Nat → Int32) => (ap1 (x_23081 + Int32.ofInt (-1)) fun (x_23185 : Int32) => ((g_X3_line_331_L78 I J rj rq tI tR w_x_20549 x_20556 x_22744 k_g_X3_line_331_L60 x_22954 n_23115) x_23185 r_23184)))))))))) := rfl
set_option maxRecDepth 100000 in
def g_X3_line_331_L60 (I : Nat → Int32) (J : Nat → Int64) (rj : Nat → Nat → Int64) (rq : Nat → Nat → Option Nat) (x_3 : Int32) (tI : Nat → Nat → Int32) (tR : Nat → Nat → Nat → Int32) (w_x_20549 : Nat) (x_20556 : Int32) : Nat → (Int32) → (Nat → Nat → Int32) → vM
  | 0, x_22744, ri_22745 => (I, J, ri_22745, rj, rq)
  | n_22944 + 1, x_22744, ri_22745 => (if x_3 ≤ x_22744 then (I, J, ri_22745, rj, rq) else (ap1 (ri_22745 331 (x_22744).toNatClampNeg) fun (x_22954 : Int32) => (g_X3_line_331_L78 I J rj rq tI tR w_x_20549 x_20556 x_22744 (g_X3_line_331_L60 I J rj rq x_3 tI tR w_x_20549 x_20556 n_22944) x_22954 (((x_22744).toInt - 0).toNat + 1) x_22744 ri_22745)))
set_option maxRecDepth 100000 in
theorem g_X3_line_331_L60_e {I : Nat → Int32} {J : Nat → Int64} {rj : Nat → Nat → Int64} {rq : Nat → Nat → Option Nat} {x_3 : Int32} {tI : Nat → Nat → Int32} {tR : Nat → Nat → Nat → Int32} {w_x_20549 : Nat} {x_20556 : Int32} {n_22944 : Nat} {x_22744 : Int32} {ri_22745 : Nat → Nat → Int32} : g_X3_line_331_L60 I J rj rq x_3 tI tR w_x_20549 x_20556 (n_22944 + 1) x_22744 ri_22745 = (if x_3 ≤ x_22744 then (I, J, ri_22745, rj, rq) else (ap1 (ri_22745 331 (x_22744).toNatClampNeg) fun (x_22954 : Int32) => (g_X3_line_331_L78 I J rj rq tI tR w_x_20549 x_20556 x_22744 (g_X3_line_331_L60 I J rj rq x_3 tI tR w_x_20549 x_20556 n_22944) x_22954 (((x_22744).toInt - 0).toNat + 1) x_22744 ri_22745))) := rfl
set_option maxRecDepth 100000 in
def g_X3_line_331_L15 (a0 : Int32) (a1 : Int32) (I : Nat → Int32) (J : Nat → Int64) (rj : Nat → Nat → Int64) (rq : Nat → Nat → Option Nat) (x_3 : Int32) (tI : Nat → Nat → Int32) (tR : Nat → Nat → Nat → Int32) : Nat → (Int32) → (Nat → Nat → Int32) → vM
  | 0, x_17938, ri_17939 => (I, J, ri_17939, rj, rq)
  | n_20541 + 1, x_17938, ri_17939 => (if x_3 ≤ x_17938 then (bnI (g_X3_textFor tI tR a0 a1 I J ri_17939 rj rq) fun (x_20549 : Option Nat) (_ : Nat → Int32) (_ : Nat → Int64) (_ : Nat → Nat → Int32) (_ : Nat → Nat → Int64) (_ : Nat → Nat → Option Nat) => (opt1 (x_20549) (I, J, ri_17939, rj, rq) fun (w_x_20549 : Nat) => (bnI (g_X8_firstOf tI tR w_x_20549 a0 I J ri_17939 rj rq) fun (x_20556 : Int32) (_ : Nat → Int32) (_ : Nat → Int64) (_ : Nat → Nat → Int32) (_ : Nat → Nat → Int64) (_ : Nat → Nat → Option Nat) => (g_X3_line_331_L60 I J rj rq x_3 tI tR w_x_20549 x_20556 ((40 - ((1 : Int32)).toInt).toNat + 1) (1 : Int32) ri_17939)))) else (ap1 (va_up ri_17939 331 (upd (ri_17939 331) (x_17938).toNatClampNeg x_17938)) fun (r_23189 : Nat → Nat → Int32) => (ap1 (x_17938 + Int32.ofInt 1) fun (x_23190 : Int32) => ((g_X3_line_331_L15 a0 a1 I J rj rq x_3 tI tR n_20541) x_23190 r_23189))))
set_option maxRecDepth 100000 in
theorem g_X3_line_331_L15_e {a0 : Int32} {a1 : Int32} {I : Nat → Int32} {J : Nat → Int64} {rj : Nat → Nat → Int64} {rq : Nat → Nat → Option Nat} {x_3 : Int32} {tI : Nat → Nat → Int32} {tR : Nat → Nat → Nat → Int32} {n_20541 : Nat} {x_17938 : Int32} {ri_17939 : Nat → Nat → Int32} : g_X3_line_331_L15 a0 a1 I J rj rq x_3 tI tR (n_20541 + 1) x_17938 ri_17939 = (if x_3 ≤ x_17938 then (bnI (g_X3_textFor tI tR a0 a1 I J ri_17939 rj rq) fun (x_20549 : Option Nat) (_ : Nat → Int32) (_ : Nat → Int64) (_ : Nat → Nat → Int32) (_ : Nat → Nat → Int64) (_ : Nat → Nat → Option Nat) => (opt1 (x_20549) (I, J, ri_17939, rj, rq) fun (w_x_20549 : Nat) => (bnI (g_X8_firstOf tI tR w_x_20549 a0 I J ri_17939 rj rq) fun (x_20556 : Int32) (_ : Nat → Int32) (_ : Nat → Int64) (_ : Nat → Nat → Int32) (_ : Nat → Nat → Int64) (_ : Nat → Nat → Option Nat) => (g_X3_line_331_L60 I J rj rq x_3 tI tR w_x_20549 x_20556 ((40 - ((1 : Int32)).toInt).toNat + 1) (1 : Int32) ri_17939)))) else (ap1 (va_up ri_17939 331 (upd (ri_17939 331) (x_17938).toNatClampNeg x_17938)) fun (r_23189 : Nat → Nat → Int32) => (ap1 (x_17938 + Int32.ofInt 1) fun (x_23190 : Int32) => ((g_X3_line_331_L15 a0 a1 I J rj rq x_3 tI tR n_20541) x_23190 r_23189)))) := rfl
set_option maxRecDepth 100000 in
def g_X3_line_331 (tI : Nat → Nat → Int32) (tR : Nat → Nat → Nat → Int32) (a0 : Int32) (a1 : Int32) (I : Nat → Int32) (J : Nat → Int64) (ri : Nat → Nat → Int32) (rj : Nat → Nat → Int64) (rq : Nat → Nat → Option Nat) : vM := (ap1 (I 0) fun (y_2 : Int32) => (ap1 (if (40 : Int32) < (y_2) then (40 : Int32) else (y_2)) fun (x_3 : Int32) => (g_X3_line_331_L15 a0 a1 I J rj rq x_3 tI tR ((40 - ((0 : Int32)).toInt).toNat + 1) (0 : Int32) ri)))
set_option maxRecDepth 100000 in
theorem g_X3_line_331_e {tI : Nat → Nat → Int32} {tR : Nat → Nat → Nat → Int32} {a0 : Int32} {a1 : Int32} {I : Nat → Int32} {J : Nat → Int64} {ri : Nat → Nat → Int32} {rj : Nat → Nat → Int64} {rq : Nat → Nat → Option Nat} : g_X3_line_331 tI tR a0 a1 I J ri rj rq = (ap1 (I 0) fun (y_2 : Int32) => (ap1 (if (40 : Int32) < (y_2) then (40 : Int32) else (y_2)) fun (x_3 : Int32) => (g_X3_line_331_L15 a0 a1 I J rj rq x_3 tI tR ((40 - ((0 : Int32)).toInt).toNat + 1) (0 : Int32) ri))) := rfl
set_option maxHeartbeats 4000000 in
set_option maxRecDepth 100000 in
theorem s_X3_line_331 (l : Launch) (D : va_G) (t : pq_T) (σ : pq_S) (I : Nat → Nat → Int32) (J : Nat → Nat → Int64) (ri : Nat → Nat → Int32) (rj : Nat → Nat → Int64) (rq : Nat → Nat → Option Nat) (sz : Nat) (tg : Nat → Nat) (hSH : SH σ tg) (hG0 : GS tg σ I ri rq) (this : Nat) (a0 : Int32) (a1 : Int32) (a2 : Nat) (a3 : Nat) (hL_this : this ∈ σ.1) (hK_this : σ.2.1 this = 3) (hL_a2 : a2 ∈ σ.1) (hK_a2 : σ.2.1 a2 = 0) (hL_a3 : a3 ∈ σ.1) (hK_a3 : σ.2.1 a3 = 13) (hN_a3 : σ.2.2.2 a3 = 40) (hT_a3 : tg a3 = 331) (M : Nat) (hL_M : M ∈ σ.1) (hK_M : σ.2.1 M = 10) (hO_this : this = vo σ 3 M) (hO_a2 : a2 = vo σ 0 M) (hO_a3 : a3 = vrow σ 331 M) : MetV l yX3_line (wa yX3_line cX3_line 11 none) ({ frames := 2, cells := 0, slots := 0, locals := 67 }) [.ref this, .int a0, .int a1, .ref a2, .ref a3] D t σ (I, J, ri, rj, rq) sz 0 0 (fun (u : pq_S × pq_M) => ∃ ri' : Nat → Nat → Int32, u = (σ, I, J, ri', rj, rq) ∧ GX [] tg σ I ri rj I ri' rj rq ∧ g_X3_line_331 (tI σ I) (tR σ ri) a0 a1 (vI 10 σ M I) (vJ 10 σ M J) (vR 10 σ M ri) (vL 10 σ M rj) (vQ 10 σ M rq) = ((vI 10 σ M I), (vJ 10 σ M J), (vR 10 σ M ri'), (vL 10 σ M rj), (vQ 10 σ M rq)) ∧ FR 10 tg σ M (I, J, ri, rj, rq) (I, J, ri', rj, rq)) := by
  refine Met.ofW (cc := cX3_line) (maxL := 11) (ret := none) (by decide +kernel) rfl ?_
  intro p e s m args below meth c s₁ B hml hv
  obtain ⟨rfl, hsz, hP, hK, hD0, hN⟩ := hv
  have hx := B.exec
  have hb := B.bytes
  have hr := B.returns
  have hts := atoms_spec (ws := (wa yX3_line cX3_line 11 none)) B.pre
  have hown : s.vm.findClass RX3 = some m.cls := findClass_of_methodNamed B.named
  have hlocks := B.notSynchronized
  subst hsz
  have hD : va_D (pq_B t σ (I, J, ri, rj, rq) s.heap.size) (pq_P t σ (I, J, ri, rj, rq)) := hD0.self
  generalize hAe : pq_B t σ (I, J, ri, rj, rq) s.heap.size = A at hD ⊢
  have hA : ∀ q : Nat, s.heap.size ≤ q → A q := fun q h => by rw [← hAe]; exact Or.inr h
  have hS : va_S A s.heap s.heap [] := va_S.rf
  have hG : GX [] tg σ I ri rj I ri rj rq := ⟨hG0, fun _ _ _ => rfl, fun _ _ _ _ _ => rfl, fun _ _ _ _ _ => rfl⟩
  have hl := lv_entry ([.ref this, .int a0, .int a1, .ref a2, .ref a3]) (n := 11) (Nat.le_of_ble_eq_true rfl)
  rw [lg_entry_eq]
  generalize (lg_sl ([.ref this, .int a0, .int a1, .ref a2, .ref a3]) ++ List.replicate (11 - (lg_sl ([.ref this, .int a0, .int a1, .ref a2, .ref a3])).length) Slot.unset).toArray = ls at hl ⊢
  have hl : lv_has ls 11 [(0, .ref this), (1, .int a0), (2, .int a1), (3, .ref a2), (4, .ref a3)] := hl
  refine q_gen (fun Q hQ => ?_)
  have go : ∀ (H : Heap) (locs : List Loc) (ls : Array Slot), va_P D vwCl (pq_P t σ (I, J, ri, rj, rq)) H → va_D A (pq_P t σ (I, J, ri, rj, rq)) → va_S A s.heap H locs → lv_has ls 11 [(0, .ref this), (1, .int a0), (2, .int a1), (3, .ref a2), (4, .ref a3)] → W p l e ({ frames := 2, cells := 0, slots := 0, locals := 67 } : Room) s m (List.toArray ([.ref this, .int a0, .int a1, .ref a2, .ref a3] : List Value)) below meth c H locs 0 0 Q (F0 m 0 ls []) := by
    intro H locs ls hP hD hS hl
    have hVT : VT 10 σ tg M := vt_10 hSH hL_M hK_M
    have hFr : FR 10 tg σ M (I, J, ri, rj, rq) (I, J, ri, rj, rq) := fr_rf
    obtain ⟨F, hF0⟩ : ∃ F, F = g_X3_line_331 (tI σ I) (tR σ ri) a0 a1 (vI 10 σ M I) (vJ 10 σ M J) (vR 10 σ M ri) (vL 10 σ M rj) (vQ 10 σ M rq) := ⟨_, rfl⟩
    have hF := hF0.trans g_X3_line_331_e
    refine lv_aload_n hx hb dX3_line_0 rfl (lv_at hl 3 rfl) ?_
    refine pg_f (v := .int (I 0 a2)) (C := RX0) (T := TX0) (N := 16) hx hb hts (tw_i inlX0) hown hK hP hL_a2 hK_a2 (by decide +kernel) rfl 0 (by decide +kernel) (hts _ (tw_c tw_465)) rfl dX3_line_1 ?_
    have h_1 : rg (I 0 a2) 0 40 := GX.rI hG 0 rfl
    replace hF := hF.trans (ap_n (vI_e (f := 0) hO_a2 (by decide +kernel)))
    refine lv_aload hx hb dX3_line_4 (lv_at hl 4 rfl) ?_
    refine pn_i (v := 40) hx hb hK hP hL_a3 hK_a3 hN_a3 (by decide +kernel) dX3_line_6 ?_
    refine va_mmin hx hb (hml.trans hl.1.symm) hown (hts _ (tw_c tw_466)) (hts _ (tw_c tw_467)) (hts _ (tw_c tw_276)) (hts _ (tw_c tw_468)) (Nat.le_of_ble_eq_true rfl) (Nat.le_of_ble_eq_true rfl) (Nat.zero_le _) (Nat.zero_le _) dX3_line_7 ?_
    refine lv_topi (fun x_3 ex_3 => ?_)
    replace hF := hF.trans (ap_n ex_3)
    have h_4 : rg x_3 0 40 := rg_of_eq ex_3 (rg_min2 h_1 (rg_k (40 : Int32) 40 rfl) (by decide +kernel))
    refine lv_istore (lv' := [(5, .int x_3), (0, .ref this), (1, .int a0), (2, .int a1), (3, .ref a2), (4, .ref a3)]) hx hb dX3_line_10 hl (by decide +kernel) rfl (fun ls hl => ?_)
    refine lv_iconst (v := 0) hx hb dX3_line_12 (by decide +kernel) ?_
    refine lv_istore (lv' := [(6, .int 0), (5, .int x_3), (0, .ref this), (1, .int a0), (2, .int a1), (3, .ref a2), (4, .ref a3)]) hx hb dX3_line_13 hl (by decide +kernel) rfl (fun ls hl => ?_)
    have L_20542 : ∀ (n_20541 : Nat) (x_17938 : Int32) (ri_17939 : Nat → Nat → Int32) (H : Heap) (locs : List Loc) (ls : Array Slot), rg x_17938 0 40 → (40 - (x_17938).toInt).toNat < n_20541 → F = g_X3_line_331_L15 a0 a1 (vI 10 σ M I) (vJ 10 σ M J) (vL 10 σ M rj) (vQ 10 σ M rq) x_3 (tI σ I) (tR σ ri) n_20541 x_17938 (vR 10 σ M ri_17939) → FR 10 tg σ M (I, J, ri, rj, rq) (I, J, ri_17939, rj, rq) → GX [] tg σ I ri rj I ri_17939 rj rq → va_P D vwCl (pq_P t σ (I, J, ri_17939, rj, rq)) H → va_D A (pq_P t σ (I, J, ri_17939, rj, rq)) → va_S A s.heap H locs → lv_has ls 11 [(0, .ref this), (1, .int a0), (2, .int a1), (3, .ref a2), (4, .ref a3), (5, .int x_3), (6, .int x_17938)] → W p l e ({ frames := 2, cells := 0, slots := 0, locals := 67 } : Room) s m (List.toArray ([.ref this, .int a0, .int a1, .ref a2, .ref a3] : List Value)) below meth c H locs 0 0 Q (F0 m 15 ls []) := by
      intro n_20541
      induction n_20541 with
      | zero => intro x_17938 ri_17939 H locs ls h_20545 hm_20540 hF hFr hG hP hD hS hl; exact absurd hm_20540 (Nat.not_lt_zero _)
      | succ n_20541 ih_20543 =>
        intro x_17938 ri_17939 H locs ls h_20545 hm_20540 hF hFr hG hP hD hS hl
        replace hF := hF.trans g_X3_line_331_L15_e
        refine lv_iload hx hb dX3_line_15 (lv_at hl 6 rfl) ?_
        refine lv_iload hx hb dX3_line_17 (lv_at hl 5 rfl) ?_
        refine lv_icmp_ge (tgt := 35) hx hb dX3_line_19 (by decide +kernel) (fun c_20546 => ?_) (fun c_20546 => ?_)
        · replace hF := hF.trans (if_pos c_20546)
          refine lv_aload_n hx hb dX3_line_35 rfl (lv_at hl 0 rfl) ?_
          refine lv_iload_n hx hb dX3_line_36 rfl (lv_at hl 1 rfl) ?_
          refine lv_iload_n hx hb dX3_line_37 rfl (lv_at hl 2 rfl) ?_
          refine pk_q (va_runV (As := [.int a0, .int a1]) (rest := []) ⟨hx, hb, hml, hown, hts⟩ (s_X3_textFor l D t σ I J ri_17939 rj rq H.size tg hSH hG.1 this a0 a1 hL_this hK_this M hL_M hK_M hO_this) (cwV 2 hts (tw_V tw_469 tw_470 tw_471 tw_49 tw_472) rfl rfl rfl cv_yX3_textFor_2 ⟨Nat.le_of_ble_eq_true rfl, Nat.le_of_ble_eq_true rfl⟩) ⟨pq_blind, pq_recv hK hP hL_this hK_this (by decide +kernel) rfl, pq_pre hK hN hP hD⟩ rfl rfl hl.1 rfl (lv_room (Nat.le_of_ble_eq_true rfl)) dX3_line_38 ⟨Nat.le_of_ble_eq_true rfl, Nat.le_of_ble_eq_true rfl⟩) hD hS hA (fun x_20549 σ1 μ1 H locs hw_20550 hP hD hS => ?_)
          obtain ⟨hu_20551, hfn_20554, hr_20553⟩ := hw_20550
          obtain ⟨hu_20551a, hu_20551b⟩ := Prod.mk.inj hu_20551
          rw [hu_20551a, hu_20551b] at hP hD
          rw [fr_tI hFr hVT, fr_tR hFr hVT] at hfn_20554
          replace hF := hF.trans (bn_n hfn_20554)
          rcases hr_20553 with rfl | ⟨w_x_20549, rfl, hL_w_x_20549, hK_w_x_20549⟩
          · replace hF := hF.trans op_0
            refine lv_astoreN (lv' := [(6, .null), (0, .ref this), (1, .int a0), (2, .int a1), (3, .ref a2), (4, .ref a3), (5, .int x_3)]) hx hb dX3_line_41 hl (by decide +kernel) rfl (fun ls hl => ?_)
            refine lv_aloadN hx hb dX3_line_43 (lv_at hl 0 rfl) ?_
            refine lv_ifnonnullN hx hb dX3_line_45 ?_
            subst hQ
            exact W.vret hx hb hr (fun t1 ht hW => ⟨⟨(σ, I, J, ri_17939, rj, rq), rfl, ⟨ri_17939, rfl, hG, (hF0.symm.trans hF), hFr⟩, by rw [ht]; exact hP, va_K.moved hW.alike hK, hD⟩, hS.F ht⟩) hS.2.2 dX3_line_48
          · replace hF := hF.trans op_1
            refine lv_astore (lv' := [(6, .ref w_x_20549), (0, .ref this), (1, .int a0), (2, .int a1), (3, .ref a2), (4, .ref a3), (5, .int x_3)]) hx hb dX3_line_41 hl (by decide +kernel) rfl (fun ls hl => ?_)
            refine lv_aload hx hb dX3_line_43 (lv_at hl 0 rfl) ?_
            refine lv_ifnonnull (tgt := 49) hx hb dX3_line_45 (by decide +kernel) ?_
            refine lv_aload hx hb dX3_line_49 (lv_at hl 0 rfl) ?_
            refine lv_iload_n hx hb dX3_line_51 rfl (lv_at hl 2 rfl) ?_
            refine pk_i (va_runV (As := [.int a0]) (rest := []) ⟨hx, hb, hml, hown, hts⟩ (s_X8_firstOf l D t σ I J ri_17939 rj rq H.size tg hSH hG.1 w_x_20549 a0 hL_w_x_20549 hK_w_x_20549 M hL_M hK_M) (cwV 1 hts (tw_V tw_474 tw_475 tw_476 tw_159 tw_477) rfl rfl rfl cv_yX8_firstOf_1 ⟨Nat.le_of_ble_eq_true rfl, Nat.le_of_ble_eq_true rfl⟩) ⟨pq_blind, pq_recv hK hP hL_w_x_20549 hK_w_x_20549 (by decide +kernel) rfl, pq_pre hK hN hP hD⟩ rfl rfl hl.1 rfl (lv_room (Nat.le_of_ble_eq_true rfl)) dX3_line_52 ⟨Nat.le_of_ble_eq_true rfl, Nat.le_of_ble_eq_true rfl⟩) hD hS hA (fun x_20556 σ1 μ1 H locs hw_20557 hP hD hS => ?_)
            obtain ⟨hu_20558, hp_20561, hfn_20562, hr_20560⟩ := hw_20557
            obtain ⟨hu_20558a, hu_20558b⟩ := Prod.mk.inj hu_20558
            rw [hu_20558a, hu_20558b] at hP hD
            rw [fr_tI hFr hVT, fr_tR hFr hVT] at hfn_20562
            replace hF := hF.trans (bn_n hfn_20562)
            refine lv_istore (lv' := [(7, .int x_20556), (6, .ref w_x_20549), (0, .ref this), (1, .int a0), (2, .int a1), (3, .ref a2), (4, .ref a3), (5, .int x_3)]) hx hb dX3_line_55 hl (by decide +kernel) rfl (fun ls hl => ?_)
            refine lv_iconst (v := 1) hx hb dX3_line_57 (by decide +kernel) ?_
            refine lv_istore (lv' := [(8, .int 1), (7, .int x_20556), (6, .ref w_x_20549), (0, .ref this), (1, .int a0), (2, .int a1), (3, .ref a2), (4, .ref a3), (5, .int x_3)]) hx hb dX3_line_58 hl (by decide +kernel) rfl (fun ls hl => ?_)
            have L_22945 : ∀ (n_22944 : Nat) (x_22744 : Int32) (ri_22745 : Nat → Nat → Int32) (H : Heap) (locs : List Loc) (ls : Array Slot), rg x_22744 1 40 → (40 - (x_22744).toInt).toNat < n_22944 → F = g_X3_line_331_L60 (vI 10 σ M I) (vJ 10 σ M J) (vL 10 σ M rj) (vQ 10 σ M rq) x_3 (tI σ I) (tR σ ri) w_x_20549 x_20556 n_22944 x_22744 (vR 10 σ M ri_22745) → FR 10 tg σ M (I, J, ri, rj, rq) (I, J, ri_22745, rj, rq) → GX [] tg σ I ri rj I ri_22745 rj rq → va_P D vwCl (pq_P t σ (I, J, ri_22745, rj, rq)) H → va_D A (pq_P t σ (I, J, ri_22745, rj, rq)) → va_S A s.heap H locs → lv_has ls 11 [(3, .ref a2), (4, .ref a3), (5, .int x_3), (6, .ref w_x_20549), (7, .int x_20556), (8, .int x_22744)] → W p l e ({ frames := 2, cells := 0, slots := 0, locals := 67 } : Room) s m (List.toArray ([.ref this, .int a0, .int a1, .ref a2, .ref a3] : List Value)) below meth c H locs 0 0 Q (F0 m 60 ls []) := by
              intro n_22944
              induction n_22944 with
              | zero => intro x_22744 ri_22745 H locs ls h_22948 hm_22943 hF hFr hG hP hD hS hl; exact absurd hm_22943 (Nat.not_lt_zero _)
              | succ n_22944 ih_22946 =>
                intro x_22744 ri_22745 H locs ls h_22948 hm_22943 hF hFr hG hP hD hS hl
                replace hF := hF.trans g_X3_line_331_L60_e
                refine lv_iload hx hb dX3_line_60 (lv_at hl 5 rfl) ?_
                refine lv_iload hx hb dX3_line_62 (lv_at hl 2 rfl) ?_
                refine lv_icmp_ge (tgt := 134) hx hb dX3_line_64 (by decide +kernel) (fun c_22949 => ?_) (fun c_22949 => ?_)
                · replace hF := hF.trans (if_pos c_22949)
                  subst hQ
                  exact W.vret hx hb hr (fun t1 ht hW => ⟨⟨(σ, I, J, ri_22745, rj, rq), rfl, ⟨ri_22745, rfl, hG, (hF0.symm.trans hF), hFr⟩, by rw [ht]; exact hP, va_K.moved hW.alike hK, hD⟩, hS.F ht⟩) hS.2.2 dX3_line_134
                · replace hF := hF.trans (if_neg c_22949)
                  have h_22952 : rg x_22744 1 39 := rg_lt1 (nle c_22949) h_22948 h_4 (by decide +kernel)
                  have h_22953 : rg x_3 2 40 := rg_lt2 (nle c_22949) h_22948 h_4 (by decide +kernel)
                  refine lv_aload hx hb dX3_line_67 (lv_at hl 1 rfl) ?_
                  refine lv_iload hx hb dX3_line_69 (lv_at hl 5 rfl) ?_
                  refine pl_i hx hb hK hP hL_a3 hK_a3 hN_a3 (rg_in h_22952 (by decide +kernel)) dX3_line_71 ?_
                  refine lv_topi (fun x_22954 ex_22954 => ?_)
                  replace hF := hF.trans (ap_n (vR_r hO_a3 (by decide +kernel) ex_22954))
                  have h_22955 : rg x_22954 0 39 := rg_of_eq ex_22954 (GX.rR hG hT_a3 rfl)
                  refine lv_istore (lv' := [(9, .int x_22954), (3, .ref a2), (4, .ref a3), (5, .int x_3), (6, .ref w_x_20549), (7, .int x_20556), (8, .int x_22744)]) hx hb dX3_line_72 hl (by decide +kernel) rfl (fun ls hl => ?_)
                  refine lv_iload hx hb dX3_line_74 (lv_at hl 6 rfl) ?_
                  refine lv_istore (lv' := [(10, .int x_22744), (9, .int x_22954), (3, .ref a2), (4, .ref a3), (5, .int x_3), (6, .ref w_x_20549), (7, .int x_20556), (8, .int x_22744)]) hx hb dX3_line_76 hl (by decide +kernel) rfl (fun ls hl => ?_)
                  have L_23116 : ∀ (n_23115 : Nat) (x_23081 : Int32) (ri_23082 : Nat → Nat → Int32) (H : Heap) (locs : List Loc) (ls : Array Slot), rg x_23081 0 39 → ((x_23081).toInt - 0).toNat < n_23115 → F = g_X3_line_331_L78 (vI 10 σ M I) (vJ 10 σ M J) (vL 10 σ M rj) (vQ 10 σ M rq) (tI σ I) (tR σ ri) w_x_20549 x_20556 x_22744 (g_X3_line_331_L60 (vI 10 σ M I) (vJ 10 σ M J) (vL 10 σ M rj) (vQ 10 σ M rq) x_3 (tI σ I) (tR σ ri) w_x_20549 x_20556 n_22944) x_22954 n_23115 x_23081 (vR 10 σ M ri_23082) → FR 10 tg σ M (I, J, ri, rj, rq) (I, J, ri_23082, rj, rq) → GX [] tg σ I ri rj I ri_23082 rj rq → va_P D vwCl (pq_P t σ (I, J, ri_23082, rj, rq)) H → va_D A (pq_P t σ (I, J, ri_23082, rj, rq)) → va_S A s.heap H locs → lv_has ls 11 [(3, .ref a2), (4, .ref a3), (5, .int x_3), (6, .ref w_x_20549), (7, .int x_20556), (8, .int x_22744), (9, .int x_22954), (10, .int x_23081)] → W p l e ({ frames := 2, cells := 0, slots := 0, locals := 67 } : Room) s m (List.toArray ([.ref this, .int a0, .int a1, .ref a2, .ref a3] : List Value)) below meth c H locs 0 0 Q (F0 m 78 ls []) := by
                    intro n_23115
                    induction n_23115 with
                    | zero => intro x_23081 ri_23082 H locs ls h_23119 hm_23114 hF hFr hG hP hD hS hl; exact absurd hm_23114 (Nat.not_lt_zero _)
                    | succ n_23115 ih_23117 =>
                      intro x_23081 ri_23082 H locs ls h_23119 hm_23114 hF hFr hG hP hD hS hl
                      replace hF := hF.trans g_X3_line_331_L78_e
                      refine lv_iload hx hb dX3_line_78 (lv_at hl 7 rfl) ?_
                      have K_23150 : ∀  (H : Heap) (locs : List Loc) (ls : Array Slot), F = g_X3_line_331_K121 x_23081 x_22744 (g_X3_line_331_L60 (vI 10 σ M I) (vJ 10 σ M J) (vL 10 σ M rj) (vQ 10 σ M rq) x_3 (tI σ I) (tR σ ri) w_x_20549 x_20556 n_22944) x_22954 (vR 10 σ M ri_23082)  → FR 10 tg σ M (I, J, ri, rj, rq) (I, J, ri_23082, rj, rq) → GX [] tg σ I ri rj I ri_23082 rj rq → va_P D vwCl (pq_P t σ (I, J, ri_23082, rj, rq)) H → va_D A (pq_P t σ (I, J, ri_23082, rj, rq)) → va_S A s.heap H locs → lv_has ls 11 [(3, .ref a2), (4, .ref a3), (5, .int x_3), (6, .ref w_x_20549), (7, .int x_20556), (8, .int x_22744), (9, .int x_22954), (10, .int x_23081)] → W p l e ({ frames := 2, cells := 0, slots := 0, locals := 67 } : Room) s m (List.toArray ([.ref this, .int a0, .int a1, .ref a2, .ref a3] : List Value)) below meth c H locs 0 0 Q (F0 m 121 ls []) := by
                        intro H locs ls hF hFr hG hP hD hS hl
                        replace hF := hF.trans g_X3_line_331_K121_e
                        refine lv_aload hx hb dX3_line_121 (lv_at hl 1 rfl) ?_
                        refine lv_iload hx hb dX3_line_123 (lv_at hl 7 rfl) ?_
                        refine lv_iload hx hb dX3_line_125 (lv_at hl 6 rfl) ?_
                        refine pt_i hx hb hK hP hD hS hL_a3 hK_a3 hN_a3 (rg_in h_23119 (by decide +kernel)) dX3_line_127 (fun r_23151 H locs er_23151 hP hD hS => ?_)
                        replace hFr := fr_R hFr hO_a3 (by decide +kernel) er_23151
                        replace hF := hF.trans (ap_n (vR_st hVT hO_a3 (by decide +kernel) er_23151))
                        have hG := GX.wR hG hSH hT_a3 rfl er_23151 (rg_w h_22955 (by decide +kernel)) (by decide +kernel)
                        obtain ⟨x_23152, ex_23152⟩ : ∃ y : Int32, y = x_22744 + Int32.ofInt 1 := ⟨_, rfl⟩
                        replace hF := hF.trans (ap_n ex_23152)
                        have h_23153 : rg x_23152 2 40 := rg_of_eq ex_23152 (rg_add h_22952 (rg_k (Int32.ofInt 1) 1 rfl) (by decide +kernel))
                        refine lv_iinc (v := x_23152) (lv' := [(8, .int x_23152), (3, .ref a2), (4, .ref a3), (5, .int x_3), (6, .ref w_x_20549), (7, .int x_20556), (9, .int x_22954), (10, .int x_23081)]) hx hb dX3_line_128 hl (k := 5) rfl ex_23152.symm (by decide +kernel) rfl (fun ls hl => ?_)
                        refine lv_goto (tgt := 60) hx hb dX3_line_131 (by decide +kernel) ?_
                        exact ih_22946 x_23152 r_23151 _ _ _ (rg_w h_23153 (by decide +kernel)) (ms_up 1 hm_22943 ex_23152 rfl (by decide +kernel) h_22952 (by decide +kernel) (by decide +kernel)) hF hFr hG hP hD hS (lv_sub hl [1, 2, 3, 4, 5, 0] rfl)
                      refine lv_if_le (tgt := 121) hx hb dX3_line_80 (by decide +kernel) (fun c_23154 => ?_) (fun c_23154 => ?_)
                      · replace hF := hF.trans (if_pos c_23154)
                        have h_23157 : rg x_23081 0 0 := rg_le1 c_23154 h_23119 (rg_k (0 : Int32) 0 rfl) (by decide +kernel)
                        exact K_23150 _ _ _ hF hFr hG hP hD hS (lv_sub hl [0, 1, 2, 3, 4, 5, 6, 7] rfl)
                      · replace hF := hF.trans (if_neg c_23154)
                        have h_23158 : rg x_23081 1 39 := rg_lt2 (nle c_23154) (rg_k (0 : Int32) 0 rfl) h_23119 (by decide +kernel)
                        refine lv_aload hx hb dX3_line_83 (lv_at hl 3 rfl) ?_
                        refine lv_iload hx hb dX3_line_85 (lv_at hl 4 rfl) ?_
                        refine lv_aload_n hx hb dX3_line_87 rfl (lv_at hl 0 rfl) ?_
                        refine lv_iload hx hb dX3_line_88 (lv_at hl 6 rfl) ?_
                        refine lv_aload hx hb dX3_line_90 (lv_at hl 1 rfl) ?_
                        refine lv_iload hx hb dX3_line_92 (lv_at hl 7 rfl) ?_
                        refine lv_iconst (v := 1) hx hb dX3_line_94 (by decide +kernel) ?_
                        refine lv_isub hx hb dX3_line_95 ?_
                        refine lv_topi (fun x_23159 ex_23159 => ?_)
                        replace hF := hF.trans (ap_n ex_23159)
                        have h_23160 : rg x_23159 0 38 := rg_of_eq ex_23159 (rg_sub h_23158 (rg_k (1 : Int32) 1 rfl) (by decide +kernel))
                        refine pl_i hx hb hK hP hL_a3 hK_a3 hN_a3 (rg_in h_23160 (by decide +kernel)) dX3_line_96 ?_
                        refine lv_topi (fun x_23161 ex_23161 => ?_)
                        replace hF := hF.trans (ap_n (vR_r hO_a3 (by decide +kernel) ex_23161))
                        have h_23162 : rg x_23161 0 39 := rg_of_eq ex_23161 (GX.rR hG hT_a3 rfl)
                        refine pk_i (va_runV (As := [.int x_20556, .ref a2, .int x_22954, .int x_23161]) (rest := []) ⟨hx, hb, hml, hown, hts⟩ (s_X8_isAhead l D t σ I J ri_23082 rj rq H.size tg hSH hG.1 w_x_20549 x_20556 a2 x_22954 x_23161 hL_w_x_20549 hK_w_x_20549 hL_a2 hK_a2 (rg_w h_22955 (by decide +kernel)) (rg_w h_23162 (by decide +kernel)) M hL_M hK_M hO_a2) (cwV 4 hts (tw_V tw_479 tw_480 tw_481 tw_159 tw_482) rfl rfl rfl cv_yX8_isAhead_4 ⟨Nat.le_of_ble_eq_true rfl, Nat.le_of_ble_eq_true rfl⟩) ⟨pq_blind, pq_recv hK hP hL_w_x_20549 hK_w_x_20549 (by decide +kernel) rfl, pq_pre hK hN hP hD⟩ rfl rfl hl.1 rfl (lv_room (Nat.le_of_ble_eq_true rfl)) dX3_line_97 ⟨Nat.le_of_ble_eq_true rfl, Nat.le_of_ble_eq_true rfl⟩) hD hS hA (fun x_23163 σ1 μ1 H locs hw_23164 hP hD hS => ?_)
                        obtain ⟨hu_23165, hfn_23168, hr_23167⟩ := hw_23164
                        obtain ⟨hu_23165a, hu_23165b⟩ := Prod.mk.inj hu_23165
                        rw [hu_23165a, hu_23165b] at hP hD
                        rw [fr_tI hFr hVT, fr_tR hFr hVT] at hfn_23168
                        replace hF := hF.trans (bn_n hfn_23168)
                        have h_23170 : rg x_23163 0 1 := by rcases hr_23167 with ⟨q, -⟩ | ⟨q, -⟩ <;> rw [q] <;> exact ⟨by decide +kernel, by decide +kernel⟩
                        refine lv_if_eq (tgt := 121) hx hb dX3_line_100 (by decide +kernel) (fun c_23171 => ?_) (fun c_23171 => ?_)
                        · replace hF := hF.trans (if_pos c_23171)
                          have f_23176 := (hr_23167.resolve_left (fun q => absurd (q.1.symm.trans c_23171) (by decide +kernel))).2
                          have h_23177 : rg x_23163 0 0 := rg_and h_23170 (rg_of_eq c_23171 (rg_k (0 : Int32) 0 rfl)) (by decide +kernel)
                          exact K_23150 _ _ _ hF hFr hG hP hD hS (lv_sub hl [0, 1, 2, 3, 4, 5, 6, 7] rfl)
                        · replace hF := hF.trans (if_neg c_23171)
                          have f_23178 := (hr_23167.resolve_right (fun q => c_23171 q.1)).2
                          have h_23179 : rg x_23163 1 1 := rg_ne c_23171 h_23170 0 rfl (by decide +kernel)
                          refine lv_aload hx hb dX3_line_103 (lv_at hl 1 rfl) ?_
                          refine lv_iload hx hb dX3_line_105 (lv_at hl 7 rfl) ?_
                          refine lv_aload hx hb dX3_line_107 (lv_at hl 1 rfl) ?_
                          refine lv_iload hx hb dX3_line_109 (lv_at hl 7 rfl) ?_
                          refine lv_iconst (v := 1) hx hb dX3_line_111 (by decide +kernel) ?_
                          refine lv_isub hx hb dX3_line_112 ?_
                          refine lv_topi (fun x_23180 ex_23180 => ?_)
                          replace hF := hF.trans (ap_n ex_23180)
                          have h_23181 : rg x_23180 0 38 := rg_of_eq ex_23180 (rg_sub h_23158 (rg_k (1 : Int32) 1 rfl) (by decide +kernel))
                          refine pl_i hx hb hK hP hL_a3 hK_a3 hN_a3 (rg_in h_23181 (by decide +kernel)) dX3_line_113 ?_
                          refine lv_topi (fun x_23182 ex_23182 => ?_)
                          replace hF := hF.trans (ap_n (vR_r hO_a3 (by decide +kernel) ex_23182))
                          have h_23183 : rg x_23182 0 39 := rg_of_eq ex_23182 (GX.rR hG hT_a3 rfl)
                          refine pt_i hx hb hK hP hD hS hL_a3 hK_a3 hN_a3 (rg_in h_23158 (by decide +kernel)) dX3_line_114 (fun r_23184 H locs er_23184 hP hD hS => ?_)
                          replace hFr := fr_R hFr hO_a3 (by decide +kernel) er_23184
                          replace hF := hF.trans (ap_n (vR_st hVT hO_a3 (by decide +kernel) er_23184))
                          have hG := GX.wR hG hSH hT_a3 rfl er_23184 (rg_w h_23183 (by decide +kernel)) (by decide +kernel)
                          obtain ⟨x_23185, ex_23185⟩ : ∃ y : Int32, y = x_23081 + Int32.ofInt (-1) := ⟨_, rfl⟩
                          replace hF := hF.trans (ap_n ex_23185)
                          have h_23186 : rg x_23185 0 38 := rg_of_eq ex_23185 (rg_add h_23158 (rg_k (Int32.ofInt (-1)) (-1) rfl) (by decide +kernel))
                          refine lv_iinc (v := x_23185) (lv' := [(10, .int x_23185), (3, .ref a2), (4, .ref a3), (5, .int x_3), (6, .ref w_x_20549), (7, .int x_20556), (8, .int x_22744), (9, .int x_22954)]) hx hb dX3_line_115 hl (k := 7) rfl ex_23185.symm (by decide +kernel) rfl (fun ls hl => ?_)
                          refine lv_goto (tgt := 78) hx hb dX3_line_118 (by decide +kernel) ?_
                          exact ih_23117 x_23185 r_23184 _ _ _ (rg_w h_23186 (by decide +kernel)) (ms_dn 1 hm_23114 ex_23185 rfl (by decide +kernel) h_23158 (by decide +kernel) (by decide +kernel)) hF hFr hG hP hD hS (lv_sub hl [1, 2, 3, 4, 5, 6, 7, 0] rfl)
                  exact L_23116 _ x_22744 ri_22745 _ _ _ (rg_w h_22952 (by decide +kernel)) (Nat.lt_succ_self _) hF hFr hG hP hD hS (lv_sub hl [2, 3, 4, 5, 6, 7, 1, 0] rfl)
            exact L_22945 _ (1 : Int32) ri_17939 _ _ _ (rg_w (rg_k (1 : Int32) 1 rfl) (by decide +kernel)) (Nat.lt_succ_self _) hF hFr hG hP hD hS (lv_sub hl [6, 7, 8, 2, 1, 0] rfl)
        · replace hF := hF.trans (if_neg c_20546)
          have h_23187 : rg x_17938 0 39 := rg_lt1 (nle c_20546) h_20545 h_4 (by decide +kernel)
          have h_23188 : rg x_3 1 40 := rg_lt2 (nle c_20546) h_20545 h_4 (by decide +kernel)
          refine lv_aload hx hb dX3_line_22 (lv_at hl 4 rfl) ?_
          refine lv_iload hx hb dX3_line_24 (lv_at hl 6 rfl) ?_
          refine lv_iload hx hb dX3_line_26 (lv_at hl 6 rfl) ?_
          refine pt_i hx hb hK hP hD hS hL_a3 hK_a3 hN_a3 (rg_in h_23187 (by decide +kernel)) dX3_line_28 (fun r_23189 H locs er_23189 hP hD hS => ?_)
          replace hFr := fr_R hFr hO_a3 (by decide +kernel) er_23189
          replace hF := hF.trans (ap_n (vR_st hVT hO_a3 (by decide +kernel) er_23189))
          have hG := GX.wR hG hSH hT_a3 rfl er_23189 (rg_w h_23187 (by decide +kernel)) (by decide +kernel)
          obtain ⟨x_23190, ex_23190⟩ : ∃ y : Int32, y = x_17938 + Int32.ofInt 1 := ⟨_, rfl⟩
          replace hF := hF.trans (ap_n ex_23190)
          have h_23191 : rg x_23190 1 40 := rg_of_eq ex_23190 (rg_add h_23187 (rg_k (Int32.ofInt 1) 1 rfl) (by decide +kernel))
          refine lv_iinc (v := x_23190) (lv' := [(6, .int x_23190), (0, .ref this), (1, .int a0), (2, .int a1), (3, .ref a2), (4, .ref a3), (5, .int x_3)]) hx hb dX3_line_29 hl (k := 6) rfl ex_23190.symm (by decide +kernel) rfl (fun ls hl => ?_)
          refine lv_goto (tgt := 15) hx hb dX3_line_32 (by decide +kernel) ?_
          exact ih_20543 x_23190 r_23189 _ _ _ (rg_w h_23191 (by decide +kernel)) (ms_up 1 hm_20540 ex_23190 rfl (by decide +kernel) h_23187 (by decide +kernel) (by decide +kernel)) hF hFr hG hP hD hS (lv_sub hl [1, 2, 3, 4, 5, 6, 0] rfl)
    exact L_20542 _ (0 : Int32) ri _ _ _ (rg_w (rg_k (0 : Int32) 0 rfl) (by decide +kernel)) (Nat.lt_succ_self _) hF hFr hG hP hD hS (lv_sub hl [2, 3, 4, 5, 6, 1, 0] rfl)
  exact go _ _ _ hP hD hS hl

set_option maxRecDepth 100000 in
def g_X0_board_331_K202 (x_9742 : Int32) (k_g_X0_board_331_L43 : (Int32) → (Int32) → (Nat → Nat → Int32) → vM) (x_9921 : Int32) (ri_9922 : Nat → Nat → Int32) : vM := (ap1 (x_9742 + Int32.ofInt 1) fun (x_9926 : Int32) => (k_g_X0_board_331_L43 x_9921 x_9926 ri_9922))
set_option maxRecDepth 100000 in
theorem g_X0_board_331_K202_e {x_9742 : Int32} {k_g_X0_board_331_L43 : (Int32) → (Int32) → (Nat → Nat → Int32) → vM} {x_9921 : Int32} {ri_9922 : Nat → Nat → Int32} : g_X0_board_331_K202 x_9742 k_g_X0_board_331_L43 x_9921 ri_9922 = (ap1 (x_9742 + Int32.ofInt 1) fun (x_9926 : Int32) => (k_g_X0_board_331_L43 x_9921 x_9926 ri_9922)) := rfl
set_option maxRecDepth 100000 in
def g_X0_board_331_K165 (a4 : Int32) (x_9742 : Int32) (k_g_X0_board_331_L43 : (Int32) → (Int32) → (Nat → Nat → Int32) → vM) (x_9846 : Int32) (x_9949 : Int32) (x_9986 : Int32) (ri_9987 : Nat → Nat → Int32) : vM := (ap1 (ri_9987 15 (x_9949).toNatClampNeg) fun (x_9998 : Int32) => (if x_9998 = (-1 : Int32) then (g_X0_board_331_K202 x_9742 k_g_X0_board_331_L43 x_9986 ri_9987) else (ap1 ((100 : Int32) + x_9998) fun (x_10003 : Int32) => (ap1 (va_up ri_9987 5 (upd (ri_9987 5) (x_9846).toNatClampNeg x_10003)) fun (r_10005 : Nat → Nat → Int32) => (ap1 (va_up r_10005 8 (upd (r_10005 8) (x_9846).toNatClampNeg a4)) fun (r_10007 : Nat → Nat → Int32) => (g_X0_board_331_K202 x_9742 k_g_X0_board_331_L43 x_9986 r_10007))))))
set_option maxRecDepth 100000 in
theorem g_X0_board_331_K165_e {a4 : Int32} {x_9742 : Int32} {k_g_X0_board_331_L43 : (Int32) → (Int32) → (Nat → Nat → Int32) → vM} {x_9846 : Int32} {x_9949 : Int32} {x_9986 : Int32} {ri_9987 : Nat → Nat → Int32} : g_X0_board_331_K165 a4 x_9742 k_g_X0_board_331_L43 x_9846 x_9949 x_9986 ri_9987 = (ap1 (ri_9987 15 (x_9949).toNatClampNeg) fun (x_9998 : Int32) => (if x_9998 = (-1 : Int32) then (g_X0_board_331_K202 x_9742 k_g_X0_board_331_L43 x_9986 ri_9987) else (ap1 ((100 : Int32) + x_9998) fun (x_10003 : Int32) => (ap1 (va_up ri_9987 5 (upd (ri_9987 5) (x_9846).toNatClampNeg x_10003)) fun (r_10005 : Nat → Nat → Int32) => (ap1 (va_up r_10005 8 (upd (r_10005 8) (x_9846).toNatClampNeg a4)) fun (r_10007 : Nat → Nat → Int32) => (g_X0_board_331_K202 x_9742 k_g_X0_board_331_L43 x_9986 r_10007)))))) := rfl
set_option maxRecDepth 100000 in
def g_X0_board_331_K162 (a4 : Int32) (x_9741 : Int32) (x_9742 : Int32) (k_g_X0_board_331_L43 : (Int32) → (Int32) → (Nat → Nat → Int32) → vM) (x_9846 : Int32) (x_9949 : Int32) (r_10040 : Nat → Nat → Int32) (x_10046 : Int32) : vM := (ap1 (x_9741 - x_10046) fun (x_10049 : Int32) => (g_X0_board_331_K165 a4 x_9742 k_g_X0_board_331_L43 x_9846 x_9949 x_10049 r_10040))
set_option maxRecDepth 100000 in
theorem g_X0_board_331_K162_e {a4 : Int32} {x_9741 : Int32} {x_9742 : Int32} {k_g_X0_board_331_L43 : (Int32) → (Int32) → (Nat → Nat → Int32) → vM} {x_9846 : Int32} {x_9949 : Int32} {r_10040 : Nat → Nat → Int32} {x_10046 : Int32} : g_X0_board_331_K162 a4 x_9741 x_9742 k_g_X0_board_331_L43 x_9846 x_9949 r_10040 x_10046 = (ap1 (x_9741 - x_10046) fun (x_10049 : Int32) => (g_X0_board_331_K165 a4 x_9742 k_g_X0_board_331_L43 x_9846 x_9949 x_10049 r_10040)) := rfl
set_option maxRecDepth 100000 in
def g_X0_board_331_K137 (a4 : Int32) (x_9741 : Int32) (x_9742 : Int32) (k_g_X0_board_331_L43 : (Int32) → (Int32) → (Nat → Nat → Int32) → vM) (x_9846 : Int32) (x_9949 : Int32) (x_10026 : Int32) (ri_10027 : Nat → Nat → Int32) : vM := (ap1 (va_up ri_10027 15 (upd (ri_10027 15) (x_9949).toNatClampNeg x_10026)) fun (r_10040 : Nat → Nat → Int32) => (ap1 (r_10040 15 (x_9949).toNatClampNeg) fun (x_10041 : Int32) => (if x_10041 = (-1 : Int32) then (g_X0_board_331_K162 a4 x_9741 x_9742 k_g_X0_board_331_L43 x_9846 x_9949 r_10040 (0 : Int32)) else (ap1 (r_10040 14 (x_9949).toNatClampNeg) fun (x_10052 : Int32) => (g_X0_board_331_K162 a4 x_9741 x_9742 k_g_X0_board_331_L43 x_9846 x_9949 r_10040 x_10052)))))
set_option maxRecDepth 100000 in
theorem g_X0_board_331_K137_e {a4 : Int32} {x_9741 : Int32} {x_9742 : Int32} {k_g_X0_board_331_L43 : (Int32) → (Int32) → (Nat → Nat → Int32) → vM} {x_9846 : Int32} {x_9949 : Int32} {x_10026 : Int32} {ri_10027 : Nat → Nat → Int32} : g_X0_board_331_K137 a4 x_9741 x_9742 k_g_X0_board_331_L43 x_9846 x_9949 x_10026 ri_10027 = (ap1 (va_up ri_10027 15 (upd (ri_10027 15) (x_9949).toNatClampNeg x_10026)) fun (r_10040 : Nat → Nat → Int32) => (ap1 (r_10040 15 (x_9949).toNatClampNeg) fun (x_10041 : Int32) => (if x_10041 = (-1 : Int32) then (g_X0_board_331_K162 a4 x_9741 x_9742 k_g_X0_board_331_L43 x_9846 x_9949 r_10040 (0 : Int32)) else (ap1 (r_10040 14 (x_9949).toNatClampNeg) fun (x_10052 : Int32) => (g_X0_board_331_K162 a4 x_9741 x_9742 k_g_X0_board_331_L43 x_9846 x_9949 r_10040 x_10052))))) := rfl
set_option maxRecDepth 100000 in
def g_X0_board_331_L43 (a0 : Int64) (a2 : Int32) (a4 : Int32) (I : Nat → Int32) (J : Nat → Int64) (rj : Nat → Nat → Int64) (rq : Nat → Nat → Option Nat) : Nat → (Int32) → (Int32) → (Nat → Nat → Int32) → vM
  | 0, x_9741, x_9742, ri_9743 => (I, J, ri_9743, rj, rq)
  | n_9831 + 1, x_9741, x_9742, ri_9743 => (if a2 ≤ x_9742 then (I, J, ri_9743, rj, rq) else (if (40 : Int32) ≤ x_9742 then (I, J, ri_9743, rj, rq) else (ap1 (ri_9743 331 (x_9742).toNatClampNeg) fun (x_9846 : Int32) => (ap1 (g_X11_hasBit a0 x_9846) fun (x_9848 : Int32) => (if x_9848 = (0 : Int32) then (g_X0_board_331_K202 x_9742 (g_X0_board_331_L43 a0 a2 a4 I J rj rq n_9831) x_9741 ri_9743) else (bnI (g_X0_isOnRing x_9846 I J ri_9743 rj rq) fun (x_9934 : Int32) (_ : Nat → Int32) (_ : Nat → Int64) (_ : Nat → Nat → Int32) (_ : Nat → Nat → Int64) (_ : Nat → Nat → Option Nat) => (if x_9934 = (0 : Int32) then (g_X0_board_331_K202 x_9742 (g_X0_board_331_L43 a0 a2 a4 I J rj rq n_9831) x_9741 ri_9743) else (bnI (g_X0_groupOf x_9846 I J ri_9743 rj rq) fun (x_9949 : Int32) (_ : Nat → Int32) (_ : Nat → Int64) (_ : Nat → Nat → Int32) (_ : Nat → Nat → Int64) (_ : Nat → Nat → Option Nat) => (ap1 (ri_9743 15 (x_9949).toNatClampNeg) fun (x_9957 : Int32) => (if x_9957 = (-2 : Int32) then (ap1 (ri_9743 14 (x_9949).toNatClampNeg) fun (x_10014 : Int32) => (if x_9741 < x_10014 then (g_X0_board_331_K137 a4 x_9741 x_9742 (g_X0_board_331_L43 a0 a2 a4 I J rj rq n_9831) x_9846 x_9949 (-1 : Int32) ri_9743) else (bnI (g_X0_takeLot x_10014 I J ri_9743 rj rq) fun (x_10059 : Int32) (_ : Nat → Int32) (_ : Nat → Int64) (ri_10061 : Nat → Nat → Int32) (_ : Nat → Nat → Int64) (_ : Nat → Nat → Option Nat) => (g_X0_board_331_K137 a4 x_9741 x_9742 (g_X0_board_331_L43 a0 a2 a4 I J rj rq n_9831) x_9846 x_9949 x_10059 ri_10061)))) else (g_X0_board_331_K165 a4 x_9742 (g_X0_board_331_L43 a0 a2 a4 I J rj rq n_9831) x_9846 x_9949 x_9741 ri_9743)))))))))))
set_option maxRecDepth 100000 in
theorem g_X0_board_331_L43_e {a0 : Int64} {a2 : Int32} {a4 : Int32} {I : Nat → Int32} {J : Nat → Int64} {rj : Nat → Nat → Int64} {rq : Nat → Nat → Option Nat} {n_9831 : Nat} {x_9741 : Int32} {x_9742 : Int32} {ri_9743 : Nat → Nat → Int32} : g_X0_board_331_L43 a0 a2 a4 I J rj rq (n_9831 + 1) x_9741 x_9742 ri_9743 = (if a2 ≤ x_9742 then (I, J, ri_9743, rj, rq) else (if (40 : Int32) ≤ x_9742 then (I, J, ri_9743, rj, rq) else (ap1 (ri_9743 331 (x_9742).toNatClampNeg) fun (x_9846 : Int32) => (ap1 (g_X11_hasBit a0 x_9846) fun (x_9848 : Int32) => (if x_9848 = (0 : Int32) then (g_X0_board_331_K202 x_9742 (g_X0_board_331_L43 a0 a2 a4 I J rj rq n_9831) x_9741 ri_9743) else (bnI (g_X0_isOnRing x_9846 I J ri_9743 rj rq) fun (x_9934 : Int32) (_ : Nat → Int32) (_ : Nat → Int64) (_ : Nat → Nat → Int32) (_ : Nat → Nat → Int64) (_ : Nat → Nat → Option Nat) => (if x_9934 = (0 : Int32) then (g_X0_board_331_K202 x_9742 (g_X0_board_331_L43 a0 a2 a4 I J rj rq n_9831) x_9741 ri_9743) else (bnI (g_X0_groupOf x_9846 I J ri_9743 rj rq) fun (x_9949 : Int32) (_ : Nat → Int32) (_ : Nat → Int64) (_ : Nat → Nat → Int32) (_ : Nat → Nat → Int64) (_ : Nat → Nat → Option Nat) => (ap1 (ri_9743 15 (x_9949).toNatClampNeg) fun (x_9957 : Int32) => (if x_9957 = (-2 : Int32) then (ap1 (ri_9743 14 (x_9949).toNatClampNeg) fun (x_10014 : Int32) => (if x_9741 < x_10014 then (g_X0_board_331_K137 a4 x_9741 x_9742 (g_X0_board_331_L43 a0 a2 a4 I J rj rq n_9831) x_9846 x_9949 (-1 : Int32) ri_9743) else (bnI (g_X0_takeLot x_10014 I J ri_9743 rj rq) fun (x_10059 : Int32) (_ : Nat → Int32) (_ : Nat → Int64) (ri_10061 : Nat → Nat → Int32) (_ : Nat → Nat → Int64) (_ : Nat → Nat → Option Nat) => (g_X0_board_331_K137 a4 x_9741 x_9742 (g_X0_board_331_L43 a0 a2 a4 I J rj rq n_9831) x_9846 x_9949 x_10059 ri_10061)))) else (g_X0_board_331_K165 a4 x_9742 (g_X0_board_331_L43 a0 a2 a4 I J rj rq n_9831) x_9846 x_9949 x_9741 ri_9743))))))))))) := rfl
set_option maxRecDepth 100000 in
def g_X0_board_331_L8 (a0 : Int64) (a2 : Int32) (a3 : Int32) (a4 : Int32) (I : Nat → Int32) (J : Nat → Int64) (rj : Nat → Nat → Int64) (rq : Nat → Nat → Option Nat) : Nat → (Int32) → (Nat → Nat → Int32) → vM
  | 0, x_7446, ri_7447 => (I, J, ri_7447, rj, rq)
  | n_8687 + 1, x_7446, ri_7447 => (ap1 (I 10) fun (y_8693 : Int32) => (if (y_8693) ≤ x_7446 then (g_X0_board_331_L43 a0 a2 a4 I J rj rq ((40 - ((0 : Int32)).toInt).toNat + 1) a3 (0 : Int32) ri_7447) else (bnI (g_X0_freeBeds x_7446 I J ri_7447 rj rq) fun (x_10072 : Int32) (_ : Nat → Int32) (_ : Nat → Int64) (_ : Nat → Nat → Int32) (_ : Nat → Nat → Int64) (_ : Nat → Nat → Option Nat) => (ap1 (va_up ri_7447 13 (upd (ri_7447 13) (x_7446).toNatClampNeg x_10072)) fun (r_10079 : Nat → Nat → Int32) => (ap1 (x_7446 + Int32.ofInt 1) fun (x_10080 : Int32) => ((g_X0_board_331_L8 a0 a2 a3 a4 I J rj rq n_8687) x_10080 r_10079))))))
set_option maxRecDepth 100000 in
theorem g_X0_board_331_L8_e {a0 : Int64} {a2 : Int32} {a3 : Int32} {a4 : Int32} {I : Nat → Int32} {J : Nat → Int64} {rj : Nat → Nat → Int64} {rq : Nat → Nat → Option Nat} {n_8687 : Nat} {x_7446 : Int32} {ri_7447 : Nat → Nat → Int32} : g_X0_board_331_L8 a0 a2 a3 a4 I J rj rq (n_8687 + 1) x_7446 ri_7447 = (ap1 (I 10) fun (y_8693 : Int32) => (if (y_8693) ≤ x_7446 then (g_X0_board_331_L43 a0 a2 a4 I J rj rq ((40 - ((0 : Int32)).toInt).toNat + 1) a3 (0 : Int32) ri_7447) else (bnI (g_X0_freeBeds x_7446 I J ri_7447 rj rq) fun (x_10072 : Int32) (_ : Nat → Int32) (_ : Nat → Int64) (_ : Nat → Nat → Int32) (_ : Nat → Nat → Int64) (_ : Nat → Nat → Option Nat) => (ap1 (va_up ri_7447 13 (upd (ri_7447 13) (x_7446).toNatClampNeg x_10072)) fun (r_10079 : Nat → Nat → Int32) => (ap1 (x_7446 + Int32.ofInt 1) fun (x_10080 : Int32) => ((g_X0_board_331_L8 a0 a2 a3 a4 I J rj rq n_8687) x_10080 r_10079)))))) := rfl
set_option maxRecDepth 100000 in
def g_X0_board_331 (a0 : Int64) (a2 : Int32) (a3 : Int32) (a4 : Int32) (I : Nat → Int32) (J : Nat → Int64) (ri : Nat → Nat → Int32) (rj : Nat → Nat → Int64) (rq : Nat → Nat → Option Nat) : vM := (bnV (g_X0_countGroups a0 I J ri rj rq) fun (_ : Nat → Int32) (_ : Nat → Int64) (ri_3 : Nat → Nat → Int32) (_ : Nat → Nat → Int64) (_ : Nat → Nat → Option Nat) => (g_X0_board_331_L8 a0 a2 a3 a4 I J rj rq ((5 - ((0 : Int32)).toInt).toNat + 1) (0 : Int32) ri_3))
set_option maxRecDepth 100000 in
theorem g_X0_board_331_e {a0 : Int64} {a2 : Int32} {a3 : Int32} {a4 : Int32} {I : Nat → Int32} {J : Nat → Int64} {ri : Nat → Nat → Int32} {rj : Nat → Nat → Int64} {rq : Nat → Nat → Option Nat} : g_X0_board_331 a0 a2 a3 a4 I J ri rj rq = (bnV (g_X0_countGroups a0 I J ri rj rq) fun (_ : Nat → Int32) (_ : Nat → Int64) (ri_3 : Nat → Nat → Int32) (_ : Nat → Nat → Int64) (_ : Nat → Nat → Option Nat) => (g_X0_board_331_L8 a0 a2 a3 a4 I J rj rq ((5 - ((0 : Int32)).toInt).toNat + 1) (0 : Int32) ri_3)) := rfl
set_option maxHeartbeats 4000000 in
set_option maxRecDepth 100000 in
theorem s_X0_board_331 (l : Launch) (D : va_G) (t : pq_T) (σ : pq_S) (I : Nat → Nat → Int32) (J : Nat → Nat → Int64) (ri : Nat → Nat → Int32) (rj : Nat → Nat → Int64) (rq : Nat → Nat → Option Nat) (sz : Nat) (tg : Nat → Nat) (hSH : SH σ tg) (hG0 : GS tg σ I ri rq) (this : Nat) (a0 : Int64) (a1 : Nat) (a2 : Int32) (a3 : Int32) (a4 : Int32) (hL_this : this ∈ σ.1) (hK_this : σ.2.1 this = 0) (hL_a1 : a1 ∈ σ.1) (hK_a1 : σ.2.1 a1 = 13) (hN_a1 : σ.2.2.2 a1 = 40) (hT_a1 : tg a1 = 331) (M : Nat) (hL_M : M ∈ σ.1) (hK_M : σ.2.1 M = 10) (hO_this : this = vo σ 0 M) (hO_a1 : a1 = vrow σ 331 M) : MetV l yX0_board (wa yX0_board cX0_board 11 none) ({ frames := 2, cells := 0, slots := 0, locals := 45 }) [.ref this, .long a0, .ref a1, .int a2, .int a3, .int a4] D t σ (I, J, ri, rj, rq) sz 0 0 (fun (u : pq_S × pq_M) => ∃ ri' : Nat → Nat → Int32, u = (σ, I, J, ri', rj, rq) ∧ GX [1005] tg σ I ri rj I ri' rj rq ∧ g_X0_board_331 a0 a2 a3 a4 (vI 10 σ M I) (vJ 10 σ M J) (vR 10 σ M ri) (vL 10 σ M rj) (vQ 10 σ M rq) = ((vI 10 σ M I), (vJ 10 σ M J), (vR 10 σ M ri'), (vL 10 σ M rj), (vQ 10 σ M rq)) ∧ FR 10 tg σ M (I, J, ri, rj, rq) (I, J, ri', rj, rq)) := by
  refine Met.ofW (cc := cX0_board) (maxL := 11) (ret := none) (by decide +kernel) rfl ?_
  intro p e s m args below meth c s₁ B hml hv
  obtain ⟨rfl, hsz, hP, hK, hD0, hN⟩ := hv
  have hx := B.exec
  have hb := B.bytes
  have hr := B.returns
  have hts := atoms_spec (ws := (wa yX0_board cX0_board 11 none)) B.pre
  have hown : s.vm.findClass RX0 = some m.cls := findClass_of_methodNamed B.named
  have hlocks := B.notSynchronized
  subst hsz
  have hD : va_D (pq_B t σ (I, J, ri, rj, rq) s.heap.size) (pq_P t σ (I, J, ri, rj, rq)) := hD0.self
  generalize hAe : pq_B t σ (I, J, ri, rj, rq) s.heap.size = A at hD ⊢
  have hA : ∀ q : Nat, s.heap.size ≤ q → A q := fun q h => by rw [← hAe]; exact Or.inr h
  have hS : va_S A s.heap s.heap [] := va_S.rf
  have hG : GX [1005] tg σ I ri rj I ri rj rq := ⟨hG0, fun _ _ _ => rfl, fun _ _ _ _ _ => rfl, fun _ _ _ _ _ => rfl⟩
  have hl := lv_entry ([.ref this, .long a0, .ref a1, .int a2, .int a3, .int a4]) (n := 11) (Nat.le_of_ble_eq_true rfl)
  rw [lg_entry_eq]
  generalize (lg_sl ([.ref this, .long a0, .ref a1, .int a2, .int a3, .int a4]) ++ List.replicate (11 - (lg_sl ([.ref this, .long a0, .ref a1, .int a2, .int a3, .int a4])).length) Slot.unset).toArray = ls at hl ⊢
  have hl : lv_has ls 11 [(0, .ref this), (1, .long a0), (3, .ref a1), (4, .int a2), (5, .int a3), (6, .int a4)] := hl
  refine q_gen (fun Q hQ => ?_)
  have go : ∀ (H : Heap) (locs : List Loc) (ls : Array Slot), va_P D vwCl (pq_P t σ (I, J, ri, rj, rq)) H → va_D A (pq_P t σ (I, J, ri, rj, rq)) → va_S A s.heap H locs → lv_has ls 11 [(0, .ref this), (1, .long a0), (3, .ref a1), (4, .int a2), (5, .int a3), (6, .int a4)] → W p l e ({ frames := 2, cells := 0, slots := 0, locals := 45 } : Room) s m (List.toArray ([.ref this, .long a0, .ref a1, .int a2, .int a3, .int a4] : List Value)) below meth c H locs 0 0 Q (F0 m 0 ls []) := by
    intro H locs ls hP hD hS hl
    have hVT : VT 10 σ tg M := vt_10 hSH hL_M hK_M
    have hFr : FR 10 tg σ M (I, J, ri, rj, rq) (I, J, ri, rj, rq) := fr_rf
    obtain ⟨F, hF0⟩ : ∃ F, F = g_X0_board_331 a0 a2 a3 a4 (vI 10 σ M I) (vJ 10 σ M J) (vR 10 σ M ri) (vL 10 σ M rj) (vQ 10 σ M rq) := ⟨_, rfl⟩
    have hF := hF0.trans g_X0_board_331_e
    refine lv_aload_n hx hb dX0_board_0 rfl (lv_at hl 0 rfl) ?_
    refine lv_lload_n hx hb dX0_board_1 rfl (lv_at hl 1 rfl) ?_
    refine pk_v (va_runV (As := [.long a0]) (rest := []) ⟨hx, hb, hml, hown, hts⟩ (s_X0_countGroups l D t σ I J ri rj rq H.size tg hSH hG.1 this a0 hL_this hK_this M hL_M hK_M hO_this) (cwV 1 hts (tw_V tw_1172 tw_1173 tw_1174 tw_45 tw_1175) rfl rfl rfl cv_yX0_countGroups_1 ⟨Nat.le_of_ble_eq_true rfl, Nat.le_of_ble_eq_true rfl⟩) ⟨pq_blind, pq_recv hK hP hL_this hK_this (by decide +kernel) rfl, pq_pre hK hN hP hD⟩ rfl rfl hl.1 rfl (lv_room (Nat.le_of_ble_eq_true rfl)) dX0_board_2 ⟨Nat.le_of_ble_eq_true rfl, Nat.le_of_ble_eq_true rfl⟩) hD hS hA (fun σ1 μ1 H locs hw_2 hP hD hS => ?_)
    obtain ⟨ri_3, hu_4, hg_5, hfn_7, hfr_8⟩ := hw_2
    obtain ⟨hu_4a, hu_4b⟩ := Prod.mk.inj hu_4
    rw [hu_4a, hu_4b] at hP hD
    replace hF := hF.trans (bv_n hfn_7)
    replace hFr := fr_tr hFr hfr_8
    have hG := GX.tr hG hg_5 (by decide +kernel)
    refine lv_iconst (v := 0) hx hb dX0_board_5 (by decide +kernel) ?_
    refine lv_istore (lv' := [(7, .int 0), (0, .ref this), (1, .long a0), (3, .ref a1), (4, .int a2), (5, .int a3), (6, .int a4)]) hx hb dX0_board_6 hl (by decide +kernel) rfl (fun ls hl => ?_)
    have L_8688 : ∀ (n_8687 : Nat) (x_7446 : Int32) (ri_7447 : Nat → Nat → Int32) (H : Heap) (locs : List Loc) (ls : Array Slot), rg x_7446 0 5 → (5 - (x_7446).toInt).toNat < n_8687 → F = g_X0_board_331_L8 a0 a2 a3 a4 (vI 10 σ M I) (vJ 10 σ M J) (vL 10 σ M rj) (vQ 10 σ M rq) n_8687 x_7446 (vR 10 σ M ri_7447) → FR 10 tg σ M (I, J, ri, rj, rq) (I, J, ri_7447, rj, rq) → GX [1005] tg σ I ri rj I ri_7447 rj rq → va_P D vwCl (pq_P t σ (I, J, ri_7447, rj, rq)) H → va_D A (pq_P t σ (I, J, ri_7447, rj, rq)) → va_S A s.heap H locs → lv_has ls 11 [(0, .ref this), (1, .long a0), (3, .ref a1), (4, .int a2), (5, .int a3), (6, .int a4), (7, .int x_7446)] → W p l e ({ frames := 2, cells := 0, slots := 0, locals := 45 } : Room) s m (List.toArray ([.ref this, .long a0, .ref a1, .int a2, .int a3, .int a4] : List Value)) below meth c H locs 0 0 Q (F0 m 8 ls []) := by
      intro n_8687
      induction n_8687 with
      | zero => intro x_7446 ri_7447 H locs ls h_8691 hm_8686 hF hFr hG hP hD hS hl; exact absurd hm_8686 (Nat.not_lt_zero _)
      | succ n_8687 ih_8689 =>
        intro x_7446 ri_7447 H locs ls h_8691 hm_8686 hF hFr hG hP hD hS hl
        replace hF := hF.trans g_X0_board_331_L8_e
        refine lv_iload hx hb dX0_board_8 (lv_at hl 6 rfl) ?_
        refine lv_aload_n hx hb dX0_board_10 rfl (lv_at hl 0 rfl) ?_
        refine pg_f (v := .int (I 10 this)) (C := RX0) (T := TX0) (N := 16) hx hb hts (tw_i inlX0) hown hK hP hL_this hK_this (by decide +kernel) rfl 10 (by decide +kernel) (hts _ (tw_c tw_1171)) rfl dX0_board_11 ?_
        have h_8692 : rg (I 10 this) 0 5 := GX.rI hG 10 rfl
        replace hF := hF.trans (ap_n (vI_e (f := 10) hO_this (by decide +kernel)))
        refine lv_icmp_ge (tgt := 36) hx hb dX0_board_14 (by decide +kernel) (fun c_8694 => ?_) (fun c_8694 => ?_)
        · replace hF := hF.trans (if_pos c_8694)
          refine lv_iload hx hb dX0_board_36 (lv_at hl 4 rfl) ?_
          refine lv_istore (lv' := [(7, .int a3), (0, .ref this), (1, .long a0), (3, .ref a1), (4, .int a2), (5, .int a3), (6, .int a4)]) hx hb dX0_board_38 hl (by decide +kernel) rfl (fun ls hl => ?_)
          refine lv_iconst (v := 0) hx hb dX0_board_40 (by decide +kernel) ?_
          refine lv_istore (lv' := [(8, .int 0), (7, .int a3), (0, .ref this), (1, .long a0), (3, .ref a1), (4, .int a2), (5, .int a3), (6, .int a4)]) hx hb dX0_board_41 hl (by decide +kernel) rfl (fun ls hl => ?_)
          have L_9832 : ∀ (n_9831 : Nat) (x_9741 : Int32) (x_9742 : Int32) (ri_9743 : Nat → Nat → Int32) (H : Heap) (locs : List Loc) (ls : Array Slot), rg x_9742 0 40 → (40 - (x_9742).toInt).toNat < n_9831 → F = g_X0_board_331_L43 a0 a2 a4 (vI 10 σ M I) (vJ 10 σ M J) (vL 10 σ M rj) (vQ 10 σ M rq) n_9831 x_9741 x_9742 (vR 10 σ M ri_9743) → FR 10 tg σ M (I, J, ri, rj, rq) (I, J, ri_9743, rj, rq) → GX [1005] tg σ I ri rj I ri_9743 rj rq → va_P D vwCl (pq_P t σ (I, J, ri_9743, rj, rq)) H → va_D A (pq_P t σ (I, J, ri_9743, rj, rq)) → va_S A s.heap H locs → lv_has ls 11 [(0, .ref this), (1, .long a0), (3, .ref a1), (4, .int a2), (6, .int a4), (7, .int x_9741), (8, .int x_9742)] → W p l e ({ frames := 2, cells := 0, slots := 0, locals := 45 } : Room) s m (List.toArray ([.ref this, .long a0, .ref a1, .int a2, .int a3, .int a4] : List Value)) below meth c H locs 0 0 Q (F0 m 43 ls []) := by
            intro n_9831
            induction n_9831 with
            | zero => intro x_9741 x_9742 ri_9743 H locs ls h_9835 hm_9830 hF hFr hG hP hD hS hl; exact absurd hm_9830 (Nat.not_lt_zero _)
            | succ n_9831 ih_9833 =>
              intro x_9741 x_9742 ri_9743 H locs ls h_9835 hm_9830 hF hFr hG hP hD hS hl
              replace hF := hF.trans g_X0_board_331_L43_e
              refine lv_iload hx hb dX0_board_43 (lv_at hl 6 rfl) ?_
              refine lv_iload hx hb dX0_board_45 (lv_at hl 3 rfl) ?_
              refine lv_icmp_ge (tgt := 208) hx hb dX0_board_47 (by decide +kernel) (fun c_9836 => ?_) (fun c_9836 => ?_)
              · replace hF := hF.trans (if_pos c_9836)
                have h_9839 : rg a2 (-2147483648) 40 := rg_le1 c_9836 (rg_full _) h_9835 (by decide +kernel)
                subst hQ
                exact W.vret hx hb hr (fun t1 ht hW => ⟨⟨(σ, I, J, ri_9743, rj, rq), rfl, ⟨ri_9743, rfl, hG, (hF0.symm.trans hF), hFr⟩, by rw [ht]; exact hP, va_K.moved hW.alike hK, hD⟩, hS.F ht⟩) hS.2.2 dX0_board_208
              · replace hF := hF.trans (if_neg c_9836)
                have h_9840 : rg a2 1 2147483647 := rg_lt2 (nle c_9836) h_9835 (rg_full _) (by decide +kernel)
                refine lv_iload hx hb dX0_board_50 (lv_at hl 6 rfl) ?_
                refine lv_aload_n hx hb dX0_board_52 rfl (lv_at hl 2 rfl) ?_
                refine pn_i (v := 40) hx hb hK hP hL_a1 hK_a1 hN_a1 (by decide +kernel) dX0_board_53 ?_
                refine lv_icmp_ge (tgt := 208) hx hb dX0_board_54 (by decide +kernel) (fun c_9841 => ?_) (fun c_9841 => ?_)
                · replace hF := hF.trans (if_pos c_9841)
                  have h_9844 : rg x_9742 40 40 := rg_le2 c_9841 (rg_k (40 : Int32) 40 rfl) h_9835 (by decide +kernel)
                  subst hQ
                  exact W.vret hx hb hr (fun t1 ht hW => ⟨⟨(σ, I, J, ri_9743, rj, rq), rfl, ⟨ri_9743, rfl, hG, (hF0.symm.trans hF), hFr⟩, by rw [ht]; exact hP, va_K.moved hW.alike hK, hD⟩, hS.F ht⟩) hS.2.2 dX0_board_208
                · replace hF := hF.trans (if_neg c_9841)
                  have h_9845 : rg x_9742 0 39 := rg_lt1 (nle c_9841) h_9835 (rg_k (40 : Int32) 40 rfl) (by decide +kernel)
                  refine lv_aload_n hx hb dX0_board_57 rfl (lv_at hl 2 rfl) ?_
                  refine lv_iload hx hb dX0_board_58 (lv_at hl 6 rfl) ?_
                  refine pl_i hx hb hK hP hL_a1 hK_a1 hN_a1 (rg_in h_9845 (by decide +kernel)) dX0_board_60 ?_
                  refine lv_topi (fun x_9846 ex_9846 => ?_)
                  replace hF := hF.trans (ap_n (vR_r hO_a1 (by decide +kernel) ex_9846))
                  have h_9847 : rg x_9846 0 39 := rg_of_eq ex_9846 (GX.rR hG hT_a1 rfl)
                  refine lv_istore (lv' := [(9, .int x_9846), (0, .ref this), (1, .long a0), (3, .ref a1), (4, .int a2), (6, .int a4), (7, .int x_9741), (8, .int x_9742)]) hx hb dX0_board_61 hl (by decide +kernel) rfl (fun ls hl => ?_)
                  refine lv_lload_n hx hb dX0_board_63 rfl (lv_at hl 2 rfl) ?_
                  refine lv_iload hx hb dX0_board_64 (lv_at hl 0 rfl) ?_
                  refine pk_i (va_runSN (As := [.long a0, .int x_9846]) (rest := []) ⟨hx, hb, hml, hown, hts⟩ (s_X11_hasBit l D t σ I J ri_9743 rj rq H.size tg hSH hG.1 a0 x_9846) ⟨va_cnB (host := "RingsUnder") 2 hts (tw_W tw_560) rfl rfl rfl (nl_13 hN) (hts _ (tw_c tw_2)) cd_yX11_hasBit_2 ⟨Nat.le_of_ble_eq_true rfl, Nat.le_of_ble_eq_true rfl⟩, hts (.static yX11_hasBit) (tw_c tq_static_yX11_hasBit), trivial⟩ ⟨pq_blind, pq_pre hK hN hP hD⟩ rfl rfl hl.1 rfl (lv_room (Nat.le_of_ble_eq_true rfl)) dX0_board_66 ⟨Nat.le_of_ble_eq_true rfl, Nat.le_of_ble_eq_true rfl⟩) hD hS hA (fun x_9848 σ1 μ1 H locs hw_9849 hP hD hS => ?_)
                  obtain ⟨hu_9850, hfn_9853, hr_9852⟩ := hw_9849
                  obtain ⟨hu_9850a, hu_9850b⟩ := Prod.mk.inj hu_9850
                  rw [hu_9850a, hu_9850b] at hP hD
                  replace hF := hF.trans (ap_n hfn_9853.symm)
                  have h_9855 : rg x_9848 0 1 := by rcases hr_9852 with ⟨q, -⟩ | ⟨q, -⟩ <;> rw [q] <;> exact ⟨by decide +kernel, by decide +kernel⟩
                  have K_9925 : ∀  (x_9921 : Int32) (ri_9922 : Nat → Nat → Int32) (H : Heap) (locs : List Loc) (ls : Array Slot), F = g_X0_board_331_K202 x_9742 (g_X0_board_331_L43 a0 a2 a4 (vI 10 σ M I) (vJ 10 σ M J) (vL 10 σ M rj) (vQ 10 σ M rq) n_9831) x_9921 (vR 10 σ M ri_9922) → FR 10 tg σ M (I, J, ri, rj, rq) (I, J, ri_9922, rj, rq) → GX [1005] tg σ I ri rj I ri_9922 rj rq → va_P D vwCl (pq_P t σ (I, J, ri_9922, rj, rq)) H → va_D A (pq_P t σ (I, J, ri_9922, rj, rq)) → va_S A s.heap H locs → lv_has ls 11 [(0, .ref this), (1, .long a0), (3, .ref a1), (4, .int a2), (6, .int a4), (7, .int x_9921), (8, .int x_9742)] → W p l e ({ frames := 2, cells := 0, slots := 0, locals := 45 } : Room) s m (List.toArray ([.ref this, .long a0, .ref a1, .int a2, .int a3, .int a4] : List Value)) below meth c H locs 0 0 Q (F0 m 202 ls []) := by
                    intro x_9921 ri_9922 H locs ls hF hFr hG hP hD hS hl
                    replace hF := hF.trans g_X0_board_331_K202_e
                    obtain ⟨x_9926, ex_9926⟩ : ∃ y : Int32, y = x_9742 + Int32.ofInt 1 := ⟨_, rfl⟩
                    replace hF := hF.trans (ap_n ex_9926)
                    have h_9927 : rg x_9926 1 40 := rg_of_eq ex_9926 (rg_add h_9845 (rg_k (Int32.ofInt 1) 1 rfl) (by decide +kernel))
                    refine lv_iinc (v := x_9926) (lv' := [(8, .int x_9926), (0, .ref this), (1, .long a0), (3, .ref a1), (4, .int a2), (6, .int a4), (7, .int x_9921)]) hx hb dX0_board_202 hl (k := 6) rfl ex_9926.symm (by decide +kernel) rfl (fun ls hl => ?_)
                    refine lv_goto (tgt := 43) hx hb dX0_board_205 (by decide +kernel) ?_
                    exact ih_9833 x_9921 x_9926 ri_9922 _ _ _ (rg_w h_9927 (by decide +kernel)) (ms_up 1 hm_9830 ex_9926 rfl (by decide +kernel) h_9845 (by decide +kernel) (by decide +kernel)) hF hFr hG hP hD hS (lv_sub hl [1, 2, 3, 4, 5, 6, 0] rfl)
                  refine lv_if_eq (tgt := 202) hx hb dX0_board_69 (by decide +kernel) (fun c_9928 => ?_) (fun c_9928 => ?_)
                  · replace hF := hF.trans (if_pos c_9928)
                    have h_9931 : rg x_9848 0 0 := rg_and h_9855 (rg_of_eq c_9928 (rg_k (0 : Int32) 0 rfl)) (by decide +kernel)
                    exact K_9925 x_9741 ri_9743 _ _ _ hF hFr hG hP hD hS (lv_sub hl [1, 2, 3, 4, 5, 6, 7] rfl)
                  · replace hF := hF.trans (if_neg c_9928)
                    have h_9932 : rg x_9848 1 1 := rg_ne c_9928 h_9855 0 rfl (by decide +kernel)
                    refine lv_aload_n hx hb dX0_board_72 rfl (lv_at hl 1 rfl) ?_
                    refine lv_iload hx hb dX0_board_73 (lv_at hl 0 rfl) ?_
                    obtain ⟨w_9933, hR_w_9933, hL_w_9933, hK_w_9933, hN_w_9933, hT_w_9933⟩ := sh_a hSH 5 (ci := 0) (kd := 13) (len := 40) rfl (by decide +kernel) hL_this hK_this
                    have hO_w_9933 : w_9933 = vrow σ 5 M := vo_k (c := 0) hO_this hR_w_9933
                    refine pk_i (va_runV (As := [.int x_9846]) (rest := []) ⟨hx, hb, hml, hown, hts⟩ (s_X0_isOnRing l D t σ I J ri_9743 rj rq H.size tg hSH hG.1 this x_9846 hL_this hK_this (rg_w h_9847 (by decide +kernel)) w_9933 hR_w_9933 hL_w_9933 hK_w_9933 hN_w_9933 hT_w_9933 M hL_M hK_M hO_this) (cwV 1 hts (tw_V tw_1108 tw_1109 tw_1110 tw_45 tw_1111) rfl rfl rfl cv_yX0_isOnRing_1 ⟨Nat.le_of_ble_eq_true rfl, Nat.le_of_ble_eq_true rfl⟩) ⟨pq_blind, pq_recv hK hP hL_this hK_this (by decide +kernel) rfl, pq_pre hK hN hP hD⟩ rfl rfl hl.1 rfl (lv_room (Nat.le_of_ble_eq_true rfl)) dX0_board_75 ⟨Nat.le_of_ble_eq_true rfl, Nat.le_of_ble_eq_true rfl⟩) hD hS hA (fun x_9934 σ1 μ1 H locs hw_9935 hP hD hS => ?_)
                    obtain ⟨hu_9936, hfn_9939, hr_9938⟩ := hw_9935
                    obtain ⟨hu_9936a, hu_9936b⟩ := Prod.mk.inj hu_9936
                    rw [hu_9936a, hu_9936b] at hP hD
                    replace hF := hF.trans (bn_n hfn_9939)
                    have h_9941 : rg x_9934 0 1 := by rcases hr_9938 with ⟨q, -⟩ | ⟨q, -⟩ <;> rw [q] <;> exact ⟨by decide +kernel, by decide +kernel⟩
                    refine lv_if_ne (tgt := 84) hx hb dX0_board_78 (by decide +kernel) (fun c_9942 => ?_) (fun c_9942 => ?_)
                    · replace hF := hF.trans (if_neg c_9942)
                      have f_9947 := (hr_9938.resolve_right (fun q => c_9942 q.1)).2
                      have h_9948 : rg x_9934 1 1 := rg_ne c_9942 h_9941 0 rfl (by decide +kernel)
                      refine lv_aload_n hx hb dX0_board_84 rfl (lv_at hl 1 rfl) ?_
                      refine lv_iload hx hb dX0_board_85 (lv_at hl 0 rfl) ?_
                      refine pk_i (va_runV (As := [.int x_9846]) (rest := []) ⟨hx, hb, hml, hown, hts⟩ (s_X0_groupOf l D t σ I J ri_9743 rj rq H.size tg hSH hG.1 this x_9846 hL_this hK_this (rg_w h_9847 (by decide +kernel)) w_9933 hR_w_9933 hL_w_9933 hK_w_9933 hN_w_9933 hT_w_9933 (rg_w f_9947 (by decide +kernel)) M hL_M hK_M hO_this) (cwV 1 hts (tw_V tw_1176 tw_1177 tw_1178 tw_45 tw_1179) rfl rfl rfl cv_yX0_groupOf_1 ⟨Nat.le_of_ble_eq_true rfl, Nat.le_of_ble_eq_true rfl⟩) ⟨pq_blind, pq_recv hK hP hL_this hK_this (by decide +kernel) rfl, pq_pre hK hN hP hD⟩ rfl rfl hl.1 rfl (lv_room (Nat.le_of_ble_eq_true rfl)) dX0_board_87 ⟨Nat.le_of_ble_eq_true rfl, Nat.le_of_ble_eq_true rfl⟩) hD hS hA (fun x_9949 σ1 μ1 H locs hw_9950 hP hD hS => ?_)
                      obtain ⟨hu_9951, hfn_9954, hr_9953⟩ := hw_9950
                      obtain ⟨hu_9951a, hu_9951b⟩ := Prod.mk.inj hu_9951
                      rw [hu_9951a, hu_9951b] at hP hD
                      replace hF := hF.trans (bn_n hfn_9954)
                      refine lv_istore (lv' := [(10, .int x_9949), (9, .int x_9846), (0, .ref this), (1, .long a0), (3, .ref a1), (4, .int a2), (6, .int a4), (7, .int x_9741), (8, .int x_9742)]) hx hb dX0_board_90 hl (by decide +kernel) rfl (fun ls hl => ?_)
                      refine lv_aload_n hx hb dX0_board_92 rfl (lv_at hl 2 rfl) ?_
                      obtain ⟨w_9956, hR_w_9956, hL_w_9956, hK_w_9956, hN_w_9956, hT_w_9956⟩ := sh_a hSH 15 (ci := 0) (kd := 13) (len := 50) rfl (by decide +kernel) hL_this hK_this
                      have hO_w_9956 : w_9956 = vrow σ 15 M := vo_k (c := 0) hO_this hR_w_9956
                      refine pg_f (v := .ref w_9956) (C := RX0) (T := TX0) (N := 16) hx hb hts (tw_i inlX0) hown hK hP hL_this hK_this (by decide +kernel) rfl 15 (by decide +kernel) (hts _ (tw_c tw_123)) (pq_hv rfl hR_w_9956) dX0_board_93 ?_
                      refine lv_iload hx hb dX0_board_96 (lv_at hl 0 rfl) ?_
                      refine pl_i hx hb hK hP hL_w_9956 hK_w_9956 hN_w_9956 (rg_in hr_9953 (by decide +kernel)) dX0_board_98 ?_
                      refine lv_topi (fun x_9957 ex_9957 => ?_)
                      replace hF := hF.trans (ap_n (vR_r hO_w_9956 (by decide +kernel) ex_9957))
                      have h_9958 : rg x_9957 (-2) 4 := rg_of_eq ex_9957 (GX.rR hG hT_w_9956 rfl)
                      refine lv_bipush (v := (-2)) hx hb dX0_board_99 (by decide +kernel) ?_
                      have K_9997 : ∀  (x_9986 : Int32) (ri_9987 : Nat → Nat → Int32) (H : Heap) (locs : List Loc) (ls : Array Slot), F = g_X0_board_331_K165 a4 x_9742 (g_X0_board_331_L43 a0 a2 a4 (vI 10 σ M I) (vJ 10 σ M J) (vL 10 σ M rj) (vQ 10 σ M rq) n_9831) x_9846 x_9949 x_9986 (vR 10 σ M ri_9987) → FR 10 tg σ M (I, J, ri, rj, rq) (I, J, ri_9987, rj, rq) → GX [1005] tg σ I ri rj I ri_9987 rj rq → va_P D vwCl (pq_P t σ (I, J, ri_9987, rj, rq)) H → va_D A (pq_P t σ (I, J, ri_9987, rj, rq)) → va_S A s.heap H locs → lv_has ls 11 [(0, .ref this), (1, .long a0), (3, .ref a1), (4, .int a2), (6, .int a4), (7, .int x_9986), (8, .int x_9742), (9, .int x_9846), (10, .int x_9949)] → W p l e ({ frames := 2, cells := 0, slots := 0, locals := 45 } : Room) s m (List.toArray ([.ref this, .long a0, .ref a1, .int a2, .int a3, .int a4] : List Value)) below meth c H locs 0 0 Q (F0 m 165 ls []) := by
                        intro x_9986 ri_9987 H locs ls hF hFr hG hP hD hS hl
                        replace hF := hF.trans g_X0_board_331_K165_e
                        refine lv_aload_n hx hb dX0_board_165 rfl (lv_at hl 0 rfl) ?_
                        refine pg_f (v := .ref w_9956) (C := RX0) (T := TX0) (N := 16) hx hb hts (tw_i inlX0) hown hK hP hL_this hK_this (by decide +kernel) rfl 15 (by decide +kernel) (hts _ (tw_c tw_123)) (pq_hv rfl hR_w_9956) dX0_board_166 ?_
                        refine lv_iload hx hb dX0_board_169 (lv_at hl 8 rfl) ?_
                        refine pl_i hx hb hK hP hL_w_9956 hK_w_9956 hN_w_9956 (rg_in hr_9953 (by decide +kernel)) dX0_board_171 ?_
                        refine lv_topi (fun x_9998 ex_9998 => ?_)
                        replace hF := hF.trans (ap_n (vR_r hO_w_9956 (by decide +kernel) ex_9998))
                        have h_9999 : rg x_9998 (-2) 4 := rg_of_eq ex_9998 (GX.rR hG hT_w_9956 rfl)
                        refine lv_iconst (v := (-1)) hx hb dX0_board_172 (by decide +kernel) ?_
                        refine lv_icmp_eq (tgt := 202) hx hb dX0_board_173 (by decide +kernel) (fun c_10000 => ?_) (fun c_10000 => ?_)
                        · replace hF := hF.trans (if_pos c_10000)
                          have h_10002 : rg x_9998 (-1) (-1) := rg_and h_9999 (rg_of_eq c_10000 (rg_k (-1 : Int32) (-1) rfl)) (by decide +kernel)
                          exact K_9925 x_9986 ri_9987 _ _ _ hF hFr hG hP hD hS (lv_sub hl [0, 1, 2, 3, 4, 5, 6] rfl)
                        · replace hF := hF.trans (if_neg c_10000)
                          refine lv_aload_n hx hb dX0_board_176 rfl (lv_at hl 0 rfl) ?_
                          refine pg_f (v := .ref w_9933) (C := RX0) (T := TX0) (N := 16) hx hb hts (tw_i inlX0) hown hK hP hL_this hK_this (by decide +kernel) rfl 5 (by decide +kernel) (hts _ (tw_c tw_114)) (pq_hv rfl hR_w_9933) dX0_board_177 ?_
                          refine lv_iload hx hb dX0_board_180 (lv_at hl 7 rfl) ?_
                          refine lv_bipush (v := 100) hx hb dX0_board_182 (by decide +kernel) ?_
                          refine lv_aload_n hx hb dX0_board_184 rfl (lv_at hl 0 rfl) ?_
                          refine pg_f (v := .ref w_9956) (C := RX0) (T := TX0) (N := 16) hx hb hts (tw_i inlX0) hown hK hP hL_this hK_this (by decide +kernel) rfl 15 (by decide +kernel) (hts _ (tw_c tw_123)) (pq_hv rfl hR_w_9956) dX0_board_185 ?_
                          refine lv_iload hx hb dX0_board_188 (lv_at hl 8 rfl) ?_
                          refine pl_i hx hb hK hP hL_w_9956 hK_w_9956 hN_w_9956 (rg_in hr_9953 (by decide +kernel)) dX0_board_190 ?_
                          refine lv_tov x_9998 ex_9998.symm ?_
                          refine lv_iadd hx hb dX0_board_191 ?_
                          refine lv_topi (fun x_10003 ex_10003 => ?_)
                          replace hF := hF.trans (ap_n ex_10003)
                          have h_10004 : rg x_10003 98 104 := rg_of_eq ex_10003 (rg_add (rg_k (100 : Int32) 100 rfl) h_9999 (by decide +kernel))
                          refine pt_i hx hb hK hP hD hS hL_w_9933 hK_w_9933 hN_w_9933 (rg_in h_9847 (by decide +kernel)) dX0_board_192 (fun r_10005 H locs er_10005 hP hD hS => ?_)
                          replace hFr := fr_R hFr hO_w_9933 (by decide +kernel) er_10005
                          replace hF := hF.trans (ap_n (vR_st hVT hO_w_9933 (by decide +kernel) er_10005))
                          have hG := GX.wR hG hSH hT_w_9933 rfl er_10005 (rg_w h_10004 (by decide +kernel)) (by decide +kernel)
                          refine lv_aload_n hx hb dX0_board_193 rfl (lv_at hl 0 rfl) ?_
                          obtain ⟨w_10006, hR_w_10006, hL_w_10006, hK_w_10006, hN_w_10006, hT_w_10006⟩ := sh_a hSH 8 (ci := 0) (kd := 13) (len := 40) rfl (by decide +kernel) hL_this hK_this
                          have hO_w_10006 : w_10006 = vrow σ 8 M := vo_k (c := 0) hO_this hR_w_10006
                          refine pg_f (v := .ref w_10006) (C := RX0) (T := TX0) (N := 16) hx hb hts (tw_i inlX0) hown hK hP hL_this hK_this (by decide +kernel) rfl 8 (by decide +kernel) (hts _ (tw_c tw_117)) (pq_hv rfl hR_w_10006) dX0_board_194 ?_
                          refine lv_iload hx hb dX0_board_197 (lv_at hl 7 rfl) ?_
                          refine lv_iload hx hb dX0_board_199 (lv_at hl 4 rfl) ?_
                          refine pt_i hx hb hK hP hD hS hL_w_10006 hK_w_10006 hN_w_10006 (rg_in h_9847 (by decide +kernel)) dX0_board_201 (fun r_10007 H locs er_10007 hP hD hS => ?_)
                          replace hFr := fr_R hFr hO_w_10006 (by decide +kernel) er_10007
                          replace hF := hF.trans (ap_n (vR_st hVT hO_w_10006 (by decide +kernel) er_10007))
                          have hG := GX.wR hG hSH hT_w_10006 rfl er_10007 (rg_w (rg_full _) (by decide +kernel)) (by decide +kernel)
                          exact K_9925 x_9986 r_10007 _ _ _ hF hFr hG hP hD hS (lv_sub hl [0, 1, 2, 3, 4, 5, 6] rfl)
                      refine lv_icmp_ne (tgt := 165) hx hb dX0_board_101 (by decide +kernel) (fun c_10008 => ?_) (fun c_10008 => ?_)
                      · replace hF := hF.trans (if_neg c_10008)
                        have h_10011 : rg x_9957 (-1) 4 := rg_ne c_10008 h_9958 (-2) rfl (by decide +kernel)
                        exact K_9997 x_9741 ri_9743 _ _ _ hF hFr hG hP hD hS (lv_sub hl [2, 3, 4, 5, 6, 7, 8, 1, 0] rfl)
                      · replace hF := hF.trans (if_pos c_10008)
                        have h_10012 : rg x_9957 (-2) (-2) := rg_and h_9958 (rg_of_eq c_10008 (rg_k (-2 : Int32) (-2) rfl)) (by decide +kernel)
                        refine lv_aload_n hx hb dX0_board_104 rfl (lv_at hl 2 rfl) ?_
                        refine pg_f (v := .ref w_9956) (C := RX0) (T := TX0) (N := 16) hx hb hts (tw_i inlX0) hown hK hP hL_this hK_this (by decide +kernel) rfl 15 (by decide +kernel) (hts _ (tw_c tw_123)) (pq_hv rfl hR_w_9956) dX0_board_105 ?_
                        refine lv_iload hx hb dX0_board_108 (lv_at hl 0 rfl) ?_
                        refine lv_aload_n hx hb dX0_board_110 rfl (lv_at hl 2 rfl) ?_
                        obtain ⟨w_10013, hR_w_10013, hL_w_10013, hK_w_10013, hN_w_10013, hT_w_10013⟩ := sh_a hSH 14 (ci := 0) (kd := 13) (len := 50) rfl (by decide +kernel) hL_this hK_this
                        have hO_w_10013 : w_10013 = vrow σ 14 M := vo_k (c := 0) hO_this hR_w_10013
                        refine pg_f (v := .ref w_10013) (C := RX0) (T := TX0) (N := 16) hx hb hts (tw_i inlX0) hown hK hP hL_this hK_this (by decide +kernel) rfl 14 (by decide +kernel) (hts _ (tw_c tw_122)) (pq_hv rfl hR_w_10013) dX0_board_111 ?_
                        refine lv_iload hx hb dX0_board_114 (lv_at hl 0 rfl) ?_
                        refine pl_i hx hb hK hP hL_w_10013 hK_w_10013 hN_w_10013 (rg_in hr_9953 (by decide +kernel)) dX0_board_116 ?_
                        refine lv_topi (fun x_10014 ex_10014 => ?_)
                        replace hF := hF.trans (ap_n (vR_r hO_w_10013 (by decide +kernel) ex_10014))
                        refine lv_iload hx hb dX0_board_117 (lv_at hl 7 rfl) ?_
                        have K_10037 : ∀  (x_10026 : Int32) (ri_10027 : Nat → Nat → Int32) (H : Heap) (locs : List Loc) (ls : Array Slot), rg x_10026 (-1) 4 → F = g_X0_board_331_K137 a4 x_9741 x_9742 (g_X0_board_331_L43 a0 a2 a4 (vI 10 σ M I) (vJ 10 σ M J) (vL 10 σ M rj) (vQ 10 σ M rq) n_9831) x_9846 x_9949 x_10026 (vR 10 σ M ri_10027) → FR 10 tg σ M (I, J, ri, rj, rq) (I, J, ri_10027, rj, rq) → GX [1005] tg σ I ri rj I ri_10027 rj rq → va_P D vwCl (pq_P t σ (I, J, ri_10027, rj, rq)) H → va_D A (pq_P t σ (I, J, ri_10027, rj, rq)) → va_S A s.heap H locs → lv_has ls 11 [(0, .ref this), (1, .long a0), (3, .ref a1), (4, .int a2), (6, .int a4), (7, .int x_9741), (8, .int x_9742), (9, .int x_9846), (10, .int x_9949)] → W p l e ({ frames := 2, cells := 0, slots := 0, locals := 45 } : Room) s m (List.toArray ([.ref this, .long a0, .ref a1, .int a2, .int a3, .int a4] : List Value)) below meth c H locs 0 0 Q (F0 m 137 ls [.int x_10026, .int x_9949, .ref w_9956]) := by
                          intro x_10026 ri_10027 H locs ls h_10039 hF hFr hG hP hD hS hl
                          replace hF := hF.trans g_X0_board_331_K137_e
                          refine pt_i hx hb hK hP hD hS hL_w_9956 hK_w_9956 hN_w_9956 (rg_in hr_9953 (by decide +kernel)) dX0_board_137 (fun r_10040 H locs er_10040 hP hD hS => ?_)
                          replace hFr := fr_R hFr hO_w_9956 (by decide +kernel) er_10040
                          replace hF := hF.trans (ap_n (vR_st hVT hO_w_9956 (by decide +kernel) er_10040))
                          have hG := GX.wR hG hSH hT_w_9956 rfl er_10040 (rg_w h_10039 (by decide +kernel)) (by decide +kernel)
                          refine lv_iload hx hb dX0_board_138 (lv_at hl 5 rfl) ?_
                          refine lv_aload_n hx hb dX0_board_140 rfl (lv_at hl 0 rfl) ?_
                          refine pg_f (v := .ref w_9956) (C := RX0) (T := TX0) (N := 16) hx hb hts (tw_i inlX0) hown hK hP hL_this hK_this (by decide +kernel) rfl 15 (by decide +kernel) (hts _ (tw_c tw_123)) (pq_hv rfl hR_w_9956) dX0_board_141 ?_
                          refine lv_iload hx hb dX0_board_144 (lv_at hl 8 rfl) ?_
                          refine pl_i hx hb hK hP hL_w_9956 hK_w_9956 hN_w_9956 (rg_in hr_9953 (by decide +kernel)) dX0_board_146 ?_
                          refine lv_topi (fun x_10041 ex_10041 => ?_)
                          replace hF := hF.trans (ap_n (vR_r hO_w_9956 (by decide +kernel) ex_10041))
                          have h_10042 : rg x_10041 (-2) 4 := rg_of_eq ex_10041 (GX.rR hG hT_w_9956 rfl)
                          refine lv_iconst (v := (-1)) hx hb dX0_board_147 (by decide +kernel) ?_
                          have K_10048 : ∀  (x_10046 : Int32) (H : Heap) (locs : List Loc) (ls : Array Slot), F = g_X0_board_331_K162 a4 x_9741 x_9742 (g_X0_board_331_L43 a0 a2 a4 (vI 10 σ M I) (vJ 10 σ M J) (vL 10 σ M rj) (vQ 10 σ M rq) n_9831) x_9846 x_9949 (vR 10 σ M r_10040) x_10046 → FR 10 tg σ M (I, J, ri, rj, rq) (I, J, r_10040, rj, rq) → GX [1005] tg σ I ri rj I r_10040 rj rq → va_P D vwCl (pq_P t σ (I, J, r_10040, rj, rq)) H → va_D A (pq_P t σ (I, J, r_10040, rj, rq)) → va_S A s.heap H locs → lv_has ls 11 [(0, .ref this), (1, .long a0), (3, .ref a1), (4, .int a2), (6, .int a4), (8, .int x_9742), (9, .int x_9846), (10, .int x_9949)] → W p l e ({ frames := 2, cells := 0, slots := 0, locals := 45 } : Room) s m (List.toArray ([.ref this, .long a0, .ref a1, .int a2, .int a3, .int a4] : List Value)) below meth c H locs 0 0 Q (F0 m 162 ls [.int x_10046, .int x_9741]) := by
                            intro x_10046 H locs ls hF hFr hG hP hD hS hl
                            replace hF := hF.trans g_X0_board_331_K162_e
                            refine lv_isub hx hb dX0_board_162 ?_
                            refine lv_topi (fun x_10049 ex_10049 => ?_)
                            replace hF := hF.trans (ap_n ex_10049)
                            refine lv_istore (lv' := [(7, .int x_10049), (0, .ref this), (1, .long a0), (3, .ref a1), (4, .int a2), (6, .int a4), (8, .int x_9742), (9, .int x_9846), (10, .int x_9949)]) hx hb dX0_board_163 hl (by decide +kernel) rfl (fun ls hl => ?_)
                            exact K_9997 x_10049 r_10040 _ _ _ hF hFr hG hP hD hS (lv_sub hl [1, 2, 3, 4, 5, 0, 6, 7, 8] rfl)
                          refine lv_icmp_ne (tgt := 155) hx hb dX0_board_148 (by decide +kernel) (fun c_10050 => ?_) (fun c_10050 => ?_)
                          · replace hF := hF.trans (if_neg c_10050)
                            refine lv_aload_n hx hb dX0_board_155 rfl (lv_at hl 0 rfl) ?_
                            refine pg_f (v := .ref w_10013) (C := RX0) (T := TX0) (N := 16) hx hb hts (tw_i inlX0) hown hK hP hL_this hK_this (by decide +kernel) rfl 14 (by decide +kernel) (hts _ (tw_c tw_122)) (pq_hv rfl hR_w_10013) dX0_board_156 ?_
                            refine lv_iload hx hb dX0_board_159 (lv_at hl 8 rfl) ?_
                            refine pl_i hx hb hK hP hL_w_10013 hK_w_10013 hN_w_10013 (rg_in hr_9953 (by decide +kernel)) dX0_board_161 ?_
                            refine lv_topi (fun x_10052 ex_10052 => ?_)
                            replace hF := hF.trans (ap_n (vR_r hO_w_10013 (by decide +kernel) ex_10052))
                            exact K_10048 x_10052 _ _ _ hF hFr hG hP hD hS (lv_sub hl [0, 1, 2, 3, 4, 6, 7, 8] rfl)
                          · replace hF := hF.trans (if_pos c_10050)
                            have h_10053 : rg x_10041 (-1) (-1) := rg_and h_10042 (rg_of_eq c_10050 (rg_k (-1 : Int32) (-1) rfl)) (by decide +kernel)
                            refine lv_iconst (v := 0) hx hb dX0_board_151 (by decide +kernel) ?_
                            refine lv_goto (tgt := 162) hx hb dX0_board_152 (by decide +kernel) ?_
                            exact K_10048 (0 : Int32) _ _ _ hF hFr hG hP hD hS (lv_sub hl [0, 1, 2, 3, 4, 6, 7, 8] rfl)
                        refine lv_icmp_gt (tgt := 136) hx hb dX0_board_119 (by decide +kernel) (fun c_10054 => ?_) (fun c_10054 => ?_)
                        · replace hF := hF.trans (if_pos c_10054)
                          have h_10057 : rg x_9741 (-2147483648) 2147483646 := rg_lt1 c_10054 (rg_full _) (rg_full _) (by decide +kernel)
                          have h_10058 : rg x_10014 (-2147483647) 2147483647 := rg_lt2 c_10054 (rg_full _) (rg_full _) (by decide +kernel)
                          refine lv_iconst (v := (-1)) hx hb dX0_board_136 (by decide +kernel) ?_
                          exact K_10037 (-1 : Int32) ri_9743 _ _ _ (rg_w (rg_k (-1 : Int32) (-1) rfl) (by decide +kernel)) hF hFr hG hP hD hS (lv_sub hl [2, 3, 4, 5, 6, 7, 8, 1, 0] rfl)
                        · replace hF := hF.trans (if_neg c_10054)
                          refine lv_aload_n hx hb dX0_board_122 rfl (lv_at hl 2 rfl) ?_
                          refine lv_aload_n hx hb dX0_board_123 rfl (lv_at hl 2 rfl) ?_
                          refine pg_f (v := .ref w_10013) (C := RX0) (T := TX0) (N := 16) hx hb hts (tw_i inlX0) hown hK hP hL_this hK_this (by decide +kernel) rfl 14 (by decide +kernel) (hts _ (tw_c tw_122)) (pq_hv rfl hR_w_10013) dX0_board_124 ?_
                          refine lv_iload hx hb dX0_board_127 (lv_at hl 0 rfl) ?_
                          refine pl_i hx hb hK hP hL_w_10013 hK_w_10013 hN_w_10013 (rg_in hr_9953 (by decide +kernel)) dX0_board_129 ?_
                          refine lv_tov x_10014 ex_10014.symm ?_
                          refine pk_i (va_runV (As := [.int x_10014]) (rest := [.int x_9949, .ref w_9956]) ⟨hx, hb, hml, hown, hts⟩ (s_X0_takeLot l D t σ I J ri_9743 rj rq H.size tg hSH hG.1 this x_10014 hL_this hK_this M hL_M hK_M hO_this) (cwV 1 hts (tw_V tw_1181 tw_1182 tw_1183 tw_45 tw_1184) rfl rfl rfl cv_yX0_takeLot_1 ⟨Nat.le_of_ble_eq_true rfl, Nat.le_of_ble_eq_true rfl⟩) ⟨pq_blind, pq_recv hK hP hL_this hK_this (by decide +kernel) rfl, pq_pre hK hN hP hD⟩ rfl rfl hl.1 rfl (lv_room (Nat.le_of_ble_eq_true rfl)) dX0_board_130 ⟨Nat.le_of_ble_eq_true rfl, Nat.le_of_ble_eq_true rfl⟩) hD hS hA (fun x_10059 σ1 μ1 H locs hw_10060 hP hD hS => ?_)
                          obtain ⟨ri_10061, hu_10062, hg_10063, hfn_10065, hfr_10066, hr_10064⟩ := hw_10060
                          obtain ⟨hu_10062a, hu_10062b⟩ := Prod.mk.inj hu_10062
                          rw [hu_10062a, hu_10062b] at hP hD
                          replace hF := hF.trans (bn_n hfn_10065)
                          replace hFr := fr_tr hFr hfr_10066
                          have hG := GX.tr hG hg_10063 (by decide +kernel)
                          refine lv_goto (tgt := 137) hx hb dX0_board_133 (by decide +kernel) ?_
                          exact K_10037 x_10059 ri_10061 _ _ _ (rg_w hr_10064 (by decide +kernel)) hF hFr hG hP hD hS (lv_sub hl [2, 3, 4, 5, 6, 7, 8, 1, 0] rfl)
                    · replace hF := hF.trans (if_pos c_9942)
                      have f_10067 := (hr_9938.resolve_left (fun q => absurd (q.1.symm.trans c_9942) (by decide +kernel))).2
                      have h_10068 : rg x_9934 0 0 := rg_and h_9941 (rg_of_eq c_9942 (rg_k (0 : Int32) 0 rfl)) (by decide +kernel)
                      refine lv_goto (tgt := 202) hx hb dX0_board_81 (by decide +kernel) ?_
                      exact K_9925 x_9741 ri_9743 _ _ _ hF hFr hG hP hD hS (lv_sub hl [1, 2, 3, 4, 5, 6, 7] rfl)
          exact L_9832 _ a3 (0 : Int32) ri_7447 _ _ _ (rg_w (rg_k (0 : Int32) 0 rfl) (by decide +kernel)) (Nat.lt_succ_self _) hF hFr hG hP hD hS (lv_sub hl [2, 3, 4, 5, 7, 1, 0] rfl)
        · replace hF := hF.trans (if_neg c_8694)
          have h_10069 : rg x_7446 0 4 := rg_lt1 (nle c_8694) h_8691 h_8692 (by decide +kernel)
          have h_10070 : rg (I 10 this) 1 5 := rg_lt2 (nle c_8694) h_8691 h_8692 (by decide +kernel)
          refine lv_aload_n hx hb dX0_board_17 rfl (lv_at hl 0 rfl) ?_
          obtain ⟨w_10071, hR_w_10071, hL_w_10071, hK_w_10071, hN_w_10071, hT_w_10071⟩ := sh_a hSH 13 (ci := 0) (kd := 13) (len := 5) rfl (by decide +kernel) hL_this hK_this
          have hO_w_10071 : w_10071 = vrow σ 13 M := vo_k (c := 0) hO_this hR_w_10071
          refine pg_f (v := .ref w_10071) (C := RX0) (T := TX0) (N := 16) hx hb hts (tw_i inlX0) hown hK hP hL_this hK_this (by decide +kernel) rfl 13 (by decide +kernel) (hts _ (tw_c tw_121)) (pq_hv rfl hR_w_10071) dX0_board_18 ?_
          refine lv_iload hx hb dX0_board_21 (lv_at hl 6 rfl) ?_
          refine lv_aload_n hx hb dX0_board_23 rfl (lv_at hl 0 rfl) ?_
          refine lv_iload hx hb dX0_board_24 (lv_at hl 6 rfl) ?_
          refine pk_i (va_runV (As := [.int x_7446]) (rest := [.int x_7446, .ref w_10071]) ⟨hx, hb, hml, hown, hts⟩ (s_X0_freeBeds l D t σ I J ri_7447 rj rq H.size tg hSH hG.1 this x_7446 hL_this hK_this (rg_w h_10069 (by decide +kernel)) M hL_M hK_M hO_this) (cwV 1 hts (tw_V tw_1180 tw_414 tw_415 tw_45 tw_416) rfl rfl rfl cv_yX0_freeBeds_1 ⟨Nat.le_of_ble_eq_true rfl, Nat.le_of_ble_eq_true rfl⟩) ⟨pq_blind, pq_recv hK hP hL_this hK_this (by decide +kernel) rfl, pq_pre hK hN hP hD⟩ rfl rfl hl.1 rfl (lv_room (Nat.le_of_ble_eq_true rfl)) dX0_board_26 ⟨Nat.le_of_ble_eq_true rfl, Nat.le_of_ble_eq_true rfl⟩) hD hS hA (fun x_10072 σ1 μ1 H locs hw_10073 hP hD hS => ?_)
          obtain ⟨hu_10074, hfn_10077⟩ := hw_10073
          obtain ⟨hu_10074a, hu_10074b⟩ := Prod.mk.inj hu_10074
          rw [hu_10074a, hu_10074b] at hP hD
          replace hF := hF.trans (bn_n hfn_10077)
          refine pt_i hx hb hK hP hD hS hL_w_10071 hK_w_10071 hN_w_10071 (rg_in h_10069 (by decide +kernel)) dX0_board_29 (fun r_10079 H locs er_10079 hP hD hS => ?_)
          replace hFr := fr_R hFr hO_w_10071 (by decide +kernel) er_10079
          replace hF := hF.trans (ap_n (vR_st hVT hO_w_10071 (by decide +kernel) er_10079))
          have hG := GX.wR hG hSH hT_w_10071 rfl er_10079 (rg_w (rg_full _) (by decide +kernel)) (by decide +kernel)
          obtain ⟨x_10080, ex_10080⟩ : ∃ y : Int32, y = x_7446 + Int32.ofInt 1 := ⟨_, rfl⟩
          replace hF := hF.trans (ap_n ex_10080)
          have h_10081 : rg x_10080 1 5 := rg_of_eq ex_10080 (rg_add h_10069 (rg_k (Int32.ofInt 1) 1 rfl) (by decide +kernel))
          refine lv_iinc (v := x_10080) (lv' := [(7, .int x_10080), (0, .ref this), (1, .long a0), (3, .ref a1), (4, .int a2), (5, .int a3), (6, .int a4)]) hx hb dX0_board_30 hl (k := 6) rfl ex_10080.symm (by decide +kernel) rfl (fun ls hl => ?_)
          refine lv_goto (tgt := 8) hx hb dX0_board_33 (by decide +kernel) ?_
          exact ih_8689 x_10080 r_10079 _ _ _ (rg_w h_10081 (by decide +kernel)) (ms_up 1 hm_8686 ex_10080 rfl (by decide +kernel) h_10069 (by decide +kernel) (by decide +kernel)) hF hFr hG hP hD hS (lv_sub hl [1, 2, 3, 4, 5, 6, 0] rfl)
    exact L_8688 _ (0 : Int32) ri_3 _ _ _ (rg_w (rg_k (0 : Int32) 0 rfl) (by decide +kernel)) (Nat.lt_succ_self _) hF hFr hG hP hD hS (lv_sub hl [1, 2, 3, 4, 5, 6, 0] rfl)
  exact go _ _ _ hP hD hS hl

set_option maxRecDepth 100000 in
def g_X10_goBy_K174 (rq : Nat → Nat → Option Nat) (J_10 : Nat → Int64) (rj_12 : Nat → Nat → Int64) (I_66 : Nat → Int32) (ri_114 : Nat → Nat → Int32) : vM := (ap1 (I_66 320) fun (y_122 : Int32) => (ap1 ((y_122) + (1 : Int32)) fun (x_123 : Int32) => (ap1 (va_up I_66 320 x_123) fun (I_125 : Nat → Int32) => (I_125, J_10, ri_114, rj_12, rq))))
set_option maxRecDepth 100000 in
theorem g_X10_goBy_K174_e {rq : Nat → Nat → Option Nat} {J_10 : Nat → Int64} {rj_12 : Nat → Nat → Int64} {I_66 : Nat → Int32} {ri_114 : Nat → Nat → Int32} : g_X10_goBy_K174 rq J_10 rj_12 I_66 ri_114 = (ap1 (I_66 320) fun (y_122 : Int32) => (ap1 ((y_122) + (1 : Int32)) fun (x_123 : Int32) => (ap1 (va_up I_66 320 x_123) fun (I_125 : Nat → Int32) => (I_125, J_10, ri_114, rj_12, rq)))) := rfl
set_option maxRecDepth 100000 in
def g_X10_goBy (tI : Nat → Nat → Int32) (tR : Nat → Nat → Nat → Int32) (a0 : Int32) (I : Nat → Int32) (J : Nat → Int64) (ri : Nat → Nat → Int32) (rj : Nat → Nat → Int64) (rq : Nat → Nat → Option Nat) : vM := (ap1 (I 320) fun (y_2 : Int32) => (if (y_2) < (600 : Int32) then (bnV (g_X10_nature a0 I J ri rj rq) fun (I_9 : Nat → Int32) (J_10 : Nat → Int64) (ri_11 : Nat → Nat → Int32) (rj_12 : Nat → Nat → Int64) (_ : Nat → Nat → Option Nat) => (ap1 (I_9 65) fun (y_21 : Int32) => (ap1 (J_10 67) fun (y_22 : Int64) => (ap1 (I_9 320) fun (y_26 : Int32) => (ap1 ((y_26) - (y_26) / (12 : Int32) * (12 : Int32)) fun (x_27 : Int32) => (ap1 (ri_11 233 (x_27).toNatClampNeg) fun (x_29 : Int32) => (bnV (g_X9_fillUp (y_21) (y_22) x_29 I_9 J_10 ri_11 rj_12 rq) fun (_ : Nat → Int32) (_ : Nat → Int64) (ri_32 : Nat → Nat → Int32) (_ : Nat → Nat → Int64) (_ : Nat → Nat → Option Nat) => (bnV (g_X2_countBeds_332 (0 : Int32) I_9 J_10 ri_32 rj_12 rq) fun (_ : Nat → Int32) (_ : Nat → Int64) (ri_41 : Nat → Nat → Int32) (_ : Nat → Nat → Int64) (_ : Nat → Nat → Option Nat) => (bnI (g_X0_drink I_9 J_10 ri_41 rj_12 rq) fun (x_48 : Int32) (_ : Nat → Int32) (_ : Nat → Int64) (ri_50 : Nat → Nat → Int32) (_ : Nat → Nat → Int64) (_ : Nat → Nat → Option Nat) => (bnI (g_X0_sleep_332 (0 : Int32) I_9 J_10 ri_50 rj_12 rq) fun (x_56 : Int32) (_ : Nat → Int32) (_ : Nat → Int64) (ri_58 : Nat → Nat → Int32) (_ : Nat → Nat → Int64) (_ : Nat → Nat → Option Nat) => (bnV (g_X10_reckon tI tR I_9 J_10 ri_58 rj_12 rq) fun (I_66 : Nat → Int32) (_ : Nat → Int64) (ri_67 : Nat → Nat → Int32) (_ : Nat → Nat → Int64) (_ : Nat → Nat → Option Nat) => (ap1 (I_66 322) fun (y_73 : Int32) => (if (y_73) ≤ (0 : Int32) then (g_X10_goBy_K174 rq J_10 rj_12 I_66 ri_67) else (ap1 (I_66 320) fun (y_133 : Int32) => (bnV (g_X3_line_331 tI tR (4 : Int32) (y_133) I_66 J_10 ri_67 rj_12 rq) fun (_ : Nat → Int32) (_ : Nat → Int64) (ri_137 : Nat → Nat → Int32) (_ : Nat → Nat → Int64) (_ : Nat → Nat → Option Nat) => (bnI (g_X0_onRings I_66 J_10 ri_137 rj_12 rq) fun (x_143 : Int64) (_ : Nat → Int32) (_ : Nat → Int64) (_ : Nat → Nat → Int32) (_ : Nat → Nat → Int64) (_ : Nat → Nat → Option Nat) => (bnI (g_X3_whoIsSo tI tR (2 : Int32) (y_133) x_143 I_66 J_10 ri_137 rj_12 rq) fun (x_150 : Int64) (_ : Nat → Int32) (_ : Nat → Int64) (ri_152 : Nat → Nat → Int32) (_ : Nat → Nat → Int64) (_ : Nat → Nat → Option Nat) => (ap1 (I_66 0) fun (y_159 : Int32) => (bnV (g_X0_board_331 x_150 (y_159) (y_73) (y_133) I_66 J_10 ri_152 rj_12 rq) fun (_ : Nat → Int32) (_ : Nat → Int64) (ri_162 : Nat → Nat → Int32) (_ : Nat → Nat → Int64) (_ : Nat → Nat → Option Nat) => (g_X10_goBy_K174 rq J_10 rj_12 I_66 ri_162)))))))))))))))))))) else (I, J, ri, rj, rq)))
set_option maxRecDepth 100000 in
theorem g_X10_goBy_e {tI : Nat → Nat → Int32} {tR : Nat → Nat → Nat → Int32} {a0 : Int32} {I : Nat → Int32} {J : Nat → Int64} {ri : Nat → Nat → Int32} {rj : Nat → Nat → Int64} {rq : Nat → Nat → Option Nat} : g_X10_goBy tI tR a0 I J ri rj rq = (ap1 (I 320) fun (y_2 : Int32) => (if (y_2) < (600 : Int32) then (bnV (g_X10_nature a0 I J ri rj rq) fun (I_9 : Nat → Int32) (J_10 : Nat → Int64) (ri_11 : Nat → Nat → Int32) (rj_12 : Nat → Nat → Int64) (_ : Nat → Nat → Option Nat) => (ap1 (I_9 65) fun (y_21 : Int32) => (ap1 (J_10 67) fun (y_22 : Int64) => (ap1 (I_9 320) fun (y_26 : Int32) => (ap1 ((y_26) - (y_26) / (12 : Int32) * (12 : Int32)) fun (x_27 : Int32) => (ap1 (ri_11 233 (x_27).toNatClampNeg) fun (x_29 : Int32) => (bnV (g_X9_fillUp (y_21) (y_22) x_29 I_9 J_10 ri_11 rj_12 rq) fun (_ : Nat → Int32) (_ : Nat → Int64) (ri_32 : Nat → Nat → Int32) (_ : Nat → Nat → Int64) (_ : Nat → Nat → Option Nat) => (bnV (g_X2_countBeds_332 (0 : Int32) I_9 J_10 ri_32 rj_12 rq) fun (_ : Nat → Int32) (_ : Nat → Int64) (ri_41 : Nat → Nat → Int32) (_ : Nat → Nat → Int64) (_ : Nat → Nat → Option Nat) => (bnI (g_X0_drink I_9 J_10 ri_41 rj_12 rq) fun (x_48 : Int32) (_ : Nat → Int32) (_ : Nat → Int64) (ri_50 : Nat → Nat → Int32) (_ : Nat → Nat → Int64) (_ : Nat → Nat → Option Nat) => (bnI (g_X0_sleep_332 (0 : Int32) I_9 J_10 ri_50 rj_12 rq) fun (x_56 : Int32) (_ : Nat → Int32) (_ : Nat → Int64) (ri_58 : Nat → Nat → Int32) (_ : Nat → Nat → Int64) (_ : Nat → Nat → Option Nat) => (bnV (g_X10_reckon tI tR I_9 J_10 ri_58 rj_12 rq) fun (I_66 : Nat → Int32) (_ : Nat → Int64) (ri_67 : Nat → Nat → Int32) (_ : Nat → Nat → Int64) (_ : Nat → Nat → Option Nat) => (ap1 (I_66 322) fun (y_73 : Int32) => (if (y_73) ≤ (0 : Int32) then (g_X10_goBy_K174 rq J_10 rj_12 I_66 ri_67) else (ap1 (I_66 320) fun (y_133 : Int32) => (bnV (g_X3_line_331 tI tR (4 : Int32) (y_133) I_66 J_10 ri_67 rj_12 rq) fun (_ : Nat → Int32) (_ : Nat → Int64) (ri_137 : Nat → Nat → Int32) (_ : Nat → Nat → Int64) (_ : Nat → Nat → Option Nat) => (bnI (g_X0_onRings I_66 J_10 ri_137 rj_12 rq) fun (x_143 : Int64) (_ : Nat → Int32) (_ : Nat → Int64) (_ : Nat → Nat → Int32) (_ : Nat → Nat → Int64) (_ : Nat → Nat → Option Nat) => (bnI (g_X3_whoIsSo tI tR (2 : Int32) (y_133) x_143 I_66 J_10 ri_137 rj_12 rq) fun (x_150 : Int64) (_ : Nat → Int32) (_ : Nat → Int64) (ri_152 : Nat → Nat → Int32) (_ : Nat → Nat → Int64) (_ : Nat → Nat → Option Nat) => (ap1 (I_66 0) fun (y_159 : Int32) => (bnV (g_X0_board_331 x_150 (y_159) (y_73) (y_133) I_66 J_10 ri_152 rj_12 rq) fun (_ : Nat → Int32) (_ : Nat → Int64) (ri_162 : Nat → Nat → Int32) (_ : Nat → Nat → Int64) (_ : Nat → Nat → Option Nat) => (g_X10_goBy_K174 rq J_10 rj_12 I_66 ri_162)))))))))))))))))))) else (I, J, ri, rj, rq))) := rfl
set_option maxHeartbeats 4000000 in
set_option maxRecDepth 100000 in
theorem s_X10_goBy (l : Launch) (D : va_G) (t : pq_T) (σ : pq_S) (I : Nat → Nat → Int32) (J : Nat → Nat → Int64) (ri : Nat → Nat → Int32) (rj : Nat → Nat → Int64) (rq : Nat → Nat → Option Nat) (sz : Nat) (tg : Nat → Nat) (hSH : SH σ tg) (hG0 : GS tg σ I ri rq) (this : Nat) (a0 : Int32) (hL_this : this ∈ σ.1) (hK_this : σ.2.1 this = 10) : MetV l yX10_goBy (wa yX10_goBy cX10_goBy 4 none) ({ frames := 5, cells := 0, slots := 0, locals := 143 }) [.ref this, .int a0] D t σ (I, J, ri, rj, rq) sz 0 0 (fun (u : pq_S × pq_M) => ∃ I' : Nat → Nat → Int32, ∃ J' : Nat → Nat → Int64, ∃ ri' : Nat → Nat → Int32, ∃ rj' : Nat → Nat → Int64, u = (σ, I', J', ri', rj', rq) ∧ GX [1074, 1073, 1005, 320] tg σ I ri rj I' ri' rj' rq ∧ g_X10_goBy (tI σ I) (tR σ ri) a0 (vI 10 σ this I) (vJ 10 σ this J) (vR 10 σ this ri) (vL 10 σ this rj) (vQ 10 σ this rq) = ((vI 10 σ this I'), (vJ 10 σ this J'), (vR 10 σ this ri'), (vL 10 σ this rj'), (vQ 10 σ this rq)) ∧ FR 10 tg σ this (I, J, ri, rj, rq) (I', J', ri', rj', rq)) := by
  refine Met.ofW (cc := cX10_goBy) (maxL := 4) (ret := none) (by decide +kernel) rfl ?_
  intro p e s m args below meth c s₁ B hml hv
  obtain ⟨rfl, hsz, hP, hK, hD0, hN⟩ := hv
  have hx := B.exec
  have hb := B.bytes
  have hr := B.returns
  have hts := atoms_spec (ws := (wa yX10_goBy cX10_goBy 4 none)) B.pre
  have hown : s.vm.findClass RX10 = some m.cls := findClass_of_methodNamed B.named
  have hlocks := B.notSynchronized
  subst hsz
  have hD : va_D (pq_B t σ (I, J, ri, rj, rq) s.heap.size) (pq_P t σ (I, J, ri, rj, rq)) := hD0.self
  generalize hAe : pq_B t σ (I, J, ri, rj, rq) s.heap.size = A at hD ⊢
  have hA : ∀ q : Nat, s.heap.size ≤ q → A q := fun q h => by rw [← hAe]; exact Or.inr h
  have hS : va_S A s.heap s.heap [] := va_S.rf
  have hG : GX [1074, 1073, 1005, 320] tg σ I ri rj I ri rj rq := ⟨hG0, fun _ _ _ => rfl, fun _ _ _ _ _ => rfl, fun _ _ _ _ _ => rfl⟩
  have hl := lv_entry ([.ref this, .int a0]) (n := 4) (Nat.le_of_ble_eq_true rfl)
  rw [lg_entry_eq]
  generalize (lg_sl ([.ref this, .int a0]) ++ List.replicate (4 - (lg_sl ([.ref this, .int a0])).length) Slot.unset).toArray = ls at hl ⊢
  have hl : lv_has ls 4 [(0, .ref this), (1, .int a0)] := hl
  refine q_gen (fun Q hQ => ?_)
  have go : ∀ (H : Heap) (locs : List Loc) (ls : Array Slot), va_P D vwCl (pq_P t σ (I, J, ri, rj, rq)) H → va_D A (pq_P t σ (I, J, ri, rj, rq)) → va_S A s.heap H locs → lv_has ls 4 [(0, .ref this), (1, .int a0)] → W p l e ({ frames := 5, cells := 0, slots := 0, locals := 143 } : Room) s m (List.toArray ([.ref this, .int a0] : List Value)) below meth c H locs 0 0 Q (F0 m 0 ls []) := by
    intro H locs ls hP hD hS hl
    have hO_this : this = vo σ 10 this := rfl
    have hVT : VT 10 σ tg this := vt_10 hSH hL_this hK_this
    have hFr : FR 10 tg σ this (I, J, ri, rj, rq) (I, J, ri, rj, rq) := fr_rf
    obtain ⟨F, hF0⟩ : ∃ F, F = g_X10_goBy (tI σ I) (tR σ ri) a0 (vI 10 σ this I) (vJ 10 σ this J) (vR 10 σ this ri) (vL 10 σ this rj) (vQ 10 σ this rq) := ⟨_, rfl⟩
    have hF := hF0.trans g_X10_goBy_e
    refine lv_aload_n hx hb dX10_goBy_0 rfl (lv_at hl 0 rfl) ?_
    refine pg_f (v := .int (I 320 this)) (C := RX10) (T := TX10) (N := 13) hx hb hts (tw_i inlX10) hown hK hP hL_this hK_this (by decide +kernel) rfl 0 (by decide +kernel) (hts _ (tw_c tw_457)) rfl dX10_goBy_1 ?_
    have h_1 : rg (I 320 this) 0 600 := GX.rI hG 320 rfl
    replace hF := hF.trans (ap_n (vI_e (f := 320) hO_this (by decide +kernel)))
    refine lv_sipush (v := 600) hx hb dX10_goBy_4 (by decide +kernel) ?_
    refine lv_icmp_lt (tgt := 11) hx hb dX10_goBy_7 (by decide +kernel) (fun c_3 => ?_) (fun c_3 => ?_)
    · replace hF := hF.trans (if_pos c_3)
      have h_6 : rg (I 320 this) 0 599 := rg_lt1 c_3 h_1 (rg_k (600 : Int32) 600 rfl) (by decide +kernel)
      refine lv_aload_n hx hb dX10_goBy_11 rfl (lv_at hl 0 rfl) ?_
      refine lv_iload_n hx hb dX10_goBy_12 rfl (lv_at hl 1 rfl) ?_
      refine pk_v (va_runV (As := [.int a0]) (rest := []) ⟨hx, hb, hml, hown, hts⟩ (s_X10_nature l D t σ I J ri rj rq H.size tg hSH hG.1 this a0 hL_this hK_this) (cwV 1 hts (tw_V tw_1047 tw_1048 tw_1049 tw_15 tw_1050) rfl rfl rfl cv_yX10_nature_1 ⟨Nat.le_of_ble_eq_true rfl, Nat.le_of_ble_eq_true rfl⟩) ⟨pq_blind, pq_recv hK hP hL_this hK_this (by decide +kernel) rfl, pq_pre hK hN hP hD⟩ rfl rfl hl.1 rfl (lv_room (Nat.le_of_ble_eq_true rfl)) dX10_goBy_13 ⟨Nat.le_of_ble_eq_true rfl, Nat.le_of_ble_eq_true rfl⟩) hD hS hA (fun σ1 μ1 H locs hw_8 hP hD hS => ?_)
      obtain ⟨I_9, J_10, ri_11, rj_12, hu_13, hg_14, hfn_16, hfr_17⟩ := hw_8
      obtain ⟨hu_13a, hu_13b⟩ := Prod.mk.inj hu_13
      rw [hu_13a, hu_13b] at hP hD
      replace hF := hF.trans (bv_n hfn_16)
      replace hFr := fr_tr hFr hfr_17
      have hG := GX.tr hG hg_14 (by decide +kernel)
      refine lv_aload_n hx hb dX10_goBy_16 rfl (lv_at hl 0 rfl) ?_
      obtain ⟨w_18, hR_w_18, hL_w_18, hK_w_18⟩ := sh_o hSH 327 (ci := 10) (kd := 2) rfl hL_this hK_this
      have hO_w_18 : w_18 = vo σ 2 this := vo_k (c := 10) hO_this hR_w_18
      refine pg_f (v := .ref w_18) (C := RX10) (T := TX10) (N := 13) hx hb hts (tw_i inlX10) hown hK hP hL_this hK_this (by decide +kernel) rfl 7 (by decide +kernel) (hts _ (tw_c tw_42)) (pq_hv rfl hR_w_18) dX10_goBy_17 ?_
      obtain ⟨w_19, hR_w_19, hL_w_19, hK_w_19⟩ := sh_o hSH 78 (ci := 2) (kd := 9) rfl hL_w_18 hK_w_18
      have hO_w_19 : w_19 = vo σ 9 this := vo_k (c := 2) hO_w_18 hR_w_19
      refine pg_f (v := .ref w_19) (C := RX2) (T := TX2) (N := 20) hx hb hts (tw_i inlX2) hown hK hP hL_w_18 hK_w_18 (by decide +kernel) rfl 14 (by decide +kernel) (hts _ (tw_c tw_1043)) (pq_hv rfl hR_w_19) dX10_goBy_20 ?_
      refine lv_aload_n hx hb dX10_goBy_23 rfl (lv_at hl 0 rfl) ?_
      refine pg_f (v := .ref w_18) (C := RX10) (T := TX10) (N := 13) hx hb hts (tw_i inlX10) hown hK hP hL_this hK_this (by decide +kernel) rfl 7 (by decide +kernel) (hts _ (tw_c tw_42)) (pq_hv rfl hR_w_18) dX10_goBy_24 ?_
      refine pg_f (v := .int (I_9 65 w_18)) (C := RX2) (T := TX2) (N := 20) hx hb hts (tw_i inlX2) hown hK hP hL_w_18 hK_w_18 (by decide +kernel) rfl 1 (by decide +kernel) (hts _ (tw_c tw_498)) rfl dX10_goBy_27 ?_
      have h_20 : rg (I_9 65 w_18) 0 40 := GX.rI hG 65 rfl
      replace hF := hF.trans (ap_n (vI_e (f := 65) hO_w_18 (by decide +kernel)))
      refine lv_aload_n hx hb dX10_goBy_30 rfl (lv_at hl 0 rfl) ?_
      refine pg_f (v := .ref w_18) (C := RX10) (T := TX10) (N := 13) hx hb hts (tw_i inlX10) hown hK hP hL_this hK_this (by decide +kernel) rfl 7 (by decide +kernel) (hts _ (tw_c tw_42)) (pq_hv rfl hR_w_18) dX10_goBy_31 ?_
      refine pg_f (v := .long (J_10 67 w_18)) (C := RX2) (T := TX2) (N := 20) hx hb hts (tw_i inlX2) hown hK hP hL_w_18 hK_w_18 (by decide +kernel) rfl 3 (by decide +kernel) (hts _ (tw_c tw_1044)) rfl dX10_goBy_34 ?_
      replace hF := hF.trans (ap_n (vJ_e (f := 67) hO_w_18 (by decide +kernel)))
      refine lv_aload_n hx hb dX10_goBy_37 rfl (lv_at hl 0 rfl) ?_
      obtain ⟨w_23, hR_w_23, hL_w_23, hK_w_23⟩ := sh_o hSH 326 (ci := 10) (kd := 7) rfl hL_this hK_this
      have hO_w_23 : w_23 = vo σ 7 this := vo_k (c := 10) hO_this hR_w_23
      refine pg_f (v := .ref w_23) (C := RX10) (T := TX10) (N := 13) hx hb hts (tw_i inlX10) hown hK hP hL_this hK_this (by decide +kernel) rfl 6 (by decide +kernel) (hts _ (tw_c tw_38)) (pq_hv rfl hR_w_23) dX10_goBy_38 ?_
      obtain ⟨w_24, hR_w_24, hL_w_24, hK_w_24, hN_w_24, hT_w_24⟩ := sh_a hSH 233 (ci := 7) (kd := 13) (len := 12) rfl (by decide +kernel) hL_w_23 hK_w_23
      have hO_w_24 : w_24 = vrow σ 233 this := vo_k (c := 7) hO_w_23 hR_w_24
      refine pg_f (v := .ref w_24) (C := RX7) (T := TX7) (N := 15) hx hb hts (tw_i inlX7) hown hK hP hL_w_23 hK_w_23 (by decide +kernel) rfl 9 (by decide +kernel) (hts _ (tw_c tw_1045)) (pq_hv rfl hR_w_24) dX10_goBy_41 ?_
      refine lv_aload_n hx hb dX10_goBy_44 rfl (lv_at hl 0 rfl) ?_
      refine pg_f (v := .int (I_9 320 this)) (C := RX10) (T := TX10) (N := 13) hx hb hts (tw_i inlX10) hown hK hP hL_this hK_this (by decide +kernel) rfl 0 (by decide +kernel) (hts _ (tw_c tw_457)) rfl dX10_goBy_45 ?_
      have h_25 : rg (I_9 320 this) 0 599 := (by rw [hg_14.2.1 320 (by decide +kernel) (by decide +kernel)]; exact h_6)
      replace hF := hF.trans (ap_n (vI_e (f := 320) hO_this (by decide +kernel)))
      refine lv_bipush (v := 12) hx hb dX10_goBy_48 (by decide +kernel) ?_
      refine lv_irem hx hb dX10_goBy_50 (by decide +kernel) ?_
      refine lv_topi (fun x_27 ex_27 => ?_)
      replace hF := hF.trans (ap_n ex_27)
      have h_28 : rg x_27 0 11 := rg_of_eq ex_27 (rg_rem h_25 rfl (by decide +kernel))
      refine pl_i hx hb hK hP hL_w_24 hK_w_24 hN_w_24 (rg_in h_28 (by decide +kernel)) dX10_goBy_51 ?_
      refine lv_topi (fun x_29 ex_29 => ?_)
      replace hF := hF.trans (ap_n (vR_r hO_w_24 (by decide +kernel) ex_29))
      refine pk_v (va_runV (As := [.int (I_9 65 w_18), .long (J_10 67 w_18), .int x_29]) (rest := []) ⟨hx, hb, hml, hown, hts⟩ (s_X9_fillUp l D t σ I_9 J_10 ri_11 rj_12 rq H.size tg hSH hG.1 w_19 (I_9 65 w_18) (J_10 67 w_18) x_29 hL_w_19 hK_w_19 (rg_w h_20 (by decide +kernel)) this hL_this hK_this hO_w_19) (cwV 3 hts (tw_V tw_1083 tw_1084 tw_1085 tw_94 tw_1086) rfl rfl rfl cv_yX9_fillUp_3 ⟨Nat.le_of_ble_eq_true rfl, Nat.le_of_ble_eq_true rfl⟩) ⟨pq_blind, pq_recv hK hP hL_w_19 hK_w_19 (by decide +kernel) rfl, pq_pre hK hN hP hD⟩ rfl rfl hl.1 rfl (lv_room (Nat.le_of_ble_eq_true rfl)) dX10_goBy_52 ⟨Nat.le_of_ble_eq_true rfl, Nat.le_of_ble_eq_true rfl⟩) hD hS hA (fun σ1 μ1 H locs hw_31 hP hD hS => ?_)
      obtain ⟨ri_32, hu_33, hg_34, hfn_36, hfr_37⟩ := hw_31
      obtain ⟨hu_33a, hu_33b⟩ := Prod.mk.inj hu_33
      rw [hu_33a, hu_33b] at hP hD
      replace hF := hF.trans (bv_n hfn_36)
      replace hFr := fr_tr hFr hfr_37
      have hG := GX.tr hG hg_34 (by decide +kernel)
      refine lv_aload_n hx hb dX10_goBy_55 rfl (lv_at hl 0 rfl) ?_
      refine pg_f (v := .ref w_18) (C := RX10) (T := TX10) (N := 13) hx hb hts (tw_i inlX10) hown hK hP hL_this hK_this (by decide +kernel) rfl 7 (by decide +kernel) (hts _ (tw_c tw_42)) (pq_hv rfl hR_w_18) dX10_goBy_56 ?_
      refine lv_aload_n hx hb dX10_goBy_59 rfl (lv_at hl 0 rfl) ?_
      obtain ⟨w_38, hR_w_38, hL_w_38, hK_w_38, hN_w_38, hT_w_38⟩ := sh_a hSH 332 (ci := 10) (kd := 13) (len := 5) rfl (by decide +kernel) hL_this hK_this
      have hO_w_38 : w_38 = vrow σ 332 this := vo_k (c := 10) hO_this hR_w_38
      refine pg_f (v := .ref w_38) (C := RX10) (T := TX10) (N := 13) hx hb hts (tw_i inlX10) hown hK hP hL_this hK_this (by decide +kernel) rfl 12 (by decide +kernel) (hts _ (tw_c tw_56)) (pq_hv rfl hR_w_38) dX10_goBy_60 ?_
      refine lv_iconst (v := 0) hx hb dX10_goBy_63 (by decide +kernel) ?_
      refine pk_v (va_runV (As := [.ref w_38, .int 0]) (rest := []) ⟨hx, hb, hml, hown, hts⟩ (s_X2_countBeds_332 l D t σ I_9 J_10 ri_32 rj_12 rq H.size tg hSH hG.1 w_18 w_38 (0 : Int32) hL_w_18 hK_w_18 hL_w_38 hK_w_38 hN_w_38 hT_w_38 (rg_w (rg_k (0 : Int32) 0 rfl) (by decide +kernel)) this hL_this hK_this hO_w_18 hO_w_38) (cwV 2 hts (tw_V tw_1090 tw_1091 tw_1092 tw_41 tw_1093) rfl rfl rfl cv_yX2_countBeds_2 ⟨Nat.le_of_ble_eq_true rfl, Nat.le_of_ble_eq_true rfl⟩) ⟨pq_blind, pq_recv hK hP hL_w_18 hK_w_18 (by decide +kernel) rfl, pq_pre hK hN hP hD⟩ rfl rfl hl.1 rfl (lv_room (Nat.le_of_ble_eq_true rfl)) dX10_goBy_64 ⟨Nat.le_of_ble_eq_true rfl, Nat.le_of_ble_eq_true rfl⟩) hD hS hA (fun σ1 μ1 H locs hw_40 hP hD hS => ?_)
      obtain ⟨ri_41, hu_42, hg_43, hfn_45, hfr_46⟩ := hw_40
      obtain ⟨hu_42a, hu_42b⟩ := Prod.mk.inj hu_42
      rw [hu_42a, hu_42b] at hP hD
      replace hF := hF.trans (bv_n hfn_45)
      replace hFr := fr_tr hFr hfr_46
      have hG := GX.tr hG hg_43 (by decide +kernel)
      refine lv_aload_n hx hb dX10_goBy_67 rfl (lv_at hl 0 rfl) ?_
      obtain ⟨w_47, hR_w_47, hL_w_47, hK_w_47⟩ := sh_o hSH 328 (ci := 10) (kd := 0) rfl hL_this hK_this
      have hO_w_47 : w_47 = vo σ 0 this := vo_k (c := 10) hO_this hR_w_47
      refine pg_f (v := .ref w_47) (C := RX10) (T := TX10) (N := 13) hx hb hts (tw_i inlX10) hown hK hP hL_this hK_this (by decide +kernel) rfl 8 (by decide +kernel) (hts _ (tw_c tw_46)) (pq_hv rfl hR_w_47) dX10_goBy_68 ?_
      refine lv_aload_n hx hb dX10_goBy_71 rfl (lv_at hl 0 rfl) ?_
      refine pg_f (v := .ref w_18) (C := RX10) (T := TX10) (N := 13) hx hb hts (tw_i inlX10) hown hK hP hL_this hK_this (by decide +kernel) rfl 7 (by decide +kernel) (hts _ (tw_c tw_42)) (pq_hv rfl hR_w_18) dX10_goBy_72 ?_
      refine pk_i (va_runV (As := [.ref w_18]) (rest := []) ⟨hx, hb, hml, hown, hts⟩ (s_X0_drink l D t σ I_9 J_10 ri_41 rj_12 rq H.size tg hSH hG.1 w_47 w_18 hL_w_47 hK_w_47 hL_w_18 hK_w_18 this hL_this hK_this hO_w_47 hO_w_18) (cwV 1 hts (tw_V tw_1094 tw_1095 tw_1096 tw_45 tw_1097) rfl rfl rfl cv_yX0_drink_1 ⟨Nat.le_of_ble_eq_true rfl, Nat.le_of_ble_eq_true rfl⟩) ⟨pq_blind, pq_recv hK hP hL_w_47 hK_w_47 (by decide +kernel) rfl, pq_pre hK hN hP hD⟩ rfl rfl hl.1 rfl (lv_room (Nat.le_of_ble_eq_true rfl)) dX10_goBy_75 ⟨Nat.le_of_ble_eq_true rfl, Nat.le_of_ble_eq_true rfl⟩) hD hS hA (fun x_48 σ1 μ1 H locs hw_49 hP hD hS => ?_)
      obtain ⟨ri_50, hu_51, hg_52, hfn_54, hfr_55⟩ := hw_49
      obtain ⟨hu_51a, hu_51b⟩ := Prod.mk.inj hu_51
      rw [hu_51a, hu_51b] at hP hD
      replace hF := hF.trans (bn_n hfn_54)
      replace hFr := fr_tr hFr hfr_55
      have hG := GX.tr hG hg_52 (by decide +kernel)
      refine lv_pop hx hb dX10_goBy_78 rfl ?_
      refine lv_aload_n hx hb dX10_goBy_79 rfl (lv_at hl 0 rfl) ?_
      refine pg_f (v := .ref w_47) (C := RX10) (T := TX10) (N := 13) hx hb hts (tw_i inlX10) hown hK hP hL_this hK_this (by decide +kernel) rfl 8 (by decide +kernel) (hts _ (tw_c tw_46)) (pq_hv rfl hR_w_47) dX10_goBy_80 ?_
      refine lv_aload_n hx hb dX10_goBy_83 rfl (lv_at hl 0 rfl) ?_
      refine pg_f (v := .ref w_38) (C := RX10) (T := TX10) (N := 13) hx hb hts (tw_i inlX10) hown hK hP hL_this hK_this (by decide +kernel) rfl 12 (by decide +kernel) (hts _ (tw_c tw_56)) (pq_hv rfl hR_w_38) dX10_goBy_84 ?_
      refine lv_iconst (v := 0) hx hb dX10_goBy_87 (by decide +kernel) ?_
      refine pk_i (va_runV (As := [.ref w_38, .int 0]) (rest := []) ⟨hx, hb, hml, hown, hts⟩ (s_X0_sleep_332 l D t σ I_9 J_10 ri_50 rj_12 rq H.size tg hSH hG.1 w_47 w_38 (0 : Int32) hL_w_47 hK_w_47 hL_w_38 hK_w_38 hN_w_38 hT_w_38 (rg_w (rg_k (0 : Int32) 0 rfl) (by decide +kernel)) this hL_this hK_this hO_w_47 hO_w_38) (cwV 2 hts (tw_V tw_1120 tw_1121 tw_1122 tw_45 tw_1123) rfl rfl rfl cv_yX0_sleep_2 ⟨Nat.le_of_ble_eq_true rfl, Nat.le_of_ble_eq_true rfl⟩) ⟨pq_blind, pq_recv hK hP hL_w_47 hK_w_47 (by decide +kernel) rfl, pq_pre hK hN hP hD⟩ rfl rfl hl.1 rfl (lv_room (Nat.le_of_ble_eq_true rfl)) dX10_goBy_88 ⟨Nat.le_of_ble_eq_true rfl, Nat.le_of_ble_eq_true rfl⟩) hD hS hA (fun x_56 σ1 μ1 H locs hw_57 hP hD hS => ?_)
      obtain ⟨ri_58, hu_59, hg_60, hfn_62, hfr_63⟩ := hw_57
      obtain ⟨hu_59a, hu_59b⟩ := Prod.mk.inj hu_59
      rw [hu_59a, hu_59b] at hP hD
      replace hF := hF.trans (bn_n hfn_62)
      replace hFr := fr_tr hFr hfr_63
      have hG := GX.tr hG hg_60 (by decide +kernel)
      refine lv_pop hx hb dX10_goBy_91 rfl ?_
      refine lv_aload_n hx hb dX10_goBy_92 rfl (lv_at hl 0 rfl) ?_
      refine pk_v (va_runV (As := []) (rest := []) ⟨hx, hb, hml, hown, hts⟩ (s_X10_reckon l D t σ I_9 J_10 ri_58 rj_12 rq H.size tg hSH hG.1 this hL_this hK_this) (cwV 0 hts (tw_V tw_1125 tw_1126 tw_1127 tw_15 tw_1128) rfl rfl rfl cv_yX10_reckon_0 ⟨Nat.le_of_ble_eq_true rfl, Nat.le_of_ble_eq_true rfl⟩) ⟨pq_blind, pq_recv hK hP hL_this hK_this (by decide +kernel) rfl, pq_pre hK hN hP hD⟩ rfl rfl hl.1 rfl (lv_room (Nat.le_of_ble_eq_true rfl)) dX10_goBy_93 ⟨Nat.le_of_ble_eq_true rfl, Nat.le_of_ble_eq_true rfl⟩) hD hS hA (fun σ1 μ1 H locs hw_65 hP hD hS => ?_)
      obtain ⟨I_66, ri_67, hu_68, hg_69, hfn_71, hfr_72⟩ := hw_65
      obtain ⟨hu_68a, hu_68b⟩ := Prod.mk.inj hu_68
      rw [hu_68a, hu_68b] at hP hD
      rw [fr_tI hFr hVT, fr_tR hFr hVT] at hfn_71
      replace hF := hF.trans (bv_n hfn_71)
      replace hFr := fr_tr hFr hfr_72
      have hG := GX.tr hG hg_69 (by decide +kernel)
      refine lv_aload_n hx hb dX10_goBy_96 rfl (lv_at hl 0 rfl) ?_
      refine pg_f (v := .int (I_66 322 this)) (C := RX10) (T := TX10) (N := 13) hx hb hts (tw_i inlX10) hown hK hP hL_this hK_this (by decide +kernel) rfl 2 (by decide +kernel) (hts _ (tw_c tw_1046)) rfl dX10_goBy_97 ?_
      replace hF := hF.trans (ap_n (vI_e (f := 322) hO_this (by decide +kernel)))
      have K_120 : ∀  (ri_114 : Nat → Nat → Int32) (H : Heap) (locs : List Loc) (ls : Array Slot), F = g_X10_goBy_K174 (vQ 10 σ this rq) (vJ 10 σ this J_10) (vL 10 σ this rj_12) (vI 10 σ this I_66) (vR 10 σ this ri_114) → FR 10 tg σ this (I, J, ri, rj, rq) (I_66, J_10, ri_114, rj_12, rq) → GX [1074, 1073, 1005, 320] tg σ I ri rj I_66 ri_114 rj_12 rq → va_P D vwCl (pq_P t σ (I_66, J_10, ri_114, rj_12, rq)) H → va_D A (pq_P t σ (I_66, J_10, ri_114, rj_12, rq)) → va_S A s.heap H locs → lv_has ls 4 [(0, .ref this)] → W p l e ({ frames := 5, cells := 0, slots := 0, locals := 143 } : Room) s m (List.toArray ([.ref this, .int a0] : List Value)) below meth c H locs 0 0 Q (F0 m 174 ls []) := by
        intro ri_114 H locs ls hF hFr hG hP hD hS hl
        replace hF := hF.trans g_X10_goBy_K174_e
        refine lv_aload_n hx hb dX10_goBy_174 rfl (lv_at hl 0 rfl) ?_
        refine lv_dup hx hb dX10_goBy_175 rfl ?_
        refine pg_f (v := .int (I_66 320 this)) (C := RX10) (T := TX10) (N := 13) hx hb hts (tw_i inlX10) hown hK hP hL_this hK_this (by decide +kernel) rfl 0 (by decide +kernel) (hts _ (tw_c tw_457)) rfl dX10_goBy_176 ?_
        have h_121 : rg (I_66 320 this) 0 599 := (by rw [hg_69.2.1 320 (by decide +kernel) (by decide +kernel)]; exact h_25)
        replace hF := hF.trans (ap_n (vI_e (f := 320) hO_this (by decide +kernel)))
        refine lv_iconst (v := 1) hx hb dX10_goBy_179 (by decide +kernel) ?_
        refine lv_iadd hx hb dX10_goBy_180 ?_
        refine lv_topi (fun x_123 ex_123 => ?_)
        replace hF := hF.trans (ap_n ex_123)
        have h_124 : rg x_123 1 600 := rg_of_eq ex_123 (rg_add h_121 (rg_k (1 : Int32) 1 rfl) (by decide +kernel))
        refine pp_i (v := x_123) (ty := .int) (C := RX10) (T := TX10) (N := 13) hx hb hts (tw_i inlX10) tyX10 tyX10_ok nmX10 hown hK hP hD hS hL_this hK_this (by decide +kernel) rfl 0 320 (by decide +kernel) (hts _ (tw_c tw_457)) rfl (tyX10_ok 0 (by decide +kernel)) rfl rfl (Nat.le_of_ble_eq_true rfl) (ps_320 _ _ _ _ _) dX10_goBy_181 (fun I_125 H locs eI_125 hP hD hS => ?_)
        replace hFr := fr_I (f := 320) hFr hO_this (by decide +kernel) eI_125
        replace hF := hF.trans (ap_n (vI_st (f := 320) hO_this (by decide +kernel) eI_125))
        have hG := GX.wI hG 320 rfl eI_125 (rg_w h_124 (by decide +kernel)) (by decide +kernel)
        subst hQ
        exact W.vret hx hb hr (fun t1 ht hW => ⟨⟨(σ, I_125, J_10, ri_114, rj_12, rq), rfl, ⟨I_125, J_10, ri_114, rj_12, rfl, hG, (hF0.symm.trans hF), hFr⟩, by rw [ht]; exact hP, va_K.moved hW.alike hK, hD⟩, hS.F ht⟩) hS.2.2 dX10_goBy_184
      refine lv_if_le (tgt := 174) hx hb dX10_goBy_100 (by decide +kernel) (fun c_126 => ?_) (fun c_126 => ?_)
      · replace hF := hF.trans (if_pos c_126)
        have h_129 : rg (I_66 322 this) (-2147483648) 0 := rg_le1 c_126 (rg_full _) (rg_k (0 : Int32) 0 rfl) (by decide +kernel)
        exact K_120 ri_67 _ _ _ hF hFr hG hP hD hS (lv_sub hl [0] rfl)
      · replace hF := hF.trans (if_neg c_126)
        have h_130 : rg (I_66 322 this) 1 2147483647 := rg_lt2 (nle c_126) (rg_k (0 : Int32) 0 rfl) (rg_full _) (by decide +kernel)
        refine lv_aload_n hx hb dX10_goBy_103 rfl (lv_at hl 0 rfl) ?_
        obtain ⟨w_131, hR_w_131, hL_w_131, hK_w_131⟩ := sh_o hSH 329 (ci := 10) (kd := 3) rfl hL_this hK_this
        have hO_w_131 : w_131 = vo σ 3 this := vo_k (c := 10) hO_this hR_w_131
        refine pg_f (v := .ref w_131) (C := RX10) (T := TX10) (N := 13) hx hb hts (tw_i inlX10) hown hK hP hL_this hK_this (by decide +kernel) rfl 9 (by decide +kernel) (hts _ (tw_c tw_50)) (pq_hv rfl hR_w_131) dX10_goBy_104 ?_
        refine lv_iconst (v := 4) hx hb dX10_goBy_107 (by decide +kernel) ?_
        refine lv_aload_n hx hb dX10_goBy_108 rfl (lv_at hl 0 rfl) ?_
        refine pg_f (v := .int (I_66 320 this)) (C := RX10) (T := TX10) (N := 13) hx hb hts (tw_i inlX10) hown hK hP hL_this hK_this (by decide +kernel) rfl 0 (by decide +kernel) (hts _ (tw_c tw_457)) rfl dX10_goBy_109 ?_
        have h_132 : rg (I_66 320 this) 0 599 := (by rw [hg_69.2.1 320 (by decide +kernel) (by decide +kernel)]; exact h_25)
        replace hF := hF.trans (ap_n (vI_e (f := 320) hO_this (by decide +kernel)))
        refine lv_aload_n hx hb dX10_goBy_112 rfl (lv_at hl 0 rfl) ?_
        refine pg_f (v := .ref w_47) (C := RX10) (T := TX10) (N := 13) hx hb hts (tw_i inlX10) hown hK hP hL_this hK_this (by decide +kernel) rfl 8 (by decide +kernel) (hts _ (tw_c tw_46)) (pq_hv rfl hR_w_47) dX10_goBy_113 ?_
        refine lv_aload_n hx hb dX10_goBy_116 rfl (lv_at hl 0 rfl) ?_
        obtain ⟨w_134, hR_w_134, hL_w_134, hK_w_134, hN_w_134, hT_w_134⟩ := sh_a hSH 331 (ci := 10) (kd := 13) (len := 40) rfl (by decide +kernel) hL_this hK_this
        have hO_w_134 : w_134 = vrow σ 331 this := vo_k (c := 10) hO_this hR_w_134
        refine pg_f (v := .ref w_134) (C := RX10) (T := TX10) (N := 13) hx hb hts (tw_i inlX10) hown hK hP hL_this hK_this (by decide +kernel) rfl 11 (by decide +kernel) (hts _ (tw_c tw_55)) (pq_hv rfl hR_w_134) dX10_goBy_117 ?_
        refine pk_v (va_runV (As := [.int 4, .int (I_66 320 this), .ref w_47, .ref w_134]) (rest := []) ⟨hx, hb, hml, hown, hts⟩ (s_X3_line_331 l D t σ I_66 J_10 ri_67 rj_12 rq H.size tg hSH hG.1 w_131 (4 : Int32) (I_66 320 this) w_47 w_134 hL_w_131 hK_w_131 hL_w_47 hK_w_47 hL_w_134 hK_w_134 hN_w_134 hT_w_134 this hL_this hK_this hO_w_131 hO_w_47 hO_w_134) (cwV 4 hts (tw_V tw_461 tw_462 tw_463 tw_49 tw_464) rfl rfl rfl cv_yX3_line_4 ⟨Nat.le_of_ble_eq_true rfl, Nat.le_of_ble_eq_true rfl⟩) ⟨pq_blind, pq_recv hK hP hL_w_131 hK_w_131 (by decide +kernel) rfl, pq_pre hK hN hP hD⟩ rfl rfl hl.1 rfl (lv_room (Nat.le_of_ble_eq_true rfl)) dX10_goBy_120 ⟨Nat.le_of_ble_eq_true rfl, Nat.le_of_ble_eq_true rfl⟩) hD hS hA (fun σ1 μ1 H locs hw_136 hP hD hS => ?_)
        obtain ⟨ri_137, hu_138, hg_139, hfn_141, hfr_142⟩ := hw_136
        obtain ⟨hu_138a, hu_138b⟩ := Prod.mk.inj hu_138
        rw [hu_138a, hu_138b] at hP hD
        rw [fr_tI hFr hVT, fr_tR hFr hVT] at hfn_141
        replace hF := hF.trans (bv_n hfn_141)
        replace hFr := fr_tr hFr hfr_142
        have hG := GX.tr hG hg_139 (by decide +kernel)
        refine lv_aload_n hx hb dX10_goBy_123 rfl (lv_at hl 0 rfl) ?_
        refine pg_f (v := .ref w_131) (C := RX10) (T := TX10) (N := 13) hx hb hts (tw_i inlX10) hown hK hP hL_this hK_this (by decide +kernel) rfl 9 (by decide +kernel) (hts _ (tw_c tw_50)) (pq_hv rfl hR_w_131) dX10_goBy_124 ?_
        refine lv_iconst (v := 2) hx hb dX10_goBy_127 (by decide +kernel) ?_
        refine lv_aload_n hx hb dX10_goBy_128 rfl (lv_at hl 0 rfl) ?_
        refine pg_f (v := .int (I_66 320 this)) (C := RX10) (T := TX10) (N := 13) hx hb hts (tw_i inlX10) hown hK hP hL_this hK_this (by decide +kernel) rfl 0 (by decide +kernel) (hts _ (tw_c tw_457)) rfl dX10_goBy_129 ?_
        refine lv_aload_n hx hb dX10_goBy_132 rfl (lv_at hl 0 rfl) ?_
        refine pg_f (v := .ref w_47) (C := RX10) (T := TX10) (N := 13) hx hb hts (tw_i inlX10) hown hK hP hL_this hK_this (by decide +kernel) rfl 8 (by decide +kernel) (hts _ (tw_c tw_46)) (pq_hv rfl hR_w_47) dX10_goBy_133 ?_
        refine lv_aload_n hx hb dX10_goBy_136 rfl (lv_at hl 0 rfl) ?_
        refine pg_f (v := .ref w_47) (C := RX10) (T := TX10) (N := 13) hx hb hts (tw_i inlX10) hown hK hP hL_this hK_this (by decide +kernel) rfl 8 (by decide +kernel) (hts _ (tw_c tw_46)) (pq_hv rfl hR_w_47) dX10_goBy_137 ?_
        refine pk_l (va_runV (As := []) (rest := [.ref w_47, .int (I_66 320 this), .int 2, .ref w_131]) ⟨hx, hb, hml, hown, hts⟩ (s_X0_onRings l D t σ I_66 J_10 ri_137 rj_12 rq H.size tg hSH hG.1 w_47 hL_w_47 hK_w_47 this hL_this hK_this hO_w_47) (cwV 0 hts (tw_V tw_1162 tw_1163 tw_1164 tw_45 tw_1165) rfl rfl rfl cv_yX0_onRings_0 ⟨Nat.le_of_ble_eq_true rfl, Nat.le_of_ble_eq_true rfl⟩) ⟨pq_blind, pq_recv hK hP hL_w_47 hK_w_47 (by decide +kernel) rfl, pq_pre hK hN hP hD⟩ rfl rfl hl.1 rfl (lv_room (Nat.le_of_ble_eq_true rfl)) dX10_goBy_140 ⟨Nat.le_of_ble_eq_true rfl, Nat.le_of_ble_eq_true rfl⟩) hD hS hA (fun x_143 σ1 μ1 H locs hw_144 hP hD hS => ?_)
        obtain ⟨hu_145, hfn_148⟩ := hw_144
        obtain ⟨hu_145a, hu_145b⟩ := Prod.mk.inj hu_145
        rw [hu_145a, hu_145b] at hP hD
        replace hF := hF.trans (bn_n hfn_148)
        refine pk_l (va_runV (As := [.int 2, .int (I_66 320 this), .ref w_47, .long x_143]) (rest := []) ⟨hx, hb, hml, hown, hts⟩ (s_X3_whoIsSo l D t σ I_66 J_10 ri_137 rj_12 rq H.size tg hSH hG.1 w_131 (2 : Int32) (I_66 320 this) w_47 x_143 hL_w_131 hK_w_131 hL_w_47 hK_w_47 this hL_this hK_this hO_w_131 hO_w_47) (cwV 4 hts (tw_V tw_1166 tw_964 tw_965 tw_49 tw_966) rfl rfl rfl cv_yX3_whoIsSo_4 ⟨Nat.le_of_ble_eq_true rfl, Nat.le_of_ble_eq_true rfl⟩) ⟨pq_blind, pq_recv hK hP hL_w_131 hK_w_131 (by decide +kernel) rfl, pq_pre hK hN hP hD⟩ rfl rfl hl.1 rfl (lv_room (Nat.le_of_ble_eq_true rfl)) dX10_goBy_143 ⟨Nat.le_of_ble_eq_true rfl, Nat.le_of_ble_eq_true rfl⟩) hD hS hA (fun x_150 σ1 μ1 H locs hw_151 hP hD hS => ?_)
        obtain ⟨ri_152, hu_153, hg_154, hfn_156, hfr_157⟩ := hw_151
        obtain ⟨hu_153a, hu_153b⟩ := Prod.mk.inj hu_153
        rw [hu_153a, hu_153b] at hP hD
        rw [fr_tI hFr hVT, fr_tR hFr hVT] at hfn_156
        replace hF := hF.trans (bn_n hfn_156)
        replace hFr := fr_tr hFr hfr_157
        have hG := GX.tr hG hg_154 (by decide +kernel)
        refine lv_lstore_n (lv' := [(2, .long x_150), (0, .ref this), (1, .int a0)]) hx hb dX10_goBy_146 rfl hl (by decide +kernel) rfl (fun ls hl => ?_)
        refine lv_aload_n hx hb dX10_goBy_147 rfl (lv_at hl 1 rfl) ?_
        refine pg_f (v := .ref w_47) (C := RX10) (T := TX10) (N := 13) hx hb hts (tw_i inlX10) hown hK hP hL_this hK_this (by decide +kernel) rfl 8 (by decide +kernel) (hts _ (tw_c tw_46)) (pq_hv rfl hR_w_47) dX10_goBy_148 ?_
        refine lv_lload_n hx hb dX10_goBy_151 rfl (lv_at hl 0 rfl) ?_
        refine lv_aload_n hx hb dX10_goBy_152 rfl (lv_at hl 1 rfl) ?_
        refine pg_f (v := .ref w_134) (C := RX10) (T := TX10) (N := 13) hx hb hts (tw_i inlX10) hown hK hP hL_this hK_this (by decide +kernel) rfl 11 (by decide +kernel) (hts _ (tw_c tw_55)) (pq_hv rfl hR_w_134) dX10_goBy_153 ?_
        refine lv_aload_n hx hb dX10_goBy_156 rfl (lv_at hl 1 rfl) ?_
        refine pg_f (v := .ref w_47) (C := RX10) (T := TX10) (N := 13) hx hb hts (tw_i inlX10) hown hK hP hL_this hK_this (by decide +kernel) rfl 8 (by decide +kernel) (hts _ (tw_c tw_46)) (pq_hv rfl hR_w_47) dX10_goBy_157 ?_
        refine pg_f (v := .int (I_66 0 w_47)) (C := RX0) (T := TX0) (N := 16) hx hb hts (tw_i inlX0) hown hK hP hL_w_47 hK_w_47 (by decide +kernel) rfl 0 (by decide +kernel) (hts _ (tw_c tw_458)) rfl dX10_goBy_160 ?_
        have h_158 : rg (I_66 0 w_47) 0 40 := GX.rI hG 0 rfl
        replace hF := hF.trans (ap_n (vI_e (f := 0) hO_w_47 (by decide +kernel)))
        refine lv_aload_n hx hb dX10_goBy_163 rfl (lv_at hl 1 rfl) ?_
        refine pg_f (v := .int (I_66 322 this)) (C := RX10) (T := TX10) (N := 13) hx hb hts (tw_i inlX10) hown hK hP hL_this hK_this (by decide +kernel) rfl 2 (by decide +kernel) (hts _ (tw_c tw_1046)) rfl dX10_goBy_164 ?_
        refine lv_aload_n hx hb dX10_goBy_167 rfl (lv_at hl 1 rfl) ?_
        refine pg_f (v := .int (I_66 320 this)) (C := RX10) (T := TX10) (N := 13) hx hb hts (tw_i inlX10) hown hK hP hL_this hK_this (by decide +kernel) rfl 0 (by decide +kernel) (hts _ (tw_c tw_457)) rfl dX10_goBy_168 ?_
        refine pk_v (va_runV (As := [.long x_150, .ref w_134, .int (I_66 0 w_47), .int (I_66 322 this), .int (I_66 320 this)]) (rest := []) ⟨hx, hb, hml, hown, hts⟩ (s_X0_board_331 l D t σ I_66 J_10 ri_152 rj_12 rq H.size tg hSH hG.1 w_47 x_150 w_134 (I_66 0 w_47) (I_66 322 this) (I_66 320 this) hL_w_47 hK_w_47 hL_w_134 hK_w_134 hN_w_134 hT_w_134 this hL_this hK_this hO_w_47 hO_w_134) (cwV 5 hts (tw_V tw_1167 tw_1168 tw_1169 tw_45 tw_1170) rfl rfl rfl cv_yX0_board_5 ⟨Nat.le_of_ble_eq_true rfl, Nat.le_of_ble_eq_true rfl⟩) ⟨pq_blind, pq_recv hK hP hL_w_47 hK_w_47 (by decide +kernel) rfl, pq_pre hK hN hP hD⟩ rfl rfl hl.1 rfl (lv_room (Nat.le_of_ble_eq_true rfl)) dX10_goBy_171 ⟨Nat.le_of_ble_eq_true rfl, Nat.le_of_ble_eq_true rfl⟩) hD hS hA (fun σ1 μ1 H locs hw_161 hP hD hS => ?_)
        obtain ⟨ri_162, hu_163, hg_164, hfn_166, hfr_167⟩ := hw_161
        obtain ⟨hu_163a, hu_163b⟩ := Prod.mk.inj hu_163
        rw [hu_163a, hu_163b] at hP hD
        replace hF := hF.trans (bv_n hfn_166)
        replace hFr := fr_tr hFr hfr_167
        have hG := GX.tr hG hg_164 (by decide +kernel)
        exact K_120 ri_162 _ _ _ hF hFr hG hP hD hS (lv_sub hl [1] rfl)
    · replace hF := hF.trans (if_neg c_3)
      have h_168 : rg (I 320 this) 600 600 := rg_le2 (nlt c_3) (rg_k (600 : Int32) 600 rfl) h_1 (by decide +kernel)
      subst hQ
      exact W.vret hx hb hr (fun t1 ht hW => ⟨⟨(σ, I, J, ri, rj, rq), rfl, ⟨I, J, ri, rj, rfl, hG, (hF0.symm.trans hF), hFr⟩, by rw [ht]; exact hP, va_K.moved hW.alike hK, hD⟩, hS.F ht⟩) hS.2.2 dX10_goBy_10
  exact go _ _ _ hP hD hS hl

set_option maxRecDepth 100000 in
def g_X10_sandBehind_L2 (a0 : Int32) (a1 : Int32) (J : Nat → Int64) (rj : Nat → Nat → Int64) (rq : Nat → Nat → Option Nat) : Nat → (Int32) → (Nat → Int32) → (Nat → Nat → Int32) → Int32 × vM
  | 0, x_431, I_432, ri_433 => ((0 : Int32), I_432, J, ri_433, rj, rq)
  | n_463 + 1, x_431, I_432, ri_433 => (if a0 ≤ x_431 then (ap1 (ri_433 73 (a1).toNatClampNeg) fun (x_473 : Int32) => (x_473, I_432, J, ri_433, rj, rq)) else (ap1 (I_432 320) fun (y_480 : Int32) => (ap1 ((y_480) + x_431) fun (x_481 : Int32) => (ap1 (x_481 - x_481 / (12 : Int32) * (12 : Int32)) fun (x_483 : Int32) => (ap1 (ri_433 232 (x_483).toNatClampNeg) fun (x_485 : Int32) => (bnV (g_X2_walk x_485 I_432 J ri_433 rj rq) fun (I_488 : Nat → Int32) (_ : Nat → Int64) (ri_489 : Nat → Nat → Int32) (_ : Nat → Nat → Int64) (_ : Nat → Nat → Option Nat) => (ap1 (x_431 + Int32.ofInt 1) fun (x_495 : Int32) => ((g_X10_sandBehind_L2 a0 a1 J rj rq n_463) x_495 I_488 ri_489))))))))
set_option maxRecDepth 100000 in
theorem g_X10_sandBehind_L2_e {a0 : Int32} {a1 : Int32} {J : Nat → Int64} {rj : Nat → Nat → Int64} {rq : Nat → Nat → Option Nat} {n_463 : Nat} {x_431 : Int32} {I_432 : Nat → Int32} {ri_433 : Nat → Nat → Int32} : g_X10_sandBehind_L2 a0 a1 J rj rq (n_463 + 1) x_431 I_432 ri_433 = (if a0 ≤ x_431 then (ap1 (ri_433 73 (a1).toNatClampNeg) fun (x_473 : Int32) => (x_473, I_432, J, ri_433, rj, rq)) else (ap1 (I_432 320) fun (y_480 : Int32) => (ap1 ((y_480) + x_431) fun (x_481 : Int32) => (ap1 (x_481 - x_481 / (12 : Int32) * (12 : Int32)) fun (x_483 : Int32) => (ap1 (ri_433 232 (x_483).toNatClampNeg) fun (x_485 : Int32) => (bnV (g_X2_walk x_485 I_432 J ri_433 rj rq) fun (I_488 : Nat → Int32) (_ : Nat → Int64) (ri_489 : Nat → Nat → Int32) (_ : Nat → Nat → Int64) (_ : Nat → Nat → Option Nat) => (ap1 (x_431 + Int32.ofInt 1) fun (x_495 : Int32) => ((g_X10_sandBehind_L2 a0 a1 J rj rq n_463) x_495 I_488 ri_489)))))))) := rfl
set_option maxRecDepth 100000 in
def g_X10_sandBehind (a0 : Int32) (a1 : Int32) (I : Nat → Int32) (J : Nat → Int64) (ri : Nat → Nat → Int32) (rj : Nat → Nat → Int64) (rq : Nat → Nat → Option Nat) : Int32 × vM := (g_X10_sandBehind_L2 a0 a1 J rj rq ((60 - ((0 : Int32)).toInt).toNat + 1) (0 : Int32) I ri)
set_option maxRecDepth 100000 in
theorem g_X10_sandBehind_e {a0 : Int32} {a1 : Int32} {I : Nat → Int32} {J : Nat → Int64} {ri : Nat → Nat → Int32} {rj : Nat → Nat → Int64} {rq : Nat → Nat → Option Nat} : g_X10_sandBehind a0 a1 I J ri rj rq = (g_X10_sandBehind_L2 a0 a1 J rj rq ((60 - ((0 : Int32)).toInt).toNat + 1) (0 : Int32) I ri) := rfl
set_option maxHeartbeats 4000000 in
set_option maxRecDepth 100000 in
theorem s_X10_sandBehind (l : Launch) (D : va_G) (t : pq_T) (σ : pq_S) (I : Nat → Nat → Int32) (J : Nat → Nat → Int64) (ri : Nat → Nat → Int32) (rj : Nat → Nat → Int64) (rq : Nat → Nat → Option Nat) (sz : Nat) (tg : Nat → Nat) (hSH : SH σ tg) (hG0 : GS tg σ I ri rq) (this : Nat) (a0 : Int32) (a1 : Int32) (hL_this : this ∈ σ.1) (hK_this : σ.2.1 this = 10) (h_a0 : rg a0 0 60) (h_a1 : rg a1 0 39) : MetI l yX10_sandBehind (wa yX10_sandBehind cX10_sandBehind 4 (some .int)) ({ frames := 2, cells := 0, slots := 0, locals := 62 }) [.ref this, .int a0, .int a1] D t σ (I, J, ri, rj, rq) sz 0 0 (fun (r : Int32) (u : pq_S × pq_M) => ∃ I' : Nat → Nat → Int32, ∃ ri' : Nat → Nat → Int32, u = (σ, I', J, ri', rj, rq) ∧ GX [1073] tg σ I ri rj I' ri' rj rq ∧ g_X10_sandBehind a0 a1 (vI 10 σ this I) (vJ 10 σ this J) (vR 10 σ this ri) (vL 10 σ this rj) (vQ 10 σ this rq) = (r, (vI 10 σ this I'), (vJ 10 σ this J), (vR 10 σ this ri'), (vL 10 σ this rj), (vQ 10 σ this rq)) ∧ FR 10 tg σ this (I, J, ri, rj, rq) (I', J, ri', rj, rq)) := by
  refine Met.ofW (cc := cX10_sandBehind) (maxL := 4) (ret := (some .int)) (by decide +kernel) rfl ?_
  intro p e s m args below meth c s₁ B hml hv
  obtain ⟨rfl, hsz, hP, hK, hD0, hN⟩ := hv
  have hx := B.exec
  have hb := B.bytes
  have hr := B.returns
  have hts := atoms_spec (ws := (wa yX10_sandBehind cX10_sandBehind 4 (some .int))) B.pre
  have hown : s.vm.findClass RX10 = some m.cls := findClass_of_methodNamed B.named
  have hlocks := B.notSynchronized
  subst hsz
  have hD : va_D (pq_B t σ (I, J, ri, rj, rq) s.heap.size) (pq_P t σ (I, J, ri, rj, rq)) := hD0.self
  generalize hAe : pq_B t σ (I, J, ri, rj, rq) s.heap.size = A at hD ⊢
  have hA : ∀ q : Nat, s.heap.size ≤ q → A q := fun q h => by rw [← hAe]; exact Or.inr h
  have hS : va_S A s.heap s.heap [] := va_S.rf
  have hG : GX [1073] tg σ I ri rj I ri rj rq := ⟨hG0, fun _ _ _ => rfl, fun _ _ _ _ _ => rfl, fun _ _ _ _ _ => rfl⟩
  have hl := lv_entry ([.ref this, .int a0, .int a1]) (n := 4) (Nat.le_of_ble_eq_true rfl)
  rw [lg_entry_eq]
  generalize (lg_sl ([.ref this, .int a0, .int a1]) ++ List.replicate (4 - (lg_sl ([.ref this, .int a0, .int a1])).length) Slot.unset).toArray = ls at hl ⊢
  have hl : lv_has ls 4 [(0, .ref this), (1, .int a0), (2, .int a1)] := hl
  refine q_gen (fun Q hQ => ?_)
  have go : ∀ (H : Heap) (locs : List Loc) (ls : Array Slot), va_P D vwCl (pq_P t σ (I, J, ri, rj, rq)) H → va_D A (pq_P t σ (I, J, ri, rj, rq)) → va_S A s.heap H locs → lv_has ls 4 [(0, .ref this), (1, .int a0), (2, .int a1)] → W p l e ({ frames := 2, cells := 0, slots := 0, locals := 62 } : Room) s m (List.toArray ([.ref this, .int a0, .int a1] : List Value)) below meth c H locs 0 0 Q (F0 m 0 ls []) := by
    intro H locs ls hP hD hS hl
    have hO_this : this = vo σ 10 this := rfl
    have hVT : VT 10 σ tg this := vt_10 hSH hL_this hK_this
    have hFr : FR 10 tg σ this (I, J, ri, rj, rq) (I, J, ri, rj, rq) := fr_rf
    obtain ⟨F, hF0⟩ : ∃ F, F = g_X10_sandBehind a0 a1 (vI 10 σ this I) (vJ 10 σ this J) (vR 10 σ this ri) (vL 10 σ this rj) (vQ 10 σ this rq) := ⟨_, rfl⟩
    have hF := hF0.trans g_X10_sandBehind_e
    refine lv_iconst (v := 0) hx hb dX10_sandBehind_0 (by decide +kernel) ?_
    refine lv_istore_n (lv' := [(3, .int 0), (0, .ref this), (1, .int a0), (2, .int a1)]) hx hb dX10_sandBehind_1 rfl hl (by decide +kernel) rfl (fun ls hl => ?_)
    have L_464 : ∀ (n_463 : Nat) (x_431 : Int32) (I_432 : Nat → Nat → Int32) (ri_433 : Nat → Nat → Int32) (H : Heap) (locs : List Loc) (ls : Array Slot), rg x_431 0 60 → (60 - (x_431).toInt).toNat < n_463 → F = g_X10_sandBehind_L2 a0 a1 (vJ 10 σ this J) (vL 10 σ this rj) (vQ 10 σ this rq) n_463 x_431 (vI 10 σ this I_432) (vR 10 σ this ri_433) → FR 10 tg σ this (I, J, ri, rj, rq) (I_432, J, ri_433, rj, rq) → GX [1073] tg σ I ri rj I_432 ri_433 rj rq → va_P D vwCl (pq_P t σ (I_432, J, ri_433, rj, rq)) H → va_D A (pq_P t σ (I_432, J, ri_433, rj, rq)) → va_S A s.heap H locs → lv_has ls 4 [(0, .ref this), (1, .int a0), (2, .int a1), (3, .int x_431)] → W p l e ({ frames := 2, cells := 0, slots := 0, locals := 62 } : Room) s m (List.toArray ([.ref this, .int a0, .int a1] : List Value)) below meth c H locs 0 0 Q (F0 m 2 ls []) := by
      intro n_463
      induction n_463 with
      | zero => intro x_431 I_432 ri_433 H locs ls h_467 hm_462 hF hFr hG hP hD hS hl; exact absurd hm_462 (Nat.not_lt_zero _)
      | succ n_463 ih_465 =>
        intro x_431 I_432 ri_433 H locs ls h_467 hm_462 hF hFr hG hP hD hS hl
        replace hF := hF.trans g_X10_sandBehind_L2_e
        refine lv_iload_n hx hb dX10_sandBehind_2 rfl (lv_at hl 3 rfl) ?_
        refine lv_iload_n hx hb dX10_sandBehind_3 rfl (lv_at hl 1 rfl) ?_
        refine lv_icmp_ge (tgt := 37) hx hb dX10_sandBehind_4 (by decide +kernel) (fun c_468 => ?_) (fun c_468 => ?_)
        · replace hF := hF.trans (if_pos c_468)
          refine lv_aload_n hx hb dX10_sandBehind_37 rfl (lv_at hl 0 rfl) ?_
          obtain ⟨w_471, hR_w_471, hL_w_471, hK_w_471⟩ := sh_o hSH 327 (ci := 10) (kd := 2) rfl hL_this hK_this
          have hO_w_471 : w_471 = vo σ 2 this := vo_k (c := 10) hO_this hR_w_471
          refine pg_f (v := .ref w_471) (C := RX10) (T := TX10) (N := 13) hx hb hts (tw_i inlX10) hown hK hP hL_this hK_this (by decide +kernel) rfl 7 (by decide +kernel) (hts _ (tw_c tw_42)) (pq_hv rfl hR_w_471) dX10_sandBehind_38 ?_
          obtain ⟨w_472, hR_w_472, hL_w_472, hK_w_472, hN_w_472, hT_w_472⟩ := sh_a hSH 73 (ci := 2) (kd := 13) (len := 40) rfl (by decide +kernel) hL_w_471 hK_w_471
          have hO_w_472 : w_472 = vrow σ 73 this := vo_k (c := 2) hO_w_471 hR_w_472
          refine pg_f (v := .ref w_472) (C := RX2) (T := TX2) (N := 20) hx hb hts (tw_i inlX2) hown hK hP hL_w_471 hK_w_471 (by decide +kernel) rfl 9 (by decide +kernel) (hts _ (tw_c tw_1419)) (pq_hv rfl hR_w_472) dX10_sandBehind_41 ?_
          refine lv_iload_n hx hb dX10_sandBehind_44 rfl (lv_at hl 2 rfl) ?_
          refine pl_i hx hb hK hP hL_w_472 hK_w_472 hN_w_472 (rg_in h_a1 (by decide +kernel)) dX10_sandBehind_45 ?_
          refine lv_topi (fun x_473 ex_473 => ?_)
          replace hF := hF.trans (ap_n (vR_r hO_w_472 (by decide +kernel) ex_473))
          subst hQ
          exact W.iret (v := x_473) hx hb hr (fun t1 ht hW => ⟨⟨x_473, (σ, I_432, J, ri_433, rj, rq), rfl, ⟨I_432, ri_433, rfl, hG, (hF0.symm.trans hF), hFr⟩, by rw [ht]; exact hP, va_K.moved hW.alike hK, hD⟩, hS.F ht⟩) hS.2.2 dX10_sandBehind_46
        · replace hF := hF.trans (if_neg c_468)
          have h_474 : rg x_431 0 59 := rg_lt1 (nle c_468) h_467 h_a0 (by decide +kernel)
          have h_475 : rg a0 1 60 := rg_lt2 (nle c_468) h_467 h_a0 (by decide +kernel)
          refine lv_aload_n hx hb dX10_sandBehind_7 rfl (lv_at hl 0 rfl) ?_
          obtain ⟨w_476, hR_w_476, hL_w_476, hK_w_476⟩ := sh_o hSH 327 (ci := 10) (kd := 2) rfl hL_this hK_this
          have hO_w_476 : w_476 = vo σ 2 this := vo_k (c := 10) hO_this hR_w_476
          refine pg_f (v := .ref w_476) (C := RX10) (T := TX10) (N := 13) hx hb hts (tw_i inlX10) hown hK hP hL_this hK_this (by decide +kernel) rfl 7 (by decide +kernel) (hts _ (tw_c tw_42)) (pq_hv rfl hR_w_476) dX10_sandBehind_8 ?_
          refine lv_aload_n hx hb dX10_sandBehind_11 rfl (lv_at hl 0 rfl) ?_
          obtain ⟨w_477, hR_w_477, hL_w_477, hK_w_477⟩ := sh_o hSH 326 (ci := 10) (kd := 7) rfl hL_this hK_this
          have hO_w_477 : w_477 = vo σ 7 this := vo_k (c := 10) hO_this hR_w_477
          refine pg_f (v := .ref w_477) (C := RX10) (T := TX10) (N := 13) hx hb hts (tw_i inlX10) hown hK hP hL_this hK_this (by decide +kernel) rfl 6 (by decide +kernel) (hts _ (tw_c tw_38)) (pq_hv rfl hR_w_477) dX10_sandBehind_12 ?_
          obtain ⟨w_478, hR_w_478, hL_w_478, hK_w_478, hN_w_478, hT_w_478⟩ := sh_a hSH 232 (ci := 7) (kd := 13) (len := 12) rfl (by decide +kernel) hL_w_477 hK_w_477
          have hO_w_478 : w_478 = vrow σ 232 this := vo_k (c := 7) hO_w_477 hR_w_478
          refine pg_f (v := .ref w_478) (C := RX7) (T := TX7) (N := 15) hx hb hts (tw_i inlX7) hown hK hP hL_w_477 hK_w_477 (by decide +kernel) rfl 8 (by decide +kernel) (hts _ (tw_c tw_1055)) (pq_hv rfl hR_w_478) dX10_sandBehind_15 ?_
          refine lv_aload_n hx hb dX10_sandBehind_18 rfl (lv_at hl 0 rfl) ?_
          refine pg_f (v := .int (I_432 320 this)) (C := RX10) (T := TX10) (N := 13) hx hb hts (tw_i inlX10) hown hK hP hL_this hK_this (by decide +kernel) rfl 0 (by decide +kernel) (hts _ (tw_c tw_457)) rfl dX10_sandBehind_19 ?_
          have h_479 : rg (I_432 320 this) 0 600 := GX.rI hG 320 rfl
          replace hF := hF.trans (ap_n (vI_e (f := 320) hO_this (by decide +kernel)))
          refine lv_iload_n hx hb dX10_sandBehind_22 rfl (lv_at hl 3 rfl) ?_
          refine lv_iadd hx hb dX10_sandBehind_23 ?_
          refine lv_topi (fun x_481 ex_481 => ?_)
          replace hF := hF.trans (ap_n ex_481)
          have h_482 : rg x_481 0 659 := rg_of_eq ex_481 (rg_add h_479 h_474 (by decide +kernel))
          refine lv_bipush (v := 12) hx hb dX10_sandBehind_24 (by decide +kernel) ?_
          refine lv_irem hx hb dX10_sandBehind_26 (by decide +kernel) ?_
          refine lv_topi (fun x_483 ex_483 => ?_)
          replace hF := hF.trans (ap_n ex_483)
          have h_484 : rg x_483 0 11 := rg_of_eq ex_483 (rg_rem h_482 rfl (by decide +kernel))
          refine pl_i hx hb hK hP hL_w_478 hK_w_478 hN_w_478 (rg_in h_484 (by decide +kernel)) dX10_sandBehind_27 ?_
          refine lv_topi (fun x_485 ex_485 => ?_)
          replace hF := hF.trans (ap_n (vR_r hO_w_478 (by decide +kernel) ex_485))
          refine pk_v (va_runV (As := [.int x_485]) (rest := []) ⟨hx, hb, hml, hown, hts⟩ (s_X2_walk l D t σ I_432 J ri_433 rj rq H.size tg hSH hG.1 w_476 x_485 hL_w_476 hK_w_476 this hL_this hK_this hO_w_476) (cwV 1 hts (tw_V tw_1065 tw_1066 tw_1067 tw_41 tw_1068) rfl rfl rfl cv_yX2_walk_1 ⟨Nat.le_of_ble_eq_true rfl, Nat.le_of_ble_eq_true rfl⟩) ⟨pq_blind, pq_recv hK hP hL_w_476 hK_w_476 (by decide +kernel) rfl, pq_pre hK hN hP hD⟩ rfl rfl hl.1 rfl (lv_room (Nat.le_of_ble_eq_true rfl)) dX10_sandBehind_28 ⟨Nat.le_of_ble_eq_true rfl, Nat.le_of_ble_eq_true rfl⟩) hD hS hA (fun σ1 μ1 H locs hw_487 hP hD hS => ?_)
          obtain ⟨I_488, ri_489, hu_490, hg_491, hfn_493, hfr_494⟩ := hw_487
          obtain ⟨hu_490a, hu_490b⟩ := Prod.mk.inj hu_490
          rw [hu_490a, hu_490b] at hP hD
          replace hF := hF.trans (bv_n hfn_493)
          replace hFr := fr_tr hFr hfr_494
          have hG := GX.tr hG hg_491 (by decide +kernel)
          obtain ⟨x_495, ex_495⟩ : ∃ y : Int32, y = x_431 + Int32.ofInt 1 := ⟨_, rfl⟩
          replace hF := hF.trans (ap_n ex_495)
          have h_496 : rg x_495 1 60 := rg_of_eq ex_495 (rg_add h_474 (rg_k (Int32.ofInt 1) 1 rfl) (by decide +kernel))
          refine lv_iinc (v := x_495) (lv' := [(3, .int x_495), (0, .ref this), (1, .int a0), (2, .int a1)]) hx hb dX10_sandBehind_31 hl (k := 3) rfl ex_495.symm (by decide +kernel) rfl (fun ls hl => ?_)
          refine lv_goto (tgt := 2) hx hb dX10_sandBehind_34 (by decide +kernel) ?_
          exact ih_465 x_495 I_488 ri_489 _ _ _ (rg_w h_496 (by decide +kernel)) (ms_up 1 hm_462 ex_495 rfl (by decide +kernel) h_474 (by decide +kernel) (by decide +kernel)) hF hFr hG hP hD hS (lv_sub hl [1, 2, 3, 0] rfl)
    exact L_464 _ (0 : Int32) I ri _ _ _ (rg_w (rg_k (0 : Int32) 0 rfl) (by decide +kernel)) (Nat.lt_succ_self _) hF hFr hG hP hD hS (lv_sub hl [1, 2, 3, 0] rfl)
  exact go _ _ _ hP hD hS hl
