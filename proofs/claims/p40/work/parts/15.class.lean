theorem dX7_tell_0 : decode cX7_tell 0 = .ok (.aload_n 0, 1) := oc_42 (by decide +kernel)
theorem dX7_tell_1 : decode cX7_tell 1 = .ok (.getfield 59, 3) := oc_180 (a := 0) (b := 59) (by decide +kernel)
theorem dX7_tell_4 : decode cX7_tell 4 = .ok (.sipush 200, 3) := oc_17 (a := 0) (b := 200) (by decide +kernel)
theorem dX7_tell_7 : decode cX7_tell 7 = .ok (.if_icmp .lt 5, 3) := oc_161 (a := 0) (b := 5) (by decide +kernel)
theorem dX7_tell_12 : decode cX7_tell 12 = .ok (.aload_n 0, 1) := oc_42 (by decide +kernel)
theorem dX7_tell_13 : decode cX7_tell 13 = .ok (.getfield 9, 3) := oc_180 (a := 0) (b := 9) (by decide +kernel)
theorem dX7_tell_16 : decode cX7_tell 16 = .ok (.aload_n 0, 1) := oc_42 (by decide +kernel)
theorem dX7_tell_17 : decode cX7_tell 17 = .ok (.getfield 59, 3) := oc_180 (a := 0) (b := 59) (by decide +kernel)
theorem dX7_tell_20 : decode cX7_tell 20 = .ok (.iload_n 1, 1) := oc_27 (by decide +kernel)
theorem dX7_tell_21 : decode cX7_tell 21 = .ok (.iastore, 1) := oc_79 (by decide +kernel)
theorem dX7_tell_22 : decode cX7_tell 22 = .ok (.aload_n 0, 1) := oc_42 (by decide +kernel)
theorem dX7_tell_23 : decode cX7_tell 23 = .ok (.getfield 15, 3) := oc_180 (a := 0) (b := 15) (by decide +kernel)
theorem dX7_tell_26 : decode cX7_tell 26 = .ok (.aload_n 0, 1) := oc_42 (by decide +kernel)
theorem dX7_tell_27 : decode cX7_tell 27 = .ok (.getfield 59, 3) := oc_180 (a := 0) (b := 59) (by decide +kernel)
theorem dX7_tell_30 : decode cX7_tell 30 = .ok (.iload_n 2, 1) := oc_28 (by decide +kernel)
theorem dX7_tell_31 : decode cX7_tell 31 = .ok (.iastore, 1) := oc_79 (by decide +kernel)
theorem dX7_tell_32 : decode cX7_tell 32 = .ok (.aload_n 0, 1) := oc_42 (by decide +kernel)
theorem dX7_tell_33 : decode cX7_tell 33 = .ok (.getfield 18, 3) := oc_180 (a := 0) (b := 18) (by decide +kernel)
theorem dX7_tell_36 : decode cX7_tell 36 = .ok (.aload_n 0, 1) := oc_42 (by decide +kernel)
theorem dX7_tell_37 : decode cX7_tell 37 = .ok (.getfield 59, 3) := oc_180 (a := 0) (b := 59) (by decide +kernel)
theorem dX7_tell_40 : decode cX7_tell 40 = .ok (.iload_n 3, 1) := oc_29 (by decide +kernel)
theorem dX7_tell_41 : decode cX7_tell 41 = .ok (.iastore, 1) := oc_79 (by decide +kernel)
theorem dX7_tell_42 : decode cX7_tell 42 = .ok (.aload_n 0, 1) := oc_42 (by decide +kernel)
theorem dX7_tell_43 : decode cX7_tell 43 = .ok (.getfield 21, 3) := oc_180 (a := 0) (b := 21) (by decide +kernel)
theorem dX7_tell_46 : decode cX7_tell 46 = .ok (.aload_n 0, 1) := oc_42 (by decide +kernel)
theorem dX7_tell_47 : decode cX7_tell 47 = .ok (.getfield 59, 3) := oc_180 (a := 0) (b := 59) (by decide +kernel)
theorem dX7_tell_50 : decode cX7_tell 50 = .ok (.iload 4, 2) := oc_21 (by decide +kernel)
theorem dX7_tell_52 : decode cX7_tell 52 = .ok (.iastore, 1) := oc_79 (by decide +kernel)
theorem dX7_tell_53 : decode cX7_tell 53 = .ok (.aload_n 0, 1) := oc_42 (by decide +kernel)
theorem dX7_tell_54 : decode cX7_tell 54 = .ok (.dup, 1) := oc_89 (by decide +kernel)
theorem dX7_tell_55 : decode cX7_tell 55 = .ok (.getfield 59, 3) := oc_180 (a := 0) (b := 59) (by decide +kernel)
theorem dX7_tell_58 : decode cX7_tell 58 = .ok (.iconst 1, 1) := oc_4 (by decide +kernel)
theorem dX7_tell_59 : decode cX7_tell 59 = .ok (.iadd, 1) := oc_96 (by decide +kernel)
theorem dX7_tell_60 : decode cX7_tell 60 = .ok (.putfield 59, 3) := oc_181 (a := 0) (b := 59) (by decide +kernel)
theorem dX7_tell_63 : decode cX7_tell 63 = .ok (.aload_n 0, 1) := oc_42 (by decide +kernel)
theorem dX7_tell_64 : decode cX7_tell 64 = .ok (.getfield 59, 3) := oc_180 (a := 0) (b := 59) (by decide +kernel)
theorem dX7_tell_67 : decode cX7_tell 67 = .ok (.ireturn, 1) := oc_172 (by decide +kernel)
theorem dX7_tell_10 : decode cX7_tell 10 = .ok (.iconst (-1), 1) := oc_2 (by decide +kernel)
theorem dX7_tell_11 : decode cX7_tell 11 = .ok (.ireturn, 1) := oc_172 (by decide +kernel)
theorem dJ6_compare_7cf53_0 : decode cJ6_compare_7cf53 0 = .ok (.iload_n 0, 1) := oc_26 (by decide +kernel)
theorem dJ6_compare_7cf53_1 : decode cJ6_compare_7cf53 1 = .ok (.iload_n 1, 1) := oc_27 (by decide +kernel)
theorem dJ6_compare_7cf53_2 : decode cJ6_compare_7cf53 2 = .ok (.if_icmp .ge 7, 3) := oc_162 (a := 0) (b := 7) (by decide +kernel)
theorem dJ6_compare_7cf53_9 : decode cJ6_compare_7cf53 9 = .ok (.iload_n 0, 1) := oc_26 (by decide +kernel)
theorem dJ6_compare_7cf53_10 : decode cJ6_compare_7cf53 10 = .ok (.iload_n 1, 1) := oc_27 (by decide +kernel)
theorem dJ6_compare_7cf53_11 : decode cJ6_compare_7cf53 11 = .ok (.if_icmp .ne 7, 3) := oc_160 (a := 0) (b := 7) (by decide +kernel)
theorem dJ6_compare_7cf53_18 : decode cJ6_compare_7cf53 18 = .ok (.iconst 1, 1) := oc_4 (by decide +kernel)
theorem dJ6_compare_7cf53_19 : decode cJ6_compare_7cf53 19 = .ok (.ireturn, 1) := oc_172 (by decide +kernel)
theorem dJ6_compare_7cf53_14 : decode cJ6_compare_7cf53 14 = .ok (.iconst 0, 1) := oc_3 (by decide +kernel)
theorem dJ6_compare_7cf53_15 : decode cJ6_compare_7cf53 15 = .ok (.goto 4, 3) := oc_167 (a := 0) (b := 4) (by decide +kernel)
theorem dJ6_compare_7cf53_5 : decode cJ6_compare_7cf53 5 = .ok (.iconst (-1), 1) := oc_2 (by decide +kernel)
theorem dJ6_compare_7cf53_6 : decode cJ6_compare_7cf53 6 = .ok (.goto 13, 3) := oc_167 (a := 0) (b := 13) (by decide +kernel)
theorem dX8_isAhead_0 : decode cX8_isAhead 0 = .ok (.iload_n 1, 1) := oc_27 (by decide +kernel)
theorem dX8_isAhead_12 : decode cX8_isAhead 12 = .ok (.iconst 0, 1) := oc_3 (by decide +kernel)
theorem dX8_isAhead_13 : decode cX8_isAhead 13 = .ok (.ireturn, 1) := oc_172 (by decide +kernel)
theorem dX8_isAhead_1 : decode cX8_isAhead 1 = .ok (.ifCond .lt 11, 3) := oc_155 (a := 0) (b := 11) (by decide +kernel)
theorem dX8_isAhead_4 : decode cX8_isAhead 4 = .ok (.iload_n 1, 1) := oc_27 (by decide +kernel)
theorem dX8_isAhead_5 : decode cX8_isAhead 5 = .ok (.aload_n 0, 1) := oc_42 (by decide +kernel)
theorem dX8_isAhead_6 : decode cX8_isAhead 6 = .ok (.getfield 21, 3) := oc_180 (a := 0) (b := 21) (by decide +kernel)
theorem dX8_isAhead_9 : decode cX8_isAhead 9 = .ok (.if_icmp .lt 5, 3) := oc_161 (a := 0) (b := 5) (by decide +kernel)
theorem dX8_isAhead_14 : decode cX8_isAhead 14 = .ok (.aload_n 0, 1) := oc_42 (by decide +kernel)
theorem dX8_isAhead_15 : decode cX8_isAhead 15 = .ok (.getfield 15, 3) := oc_180 (a := 0) (b := 15) (by decide +kernel)
theorem dX8_isAhead_18 : decode cX8_isAhead 18 = .ok (.iload_n 1, 1) := oc_27 (by decide +kernel)
theorem dX8_isAhead_19 : decode cX8_isAhead 19 = .ok (.iaload, 1) := oc_46 (by decide +kernel)
theorem dX8_isAhead_20 : decode cX8_isAhead 20 = .ok (.istore 5, 2) := oc_54 (by decide +kernel)
theorem dX8_isAhead_22 : decode cX8_isAhead 22 = .ok (.iload 5, 2) := oc_21 (by decide +kernel)
theorem dX8_isAhead_24 : decode cX8_isAhead 24 = .ok (.aload_n 0, 1) := oc_42 (by decide +kernel)
theorem dX8_isAhead_25 : decode cX8_isAhead 25 = .ok (.getfield 15, 3) := oc_180 (a := 0) (b := 15) (by decide +kernel)
theorem dX8_isAhead_28 : decode cX8_isAhead 28 = .ok (.iload_n 1, 1) := oc_27 (by decide +kernel)
theorem dX8_isAhead_29 : decode cX8_isAhead 29 = .ok (.iconst 1, 1) := oc_4 (by decide +kernel)
theorem dX8_isAhead_30 : decode cX8_isAhead 30 = .ok (.iadd, 1) := oc_96 (by decide +kernel)
theorem dX8_isAhead_31 : decode cX8_isAhead 31 = .ok (.iaload, 1) := oc_46 (by decide +kernel)
theorem dX8_isAhead_32 : decode cX8_isAhead 32 = .ok (.if_icmp .ge 82, 3) := oc_162 (a := 0) (b := 82) (by decide +kernel)
theorem dX8_isAhead_114 : decode cX8_isAhead 114 = .ok (.iconst 0, 1) := oc_3 (by decide +kernel)
theorem dX8_isAhead_115 : decode cX8_isAhead 115 = .ok (.ireturn, 1) := oc_172 (by decide +kernel)
theorem dX8_isAhead_35 : decode cX8_isAhead 35 = .ok (.aload_n 0, 1) := oc_42 (by decide +kernel)
theorem dX8_isAhead_36 : decode cX8_isAhead 36 = .ok (.getfield 18, 3) := oc_180 (a := 0) (b := 18) (by decide +kernel)
theorem dX8_isAhead_39 : decode cX8_isAhead 39 = .ok (.iload 5, 2) := oc_21 (by decide +kernel)
theorem dX8_isAhead_41 : decode cX8_isAhead 41 = .ok (.iaload, 1) := oc_46 (by decide +kernel)
theorem tw_483 : Cond.methodLink RX8 33 Lib.Math.abs.name ∈ wsL_law := sg_21 _ (List.mem_of_getElem? (i := 3) rfl)
theorem dX8_isAhead_42 : decode cX8_isAhead 42 = .ok (.invokestatic 33, 3) := oc_184 (a := 0) (b := 33) (by decide +kernel)
theorem dX8_isAhead_45 : decode cX8_isAhead 45 = .ok (.istore 6, 2) := oc_54 (by decide +kernel)
theorem dX8_isAhead_47 : decode cX8_isAhead 47 = .ok (.aload_n 2, 1) := oc_44 (by decide +kernel)
theorem dX8_isAhead_48 : decode cX8_isAhead 48 = .ok (.iload_n 3, 1) := oc_29 (by decide +kernel)
theorem dX8_isAhead_49 : decode cX8_isAhead 49 = .ok (.iload 6, 2) := oc_21 (by decide +kernel)
theorem dX8_isAhead_51 : decode cX8_isAhead 51 = .ok (.iconst 0, 1) := oc_3 (by decide +kernel)
theorem tw_486 : Cond.methodLink RX8 38 yX0_valueOf ∈ wsL_law := sg_21 _ (List.mem_of_getElem? (i := 6) rfl)
theorem dX8_isAhead_52 : decode cX8_isAhead 52 = .ok (.invokevirtual 38, 3) := oc_182 (a := 0) (b := 38) (by decide +kernel)
theorem dX8_isAhead_55 : decode cX8_isAhead 55 = .ok (.aload_n 2, 1) := oc_44 (by decide +kernel)
theorem dX8_isAhead_56 : decode cX8_isAhead 56 = .ok (.iload 4, 2) := oc_21 (by decide +kernel)
theorem dX8_isAhead_58 : decode cX8_isAhead 58 = .ok (.iload 6, 2) := oc_21 (by decide +kernel)
theorem dX8_isAhead_60 : decode cX8_isAhead 60 = .ok (.iconst 0, 1) := oc_3 (by decide +kernel)
theorem dX8_isAhead_61 : decode cX8_isAhead 61 = .ok (.invokevirtual 38, 3) := oc_182 (a := 0) (b := 38) (by decide +kernel)
theorem tw_490 : Cond.methodLink RX8 44 yJ6_compare_7cf53 ∈ wsL_law := sg_21 _ (List.mem_of_getElem? (i := 10) rfl)
theorem tw_491 : Cond.static yJ6_compare_7cf53 ∈ wsL_law := sg_21 _ (List.mem_of_getElem? (i := 11) rfl)
theorem tw_493 : Cond.code yJ6_compare_7cf53 cJ6_compare_7cf53 2 (some .int) ∈ wsL_law := sg_21 _ (List.mem_of_getElem? (i := 13) rfl)
theorem dX8_isAhead_64 : decode cX8_isAhead 64 = .ok (.invokestatic 44, 3) := oc_184 (a := 0) (b := 44) (by decide +kernel)
theorem dX8_isAhead_67 : decode cX8_isAhead 67 = .ok (.istore 7, 2) := oc_54 (by decide +kernel)
theorem dX8_isAhead_69 : decode cX8_isAhead 69 = .ok (.iload 7, 2) := oc_21 (by decide +kernel)
theorem dX8_isAhead_71 : decode cX8_isAhead 71 = .ok (.ifCond .eq 37, 3) := oc_153 (a := 0) (b := 37) (by decide +kernel)
theorem dX8_isAhead_108 : decode cX8_isAhead 108 = .ok (.iinc 5 1, 3) := oc_132 (b := 1) (by decide +kernel)
theorem dX8_isAhead_111 : decode cX8_isAhead 111 = .ok (.goto (-89), 3) := oc_167 (a := 255) (b := 167) (by decide +kernel)
theorem dX8_isAhead_74 : decode cX8_isAhead 74 = .ok (.aload_n 0, 1) := oc_42 (by decide +kernel)
theorem dX8_isAhead_75 : decode cX8_isAhead 75 = .ok (.getfield 18, 3) := oc_180 (a := 0) (b := 18) (by decide +kernel)
theorem dX8_isAhead_78 : decode cX8_isAhead 78 = .ok (.iload 5, 2) := oc_21 (by decide +kernel)
theorem dX8_isAhead_80 : decode cX8_isAhead 80 = .ok (.iaload, 1) := oc_46 (by decide +kernel)
theorem dX8_isAhead_81 : decode cX8_isAhead 81 = .ok (.ifCond .ge 16, 3) := oc_156 (a := 0) (b := 16) (by decide +kernel)
theorem dX8_isAhead_97 : decode cX8_isAhead 97 = .ok (.iload 7, 2) := oc_21 (by decide +kernel)
theorem dX8_isAhead_99 : decode cX8_isAhead 99 = .ok (.ifCond .ge 7, 3) := oc_156 (a := 0) (b := 7) (by decide +kernel)
theorem dX8_isAhead_106 : decode cX8_isAhead 106 = .ok (.iconst 0, 1) := oc_3 (by decide +kernel)
theorem dX8_isAhead_107 : decode cX8_isAhead 107 = .ok (.ireturn, 1) := oc_172 (by decide +kernel)
theorem dX8_isAhead_102 : decode cX8_isAhead 102 = .ok (.iconst 1, 1) := oc_4 (by decide +kernel)
theorem dX8_isAhead_103 : decode cX8_isAhead 103 = .ok (.goto 4, 3) := oc_167 (a := 0) (b := 4) (by decide +kernel)
theorem dX8_isAhead_84 : decode cX8_isAhead 84 = .ok (.iload 7, 2) := oc_21 (by decide +kernel)
theorem dX8_isAhead_86 : decode cX8_isAhead 86 = .ok (.ifCond .le 7, 3) := oc_158 (a := 0) (b := 7) (by decide +kernel)
theorem dX8_isAhead_93 : decode cX8_isAhead 93 = .ok (.iconst 0, 1) := oc_3 (by decide +kernel)
theorem dX8_isAhead_94 : decode cX8_isAhead 94 = .ok (.goto 13, 3) := oc_167 (a := 0) (b := 13) (by decide +kernel)
theorem dX8_isAhead_89 : decode cX8_isAhead 89 = .ok (.iconst 1, 1) := oc_4 (by decide +kernel)
theorem dX8_isAhead_90 : decode cX8_isAhead 90 = .ok (.goto 17, 3) := oc_167 (a := 0) (b := 17) (by decide +kernel)
theorem dX9_dig_0 : decode cX9_dig 0 = .ok (.aload_n 0, 1) := oc_42 (by decide +kernel)
theorem dX9_dig_1 : decode cX9_dig 1 = .ok (.getfield 9, 3) := oc_180 (a := 0) (b := 9) (by decide +kernel)
theorem dX9_dig_4 : decode cX9_dig 4 = .ok (.iload_n 1, 1) := oc_27 (by decide +kernel)
theorem dX9_dig_5 : decode cX9_dig 5 = .ok (.iload_n 2, 1) := oc_28 (by decide +kernel)
theorem dX9_dig_6 : decode cX9_dig 6 = .ok (.iastore, 1) := oc_79 (by decide +kernel)
theorem dX9_dig_7 : decode cX9_dig 7 = .ok (.aload_n 0, 1) := oc_42 (by decide +kernel)
theorem dX9_dig_8 : decode cX9_dig 8 = .ok (.getfield 15, 3) := oc_180 (a := 0) (b := 15) (by decide +kernel)
theorem dX9_dig_11 : decode cX9_dig 11 = .ok (.iload_n 1, 1) := oc_27 (by decide +kernel)
theorem dX9_dig_12 : decode cX9_dig 12 = .ok (.iload_n 3, 1) := oc_29 (by decide +kernel)
theorem dX9_dig_13 : decode cX9_dig 13 = .ok (.iastore, 1) := oc_79 (by decide +kernel)
theorem dX9_dig_14 : decode cX9_dig 14 = .ok (.aload_n 0, 1) := oc_42 (by decide +kernel)
theorem dX9_dig_15 : decode cX9_dig 15 = .ok (.getfield 18, 3) := oc_180 (a := 0) (b := 18) (by decide +kernel)
theorem dX9_dig_18 : decode cX9_dig 18 = .ok (.iload_n 1, 1) := oc_27 (by decide +kernel)
theorem dX9_dig_19 : decode cX9_dig 19 = .ok (.iload 4, 2) := oc_21 (by decide +kernel)
theorem dX9_dig_21 : decode cX9_dig 21 = .ok (.iastore, 1) := oc_79 (by decide +kernel)
theorem dX9_dig_22 : decode cX9_dig 22 = .ok (.return_, 1) := oc_177 (by decide +kernel)
theorem dX10_copyFrom_0 : decode cX10_copyFrom 0 = .ok (.aload_n 0, 1) := oc_42 (by decide +kernel)
theorem dX10_copyFrom_1 : decode cX10_copyFrom 1 = .ok (.aload_n 1, 1) := oc_43 (by decide +kernel)
theorem dX10_copyFrom_2 : decode cX10_copyFrom 2 = .ok (.getfield 67, 3) := oc_180 (a := 0) (b := 67) (by decide +kernel)
theorem dX10_copyFrom_5 : decode cX10_copyFrom 5 = .ok (.putfield 67, 3) := oc_181 (a := 0) (b := 67) (by decide +kernel)
theorem dX10_copyFrom_8 : decode cX10_copyFrom 8 = .ok (.aload_n 0, 1) := oc_42 (by decide +kernel)
theorem dX10_copyFrom_9 : decode cX10_copyFrom 9 = .ok (.aload_n 1, 1) := oc_43 (by decide +kernel)
theorem tw_1131 : Cond.fieldLink RX10 70 "RingsUnder$World" "fund" "I" ∈ wsL_law := sg_48 _ (List.mem_of_getElem? (i := 3) rfl)
theorem dX10_copyFrom_10 : decode cX10_copyFrom 10 = .ok (.getfield 70, 3) := oc_180 (a := 0) (b := 70) (by decide +kernel)
theorem dX10_copyFrom_13 : decode cX10_copyFrom 13 = .ok (.putfield 70, 3) := oc_181 (a := 0) (b := 70) (by decide +kernel)
theorem dX10_copyFrom_16 : decode cX10_copyFrom 16 = .ok (.aload_n 0, 1) := oc_42 (by decide +kernel)
theorem dX10_copyFrom_17 : decode cX10_copyFrom 17 = .ok (.aload_n 1, 1) := oc_43 (by decide +kernel)
theorem tw_1046 : Cond.fieldLink RX10 73 "RingsUnder$World" "boats" "I" ∈ wsL_law := sg_44 _ (List.mem_of_getElem? (i := 14) rfl)
theorem dX10_copyFrom_18 : decode cX10_copyFrom 18 = .ok (.getfield 73, 3) := oc_180 (a := 0) (b := 73) (by decide +kernel)
theorem dX10_copyFrom_21 : decode cX10_copyFrom 21 = .ok (.putfield 73, 3) := oc_181 (a := 0) (b := 73) (by decide +kernel)
theorem dX10_copyFrom_24 : decode cX10_copyFrom 24 = .ok (.aload_n 0, 1) := oc_42 (by decide +kernel)
theorem dX10_copyFrom_25 : decode cX10_copyFrom 25 = .ok (.aload_n 1, 1) := oc_43 (by decide +kernel)
theorem tw_31 : Cond.fieldLink RX10 9 "RingsUnder$World" "cantMonth" "I" ∈ wsL_law := sg_2 _ (List.mem_of_getElem? (i := 7) rfl)
theorem dX10_copyFrom_26 : decode cX10_copyFrom 26 = .ok (.getfield 9, 3) := oc_180 (a := 0) (b := 9) (by decide +kernel)
theorem dX10_copyFrom_29 : decode cX10_copyFrom 29 = .ok (.putfield 9, 3) := oc_181 (a := 0) (b := 9) (by decide +kernel)
theorem dX10_copyFrom_32 : decode cX10_copyFrom 32 = .ok (.aload_n 0, 1) := oc_42 (by decide +kernel)
theorem dX10_copyFrom_33 : decode cX10_copyFrom 33 = .ok (.aload_n 1, 1) := oc_43 (by decide +kernel)
theorem tw_32 : Cond.fieldLink RX10 15 "RingsUnder$World" "area" "I" ∈ wsL_law := sg_2 _ (List.mem_of_getElem? (i := 8) rfl)
theorem dX10_copyFrom_34 : decode cX10_copyFrom 34 = .ok (.getfield 15, 3) := oc_180 (a := 0) (b := 15) (by decide +kernel)
theorem dX10_copyFrom_37 : decode cX10_copyFrom 37 = .ok (.putfield 15, 3) := oc_181 (a := 0) (b := 15) (by decide +kernel)
theorem dX10_copyFrom_40 : decode cX10_copyFrom 40 = .ok (.aload_n 1, 1) := oc_43 (by decide +kernel)
theorem tw_34 : Cond.fieldLink RX10 18 "RingsUnder$World" "holder" "[I" ∈ wsL_law := sg_2 _ (List.mem_of_getElem? (i := 10) rfl)
theorem dX10_copyFrom_41 : decode cX10_copyFrom 41 = .ok (.getfield 18, 3) := oc_180 (a := 0) (b := 18) (by decide +kernel)
theorem dX10_copyFrom_44 : decode cX10_copyFrom 44 = .ok (.aload_n 0, 1) := oc_42 (by decide +kernel)
theorem dX10_copyFrom_45 : decode cX10_copyFrom 45 = .ok (.getfield 18, 3) := oc_180 (a := 0) (b := 18) (by decide +kernel)
theorem dX10_copyFrom_48 : decode cX10_copyFrom 48 = .ok (.invokestatic 76, 3) := oc_184 (a := 0) (b := 76) (by decide +kernel)
theorem dX10_copyFrom_51 : decode cX10_copyFrom 51 = .ok (.aload_n 0, 1) := oc_42 (by decide +kernel)
theorem dX10_copyFrom_52 : decode cX10_copyFrom 52 = .ok (.getfield 25, 3) := oc_180 (a := 0) (b := 25) (by decide +kernel)
theorem dX10_copyFrom_55 : decode cX10_copyFrom 55 = .ok (.aload_n 1, 1) := oc_43 (by decide +kernel)
theorem dX10_copyFrom_56 : decode cX10_copyFrom 56 = .ok (.getfield 25, 3) := oc_180 (a := 0) (b := 25) (by decide +kernel)
theorem tw_1366 : Cond.methodLink RX10 80 yX7_copyFrom ∈ wsL_law := sg_57 _ (List.mem_of_getElem? (i := 22) rfl)
theorem tw_1367 : Cond.instanceMethod yX7_copyFrom ∈ wsL_law := sg_57 _ (List.mem_of_getElem? (i := 23) rfl)
theorem tw_1368 : Cond.selects RX7 yX7_copyFrom yX7_copyFrom ∈ wsL_law := sg_58 _ (List.mem_of_getElem? (i := 0) rfl)
theorem tw_1369 : Cond.code yX7_copyFrom cX7_copyFrom 2 none ∈ wsL_law := sg_58 _ (List.mem_of_getElem? (i := 1) rfl)
theorem dX10_copyFrom_59 : decode cX10_copyFrom 59 = .ok (.invokevirtual 80, 3) := oc_182 (a := 0) (b := 80) (by decide +kernel)
theorem dX10_copyFrom_62 : decode cX10_copyFrom 62 = .ok (.aload_n 0, 1) := oc_42 (by decide +kernel)
theorem dX10_copyFrom_63 : decode cX10_copyFrom 63 = .ok (.getfield 32, 3) := oc_180 (a := 0) (b := 32) (by decide +kernel)
theorem dX10_copyFrom_66 : decode cX10_copyFrom 66 = .ok (.aload_n 1, 1) := oc_43 (by decide +kernel)
theorem dX10_copyFrom_67 : decode cX10_copyFrom 67 = .ok (.getfield 32, 3) := oc_180 (a := 0) (b := 32) (by decide +kernel)
theorem tw_1370 : Cond.methodLink RX10 84 yX2_copyFrom ∈ wsL_law := sg_58 _ (List.mem_of_getElem? (i := 2) rfl)
theorem tw_1371 : Cond.instanceMethod yX2_copyFrom ∈ wsL_law := sg_58 _ (List.mem_of_getElem? (i := 3) rfl)
theorem tw_1372 : Cond.selects RX2 yX2_copyFrom yX2_copyFrom ∈ wsL_law := sg_58 _ (List.mem_of_getElem? (i := 4) rfl)
theorem tw_1373 : Cond.code yX2_copyFrom cX2_copyFrom 2 none ∈ wsL_law := sg_58 _ (List.mem_of_getElem? (i := 5) rfl)
theorem dX10_copyFrom_70 : decode cX10_copyFrom 70 = .ok (.invokevirtual 84, 3) := oc_182 (a := 0) (b := 84) (by decide +kernel)
theorem dX10_copyFrom_73 : decode cX10_copyFrom 73 = .ok (.aload_n 0, 1) := oc_42 (by decide +kernel)
theorem tw_46 : Cond.fieldLink RX10 39 "RingsUnder$World" "folk" "LRingsUnder$Folk;" ∈ wsL_law := sg_2 _ (List.mem_of_getElem? (i := 22) rfl)
theorem dX10_copyFrom_74 : decode cX10_copyFrom 74 = .ok (.getfield 39, 3) := oc_180 (a := 0) (b := 39) (by decide +kernel)
theorem dX10_copyFrom_77 : decode cX10_copyFrom 77 = .ok (.aload_n 1, 1) := oc_43 (by decide +kernel)
theorem dX10_copyFrom_78 : decode cX10_copyFrom 78 = .ok (.getfield 39, 3) := oc_180 (a := 0) (b := 39) (by decide +kernel)
theorem tw_1380 : Cond.methodLink RX10 87 yX0_copyFrom ∈ wsL_law := sg_58 _ (List.mem_of_getElem? (i := 12) rfl)
theorem tw_1381 : Cond.instanceMethod yX0_copyFrom ∈ wsL_law := sg_58 _ (List.mem_of_getElem? (i := 13) rfl)
theorem tw_1382 : Cond.selects RX0 yX0_copyFrom yX0_copyFrom ∈ wsL_law := sg_58 _ (List.mem_of_getElem? (i := 14) rfl)
theorem tw_1383 : Cond.code yX0_copyFrom cX0_copyFrom 2 none ∈ wsL_law := sg_58 _ (List.mem_of_getElem? (i := 15) rfl)
theorem dX10_copyFrom_81 : decode cX10_copyFrom 81 = .ok (.invokevirtual 87, 3) := oc_182 (a := 0) (b := 87) (by decide +kernel)
theorem dX10_copyFrom_84 : decode cX10_copyFrom 84 = .ok (.aload_n 0, 1) := oc_42 (by decide +kernel)
theorem tw_50 : Cond.fieldLink RX10 46 "RingsUnder$World" "law" "LRingsUnder$Law;" ∈ wsL_law := sg_3 _ (List.mem_of_getElem? (i := 2) rfl)
theorem dX10_copyFrom_85 : decode cX10_copyFrom 85 = .ok (.getfield 46, 3) := oc_180 (a := 0) (b := 46) (by decide +kernel)
theorem dX10_copyFrom_88 : decode cX10_copyFrom 88 = .ok (.aload_n 1, 1) := oc_43 (by decide +kernel)
theorem dX10_copyFrom_89 : decode cX10_copyFrom 89 = .ok (.getfield 46, 3) := oc_180 (a := 0) (b := 46) (by decide +kernel)
theorem tw_1384 : Cond.methodLink RX10 90 yX3_copyFrom ∈ wsL_law := sg_58 _ (List.mem_of_getElem? (i := 16) rfl)
theorem tw_1385 : Cond.instanceMethod yX3_copyFrom ∈ wsL_law := sg_58 _ (List.mem_of_getElem? (i := 17) rfl)
theorem tw_1386 : Cond.selects RX3 yX3_copyFrom yX3_copyFrom ∈ wsL_law := sg_58 _ (List.mem_of_getElem? (i := 18) rfl)
theorem tw_1387 : Cond.code yX3_copyFrom cX3_copyFrom 3 none ∈ wsL_law := sg_58 _ (List.mem_of_getElem? (i := 19) rfl)
theorem dX10_copyFrom_92 : decode cX10_copyFrom 92 = .ok (.invokevirtual 90, 3) := oc_182 (a := 0) (b := 90) (by decide +kernel)
theorem dX10_copyFrom_95 : decode cX10_copyFrom 95 = .ok (.aload_n 0, 1) := oc_42 (by decide +kernel)
theorem tw_54 : Cond.fieldLink RX10 53 "RingsUnder$World" "graves" "LRingsUnder$Graves;" ∈ wsL_law := sg_3 _ (List.mem_of_getElem? (i := 6) rfl)
theorem dX10_copyFrom_96 : decode cX10_copyFrom 96 = .ok (.getfield 53, 3) := oc_180 (a := 0) (b := 53) (by decide +kernel)
theorem dX10_copyFrom_99 : decode cX10_copyFrom 99 = .ok (.aload_n 1, 1) := oc_43 (by decide +kernel)
theorem dX10_copyFrom_100 : decode cX10_copyFrom 100 = .ok (.getfield 53, 3) := oc_180 (a := 0) (b := 53) (by decide +kernel)
theorem tw_1389 : Cond.methodLink RX10 93 yX1_copyFrom ∈ wsL_law := sg_58 _ (List.mem_of_getElem? (i := 21) rfl)
theorem tw_1390 : Cond.instanceMethod yX1_copyFrom ∈ wsL_law := sg_58 _ (List.mem_of_getElem? (i := 22) rfl)
theorem tw_1391 : Cond.selects RX1 yX1_copyFrom yX1_copyFrom ∈ wsL_law := sg_58 _ (List.mem_of_getElem? (i := 23) rfl)
theorem tw_53 : Cond.initialized RX1 ∈ wsL_law := sg_3 _ (List.mem_of_getElem? (i := 5) rfl)
theorem tw_1392 : Cond.code yX1_copyFrom cX1_copyFrom 2 none ∈ wsL_law := sg_59 _ (List.mem_of_getElem? (i := 0) rfl)
theorem dX10_copyFrom_103 : decode cX10_copyFrom 103 = .ok (.invokevirtual 93, 3) := oc_182 (a := 0) (b := 93) (by decide +kernel)
theorem dX10_copyFrom_106 : decode cX10_copyFrom 106 = .ok (.return_, 1) := oc_177 (by decide +kernel)
theorem dX10_reckon_0 : decode cX10_reckon 0 = .ok (.aload_n 0, 1) := oc_42 (by decide +kernel)
theorem dX10_reckon_1 : decode cX10_reckon 1 = .ok (.getfield 67, 3) := oc_180 (a := 0) (b := 67) (by decide +kernel)
theorem dX10_reckon_4 : decode cX10_reckon 4 = .ok (.sipush 600, 3) := oc_17 (a := 2) (b := 88) (by decide +kernel)
theorem dX10_reckon_7 : decode cX10_reckon 7 = .ok (.if_icmp .lt 4, 3) := oc_161 (a := 0) (b := 4) (by decide +kernel)
theorem dX10_reckon_11 : decode cX10_reckon 11 = .ok (.aload_n 0, 1) := oc_42 (by decide +kernel)
theorem dX10_reckon_12 : decode cX10_reckon 12 = .ok (.getfield 46, 3) := oc_180 (a := 0) (b := 46) (by decide +kernel)
theorem dX10_reckon_15 : decode cX10_reckon 15 = .ok (.aload_n 0, 1) := oc_42 (by decide +kernel)
theorem dX10_reckon_16 : decode cX10_reckon 16 = .ok (.getfield 67, 3) := oc_180 (a := 0) (b := 67) (by decide +kernel)
theorem tw_1133 : Cond.methodLink RX10 191 yX3_fixIn ∈ wsL_law := sg_48 _ (List.mem_of_getElem? (i := 5) rfl)
theorem tw_1009 : Cond.instanceMethod yX3_fixIn ∈ wsL_law := sg_43 _ (List.mem_of_getElem? (i := 1) rfl)
theorem tw_1010 : Cond.selects RX3 yX3_fixIn yX3_fixIn ∈ wsL_law := sg_43 _ (List.mem_of_getElem? (i := 2) rfl)
theorem tw_1011 : Cond.code yX3_fixIn cX3_fixIn 2 (some .int) ∈ wsL_law := sg_43 _ (List.mem_of_getElem? (i := 3) rfl)
theorem dX10_reckon_19 : decode cX10_reckon 19 = .ok (.invokevirtual 191, 3) := oc_182 (a := 0) (b := 191) (by decide +kernel)
theorem dX10_reckon_22 : decode cX10_reckon 22 = .ok (.istore_n 1, 1) := oc_60 (by decide +kernel)
theorem dX10_reckon_23 : decode cX10_reckon 23 = .ok (.iload_n 1, 1) := oc_27 (by decide +kernel)
theorem dX10_reckon_43 : decode cX10_reckon 43 = .ok (.istore_n 2, 1) := oc_61 (by decide +kernel)
theorem dX10_reckon_44 : decode cX10_reckon 44 = .ok (.aload_n 0, 1) := oc_42 (by decide +kernel)
theorem dX10_reckon_45 : decode cX10_reckon 45 = .ok (.aload_n 0, 1) := oc_42 (by decide +kernel)
theorem dX10_reckon_46 : decode cX10_reckon 46 = .ok (.getfield 32, 3) := oc_180 (a := 0) (b := 32) (by decide +kernel)
theorem dX10_reckon_49 : decode cX10_reckon 49 = .ok (.aload_n 0, 1) := oc_42 (by decide +kernel)
theorem dX10_reckon_50 : decode cX10_reckon 50 = .ok (.getfield 32, 3) := oc_180 (a := 0) (b := 32) (by decide +kernel)
theorem tw_1129 : Cond.fieldLink RX10 195 "RingsUnder$Land" "rocks" "[J" ∈ wsL_law := sg_48 _ (List.mem_of_getElem? (i := 1) rfl)
theorem dX10_reckon_53 : decode cX10_reckon 53 = .ok (.getfield 195, 3) := oc_180 (a := 0) (b := 195) (by decide +kernel)
theorem dX10_reckon_56 : decode cX10_reckon 56 = .ok (.iload_n 2, 1) := oc_28 (by decide +kernel)
theorem dX10_reckon_57 : decode cX10_reckon 57 = .ok (.laload, 1) := oc_47 (by decide +kernel)
theorem dX10_reckon_58 : decode cX10_reckon 58 = .ok (.aload_n 0, 1) := oc_42 (by decide +kernel)
theorem dX10_reckon_59 : decode cX10_reckon 59 = .ok (.getfield 25, 3) := oc_180 (a := 0) (b := 25) (by decide +kernel)
theorem tw_1130 : Cond.fieldLink RX10 199 "RingsUnder$Seas" "reach" "I" ∈ wsL_law := sg_48 _ (List.mem_of_getElem? (i := 2) rfl)
theorem dX10_reckon_62 : decode cX10_reckon 62 = .ok (.getfield 199, 3) := oc_180 (a := 0) (b := 199) (by decide +kernel)
theorem tw_1134 : Cond.methodLink RX10 202 yX2_countArea ∈ wsL_law := sg_48 _ (List.mem_of_getElem? (i := 6) rfl)
theorem tw_1135 : Cond.instanceMethod yX2_countArea ∈ wsL_law := sg_48 _ (List.mem_of_getElem? (i := 7) rfl)
theorem tw_1136 : Cond.selects RX2 yX2_countArea yX2_countArea ∈ wsL_law := sg_48 _ (List.mem_of_getElem? (i := 8) rfl)
theorem tw_1137 : Cond.code yX2_countArea cX2_countArea 6 (some .int) ∈ wsL_law := sg_48 _ (List.mem_of_getElem? (i := 9) rfl)
theorem dX10_reckon_65 : decode cX10_reckon 65 = .ok (.invokevirtual 202, 3) := oc_182 (a := 0) (b := 202) (by decide +kernel)
theorem dX10_reckon_68 : decode cX10_reckon 68 = .ok (.putfield 15, 3) := oc_181 (a := 0) (b := 15) (by decide +kernel)
theorem dX10_reckon_71 : decode cX10_reckon 71 = .ok (.aload_n 0, 1) := oc_42 (by decide +kernel)
theorem dX10_reckon_72 : decode cX10_reckon 72 = .ok (.dup, 1) := oc_89 (by decide +kernel)
theorem dX10_reckon_73 : decode cX10_reckon 73 = .ok (.getfield 70, 3) := oc_180 (a := 0) (b := 70) (by decide +kernel)
theorem dX10_reckon_76 : decode cX10_reckon 76 = .ok (.aload_n 0, 1) := oc_42 (by decide +kernel)
theorem dX10_reckon_77 : decode cX10_reckon 77 = .ok (.getfield 39, 3) := oc_180 (a := 0) (b := 39) (by decide +kernel)
theorem tw_1153 : Cond.methodLink RX10 206 yX0_sendings ∈ wsL_law := sg_49 _ (List.mem_of_getElem? (i := 1) rfl)
theorem tw_1154 : Cond.instanceMethod yX0_sendings ∈ wsL_law := sg_49 _ (List.mem_of_getElem? (i := 2) rfl)
theorem tw_1155 : Cond.selects RX0 yX0_sendings yX0_sendings ∈ wsL_law := sg_49 _ (List.mem_of_getElem? (i := 3) rfl)
theorem tw_1156 : Cond.code yX0_sendings cX0_sendings 3 (some .int) ∈ wsL_law := sg_49 _ (List.mem_of_getElem? (i := 4) rfl)
theorem dX10_reckon_80 : decode cX10_reckon 80 = .ok (.invokevirtual 206, 3) := oc_182 (a := 0) (b := 206) (by decide +kernel)
theorem dX10_reckon_83 : decode cX10_reckon 83 = .ok (.aload_n 0, 1) := oc_42 (by decide +kernel)
theorem dX10_reckon_84 : decode cX10_reckon 84 = .ok (.getfield 46, 3) := oc_180 (a := 0) (b := 46) (by decide +kernel)
theorem dX10_reckon_87 : decode cX10_reckon 87 = .ok (.aload_n 0, 1) := oc_42 (by decide +kernel)
theorem dX10_reckon_88 : decode cX10_reckon 88 = .ok (.getfield 67, 3) := oc_180 (a := 0) (b := 67) (by decide +kernel)
theorem tw_1157 : Cond.methodLink RX10 210 yX3_leaveIn ∈ wsL_law := sg_49 _ (List.mem_of_getElem? (i := 5) rfl)
theorem tw_1005 : Cond.instanceMethod yX3_leaveIn ∈ wsL_law := sg_42 _ (List.mem_of_getElem? (i := 21) rfl)
theorem tw_1006 : Cond.selects RX3 yX3_leaveIn yX3_leaveIn ∈ wsL_law := sg_42 _ (List.mem_of_getElem? (i := 22) rfl)
theorem tw_1007 : Cond.code yX3_leaveIn cX3_leaveIn 2 (some .int) ∈ wsL_law := sg_42 _ (List.mem_of_getElem? (i := 23) rfl)
theorem dX10_reckon_91 : decode cX10_reckon 91 = .ok (.invokevirtual 210, 3) := oc_182 (a := 0) (b := 210) (by decide +kernel)
theorem dX10_reckon_94 : decode cX10_reckon 94 = .ok (.aload_n 0, 1) := oc_42 (by decide +kernel)
theorem dX10_reckon_95 : decode cX10_reckon 95 = .ok (.getfield 15, 3) := oc_180 (a := 0) (b := 15) (by decide +kernel)
theorem dX10_reckon_98 : decode cX10_reckon 98 = .ok (.imul, 1) := oc_104 (by decide +kernel)
theorem dX10_reckon_99 : decode cX10_reckon 99 = .ok (.bipush 100, 2) := oc_16 (a := 100) (by decide +kernel)
theorem dX10_reckon_101 : decode cX10_reckon 101 = .ok (.idiv, 1) := oc_108 (by decide +kernel)
theorem dX10_reckon_102 : decode cX10_reckon 102 = .ok (.iadd, 1) := oc_96 (by decide +kernel)
theorem dX10_reckon_103 : decode cX10_reckon 103 = .ok (.aload_n 0, 1) := oc_42 (by decide +kernel)
theorem dX10_reckon_104 : decode cX10_reckon 104 = .ok (.getfield 25, 3) := oc_180 (a := 0) (b := 25) (by decide +kernel)
theorem tw_1132 : Cond.fieldLink RX10 213 "RingsUnder$Seas" "cost" "I" ∈ wsL_law := sg_48 _ (List.mem_of_getElem? (i := 4) rfl)
theorem dX10_reckon_107 : decode cX10_reckon 107 = .ok (.getfield 213, 3) := oc_180 (a := 0) (b := 213) (by decide +kernel)
theorem dX10_reckon_110 : decode cX10_reckon 110 = .ok (.aload_n 0, 1) := oc_42 (by decide +kernel)
theorem dX10_reckon_111 : decode cX10_reckon 111 = .ok (.getfield 32, 3) := oc_180 (a := 0) (b := 32) (by decide +kernel)
theorem tw_1158 : Cond.methodLink RX10 216 yX2_countWalls ∈ wsL_law := sg_49 _ (List.mem_of_getElem? (i := 6) rfl)
theorem tw_1159 : Cond.instanceMethod yX2_countWalls ∈ wsL_law := sg_49 _ (List.mem_of_getElem? (i := 7) rfl)
theorem tw_1160 : Cond.selects RX2 yX2_countWalls yX2_countWalls ∈ wsL_law := sg_49 _ (List.mem_of_getElem? (i := 8) rfl)
theorem tw_1161 : Cond.code yX2_countWalls cX2_countWalls 3 (some .int) ∈ wsL_law := sg_49 _ (List.mem_of_getElem? (i := 9) rfl)
theorem dX10_reckon_114 : decode cX10_reckon 114 = .ok (.invokevirtual 216, 3) := oc_182 (a := 0) (b := 216) (by decide +kernel)
theorem dX10_reckon_117 : decode cX10_reckon 117 = .ok (.imul, 1) := oc_104 (by decide +kernel)
theorem dX10_reckon_118 : decode cX10_reckon 118 = .ok (.isub, 1) := oc_100 (by decide +kernel)
theorem dX10_reckon_119 : decode cX10_reckon 119 = .ok (.iadd, 1) := oc_96 (by decide +kernel)
theorem dX10_reckon_120 : decode cX10_reckon 120 = .ok (.putfield 70, 3) := oc_181 (a := 0) (b := 70) (by decide +kernel)
theorem dX10_reckon_123 : decode cX10_reckon 123 = .ok (.aload_n 0, 1) := oc_42 (by decide +kernel)
theorem dX10_reckon_124 : decode cX10_reckon 124 = .ok (.getfield 70, 3) := oc_180 (a := 0) (b := 70) (by decide +kernel)
theorem dX10_reckon_127 : decode cX10_reckon 127 = .ok (.ifCond .ge 19, 3) := oc_156 (a := 0) (b := 19) (by decide +kernel)
theorem dX10_reckon_146 : decode cX10_reckon 146 = .ok (.return_, 1) := oc_177 (by decide +kernel)
theorem dX10_reckon_130 : decode cX10_reckon 130 = .ok (.aload_n 0, 1) := oc_42 (by decide +kernel)
theorem dX10_reckon_131 : decode cX10_reckon 131 = .ok (.getfield 9, 3) := oc_180 (a := 0) (b := 9) (by decide +kernel)
theorem dX10_reckon_134 : decode cX10_reckon 134 = .ok (.iconst (-1), 1) := oc_2 (by decide +kernel)
theorem dX10_reckon_135 : decode cX10_reckon 135 = .ok (.if_icmp .ne 11, 3) := oc_160 (a := 0) (b := 11) (by decide +kernel)
theorem dX10_reckon_138 : decode cX10_reckon 138 = .ok (.aload_n 0, 1) := oc_42 (by decide +kernel)
theorem dX10_reckon_139 : decode cX10_reckon 139 = .ok (.aload_n 0, 1) := oc_42 (by decide +kernel)
theorem dX10_reckon_140 : decode cX10_reckon 140 = .ok (.getfield 67, 3) := oc_180 (a := 0) (b := 67) (by decide +kernel)
theorem dX10_reckon_143 : decode cX10_reckon 143 = .ok (.putfield 9, 3) := oc_181 (a := 0) (b := 9) (by decide +kernel)
theorem dX10_reckon_39 : decode cX10_reckon 39 = .ok (.aload_n 0, 1) := oc_42 (by decide +kernel)
theorem dX10_reckon_40 : decode cX10_reckon 40 = .ok (.getfield 67, 3) := oc_180 (a := 0) (b := 67) (by decide +kernel)
theorem dX10_reckon_24 : decode cX10_reckon 24 = .ok (.ifCond .lt 15, 3) := oc_155 (a := 0) (b := 15) (by decide +kernel)
theorem dX10_reckon_27 : decode cX10_reckon 27 = .ok (.iload_n 1, 1) := oc_27 (by decide +kernel)
theorem dX10_reckon_28 : decode cX10_reckon 28 = .ok (.aload_n 0, 1) := oc_42 (by decide +kernel)
theorem dX10_reckon_29 : decode cX10_reckon 29 = .ok (.getfield 67, 3) := oc_180 (a := 0) (b := 67) (by decide +kernel)
theorem dX10_reckon_32 : decode cX10_reckon 32 = .ok (.if_icmp .ge 7, 3) := oc_162 (a := 0) (b := 7) (by decide +kernel)
theorem dX10_reckon_35 : decode cX10_reckon 35 = .ok (.iload_n 1, 1) := oc_27 (by decide +kernel)
theorem dX10_reckon_36 : decode cX10_reckon 36 = .ok (.goto 7, 3) := oc_167 (a := 0) (b := 7) (by decide +kernel)
theorem dX10_reckon_10 : decode cX10_reckon 10 = .ok (.return_, 1) := oc_177 (by decide +kernel)
theorem dX3_line_0 : decode cX3_line 0 = .ok (.aload_n 3, 1) := oc_45 (by decide +kernel)
theorem dX3_line_1 : decode cX3_line 1 = .ok (.getfield 60, 3) := oc_180 (a := 0) (b := 60) (by decide +kernel)
theorem dX3_line_4 : decode cX3_line 4 = .ok (.aload 4, 2) := oc_25 (by decide +kernel)
theorem dX3_line_6 : decode cX3_line 6 = .ok (.arraylength, 1) := oc_190 (by decide +kernel)
theorem tw_466 : Cond.methodLink RX3 80 Lib.Math.min.name ∈ wsL_law := sg_20 _ (List.mem_of_getElem? (i := 10) rfl)
theorem dX3_line_7 : decode cX3_line 7 = .ok (.invokestatic 80, 3) := oc_184 (a := 0) (b := 80) (by decide +kernel)
theorem dX3_line_10 : decode cX3_line 10 = .ok (.istore 5, 2) := oc_54 (by decide +kernel)
theorem dX3_line_12 : decode cX3_line 12 = .ok (.iconst 0, 1) := oc_3 (by decide +kernel)
theorem dX3_line_13 : decode cX3_line 13 = .ok (.istore 6, 2) := oc_54 (by decide +kernel)
theorem dX3_line_15 : decode cX3_line 15 = .ok (.iload 6, 2) := oc_21 (by decide +kernel)
theorem dX3_line_17 : decode cX3_line 17 = .ok (.iload 5, 2) := oc_21 (by decide +kernel)
theorem dX3_line_19 : decode cX3_line 19 = .ok (.if_icmp .ge 16, 3) := oc_162 (a := 0) (b := 16) (by decide +kernel)
theorem dX3_line_35 : decode cX3_line 35 = .ok (.aload_n 0, 1) := oc_42 (by decide +kernel)
theorem dX3_line_36 : decode cX3_line 36 = .ok (.iload_n 1, 1) := oc_27 (by decide +kernel)
theorem dX3_line_37 : decode cX3_line 37 = .ok (.iload_n 2, 1) := oc_28 (by decide +kernel)
theorem dX3_line_38 : decode cX3_line 38 = .ok (.invokevirtual 52, 3) := oc_182 (a := 0) (b := 52) (by decide +kernel)
theorem dX3_line_41 : decode cX3_line 41 = .ok (.astore 6, 2) := oc_58 (by decide +kernel)
theorem dX3_line_43 : decode cX3_line 43 = .ok (.aload 6, 2) := oc_25 (by decide +kernel)
theorem dX3_line_45 : decode cX3_line 45 = .ok (.ifnonnull 4, 3) := oc_199 (a := 0) (b := 4) (by decide +kernel)
theorem dX3_line_48 : decode cX3_line 48 = .ok (.return_, 1) := oc_177 (by decide +kernel)
theorem dX3_line_49 : decode cX3_line 49 = .ok (.aload 6, 2) := oc_25 (by decide +kernel)
theorem dX3_line_51 : decode cX3_line 51 = .ok (.iload_n 1, 1) := oc_27 (by decide +kernel)
theorem dX3_line_52 : decode cX3_line 52 = .ok (.invokevirtual 44, 3) := oc_182 (a := 0) (b := 44) (by decide +kernel)
theorem dX3_line_55 : decode cX3_line 55 = .ok (.istore 7, 2) := oc_54 (by decide +kernel)
theorem dX3_line_57 : decode cX3_line 57 = .ok (.iconst 1, 1) := oc_4 (by decide +kernel)
theorem dX3_line_58 : decode cX3_line 58 = .ok (.istore 8, 2) := oc_54 (by decide +kernel)
theorem dX3_line_60 : decode cX3_line 60 = .ok (.iload 8, 2) := oc_21 (by decide +kernel)
theorem dX3_line_62 : decode cX3_line 62 = .ok (.iload 5, 2) := oc_21 (by decide +kernel)
theorem dX3_line_64 : decode cX3_line 64 = .ok (.if_icmp .ge 70, 3) := oc_162 (a := 0) (b := 70) (by decide +kernel)
theorem dX3_line_134 : decode cX3_line 134 = .ok (.return_, 1) := oc_177 (by decide +kernel)
theorem dX3_line_67 : decode cX3_line 67 = .ok (.aload 4, 2) := oc_25 (by decide +kernel)
theorem dX3_line_69 : decode cX3_line 69 = .ok (.iload 8, 2) := oc_21 (by decide +kernel)
theorem dX3_line_71 : decode cX3_line 71 = .ok (.iaload, 1) := oc_46 (by decide +kernel)
theorem dX3_line_72 : decode cX3_line 72 = .ok (.istore 9, 2) := oc_54 (by decide +kernel)
theorem dX3_line_74 : decode cX3_line 74 = .ok (.iload 8, 2) := oc_21 (by decide +kernel)
theorem dX3_line_76 : decode cX3_line 76 = .ok (.istore 10, 2) := oc_54 (by decide +kernel)
theorem dX3_line_78 : decode cX3_line 78 = .ok (.iload 10, 2) := oc_21 (by decide +kernel)
theorem dX3_line_121 : decode cX3_line 121 = .ok (.aload 4, 2) := oc_25 (by decide +kernel)
theorem dX3_line_123 : decode cX3_line 123 = .ok (.iload 10, 2) := oc_21 (by decide +kernel)
theorem dX3_line_125 : decode cX3_line 125 = .ok (.iload 9, 2) := oc_21 (by decide +kernel)
theorem dX3_line_127 : decode cX3_line 127 = .ok (.iastore, 1) := oc_79 (by decide +kernel)
theorem dX3_line_128 : decode cX3_line 128 = .ok (.iinc 8 1, 3) := oc_132 (b := 1) (by decide +kernel)
theorem dX3_line_131 : decode cX3_line 131 = .ok (.goto (-71), 3) := oc_167 (a := 255) (b := 185) (by decide +kernel)
theorem dX3_line_80 : decode cX3_line 80 = .ok (.ifCond .le 41, 3) := oc_158 (a := 0) (b := 41) (by decide +kernel)
theorem dX3_line_83 : decode cX3_line 83 = .ok (.aload 6, 2) := oc_25 (by decide +kernel)
theorem dX3_line_85 : decode cX3_line 85 = .ok (.iload 7, 2) := oc_21 (by decide +kernel)
theorem dX3_line_87 : decode cX3_line 87 = .ok (.aload_n 3, 1) := oc_45 (by decide +kernel)
theorem dX3_line_88 : decode cX3_line 88 = .ok (.iload 9, 2) := oc_21 (by decide +kernel)
theorem dX3_line_90 : decode cX3_line 90 = .ok (.aload 4, 2) := oc_25 (by decide +kernel)
theorem dX3_line_92 : decode cX3_line 92 = .ok (.iload 10, 2) := oc_21 (by decide +kernel)
theorem dX3_line_94 : decode cX3_line 94 = .ok (.iconst 1, 1) := oc_4 (by decide +kernel)
theorem dX3_line_95 : decode cX3_line 95 = .ok (.isub, 1) := oc_100 (by decide +kernel)
theorem dX3_line_96 : decode cX3_line 96 = .ok (.iaload, 1) := oc_46 (by decide +kernel)
theorem tw_479 : Cond.methodLink RX3 85 yX8_isAhead ∈ wsL_law := sg_20 _ (List.mem_of_getElem? (i := 23) rfl)
theorem tw_480 : Cond.instanceMethod yX8_isAhead ∈ wsL_law := sg_21 _ (List.mem_of_getElem? (i := 0) rfl)
theorem tw_481 : Cond.selects RX8 yX8_isAhead yX8_isAhead ∈ wsL_law := sg_21 _ (List.mem_of_getElem? (i := 1) rfl)
theorem tw_482 : Cond.code yX8_isAhead cX8_isAhead 8 (some .boolean) ∈ wsL_law := sg_21 _ (List.mem_of_getElem? (i := 2) rfl)
theorem dX3_line_97 : decode cX3_line 97 = .ok (.invokevirtual 85, 3) := oc_182 (a := 0) (b := 85) (by decide +kernel)
theorem dX3_line_100 : decode cX3_line 100 = .ok (.ifCond .eq 21, 3) := oc_153 (a := 0) (b := 21) (by decide +kernel)
theorem dX3_line_103 : decode cX3_line 103 = .ok (.aload 4, 2) := oc_25 (by decide +kernel)
theorem dX3_line_105 : decode cX3_line 105 = .ok (.iload 10, 2) := oc_21 (by decide +kernel)
theorem dX3_line_107 : decode cX3_line 107 = .ok (.aload 4, 2) := oc_25 (by decide +kernel)
theorem dX3_line_109 : decode cX3_line 109 = .ok (.iload 10, 2) := oc_21 (by decide +kernel)
theorem dX3_line_111 : decode cX3_line 111 = .ok (.iconst 1, 1) := oc_4 (by decide +kernel)
theorem dX3_line_112 : decode cX3_line 112 = .ok (.isub, 1) := oc_100 (by decide +kernel)
theorem dX3_line_113 : decode cX3_line 113 = .ok (.iaload, 1) := oc_46 (by decide +kernel)
theorem dX3_line_114 : decode cX3_line 114 = .ok (.iastore, 1) := oc_79 (by decide +kernel)
theorem dX3_line_115 : decode cX3_line 115 = .ok (.iinc 10 (-1), 3) := oc_132 (b := 255) (by decide +kernel)
theorem dX3_line_118 : decode cX3_line 118 = .ok (.goto (-40), 3) := oc_167 (a := 255) (b := 216) (by decide +kernel)
theorem dX3_line_22 : decode cX3_line 22 = .ok (.aload 4, 2) := oc_25 (by decide +kernel)
theorem dX3_line_24 : decode cX3_line 24 = .ok (.iload 6, 2) := oc_21 (by decide +kernel)
theorem dX3_line_26 : decode cX3_line 26 = .ok (.iload 6, 2) := oc_21 (by decide +kernel)
theorem dX3_line_28 : decode cX3_line 28 = .ok (.iastore, 1) := oc_79 (by decide +kernel)
theorem dX3_line_29 : decode cX3_line 29 = .ok (.iinc 6 1, 3) := oc_132 (b := 1) (by decide +kernel)
theorem dX3_line_32 : decode cX3_line 32 = .ok (.goto (-17), 3) := oc_167 (a := 255) (b := 239) (by decide +kernel)
set_option maxHeartbeats 4000000 in
set_option maxRecDepth 100000 in
theorem s_J6_compare_7cf53 (l : Launch) (D : va_G) (t : pq_T) (σ : pq_S) (I : Nat → Nat → Int32) (J : Nat → Nat → Int64) (ri : Nat → Nat → Int32) (rj : Nat → Nat → Int64) (rq : Nat → Nat → Option Nat) (sz : Nat) (tg : Nat → Nat) (hSH : SH σ tg) (hG0 : GS tg σ I ri rq) (a0 : Int32) (a1 : Int32) : MetI l yJ6_compare_7cf53 (wa yJ6_compare_7cf53 cJ6_compare_7cf53 2 (some .int)) ({ frames := 0, cells := 0, slots := 0, locals := 0 }) [.int a0, .int a1] D t σ (I, J, ri, rj, rq) sz 0 0 (fun (r : Int32) (u : pq_S × pq_M) => u = (σ, I, J, ri, rj, rq) ∧ rg r (-1) 1) := by
  refine Met.ofW (cc := cJ6_compare_7cf53) (maxL := 2) (ret := (some .int)) (by decide) rfl ?_
  intro p e s m args below meth c s₁ B hml hv
  obtain ⟨rfl, hsz, hP, hK, hD0, hN⟩ := hv
  have hx := B.exec
  have hb := B.bytes
  have hr := B.returns
  have hts := atoms_spec (ws := (wa yJ6_compare_7cf53 cJ6_compare_7cf53 2 (some .int))) B.pre
  have hown : s.vm.findClass RJ6 = some m.cls := findClass_of_methodNamed B.named
  have hlocks := B.notSynchronized
  subst hsz
  have hD : va_D (pq_B t σ (I, J, ri, rj, rq) s.heap.size) (pq_P t σ (I, J, ri, rj, rq)) := hD0.self
  generalize hAe : pq_B t σ (I, J, ri, rj, rq) s.heap.size = A at hD ⊢
  have hA : ∀ q : Nat, s.heap.size ≤ q → A q := fun q h => by rw [← hAe]; exact Or.inr h
  have hS : va_S A s.heap s.heap [] := va_S.rf
  have hG : GX [] tg σ I ri rj I ri rj rq := ⟨hG0, fun _ _ _ => rfl, fun _ _ _ _ _ => rfl, fun _ _ _ _ _ => rfl⟩
  have hl := lv_entry ([.int a0, .int a1]) (n := 2) (Nat.le_of_ble_eq_true rfl)
  rw [lg_entry_eq]
  generalize (lg_sl ([.int a0, .int a1]) ++ List.replicate (2 - (lg_sl ([.int a0, .int a1])).length) Slot.unset).toArray = ls at hl ⊢
  have hl : lv_has ls 2 [(0, .int a0), (1, .int a1)] := hl
  refine q_gen (fun Q hQ => ?_)
  have go : ∀ (H : Heap) (locs : List Loc) (ls : Array Slot), va_P D vwCl (pq_P t σ (I, J, ri, rj, rq)) H → va_D A (pq_P t σ (I, J, ri, rj, rq)) → va_S A s.heap H locs → lv_has ls 2 [(0, .int a0), (1, .int a1)] → W p l e ({ frames := 0, cells := 0, slots := 0, locals := 0 } : Room) s m (List.toArray ([.int a0, .int a1] : List Value)) below meth c H locs 0 0 Q (F0 m 0 ls []) := by
    intro H locs ls hP hD hS hl
    refine lv_iload_n hx hb dJ6_compare_7cf53_0 rfl (lv_at hl 0 rfl) ?_
    refine lv_iload_n hx hb dJ6_compare_7cf53_1 rfl (lv_at hl 1 rfl) ?_
    refine lv_icmp_ge (tgt := 9) hx hb dJ6_compare_7cf53_2 (by decide) (fun c_1 => ?_) (fun c_1 => ?_)
    · refine lv_iload_n hx hb dJ6_compare_7cf53_9 rfl (lv_at hl 0 rfl) ?_
      refine lv_iload_n hx hb dJ6_compare_7cf53_10 rfl (lv_at hl 1 rfl) ?_
      refine lv_icmp_ne (tgt := 18) hx hb dJ6_compare_7cf53_11 (by decide) (fun c_2 => ?_) (fun c_2 => ?_)
      · refine lv_iconst (v := 1) hx hb dJ6_compare_7cf53_18 (by decide) ?_
        subst hQ
        exact W.iret (v := 1) hx hb hr (fun t1 ht hW => ⟨⟨1, (σ, I, J, ri, rj, rq), rfl, ⟨rfl, (rg_w (rg_k (1 : Int32) 1 rfl) (by decide))⟩, by rw [ht]; exact hP, va_K.moved hW.alike hK, hD⟩, hS.F ht⟩) hS.2.2 dJ6_compare_7cf53_19
      · refine lv_iconst (v := 0) hx hb dJ6_compare_7cf53_14 (by decide) ?_
        refine lv_goto (tgt := 19) hx hb dJ6_compare_7cf53_15 (by decide) ?_
        subst hQ
        exact W.iret (v := 0) hx hb hr (fun t1 ht hW => ⟨⟨0, (σ, I, J, ri, rj, rq), rfl, ⟨rfl, (rg_w (rg_k (0 : Int32) 0 rfl) (by decide))⟩, by rw [ht]; exact hP, va_K.moved hW.alike hK, hD⟩, hS.F ht⟩) hS.2.2 dJ6_compare_7cf53_19
    · have h_3 : rg a0 (-2147483648) 2147483646 := rg_lt1 (nle c_1) (rg_full _) (rg_full _) (by decide)
      have h_4 : rg a1 (-2147483647) 2147483647 := rg_lt2 (nle c_1) (rg_full _) (rg_full _) (by decide)
      refine lv_iconst (v := (-1)) hx hb dJ6_compare_7cf53_5 (by decide) ?_
      refine lv_goto (tgt := 19) hx hb dJ6_compare_7cf53_6 (by decide) ?_
      subst hQ
      exact W.iret (v := (-1)) hx hb hr (fun t1 ht hW => ⟨⟨(-1), (σ, I, J, ri, rj, rq), rfl, ⟨rfl, (rg_w (rg_k (-1 : Int32) (-1) rfl) (by decide))⟩, by rw [ht]; exact hP, va_K.moved hW.alike hK, hD⟩, hS.F ht⟩) hS.2.2 dJ6_compare_7cf53_19
  exact go _ _ _ hP hD hS hl

set_option maxHeartbeats 4000000 in
set_option maxRecDepth 100000 in
theorem s_X8_isAhead (l : Launch) (D : va_G) (t : pq_T) (σ : pq_S) (I : Nat → Nat → Int32) (J : Nat → Nat → Int64) (ri : Nat → Nat → Int32) (rj : Nat → Nat → Int64) (rq : Nat → Nat → Option Nat) (sz : Nat) (tg : Nat → Nat) (hSH : SH σ tg) (hG0 : GS tg σ I ri rq) (this : Nat) (a0 : Int32) (a1 : Nat) (a2 : Int32) (a3 : Int32) (hL_this : this ∈ σ.1) (hK_this : σ.2.1 this = 8) (hL_a1 : a1 ∈ σ.1) (hK_a1 : σ.2.1 a1 = 0) (h_a2 : rg a2 0 39) (h_a3 : rg a3 0 39) : MetI l yX8_isAhead (wa yX8_isAhead cX8_isAhead 8 (some .boolean)) ({ frames := 1, cells := 0, slots := 0, locals := 40 }) [.ref this, .int a0, .ref a1, .int a2, .int a3] D t σ (I, J, ri, rj, rq) sz 0 0 (fun (r : Int32) (u : pq_S × pq_M) => u = (σ, I, J, ri, rj, rq) ∧ ((r = 1 ∧ rg a0 0 19) ∨ (r = 0 ∧ True))) := by
  refine Met.ofW (cc := cX8_isAhead) (maxL := 8) (ret := (some .boolean)) (by decide) rfl ?_
  intro p e s m args below meth c s₁ B hml hv
  obtain ⟨rfl, hsz, hP, hK, hD0, hN⟩ := hv
  have hx := B.exec
  have hb := B.bytes
  have hr := B.returns
  have hts := atoms_spec (ws := (wa yX8_isAhead cX8_isAhead 8 (some .boolean))) B.pre
  have hown : s.vm.findClass RX8 = some m.cls := findClass_of_methodNamed B.named
  have hlocks := B.notSynchronized
  subst hsz
  have hD : va_D (pq_B t σ (I, J, ri, rj, rq) s.heap.size) (pq_P t σ (I, J, ri, rj, rq)) := hD0.self
  generalize hAe : pq_B t σ (I, J, ri, rj, rq) s.heap.size = A at hD ⊢
  have hA : ∀ q : Nat, s.heap.size ≤ q → A q := fun q h => by rw [← hAe]; exact Or.inr h
  have hS : va_S A s.heap s.heap [] := va_S.rf
  have hG : GX [] tg σ I ri rj I ri rj rq := ⟨hG0, fun _ _ _ => rfl, fun _ _ _ _ _ => rfl, fun _ _ _ _ _ => rfl⟩
  have hl := lv_entry ([.ref this, .int a0, .ref a1, .int a2, .int a3]) (n := 8) (Nat.le_of_ble_eq_true rfl)
  rw [lg_entry_eq]
  generalize (lg_sl ([.ref this, .int a0, .ref a1, .int a2, .int a3]) ++ List.replicate (8 - (lg_sl ([.ref this, .int a0, .ref a1, .int a2, .int a3])).length) Slot.unset).toArray = ls at hl ⊢
  have hl : lv_has ls 8 [(0, .ref this), (1, .int a0), (2, .ref a1), (3, .int a2), (4, .int a3)] := hl
  refine q_gen (fun Q hQ => ?_)
  have go : ∀ (H : Heap) (locs : List Loc) (ls : Array Slot), va_P D vwCl (pq_P t σ (I, J, ri, rj, rq)) H → va_D A (pq_P t σ (I, J, ri, rj, rq)) → va_S A s.heap H locs → lv_has ls 8 [(0, .ref this), (1, .int a0), (2, .ref a1), (3, .int a2), (4, .int a3)] → W p l e ({ frames := 1, cells := 0, slots := 0, locals := 40 } : Room) s m (List.toArray ([.ref this, .int a0, .ref a1, .int a2, .int a3] : List Value)) below meth c H locs 0 0 Q (F0 m 0 ls []) := by
    intro H locs ls hP hD hS hl
    refine lv_iload_n hx hb dX8_isAhead_0 rfl (lv_at hl 1 rfl) ?_
    have K_210 : ∀  (H : Heap) (locs : List Loc) (ls : Array Slot), GX [] tg σ I ri rj I ri rj rq → va_P D vwCl (pq_P t σ (I, J, ri, rj, rq)) H → va_D A (pq_P t σ (I, J, ri, rj, rq)) → va_S A s.heap H locs → lv_has ls 8 [] → W p l e ({ frames := 1, cells := 0, slots := 0, locals := 40 } : Room) s m (List.toArray ([.ref this, .int a0, .ref a1, .int a2, .int a3] : List Value)) below meth c H locs 0 0 Q (F0 m 12 ls []) := by
      intro H locs ls hG hP hD hS hl
      refine lv_iconst (v := 0) hx hb dX8_isAhead_12 (by decide) ?_
      subst hQ
      exact W.zret (v := 0) hx hb hr (by decide) (fun t1 ht hW => ⟨⟨0, (σ, I, J, ri, rj, rq), rfl, ⟨rfl, (Or.inr ⟨rfl, trivial⟩)⟩, by rw [ht]; exact hP, va_K.moved hW.alike hK, hD⟩, hS.F ht⟩) hS.2.2 dX8_isAhead_13
    refine lv_if_lt (tgt := 12) hx hb dX8_isAhead_1 (by decide) (fun c_211 => ?_) (fun c_211 => ?_)
    · have h_212 : rg a0 (-2147483648) (-1) := rg_lt1 c_211 (rg_full _) (rg_k (0 : Int32) 0 rfl) (by decide)
      exact K_210 _ _ _ hG hP hD hS (lv_sub hl [] rfl)
    · have h_213 : rg a0 0 2147483647 := rg_le2 (nlt c_211) (rg_k (0 : Int32) 0 rfl) (rg_full _) (by decide)
      refine lv_iload_n hx hb dX8_isAhead_4 rfl (lv_at hl 1 rfl) ?_
      refine lv_aload_n hx hb dX8_isAhead_5 rfl (lv_at hl 0 rfl) ?_
      refine pg_f (v := .int (I 256 this)) (C := RX8) (T := TX8) (N := 4) hx hb hts (tw_i inlX8) hown hK hP hL_this hK_this (by decide) rfl 0 (by decide) (hts _ (tw_c tw_478)) rfl dX8_isAhead_6 ?_
      have h_214 : rg (I 256 this) 0 20 := GX.rI hG 256 rfl
      refine lv_icmp_lt (tgt := 14) hx hb dX8_isAhead_9 (by decide) (fun c_215 => ?_) (fun c_215 => ?_)
      · have h_216 : rg a0 0 19 := rg_lt1 c_215 h_213 h_214 (by decide)
        have h_217 : rg (I 256 this) 1 20 := rg_lt2 c_215 h_213 h_214 (by decide)
        refine lv_aload_n hx hb dX8_isAhead_14 rfl (lv_at hl 0 rfl) ?_
        obtain ⟨w_218, hR_w_218, hL_w_218, hK_w_218, hN_w_218, hT_w_218⟩ := sh_a hSH 258 (ci := 8) (kd := 13) (len := 21) rfl (by decide) hL_this hK_this
        refine pg_f (v := .ref w_218) (C := RX8) (T := TX8) (N := 4) hx hb hts (tw_i inlX8) hown hK hP hL_this hK_this (by decide) rfl 2 (by decide) (hts _ (tw_c tw_170)) (pq_hv rfl hR_w_218) dX8_isAhead_15 ?_
        refine lv_iload_n hx hb dX8_isAhead_18 rfl (lv_at hl 1 rfl) ?_
        refine pl_i hx hb hK hP hL_w_218 hK_w_218 hN_w_218 (rg_in h_216 (by decide)) dX8_isAhead_19 ?_
        refine lv_topi (fun x_219 ex_219 => ?_)
        have h_220 : rg x_219 0 300 := rg_of_eq ex_219 (GX.rR hG hT_w_218 rfl)
        refine lv_istore (lv' := [(5, .int x_219), (0, .ref this), (1, .int a0), (2, .ref a1), (3, .int a2), (4, .int a3)]) hx hb dX8_isAhead_20 hl (by decide) rfl (fun ls hl => ?_)
        have L_381 : ∀ (n_380 : Nat) (x_339 : Int32) (H : Heap) (locs : List Loc) (ls : Array Slot), rg x_339 0 300 → (300 - (x_339).toInt).toNat < n_380 → GX [] tg σ I ri rj I ri rj rq → va_P D vwCl (pq_P t σ (I, J, ri, rj, rq)) H → va_D A (pq_P t σ (I, J, ri, rj, rq)) → va_S A s.heap H locs → lv_has ls 8 [(0, .ref this), (1, .int a0), (2, .ref a1), (3, .int a2), (4, .int a3), (5, .int x_339)] → W p l e ({ frames := 1, cells := 0, slots := 0, locals := 40 } : Room) s m (List.toArray ([.ref this, .int a0, .ref a1, .int a2, .int a3] : List Value)) below meth c H locs 0 0 Q (F0 m 22 ls []) := by
          intro n_380
          induction n_380 with
          | zero => intro x_339 H locs ls h_384 hm_379 hG hP hD hS hl; exact absurd hm_379 (Nat.not_lt_zero _)
          | succ n_380 ih_382 =>
            intro x_339 H locs ls h_384 hm_379 hG hP hD hS hl
            refine lv_iload hx hb dX8_isAhead_22 (lv_at hl 5 rfl) ?_
            refine lv_aload_n hx hb dX8_isAhead_24 rfl (lv_at hl 0 rfl) ?_
            refine pg_f (v := .ref w_218) (C := RX8) (T := TX8) (N := 4) hx hb hts (tw_i inlX8) hown hK hP hL_this hK_this (by decide) rfl 2 (by decide) (hts _ (tw_c tw_170)) (pq_hv rfl hR_w_218) dX8_isAhead_25 ?_
            refine lv_iload_n hx hb dX8_isAhead_28 rfl (lv_at hl 1 rfl) ?_
            refine lv_iconst (v := 1) hx hb dX8_isAhead_29 (by decide) ?_
            refine lv_iadd hx hb dX8_isAhead_30 ?_
            refine lv_topi (fun x_385 ex_385 => ?_)
            have h_386 : rg x_385 1 20 := rg_of_eq ex_385 (rg_add h_216 (rg_k (1 : Int32) 1 rfl) (by decide))
            refine pl_i hx hb hK hP hL_w_218 hK_w_218 hN_w_218 (rg_in h_386 (by decide)) dX8_isAhead_31 ?_
            refine lv_topi (fun x_387 ex_387 => ?_)
            have h_388 : rg x_387 0 300 := rg_of_eq ex_387 (GX.rR hG hT_w_218 rfl)
            refine lv_icmp_ge (tgt := 114) hx hb dX8_isAhead_32 (by decide) (fun c_389 => ?_) (fun c_389 => ?_)
            · refine lv_iconst (v := 0) hx hb dX8_isAhead_114 (by decide) ?_
              subst hQ
              exact W.zret (v := 0) hx hb hr (by decide) (fun t1 ht hW => ⟨⟨0, (σ, I, J, ri, rj, rq), rfl, ⟨rfl, (Or.inr ⟨rfl, trivial⟩)⟩, by rw [ht]; exact hP, va_K.moved hW.alike hK, hD⟩, hS.F ht⟩) hS.2.2 dX8_isAhead_115
            · have h_390 : rg x_339 0 299 := rg_lt1 (nle c_389) h_384 h_388 (by decide)
              have h_391 : rg x_387 1 300 := rg_lt2 (nle c_389) h_384 h_388 (by decide)
              refine lv_aload_n hx hb dX8_isAhead_35 rfl (lv_at hl 0 rfl) ?_
              obtain ⟨w_392, hR_w_392, hL_w_392, hK_w_392, hN_w_392, hT_w_392⟩ := sh_a hSH 259 (ci := 8) (kd := 13) (len := 300) rfl (by decide) hL_this hK_this
              refine pg_f (v := .ref w_392) (C := RX8) (T := TX8) (N := 4) hx hb hts (tw_i inlX8) hown hK hP hL_this hK_this (by decide) rfl 3 (by decide) (hts _ (tw_c tw_171)) (pq_hv rfl hR_w_392) dX8_isAhead_36 ?_
              refine lv_iload hx hb dX8_isAhead_39 (lv_at hl 5 rfl) ?_
              refine pl_i hx hb hK hP hL_w_392 hK_w_392 hN_w_392 (rg_in h_390 (by decide)) dX8_isAhead_41 ?_
              refine lv_topi (fun x_393 ex_393 => ?_)
              refine va_mabs hx hb (hml.trans hl.1.symm) hown (hts _ (tw_c tw_483)) (hts _ (tw_c tw_484)) (hts _ (tw_c tw_276)) (hts _ (tw_c tw_485)) (Nat.le_of_ble_eq_true rfl) (Nat.le_of_ble_eq_true rfl) (Nat.zero_le _) (Nat.zero_le _) dX8_isAhead_42 ?_
              refine lv_topi (fun x_394 ex_394 => ?_)
              refine lv_istore (lv' := [(6, .int x_394), (0, .ref this), (1, .int a0), (2, .ref a1), (3, .int a2), (4, .int a3), (5, .int x_339)]) hx hb dX8_isAhead_45 hl (by decide) rfl (fun ls hl => ?_)
              refine lv_aload_n hx hb dX8_isAhead_47 rfl (lv_at hl 3 rfl) ?_
              refine lv_iload_n hx hb dX8_isAhead_48 rfl (lv_at hl 4 rfl) ?_
              refine lv_iload hx hb dX8_isAhead_49 (lv_at hl 0 rfl) ?_
              refine lv_iconst (v := 0) hx hb dX8_isAhead_51 (by decide) ?_
              refine pk_i (va_runV (As := [.int a2, .int x_394, .int 0]) (rest := []) ⟨hx, hb, hml, hown, hts⟩ (s_X0_valueOf l D t σ I J ri rj rq H.size tg hSH hG.1 a1 a2 x_394 (0 : Int32) hL_a1 hK_a1 (rg_w h_a2 (by decide))) (cwV 3 hts (tw_V tw_486 tw_487 tw_488 tw_45 tw_489) rfl rfl rfl cv_yX0_valueOf_3 ⟨Nat.le_of_ble_eq_true rfl, Nat.le_of_ble_eq_true rfl⟩) ⟨pq_blind, pq_recv hK hP hL_a1 hK_a1 (by decide) rfl, pq_pre hK hN hP hD⟩ rfl rfl hl.1 rfl (lv_room (Nat.le_of_ble_eq_true rfl)) dX8_isAhead_52 ⟨Nat.le_of_ble_eq_true rfl, Nat.le_of_ble_eq_true rfl⟩) hD hS hA (fun x_395 σ1 μ1 H locs hw_396 hP hD hS => ?_)
              have hu_397 := hw_396
              obtain ⟨hu_397a, hu_397b⟩ := Prod.mk.inj hu_397
              rw [hu_397a, hu_397b] at hP hD
              refine lv_aload_n hx hb dX8_isAhead_55 rfl (lv_at hl 3 rfl) ?_
              refine lv_iload hx hb dX8_isAhead_56 (lv_at hl 5 rfl) ?_
              refine lv_iload hx hb dX8_isAhead_58 (lv_at hl 0 rfl) ?_
              refine lv_iconst (v := 0) hx hb dX8_isAhead_60 (by decide) ?_
              refine pk_i (va_runV (As := [.int a3, .int x_394, .int 0]) (rest := [.int x_395]) ⟨hx, hb, hml, hown, hts⟩ (s_X0_valueOf l D t σ I J ri rj rq H.size tg hSH hG.1 a1 a3 x_394 (0 : Int32) hL_a1 hK_a1 (rg_w h_a3 (by decide))) (cwV 3 hts (tw_V tw_486 tw_487 tw_488 tw_45 tw_489) rfl rfl rfl cv_yX0_valueOf_3 ⟨Nat.le_of_ble_eq_true rfl, Nat.le_of_ble_eq_true rfl⟩) ⟨pq_blind, pq_recv hK hP hL_a1 hK_a1 (by decide) rfl, pq_pre hK hN hP hD⟩ rfl rfl hl.1 rfl (lv_room (Nat.le_of_ble_eq_true rfl)) dX8_isAhead_61 ⟨Nat.le_of_ble_eq_true rfl, Nat.le_of_ble_eq_true rfl⟩) hD hS hA (fun x_400 σ1 μ1 H locs hw_401 hP hD hS => ?_)
              have hu_402 := hw_401
              obtain ⟨hu_402a, hu_402b⟩ := Prod.mk.inj hu_402
              rw [hu_402a, hu_402b] at hP hD
              refine pk_i (va_runS (As := [.int x_395, .int x_400]) (rest := []) ⟨hx, hb, hml, hown, hts⟩ (s_J6_compare_7cf53 l D t σ I J ri rj rq H.size tg hSH hG.1 x_395 x_400) (va_cwS 2 hts (tw_S tw_490 tw_491 tw_492 tw_493) rfl rfl rfl cd_yJ6_compare_7cf53_2 ⟨Nat.le_of_ble_eq_true rfl, Nat.le_of_ble_eq_true rfl⟩) ⟨pq_blind, pq_pre hK hN hP hD⟩ rfl rfl hl.1 rfl (lv_room (Nat.le_of_ble_eq_true rfl)) dX8_isAhead_64 ⟨Nat.le_of_ble_eq_true rfl, Nat.le_of_ble_eq_true rfl⟩) hD hS hA (fun x_405 σ1 μ1 H locs hw_406 hP hD hS => ?_)
              obtain ⟨hu_407, hr_409⟩ := hw_406
              obtain ⟨hu_407a, hu_407b⟩ := Prod.mk.inj hu_407
              rw [hu_407a, hu_407b] at hP hD
              refine lv_istore (lv' := [(7, .int x_405), (6, .int x_394), (0, .ref this), (1, .int a0), (2, .ref a1), (3, .int a2), (4, .int a3), (5, .int x_339)]) hx hb dX8_isAhead_67 hl (by decide) rfl (fun ls hl => ?_)
              refine lv_iload hx hb dX8_isAhead_69 (lv_at hl 0 rfl) ?_
              refine lv_if_eq (tgt := 108) hx hb dX8_isAhead_71 (by decide) (fun c_410 => ?_) (fun c_410 => ?_)
              · have h_411 : rg x_405 0 0 := rg_and hr_409 (rg_of_eq c_410 (rg_k (0 : Int32) 0 rfl)) (by decide)
                obtain ⟨x_412, ex_412⟩ : ∃ y : Int32, y = x_339 + Int32.ofInt 1 := ⟨_, rfl⟩
                have h_413 : rg x_412 1 300 := rg_of_eq ex_412 (rg_add h_390 (rg_k (Int32.ofInt 1) 1 rfl) (by decide))
                refine lv_iinc (v := x_412) (lv' := [(5, .int x_412), (7, .int x_405), (6, .int x_394), (0, .ref this), (1, .int a0), (2, .ref a1), (3, .int a2), (4, .int a3)]) hx hb dX8_isAhead_108 hl (k := 7) rfl ex_412.symm (by decide) rfl (fun ls hl => ?_)
                refine lv_goto (tgt := 22) hx hb dX8_isAhead_111 (by decide) ?_
                exact ih_382 x_412 _ _ _ (rg_w h_413 (by decide)) (ms_up 1 hm_379 ex_412 rfl (by decide) h_390 (by decide) (by decide)) hG hP hD hS (lv_sub hl [3, 4, 5, 6, 7, 0] rfl)
              · refine lv_aload_n hx hb dX8_isAhead_74 rfl (lv_at hl 2 rfl) ?_
                refine pg_f (v := .ref w_392) (C := RX8) (T := TX8) (N := 4) hx hb hts (tw_i inlX8) hown hK hP hL_this hK_this (by decide) rfl 3 (by decide) (hts _ (tw_c tw_171)) (pq_hv rfl hR_w_392) dX8_isAhead_75 ?_
                refine lv_iload hx hb dX8_isAhead_78 (lv_at hl 7 rfl) ?_
                refine pl_i hx hb hK hP hL_w_392 hK_w_392 hN_w_392 (rg_in h_390 (by decide)) dX8_isAhead_80 ?_
                refine lv_tov x_393 ex_393.symm ?_
                refine lv_if_ge (tgt := 97) hx hb dX8_isAhead_81 (by decide) (fun c_414 => ?_) (fun c_414 => ?_)
                · have h_415 : rg x_393 0 2147483647 := rg_le2 c_414 (rg_k (0 : Int32) 0 rfl) (rg_full _) (by decide)
                  refine lv_iload hx hb dX8_isAhead_97 (lv_at hl 0 rfl) ?_
                  refine lv_if_ge (tgt := 106) hx hb dX8_isAhead_99 (by decide) (fun c_416 => ?_) (fun c_416 => ?_)
                  · have h_417 : rg x_405 0 1 := rg_le2 c_416 (rg_k (0 : Int32) 0 rfl) hr_409 (by decide)
                    refine lv_iconst (v := 0) hx hb dX8_isAhead_106 (by decide) ?_
                    subst hQ
                    exact W.zret (v := 0) hx hb hr (by decide) (fun t1 ht hW => ⟨⟨0, (σ, I, J, ri, rj, rq), rfl, ⟨rfl, (Or.inr ⟨rfl, trivial⟩)⟩, by rw [ht]; exact hP, va_K.moved hW.alike hK, hD⟩, hS.F ht⟩) hS.2.2 dX8_isAhead_107
                  · have h_418 : rg x_405 (-1) (-1) := rg_lt1 (nle c_416) hr_409 (rg_k (0 : Int32) 0 rfl) (by decide)
                    refine lv_iconst (v := 1) hx hb dX8_isAhead_102 (by decide) ?_
                    refine lv_goto (tgt := 107) hx hb dX8_isAhead_103 (by decide) ?_
                    subst hQ
                    exact W.zret (v := 1) hx hb hr (by decide) (fun t1 ht hW => ⟨⟨1, (σ, I, J, ri, rj, rq), rfl, ⟨rfl, (Or.inl ⟨rfl, (rg_w h_216 (by decide))⟩)⟩, by rw [ht]; exact hP, va_K.moved hW.alike hK, hD⟩, hS.F ht⟩) hS.2.2 dX8_isAhead_107
                · have h_419 : rg x_393 (-2147483648) (-1) := rg_lt1 (nle c_414) (rg_full _) (rg_k (0 : Int32) 0 rfl) (by decide)
                  refine lv_iload hx hb dX8_isAhead_84 (lv_at hl 0 rfl) ?_
                  refine lv_if_le (tgt := 93) hx hb dX8_isAhead_86 (by decide) (fun c_420 => ?_) (fun c_420 => ?_)
                  · have h_421 : rg x_405 (-1) 0 := rg_le1 c_420 hr_409 (rg_k (0 : Int32) 0 rfl) (by decide)
                    refine lv_iconst (v := 0) hx hb dX8_isAhead_93 (by decide) ?_
                    refine lv_goto (tgt := 107) hx hb dX8_isAhead_94 (by decide) ?_
                    subst hQ
                    exact W.zret (v := 0) hx hb hr (by decide) (fun t1 ht hW => ⟨⟨0, (σ, I, J, ri, rj, rq), rfl, ⟨rfl, (Or.inr ⟨rfl, trivial⟩)⟩, by rw [ht]; exact hP, va_K.moved hW.alike hK, hD⟩, hS.F ht⟩) hS.2.2 dX8_isAhead_107
                  · have h_422 : rg x_405 1 1 := rg_lt2 (nle c_420) (rg_k (0 : Int32) 0 rfl) hr_409 (by decide)
                    refine lv_iconst (v := 1) hx hb dX8_isAhead_89 (by decide) ?_
                    refine lv_goto (tgt := 107) hx hb dX8_isAhead_90 (by decide) ?_
                    subst hQ
                    exact W.zret (v := 1) hx hb hr (by decide) (fun t1 ht hW => ⟨⟨1, (σ, I, J, ri, rj, rq), rfl, ⟨rfl, (Or.inl ⟨rfl, (rg_w h_216 (by decide))⟩)⟩, by rw [ht]; exact hP, va_K.moved hW.alike hK, hD⟩, hS.F ht⟩) hS.2.2 dX8_isAhead_107
        exact L_381 _ x_219 _ _ _ (rg_w h_220 (by decide)) (Nat.lt_succ_self _) hG hP hD hS (lv_sub hl [1, 2, 3, 4, 5, 0] rfl)
      · exact K_210 _ _ _ hG hP hD hS (lv_sub hl [] rfl)
  exact go _ _ _ hP hD hS hl

set_option maxHeartbeats 4000000 in
set_option maxRecDepth 100000 in
theorem s_X11_copy_325_325 (l : Launch) (D : va_G) (t : pq_T) (σ : pq_S) (I : Nat → Nat → Int32) (J : Nat → Nat → Int64) (ri : Nat → Nat → Int32) (rj : Nat → Nat → Int64) (rq : Nat → Nat → Option Nat) (sz : Nat) (tg : Nat → Nat) (hSH : SH σ tg) (hG0 : GS tg σ I ri rq) (a0 : Nat) (a1 : Nat) (hL_a0 : a0 ∈ σ.1) (hK_a0 : σ.2.1 a0 = 13) (hN_a0 : σ.2.2.2 a0 = 40) (hT_a0 : tg a0 = 325) (hL_a1 : a1 ∈ σ.1) (hK_a1 : σ.2.1 a1 = 13) (hN_a1 : σ.2.2.2 a1 = 40) (hT_a1 : tg a1 = 325) : MetV l yX11_copy (wa yX11_copy cX11_copy 2 none) ({ frames := 1, cells := 0, slots := 0, locals := 60 }) [.ref a0, .ref a1] D t σ (I, J, ri, rj, rq) sz 0 0 (fun (u : pq_S × pq_M) => ∃ ri' : Nat → Nat → Int32, u = (σ, I, J, ri', rj, rq) ∧ GX [] tg σ I ri rj I ri' rj rq ∧ (∀ j, j < 40 → ri' a1 j = ri a0 j) ∧ (∀ q, q ≠ a1 → ri' q = ri q)) := by
  refine Met.ofW (cc := cX11_copy) (maxL := 2) (ret := none) (by decide) rfl ?_
  intro p e s m args below meth c s₁ B hml hv
  obtain ⟨rfl, hsz, hP, hK, hD0, hN⟩ := hv
  have hx := B.exec
  have hb := B.bytes
  have hr := B.returns
  have hts := atoms_spec (ws := (wa yX11_copy cX11_copy 2 none)) B.pre
  have hown : s.vm.findClass RX11 = some m.cls := findClass_of_methodNamed B.named
  have hlocks := B.notSynchronized
  subst hsz
  have hD : va_D (pq_B t σ (I, J, ri, rj, rq) s.heap.size) (pq_P t σ (I, J, ri, rj, rq)) := hD0.self
  generalize hAe : pq_B t σ (I, J, ri, rj, rq) s.heap.size = A at hD ⊢
  have hA : ∀ q : Nat, s.heap.size ≤ q → A q := fun q h => by rw [← hAe]; exact Or.inr h
  have hS : va_S A s.heap s.heap [] := va_S.rf
  have hG : GX [] tg σ I ri rj I ri rj rq := ⟨hG0, fun _ _ _ => rfl, fun _ _ _ _ _ => rfl, fun _ _ _ _ _ => rfl⟩
  have hl := lv_entry ([.ref a0, .ref a1]) (n := 2) (Nat.le_of_ble_eq_true rfl)
  rw [lg_entry_eq]
  generalize (lg_sl ([.ref a0, .ref a1]) ++ List.replicate (2 - (lg_sl ([.ref a0, .ref a1])).length) Slot.unset).toArray = ls at hl ⊢
  have hl : lv_has ls 2 [(0, .ref a0), (1, .ref a1)] := hl
  refine q_gen (fun Q hQ => ?_)
  have go : ∀ (H : Heap) (locs : List Loc) (ls : Array Slot), va_P D vwCl (pq_P t σ (I, J, ri, rj, rq)) H → va_D A (pq_P t σ (I, J, ri, rj, rq)) → va_S A s.heap H locs → lv_has ls 2 [(0, .ref a0), (1, .ref a1)] → W p l e ({ frames := 1, cells := 0, slots := 0, locals := 60 } : Room) s m (List.toArray ([.ref a0, .ref a1] : List Value)) below meth c H locs 0 0 Q (F0 m 0 ls []) := by
    intro H locs ls hP hD hS hl
    refine lv_aload_n hx hb dX11_copy_0 rfl (lv_at hl 0 rfl) ?_
    refine lv_iconst (v := 0) hx hb dX11_copy_1 (by decide) ?_
    refine lv_aload_n hx hb dX11_copy_2 rfl (lv_at hl 1 rfl) ?_
    refine lv_iconst (v := 0) hx hb dX11_copy_3 (by decide) ?_
    refine lv_aload_n hx hb dX11_copy_4 rfl (lv_at hl 0 rfl) ?_
    refine pn_i (v := 40) hx hb hK hP hL_a0 hK_a0 hN_a0 (by decide) dX11_copy_5 ?_
    refine lv_aload_n hx hb dX11_copy_6 rfl (lv_at hl 1 rfl) ?_
    refine pn_i (v := 40) hx hb hK hP hL_a1 hK_a1 hN_a1 (by decide) dX11_copy_7 ?_
    refine va_mmin hx hb (hml.trans hl.1.symm) hown (hts _ (tw_c tw_1103)) (hts _ (tw_c tw_467)) (hts _ (tw_c tw_276)) (hts _ (tw_c tw_468)) (Nat.le_of_ble_eq_true rfl) (Nat.le_of_ble_eq_true rfl) (Nat.zero_le _) (Nat.zero_le _) dX11_copy_8 ?_
    refine lv_topi (fun x_1 ex_1 => ?_)
    have h_2 : rg x_1 40 40 := rg_of_eq ex_1 (rg_min2 (rg_k (40 : Int32) 40 rfl) (rg_k (40 : Int32) 40 rfl) (by decide))
    refine pc_i hx hb (hml.trans hl.1.symm) hown (hts _ (tw_c tw_1104)) (hts _ (tw_c tw_1105)) (hts _ (tw_c tw_1106)) (hts _ (tw_c tw_1107)) hK hP hD hS hL_a0 hK_a0 hN_a0 hL_a1 hK_a1 hN_a1 (rg_pos (rg_k (0 : Int32) 0 rfl) (by decide)) (rg_pos h_2 (by decide)) (rg_cp (rg_k (0 : Int32) 0 rfl) h_2 (by decide)) (rg_cl h_2 (by decide)) (Nat.le_of_ble_eq_true rfl) (Nat.le_of_ble_eq_true rfl) dX11_copy_11 (fun r_3 H locs er_3 hP hD hS => ?_)
    have hG := GX.cR hG hSH hT_a0 rfl hT_a1 rfl er_3 (by decide)
    subst hQ
    exact W.vret hx hb hr (fun t1 ht hW => ⟨⟨(σ, I, J, r_3, rj, rq), rfl, ⟨r_3, rfl, hG, (cpy_eq er_3 h_2 rfl), (fun q hq => by rw [er_3, va_up_ne _ _ hq])⟩, by rw [ht]; exact hP, va_K.moved hW.alike hK, hD⟩, hS.F ht⟩) hS.2.2 dX11_copy_14
  exact go _ _ _ hP hD hS hl

set_option maxHeartbeats 4000000 in
set_option maxRecDepth 100000 in
theorem s_X2_countBeds_332 (l : Launch) (D : va_G) (t : pq_T) (σ : pq_S) (I : Nat → Nat → Int32) (J : Nat → Nat → Int64) (ri : Nat → Nat → Int32) (rj : Nat → Nat → Int64) (rq : Nat → Nat → Option Nat) (sz : Nat) (tg : Nat → Nat) (hSH : SH σ tg) (hG0 : GS tg σ I ri rq) (this : Nat) (a0 : Nat) (a1 : Int32) (hL_this : this ∈ σ.1) (hK_this : σ.2.1 this = 2) (hL_a0 : a0 ∈ σ.1) (hK_a0 : σ.2.1 a0 = 13) (hN_a0 : σ.2.2.2 a0 = 5) (hT_a0 : tg a0 = 332) (h_a1 : rg a1 0 0) : MetV l yX2_countBeds (wa yX2_countBeds cX2_countBeds 4 none) ({ frames := 0, cells := 0, slots := 0, locals := 0 }) [.ref this, .ref a0, .int a1] D t σ (I, J, ri, rj, rq) sz 0 0 (fun (u : pq_S × pq_M) => ∃ ri' : Nat → Nat → Int32, u = (σ, I, J, ri', rj, rq) ∧ GX [] tg σ I ri rj I ri' rj rq) := by
  refine Met.ofW (cc := cX2_countBeds) (maxL := 4) (ret := none) (by decide) rfl ?_
  intro p e s m args below meth c s₁ B hml hv
  obtain ⟨rfl, hsz, hP, hK, hD0, hN⟩ := hv
  have hx := B.exec
  have hb := B.bytes
  have hr := B.returns
  have hts := atoms_spec (ws := (wa yX2_countBeds cX2_countBeds 4 none)) B.pre
  have hown : s.vm.findClass RX2 = some m.cls := findClass_of_methodNamed B.named
  have hlocks := B.notSynchronized
  subst hsz
  have hD : va_D (pq_B t σ (I, J, ri, rj, rq) s.heap.size) (pq_P t σ (I, J, ri, rj, rq)) := hD0.self
  generalize hAe : pq_B t σ (I, J, ri, rj, rq) s.heap.size = A at hD ⊢
  have hA : ∀ q : Nat, s.heap.size ≤ q → A q := fun q h => by rw [← hAe]; exact Or.inr h
  have hS : va_S A s.heap s.heap [] := va_S.rf
  have hG : GX [] tg σ I ri rj I ri rj rq := ⟨hG0, fun _ _ _ => rfl, fun _ _ _ _ _ => rfl, fun _ _ _ _ _ => rfl⟩
  have hl := lv_entry ([.ref this, .ref a0, .int a1]) (n := 4) (Nat.le_of_ble_eq_true rfl)
  rw [lg_entry_eq]
  generalize (lg_sl ([.ref this, .ref a0, .int a1]) ++ List.replicate (4 - (lg_sl ([.ref this, .ref a0, .int a1])).length) Slot.unset).toArray = ls at hl ⊢
  have hl : lv_has ls 4 [(0, .ref this), (1, .ref a0), (2, .int a1)] := hl
  refine q_gen (fun Q hQ => ?_)
  have go : ∀ (H : Heap) (locs : List Loc) (ls : Array Slot), va_P D vwCl (pq_P t σ (I, J, ri, rj, rq)) H → va_D A (pq_P t σ (I, J, ri, rj, rq)) → va_S A s.heap H locs → lv_has ls 4 [(0, .ref this), (1, .ref a0), (2, .int a1)] → W p l e ({ frames := 0, cells := 0, slots := 0, locals := 0 } : Room) s m (List.toArray ([.ref this, .ref a0, .int a1] : List Value)) below meth c H locs 0 0 Q (F0 m 0 ls []) := by
    intro H locs ls hP hD hS hl
    refine lv_iload_n hx hb dX2_countBeds_0 rfl (lv_at hl 2 rfl) ?_
    refine lv_if_lt (tgt := 12) hx hb dX2_countBeds_1 (by decide) (fun c_1 => ?_) (fun c_1 => ?_)
    · exact (rg_empty (rg_lt1 c_1 h_a1 (rg_k (0 : Int32) 0 rfl) (lo := 0) (hi := (-1)) (by decide)) (by decide)).elim
    · refine lv_iload_n hx hb dX2_countBeds_4 rfl (lv_at hl 2 rfl) ?_
      refine lv_iconst (v := 5) hx hb dX2_countBeds_5 (by decide) ?_
      refine lv_iadd hx hb dX2_countBeds_6 ?_
      refine lv_topi (fun x_2 ex_2 => ?_)
      have h_3 : rg x_2 5 5 := rg_of_eq ex_2 (rg_add h_a1 (rg_k (5 : Int32) 5 rfl) (by decide))
      refine lv_aload_n hx hb dX2_countBeds_7 rfl (lv_at hl 1 rfl) ?_
      refine pn_i (v := 5) hx hb hK hP hL_a0 hK_a0 hN_a0 (by decide) dX2_countBeds_8 ?_
      refine lv_icmp_le (tgt := 13) hx hb dX2_countBeds_9 (by decide) (fun c_4 => ?_) (fun c_4 => ?_)
      · refine lv_iconst (v := 0) hx hb dX2_countBeds_13 (by decide) ?_
        refine lv_istore_n (lv' := [(3, .int 0), (0, .ref this), (1, .ref a0), (2, .int a1)]) hx hb dX2_countBeds_14 rfl hl (by decide) rfl (fun ls hl => ?_)
        have L_870 : ∀ (n_869 : Nat) (x_594 : Int32) (ri_595 : Nat → Nat → Int32) (H : Heap) (locs : List Loc) (ls : Array Slot), rg x_594 0 5 → (5 - (x_594).toInt).toNat < n_869 → GX [] tg σ I ri rj I ri_595 rj rq → va_P D vwCl (pq_P t σ (I, J, ri_595, rj, rq)) H → va_D A (pq_P t σ (I, J, ri_595, rj, rq)) → va_S A s.heap H locs → lv_has ls 4 [(0, .ref this), (1, .ref a0), (2, .int a1), (3, .int x_594)] → W p l e ({ frames := 0, cells := 0, slots := 0, locals := 0 } : Room) s m (List.toArray ([.ref this, .ref a0, .int a1] : List Value)) below meth c H locs 0 0 Q (F0 m 15 ls []) := by
          intro n_869
          induction n_869 with
          | zero => intro x_594 ri_595 H locs ls h_873 hm_868 hG hP hD hS hl; exact absurd hm_868 (Nat.not_lt_zero _)
          | succ n_869 ih_871 =>
            intro x_594 ri_595 H locs ls h_873 hm_868 hG hP hD hS hl
            refine lv_iload_n hx hb dX2_countBeds_15 rfl (lv_at hl 3 rfl) ?_
            refine lv_iconst (v := 5) hx hb dX2_countBeds_16 (by decide) ?_
            refine lv_icmp_ge (tgt := 32) hx hb dX2_countBeds_17 (by decide) (fun c_874 => ?_) (fun c_874 => ?_)
            · have h_875 : rg x_594 5 5 := rg_le2 c_874 (rg_k (5 : Int32) 5 rfl) h_873 (by decide)
              refine lv_iconst (v := 0) hx hb dX2_countBeds_32 (by decide) ?_
              refine lv_istore_n (lv' := [(3, .int 0), (0, .ref this), (1, .ref a0), (2, .int a1)]) hx hb dX2_countBeds_33 rfl hl (by decide) rfl (fun ls hl => ?_)
              have L_1122 : ∀ (n_1121 : Nat) (x_1101 : Int32) (ri_1102 : Nat → Nat → Int32) (H : Heap) (locs : List Loc) (ls : Array Slot), rg x_1101 0 40 → (40 - (x_1101).toInt).toNat < n_1121 → GX [] tg σ I ri rj I ri_1102 rj rq → va_P D vwCl (pq_P t σ (I, J, ri_1102, rj, rq)) H → va_D A (pq_P t σ (I, J, ri_1102, rj, rq)) → va_S A s.heap H locs → lv_has ls 4 [(0, .ref this), (1, .ref a0), (2, .int a1), (3, .int x_1101)] → W p l e ({ frames := 0, cells := 0, slots := 0, locals := 0 } : Room) s m (List.toArray ([.ref this, .ref a0, .int a1] : List Value)) below meth c H locs 0 0 Q (F0 m 34 ls []) := by
                intro n_1121
                induction n_1121 with
                | zero => intro x_1101 ri_1102 H locs ls h_1125 hm_1120 hG hP hD hS hl; exact absurd hm_1120 (Nat.not_lt_zero _)
                | succ n_1121 ih_1123 =>
                  intro x_1101 ri_1102 H locs ls h_1125 hm_1120 hG hP hD hS hl
                  refine lv_iload_n hx hb dX2_countBeds_34 rfl (lv_at hl 3 rfl) ?_
                  refine lv_aload_n hx hb dX2_countBeds_35 rfl (lv_at hl 0 rfl) ?_
                  refine pg_f (v := .int (I 65 this)) (C := RX2) (T := TX2) (N := 20) hx hb hts (tw_i inlX2) hown hK hP hL_this hK_this (by decide) rfl 1 (by decide) (hts _ (tw_c tw_222)) rfl dX2_countBeds_36 ?_
                  have h_1126 : rg (I 65 this) 0 40 := GX.rI hG 65 rfl
                  refine lv_icmp_ge (tgt := 67) hx hb dX2_countBeds_39 (by decide) (fun c_1127 => ?_) (fun c_1127 => ?_)
                  · subst hQ
                    exact W.vret hx hb hr (fun t1 ht hW => ⟨⟨(σ, I, J, ri_1102, rj, rq), rfl, ⟨ri_1102, rfl, hG⟩, by rw [ht]; exact hP, va_K.moved hW.alike hK, hD⟩, hS.F ht⟩) hS.2.2 dX2_countBeds_67
                  · have h_1128 : rg x_1101 0 39 := rg_lt1 (nle c_1127) h_1125 h_1126 (by decide)
                    have h_1129 : rg (I 65 this) 1 40 := rg_lt2 (nle c_1127) h_1125 h_1126 (by decide)
                    refine lv_aload_n hx hb dX2_countBeds_42 rfl (lv_at hl 1 rfl) ?_
                    refine lv_iload_n hx hb dX2_countBeds_43 rfl (lv_at hl 2 rfl) ?_
                    refine lv_aload_n hx hb dX2_countBeds_44 rfl (lv_at hl 0 rfl) ?_
                    obtain ⟨w_1130, hR_w_1130, hL_w_1130, hK_w_1130, hN_w_1130, hT_w_1130⟩ := sh_a hSH 69 (ci := 2) (kd := 13) (len := 40) rfl (by decide) hL_this hK_this
                    refine pg_f (v := .ref w_1130) (C := RX2) (T := TX2) (N := 20) hx hb hts (tw_i inlX2) hown hK hP hL_this hK_this (by decide) rfl 5 (by decide) (hts _ (tw_c tw_83)) (pq_hv rfl hR_w_1130) dX2_countBeds_45 ?_
                    refine lv_iload_n hx hb dX2_countBeds_48 rfl (lv_at hl 3 rfl) ?_
                    refine pl_i hx hb hK hP hL_w_1130 hK_w_1130 hN_w_1130 (rg_in h_1128 (by decide)) dX2_countBeds_49 ?_
                    refine lv_topi (fun x_1131 ex_1131 => ?_)
                    have h_1132 : rg x_1131 0 4 := rg_of_eq ex_1131 (GX.rR hG hT_w_1130 rfl)
                    refine lv_iadd hx hb dX2_countBeds_50 ?_
                    refine lv_topi (fun x_1133 ex_1133 => ?_)
                    have h_1134 : rg x_1133 0 4 := rg_of_eq ex_1133 (rg_add h_a1 h_1132 (by decide))
                    refine lv_dup2_11 hx hb dX2_countBeds_51 rfl rfl ?_
                    refine pl_i hx hb hK hP hL_a0 hK_a0 hN_a0 (rg_in h_1134 (by decide)) dX2_countBeds_52 ?_
                    refine lv_topi (fun x_1135 ex_1135 => ?_)
                    refine lv_aload_n hx hb dX2_countBeds_53 rfl (lv_at hl 0 rfl) ?_
                    obtain ⟨w_1136, hR_w_1136, hL_w_1136, hK_w_1136, hN_w_1136, hT_w_1136⟩ := sh_a hSH 76 (ci := 2) (kd := 13) (len := 40) rfl (by decide) hL_this hK_this
                    refine pg_f (v := .ref w_1136) (C := RX2) (T := TX2) (N := 20) hx hb hts (tw_i inlX2) hown hK hP hL_this hK_this (by decide) rfl 12 (by decide) (hts _ (tw_c tw_90)) (pq_hv rfl hR_w_1136) dX2_countBeds_54 ?_
                    refine lv_iload_n hx hb dX2_countBeds_57 rfl (lv_at hl 3 rfl) ?_
                    refine pl_i hx hb hK hP hL_w_1136 hK_w_1136 hN_w_1136 (rg_in h_1128 (by decide)) dX2_countBeds_58 ?_
                    refine lv_topi (fun x_1137 ex_1137 => ?_)
                    refine lv_iadd hx hb dX2_countBeds_59 ?_
                    refine lv_topi (fun x_1138 ex_1138 => ?_)
                    refine pt_i hx hb hK hP hD hS hL_a0 hK_a0 hN_a0 (rg_in h_1134 (by decide)) dX2_countBeds_60 (fun r_1139 H locs er_1139 hP hD hS => ?_)
                    have hG := GX.wR hG hSH hT_a0 rfl er_1139 (rg_w (rg_full _) (by decide)) (by decide)
                    obtain ⟨x_1140, ex_1140⟩ : ∃ y : Int32, y = x_1101 + Int32.ofInt 1 := ⟨_, rfl⟩
                    have h_1141 : rg x_1140 1 40 := rg_of_eq ex_1140 (rg_add h_1128 (rg_k (Int32.ofInt 1) 1 rfl) (by decide))
                    refine lv_iinc (v := x_1140) (lv' := [(3, .int x_1140), (0, .ref this), (1, .ref a0), (2, .int a1)]) hx hb dX2_countBeds_61 hl (k := 3) rfl ex_1140.symm (by decide) rfl (fun ls hl => ?_)
                    refine lv_goto (tgt := 34) hx hb dX2_countBeds_64 (by decide) ?_
                    exact ih_1123 x_1140 r_1139 _ _ _ (rg_w h_1141 (by decide)) (ms_up 1 hm_1120 ex_1140 rfl (by decide) h_1128 (by decide) (by decide)) hG hP hD hS (lv_sub hl [1, 2, 3, 0] rfl)
              exact L_1122 _ (0 : Int32) ri_595 _ _ _ (rg_w (rg_k (0 : Int32) 0 rfl) (by decide)) (Nat.lt_succ_self _) hG hP hD hS (lv_sub hl [1, 2, 3, 0] rfl)
            · have h_1142 : rg x_594 0 4 := rg_lt1 (nle c_874) h_873 (rg_k (5 : Int32) 5 rfl) (by decide)
              refine lv_aload_n hx hb dX2_countBeds_20 rfl (lv_at hl 1 rfl) ?_
              refine lv_iload_n hx hb dX2_countBeds_21 rfl (lv_at hl 2 rfl) ?_
              refine lv_iload_n hx hb dX2_countBeds_22 rfl (lv_at hl 3 rfl) ?_
              refine lv_iadd hx hb dX2_countBeds_23 ?_
              refine lv_topi (fun x_1143 ex_1143 => ?_)
              have h_1144 : rg x_1143 0 4 := rg_of_eq ex_1143 (rg_add h_a1 h_1142 (by decide))
              refine lv_iconst (v := 0) hx hb dX2_countBeds_24 (by decide) ?_
              refine pt_i hx hb hK hP hD hS hL_a0 hK_a0 hN_a0 (rg_in h_1144 (by decide)) dX2_countBeds_25 (fun r_1145 H locs er_1145 hP hD hS => ?_)
              have hG := GX.wR hG hSH hT_a0 rfl er_1145 (rg_w (rg_k (0 : Int32) 0 rfl) (by decide)) (by decide)
              obtain ⟨x_1146, ex_1146⟩ : ∃ y : Int32, y = x_594 + Int32.ofInt 1 := ⟨_, rfl⟩
              have h_1147 : rg x_1146 1 5 := rg_of_eq ex_1146 (rg_add h_1142 (rg_k (Int32.ofInt 1) 1 rfl) (by decide))
              refine lv_iinc (v := x_1146) (lv' := [(3, .int x_1146), (0, .ref this), (1, .ref a0), (2, .int a1)]) hx hb dX2_countBeds_26 hl (k := 3) rfl ex_1146.symm (by decide) rfl (fun ls hl => ?_)
              refine lv_goto (tgt := 15) hx hb dX2_countBeds_29 (by decide) ?_
              exact ih_871 x_1146 r_1145 _ _ _ (rg_w h_1147 (by decide)) (ms_up 1 hm_868 ex_1146 rfl (by decide) h_1142 (by decide) (by decide)) hG hP hD hS (lv_sub hl [1, 2, 3, 0] rfl)
        exact L_870 _ (0 : Int32) ri _ _ _ (rg_w (rg_k (0 : Int32) 0 rfl) (by decide)) (Nat.lt_succ_self _) hG hP hD hS (lv_sub hl [1, 2, 3, 0] rfl)
      · exact (rg_empty (rg_lt2 (nle c_4) (rg_k (5 : Int32) 5 rfl) h_3 (lo := 6) (hi := 5) (by decide)) (by decide)).elim
  exact go _ _ _ hP hD hS hl

set_option maxHeartbeats 4000000 in
set_option maxRecDepth 100000 in
theorem s_X0_sleep_332 (l : Launch) (D : va_G) (t : pq_T) (σ : pq_S) (I : Nat → Nat → Int32) (J : Nat → Nat → Int64) (ri : Nat → Nat → Int32) (rj : Nat → Nat → Int64) (rq : Nat → Nat → Option Nat) (sz : Nat) (tg : Nat → Nat) (hSH : SH σ tg) (hG0 : GS tg σ I ri rq) (this : Nat) (a0 : Nat) (a1 : Int32) (hL_this : this ∈ σ.1) (hK_this : σ.2.1 this = 0) (hL_a0 : a0 ∈ σ.1) (hK_a0 : σ.2.1 a0 = 13) (hN_a0 : σ.2.2.2 a0 = 5) (hT_a0 : tg a0 = 332) (h_a1 : rg a1 0 0) : MetI l yX0_sleep (wa yX0_sleep cX0_sleep 5 (some .int)) ({ frames := 1, cells := 0, slots := 0, locals := 60 }) [.ref this, .ref a0, .int a1] D t σ (I, J, ri, rj, rq) sz 0 0 (fun (r : Int32) (u : pq_S × pq_M) => ∃ ri' : Nat → Nat → Int32, u = (σ, I, J, ri', rj, rq) ∧ GX [] tg σ I ri rj I ri' rj rq) := by
  refine Met.ofW (cc := cX0_sleep) (maxL := 5) (ret := (some .int)) (by decide) rfl ?_
  intro p e s m args below meth c s₁ B hml hv
  obtain ⟨rfl, hsz, hP, hK, hD0, hN⟩ := hv
  have hx := B.exec
  have hb := B.bytes
  have hr := B.returns
  have hts := atoms_spec (ws := (wa yX0_sleep cX0_sleep 5 (some .int))) B.pre
  have hown : s.vm.findClass RX0 = some m.cls := findClass_of_methodNamed B.named
  have hlocks := B.notSynchronized
  subst hsz
  have hD : va_D (pq_B t σ (I, J, ri, rj, rq) s.heap.size) (pq_P t σ (I, J, ri, rj, rq)) := hD0.self
  generalize hAe : pq_B t σ (I, J, ri, rj, rq) s.heap.size = A at hD ⊢
  have hA : ∀ q : Nat, s.heap.size ≤ q → A q := fun q h => by rw [← hAe]; exact Or.inr h
  have hS : va_S A s.heap s.heap [] := va_S.rf
  have hG : GX [] tg σ I ri rj I ri rj rq := ⟨hG0, fun _ _ _ => rfl, fun _ _ _ _ _ => rfl, fun _ _ _ _ _ => rfl⟩
  have hl := lv_entry ([.ref this, .ref a0, .int a1]) (n := 5) (Nat.le_of_ble_eq_true rfl)
  rw [lg_entry_eq]
  generalize (lg_sl ([.ref this, .ref a0, .int a1]) ++ List.replicate (5 - (lg_sl ([.ref this, .ref a0, .int a1])).length) Slot.unset).toArray = ls at hl ⊢
  have hl : lv_has ls 5 [(0, .ref this), (1, .ref a0), (2, .int a1)] := hl
  refine q_gen (fun Q hQ => ?_)
  have go : ∀ (H : Heap) (locs : List Loc) (ls : Array Slot), va_P D vwCl (pq_P t σ (I, J, ri, rj, rq)) H → va_D A (pq_P t σ (I, J, ri, rj, rq)) → va_S A s.heap H locs → lv_has ls 5 [(0, .ref this), (1, .ref a0), (2, .int a1)] → W p l e ({ frames := 1, cells := 0, slots := 0, locals := 60 } : Room) s m (List.toArray ([.ref this, .ref a0, .int a1] : List Value)) below meth c H locs 0 0 Q (F0 m 0 ls []) := by
    intro H locs ls hP hD hS hl
    refine lv_iload_n hx hb dX0_sleep_0 rfl (lv_at hl 2 rfl) ?_
    refine lv_if_lt (tgt := 12) hx hb dX0_sleep_1 (by decide) (fun c_1053 => ?_) (fun c_1053 => ?_)
    · exact (rg_empty (rg_lt1 c_1053 h_a1 (rg_k (0 : Int32) 0 rfl) (lo := 0) (hi := (-1)) (by decide)) (by decide)).elim
    · refine lv_iload_n hx hb dX0_sleep_4 rfl (lv_at hl 2 rfl) ?_
      refine lv_iconst (v := 5) hx hb dX0_sleep_5 (by decide) ?_
      refine lv_iadd hx hb dX0_sleep_6 ?_
      refine lv_topi (fun x_1054 ex_1054 => ?_)
      have h_1055 : rg x_1054 5 5 := rg_of_eq ex_1054 (rg_add h_a1 (rg_k (5 : Int32) 5 rfl) (by decide))
      refine lv_aload_n hx hb dX0_sleep_7 rfl (lv_at hl 1 rfl) ?_
      refine pn_i (v := 5) hx hb hK hP hL_a0 hK_a0 hN_a0 (by decide) dX0_sleep_8 ?_
      refine lv_icmp_le (tgt := 14) hx hb dX0_sleep_9 (by decide) (fun c_1056 => ?_) (fun c_1056 => ?_)
      · refine lv_aload_n hx hb dX0_sleep_14 rfl (lv_at hl 1 rfl) ?_
        refine lv_iload_n hx hb dX0_sleep_15 rfl (lv_at hl 2 rfl) ?_
        refine lv_aload_n hx hb dX0_sleep_16 rfl (lv_at hl 0 rfl) ?_
        obtain ⟨w_1057, hR_w_1057, hL_w_1057, hK_w_1057, hN_w_1057, hT_w_1057⟩ := sh_a hSH 12 (ci := 0) (kd := 13) (len := 5) rfl (by decide) hL_this hK_this
        refine pg_f (v := .ref w_1057) (C := RX0) (T := TX0) (N := 16) hx hb hts (tw_i inlX0) hown hK hP hL_this hK_this (by decide) rfl 12 (by decide) (hts _ (tw_c tw_120)) (pq_hv rfl hR_w_1057) dX0_sleep_17 ?_
        refine lv_iconst (v := 0) hx hb dX0_sleep_20 (by decide) ?_
        refine lv_iconst (v := 5) hx hb dX0_sleep_21 (by decide) ?_
        refine pc_i hx hb (hml.trans hl.1.symm) hown (hts _ (tw_c tw_1124)) (hts _ (tw_c tw_1105)) (hts _ (tw_c tw_1106)) (hts _ (tw_c tw_1107)) hK hP hD hS hL_a0 hK_a0 hN_a0 hL_w_1057 hK_w_1057 hN_w_1057 (rg_pos h_a1 (by decide)) (rg_pos (rg_k (5 : Int32) 5 rfl) (by decide)) (rg_cp h_a1 (rg_k (5 : Int32) 5 rfl) (by decide)) (rg_cl (rg_k (5 : Int32) 5 rfl) (by decide)) (Nat.le_of_ble_eq_true rfl) (Nat.le_of_ble_eq_true rfl) dX0_sleep_22 (fun r_1058 H locs er_1058 hP hD hS => ?_)
        have hG := GX.cR hG hSH hT_a0 rfl hT_w_1057 rfl er_1058 (by decide)
        refine lv_iconst (v := 0) hx hb dX0_sleep_25 (by decide) ?_
        refine lv_istore_n (lv' := [(3, .int 0), (0, .ref this), (1, .ref a0), (2, .int a1)]) hx hb dX0_sleep_26 rfl hl (by decide) rfl (fun ls hl => ?_)
        refine lv_iconst (v := 0) hx hb dX0_sleep_27 (by decide) ?_
        refine lv_istore (lv' := [(4, .int 0), (3, .int 0), (0, .ref this), (1, .ref a0), (2, .int a1)]) hx hb dX0_sleep_28 hl (by decide) rfl (fun ls hl => ?_)
        have L_2070 : ∀ (n_2069 : Nat) (x_2030 : Int32) (x_2031 : Int32) (ri_2032 : Nat → Nat → Int32) (H : Heap) (locs : List Loc) (ls : Array Slot), rg x_2031 0 40 → (40 - (x_2031).toInt).toNat < n_2069 → GX [] tg σ I ri rj I ri_2032 rj rq → va_P D vwCl (pq_P t σ (I, J, ri_2032, rj, rq)) H → va_D A (pq_P t σ (I, J, ri_2032, rj, rq)) → va_S A s.heap H locs → lv_has ls 5 [(0, .ref this), (3, .int x_2030), (4, .int x_2031)] → W p l e ({ frames := 1, cells := 0, slots := 0, locals := 60 } : Room) s m (List.toArray ([.ref this, .ref a0, .int a1] : List Value)) below meth c H locs 0 0 Q (F0 m 30 ls []) := by
          intro n_2069
          induction n_2069 with
          | zero => intro x_2030 x_2031 ri_2032 H locs ls h_2073 hm_2068 hG hP hD hS hl; exact absurd hm_2068 (Nat.not_lt_zero _)
          | succ n_2069 ih_2071 =>
            intro x_2030 x_2031 ri_2032 H locs ls h_2073 hm_2068 hG hP hD hS hl
            refine lv_iload hx hb dX0_sleep_30 (lv_at hl 2 rfl) ?_
            refine lv_aload_n hx hb dX0_sleep_32 rfl (lv_at hl 0 rfl) ?_
            refine pg_f (v := .int (I 0 this)) (C := RX0) (T := TX0) (N := 16) hx hb hts (tw_i inlX0) hown hK hP hL_this hK_this (by decide) rfl 0 (by decide) (hts _ (tw_c tw_395)) rfl dX0_sleep_33 ?_
            have h_2074 : rg (I 0 this) 0 40 := GX.rI hG 0 rfl
            refine lv_icmp_ge (tgt := 102) hx hb dX0_sleep_36 (by decide) (fun c_2075 => ?_) (fun c_2075 => ?_)
            · refine lv_iload_n hx hb dX0_sleep_102 rfl (lv_at hl 1 rfl) ?_
              subst hQ
              exact W.iret (v := x_2030) hx hb hr (fun t1 ht hW => ⟨⟨x_2030, (σ, I, J, ri_2032, rj, rq), rfl, ⟨ri_2032, rfl, hG⟩, by rw [ht]; exact hP, va_K.moved hW.alike hK, hD⟩, hS.F ht⟩) hS.2.2 dX0_sleep_103
            · have h_2076 : rg x_2031 0 39 := rg_lt1 (nle c_2075) h_2073 h_2074 (by decide)
              have h_2077 : rg (I 0 this) 1 40 := rg_lt2 (nle c_2075) h_2073 h_2074 (by decide)
              refine lv_aload_n hx hb dX0_sleep_39 rfl (lv_at hl 0 rfl) ?_
              refine lv_iload hx hb dX0_sleep_40 (lv_at hl 2 rfl) ?_
              obtain ⟨w_2078, hR_w_2078, hL_w_2078, hK_w_2078, hN_w_2078, hT_w_2078⟩ := sh_a hSH 5 (ci := 0) (kd := 13) (len := 40) rfl (by decide) hL_this hK_this
              refine pk_i (va_runV (As := [.int x_2031]) (rest := []) ⟨hx, hb, hml, hown, hts⟩ (s_X0_isOnRing l D t σ I J ri_2032 rj rq H.size tg hSH hG.1 this x_2031 hL_this hK_this (rg_w h_2076 (by decide)) w_2078 hR_w_2078 hL_w_2078 hK_w_2078 hN_w_2078 hT_w_2078) (cwV 1 hts (tw_V tw_1108 tw_1109 tw_1110 tw_45 tw_1111) rfl rfl rfl cv_yX0_isOnRing_1 ⟨Nat.le_of_ble_eq_true rfl, Nat.le_of_ble_eq_true rfl⟩) ⟨pq_blind, pq_recv hK hP hL_this hK_this (by decide) rfl, pq_pre hK hN hP hD⟩ rfl rfl hl.1 rfl (lv_room (Nat.le_of_ble_eq_true rfl)) dX0_sleep_42 ⟨Nat.le_of_ble_eq_true rfl, Nat.le_of_ble_eq_true rfl⟩) hD hS hA (fun x_2079 σ1 μ1 H locs hw_2080 hP hD hS => ?_)
              obtain ⟨hu_2081, hr_2083⟩ := hw_2080
              obtain ⟨hu_2081a, hu_2081b⟩ := Prod.mk.inj hu_2081
              rw [hu_2081a, hu_2081b] at hP hD
              have h_2084 : rg x_2079 0 1 := by rcases hr_2083 with ⟨q, -⟩ | ⟨q, -⟩ <;> rw [q] <;> exact ⟨by decide, by decide⟩
              have K_2108 : ∀  (x_2104 : Int32) (ri_2105 : Nat → Nat → Int32) (H : Heap) (locs : List Loc) (ls : Array Slot), GX [] tg σ I ri rj I ri_2105 rj rq → va_P D vwCl (pq_P t σ (I, J, ri_2105, rj, rq)) H → va_D A (pq_P t σ (I, J, ri_2105, rj, rq)) → va_S A s.heap H locs → lv_has ls 5 [(0, .ref this), (3, .int x_2104), (4, .int x_2031)] → W p l e ({ frames := 1, cells := 0, slots := 0, locals := 60 } : Room) s m (List.toArray ([.ref this, .ref a0, .int a1] : List Value)) below meth c H locs 0 0 Q (F0 m 96 ls []) := by
                intro x_2104 ri_2105 H locs ls hG hP hD hS hl
                obtain ⟨x_2109, ex_2109⟩ : ∃ y : Int32, y = x_2031 + Int32.ofInt 1 := ⟨_, rfl⟩
                have h_2110 : rg x_2109 1 40 := rg_of_eq ex_2109 (rg_add h_2076 (rg_k (Int32.ofInt 1) 1 rfl) (by decide))
                refine lv_iinc (v := x_2109) (lv' := [(4, .int x_2109), (0, .ref this), (3, .int x_2104)]) hx hb dX0_sleep_96 hl (k := 2) rfl ex_2109.symm (by decide) rfl (fun ls hl => ?_)
                refine lv_goto (tgt := 30) hx hb dX0_sleep_99 (by decide) ?_
                exact ih_2071 x_2104 x_2109 ri_2105 _ _ _ (rg_w h_2110 (by decide)) (ms_up 1 hm_2068 ex_2109 rfl (by decide) h_2076 (by decide) (by decide)) hG hP hD hS (lv_sub hl [1, 2, 0] rfl)
              refine lv_if_eq (tgt := 96) hx hb dX0_sleep_45 (by decide) (fun c_2111 => ?_) (fun c_2111 => ?_)
              · have f_2112 := (hr_2083.resolve_left (fun q => absurd (q.1.symm.trans c_2111) (by decide))).2
                have h_2113 : rg x_2079 0 0 := rg_and h_2084 (rg_of_eq c_2111 (rg_k (0 : Int32) 0 rfl)) (by decide)
                exact K_2108 x_2030 ri_2032 _ _ _ hG hP hD hS (lv_sub hl [0, 1, 2] rfl)
              · have f_2114 := (hr_2083.resolve_right (fun q => c_2111 q.1)).2
                have h_2115 : rg x_2079 1 1 := rg_ne c_2111 h_2084 0 rfl (by decide)
                refine lv_aload_n hx hb dX0_sleep_48 rfl (lv_at hl 0 rfl) ?_
                refine pg_f (v := .ref w_1057) (C := RX0) (T := TX0) (N := 16) hx hb hts (tw_i inlX0) hown hK hP hL_this hK_this (by decide) rfl 12 (by decide) (hts _ (tw_c tw_120)) (pq_hv rfl hR_w_1057) dX0_sleep_49 ?_
                refine lv_aload_n hx hb dX0_sleep_52 rfl (lv_at hl 0 rfl) ?_
                refine pg_f (v := .ref w_2078) (C := RX0) (T := TX0) (N := 16) hx hb hts (tw_i inlX0) hown hK hP hL_this hK_this (by decide) rfl 5 (by decide) (hts _ (tw_c tw_114)) (pq_hv rfl hR_w_2078) dX0_sleep_53 ?_
                refine lv_iload hx hb dX0_sleep_56 (lv_at hl 2 rfl) ?_
                refine pl_i hx hb hK hP hL_w_2078 hK_w_2078 hN_w_2078 (rg_in h_2076 (by decide)) dX0_sleep_58 ?_
                refine lv_topi (fun x_2116 ex_2116 => ?_)
                have h_2117 : rg x_2116 0 4 := rg_of_eq ex_2116 (f_2114)
                refine pl_i hx hb hK hP hL_w_1057 hK_w_1057 hN_w_1057 (rg_in h_2117 (by decide)) dX0_sleep_59 ?_
                refine lv_topi (fun x_2118 ex_2118 => ?_)
                refine lv_if_le (tgt := 82) hx hb dX0_sleep_60 (by decide) (fun c_2119 => ?_) (fun c_2119 => ?_)
                · have h_2120 : rg x_2118 (-2147483648) 0 := rg_le1 c_2119 (rg_full _) (rg_k (0 : Int32) 0 rfl) (by decide)
                  refine lv_aload_n hx hb dX0_sleep_82 rfl (lv_at hl 0 rfl) ?_
                  obtain ⟨w_2121, hR_w_2121, hL_w_2121, hK_w_2121, hN_w_2121, hT_w_2121⟩ := sh_a hSH 7 (ci := 0) (kd := 13) (len := 40) rfl (by decide) hL_this hK_this
                  refine pg_f (v := .ref w_2121) (C := RX0) (T := TX0) (N := 16) hx hb hts (tw_i inlX0) hown hK hP hL_this hK_this (by decide) rfl 7 (by decide) (hts _ (tw_c tw_116)) (pq_hv rfl hR_w_2121) dX0_sleep_83 ?_
                  refine lv_iload hx hb dX0_sleep_86 (lv_at hl 2 rfl) ?_
                  refine lv_dup2_11 hx hb dX0_sleep_88 rfl rfl ?_
                  refine pl_i hx hb hK hP hL_w_2121 hK_w_2121 hN_w_2121 (rg_in h_2076 (by decide)) dX0_sleep_89 ?_
                  refine lv_topi (fun x_2122 ex_2122 => ?_)
                  refine lv_iconst (v := 1) hx hb dX0_sleep_90 (by decide) ?_
                  refine lv_iadd hx hb dX0_sleep_91 ?_
                  refine lv_topi (fun x_2123 ex_2123 => ?_)
                  refine pt_i hx hb hK hP hD hS hL_w_2121 hK_w_2121 hN_w_2121 (rg_in h_2076 (by decide)) dX0_sleep_92 (fun r_2124 H locs er_2124 hP hD hS => ?_)
                  have hG := GX.wR hG hSH hT_w_2121 rfl er_2124 (rg_w (rg_full _) (by decide)) (by decide)
                  obtain ⟨x_2125, ex_2125⟩ : ∃ y : Int32, y = x_2030 + Int32.ofInt 1 := ⟨_, rfl⟩
                  refine lv_iinc (v := x_2125) (lv' := [(3, .int x_2125), (0, .ref this), (4, .int x_2031)]) hx hb dX0_sleep_93 hl (k := 1) rfl ex_2125.symm (by decide) rfl (fun ls hl => ?_)
                  exact K_2108 x_2125 r_2124 _ _ _ hG hP hD hS (lv_sub hl [1, 0, 2] rfl)
                · have h_2126 : rg x_2118 1 2147483647 := rg_lt2 (nle c_2119) (rg_k (0 : Int32) 0 rfl) (rg_full _) (by decide)
                  refine lv_aload_n hx hb dX0_sleep_63 rfl (lv_at hl 0 rfl) ?_
                  refine pg_f (v := .ref w_1057) (C := RX0) (T := TX0) (N := 16) hx hb hts (tw_i inlX0) hown hK hP hL_this hK_this (by decide) rfl 12 (by decide) (hts _ (tw_c tw_120)) (pq_hv rfl hR_w_1057) dX0_sleep_64 ?_
                  refine lv_aload_n hx hb dX0_sleep_67 rfl (lv_at hl 0 rfl) ?_
                  refine pg_f (v := .ref w_2078) (C := RX0) (T := TX0) (N := 16) hx hb hts (tw_i inlX0) hown hK hP hL_this hK_this (by decide) rfl 5 (by decide) (hts _ (tw_c tw_114)) (pq_hv rfl hR_w_2078) dX0_sleep_68 ?_
                  refine lv_iload hx hb dX0_sleep_71 (lv_at hl 2 rfl) ?_
                  refine pl_i hx hb hK hP hL_w_2078 hK_w_2078 hN_w_2078 (rg_in h_2076 (by decide)) dX0_sleep_73 ?_
                  refine lv_tov x_2116 ex_2116.symm ?_
                  refine lv_dup2_11 hx hb dX0_sleep_74 rfl rfl ?_
                  refine pl_i hx hb hK hP hL_w_1057 hK_w_1057 hN_w_1057 (rg_in h_2117 (by decide)) dX0_sleep_75 ?_
                  refine lv_tov x_2118 ex_2118.symm ?_
                  refine lv_iconst (v := 1) hx hb dX0_sleep_76 (by decide) ?_
                  refine lv_isub hx hb dX0_sleep_77 ?_
                  refine lv_topi (fun x_2127 ex_2127 => ?_)
                  have h_2128 : rg x_2127 0 2147483646 := rg_of_eq ex_2127 (rg_sub h_2126 (rg_k (1 : Int32) 1 rfl) (by decide))
                  refine pt_i hx hb hK hP hD hS hL_w_1057 hK_w_1057 hN_w_1057 (rg_in h_2117 (by decide)) dX0_sleep_78 (fun r_2129 H locs er_2129 hP hD hS => ?_)
                  have hG := GX.wR hG hSH hT_w_1057 rfl er_2129 (rg_w h_2128 (by decide)) (by decide)
                  refine lv_goto (tgt := 96) hx hb dX0_sleep_79 (by decide) ?_
                  exact K_2108 x_2030 r_2129 _ _ _ hG hP hD hS (lv_sub hl [0, 1, 2] rfl)
        exact L_2070 _ (0 : Int32) (0 : Int32) r_1058 _ _ _ (rg_w (rg_k (0 : Int32) 0 rfl) (by decide)) (Nat.lt_succ_self _) hG hP hD hS (lv_sub hl [2, 1, 0] rfl)
      · exact (rg_empty (rg_lt2 (nle c_1056) (rg_k (5 : Int32) 5 rfl) h_1055 (lo := 6) (hi := 5) (by decide)) (by decide)).elim
  exact go _ _ _ hP hD hS hl

set_option maxHeartbeats 4000000 in
set_option maxRecDepth 100000 in
theorem s_X10_reckon (l : Launch) (D : va_G) (t : pq_T) (σ : pq_S) (I : Nat → Nat → Int32) (J : Nat → Nat → Int64) (ri : Nat → Nat → Int32) (rj : Nat → Nat → Int64) (rq : Nat → Nat → Option Nat) (sz : Nat) (tg : Nat → Nat) (hSH : SH σ tg) (hG0 : GS tg σ I ri rq) (this : Nat) (hL_this : this ∈ σ.1) (hK_this : σ.2.1 this = 10) : MetV l yX10_reckon (wa yX10_reckon cX10_reckon 3 none) ({ frames := 4, cells := 0, slots := 0, locals := 94 }) [.ref this] D t σ (I, J, ri, rj, rq) sz 0 0 (fun (u : pq_S × pq_M) => ∃ I' : Nat → Nat → Int32, ∃ ri' : Nat → Nat → Int32, u = (σ, I', J, ri', rj, rq) ∧ GX [] tg σ I ri rj I' ri' rj rq) := by
  refine Met.ofW (cc := cX10_reckon) (maxL := 3) (ret := none) (by decide) rfl ?_
  intro p e s m args below meth c s₁ B hml hv
  obtain ⟨rfl, hsz, hP, hK, hD0, hN⟩ := hv
  have hx := B.exec
  have hb := B.bytes
  have hr := B.returns
  have hts := atoms_spec (ws := (wa yX10_reckon cX10_reckon 3 none)) B.pre
  have hown : s.vm.findClass RX10 = some m.cls := findClass_of_methodNamed B.named
  have hlocks := B.notSynchronized
  subst hsz
  have hD : va_D (pq_B t σ (I, J, ri, rj, rq) s.heap.size) (pq_P t σ (I, J, ri, rj, rq)) := hD0.self
  generalize hAe : pq_B t σ (I, J, ri, rj, rq) s.heap.size = A at hD ⊢
  have hA : ∀ q : Nat, s.heap.size ≤ q → A q := fun q h => by rw [← hAe]; exact Or.inr h
  have hS : va_S A s.heap s.heap [] := va_S.rf
  have hG : GX [] tg σ I ri rj I ri rj rq := ⟨hG0, fun _ _ _ => rfl, fun _ _ _ _ _ => rfl, fun _ _ _ _ _ => rfl⟩
  have hl := lv_entry ([.ref this]) (n := 3) (Nat.le_of_ble_eq_true rfl)
  rw [lg_entry_eq]
  generalize (lg_sl ([.ref this]) ++ List.replicate (3 - (lg_sl ([.ref this])).length) Slot.unset).toArray = ls at hl ⊢
  have hl : lv_has ls 3 [(0, .ref this)] := hl
  refine q_gen (fun Q hQ => ?_)
  have go : ∀ (H : Heap) (locs : List Loc) (ls : Array Slot), va_P D vwCl (pq_P t σ (I, J, ri, rj, rq)) H → va_D A (pq_P t σ (I, J, ri, rj, rq)) → va_S A s.heap H locs → lv_has ls 3 [(0, .ref this)] → W p l e ({ frames := 4, cells := 0, slots := 0, locals := 94 } : Room) s m (List.toArray ([.ref this] : List Value)) below meth c H locs 0 0 Q (F0 m 0 ls []) := by
    intro H locs ls hP hD hS hl
    refine lv_aload_n hx hb dX10_reckon_0 rfl (lv_at hl 0 rfl) ?_
    refine pg_f (v := .int (I 320 this)) (C := RX10) (T := TX10) (N := 13) hx hb hts (tw_i inlX10) hown hK hP hL_this hK_this (by decide) rfl 0 (by decide) (hts _ (tw_c tw_457)) rfl dX10_reckon_1 ?_
    have h_1 : rg (I 320 this) 0 600 := GX.rI hG 320 rfl
    refine lv_sipush (v := 600) hx hb dX10_reckon_4 (by decide) ?_
    refine lv_icmp_lt (tgt := 11) hx hb dX10_reckon_7 (by decide) (fun c_2 => ?_) (fun c_2 => ?_)
    · have h_3 : rg (I 320 this) 0 599 := rg_lt1 c_2 h_1 (rg_k (600 : Int32) 600 rfl) (by decide)
      refine lv_aload_n hx hb dX10_reckon_11 rfl (lv_at hl 0 rfl) ?_
      obtain ⟨w_4, hR_w_4, hL_w_4, hK_w_4⟩ := sh_o hSH 329 (ci := 10) (kd := 3) rfl hL_this hK_this
      refine pg_f (v := .ref w_4) (C := RX10) (T := TX10) (N := 13) hx hb hts (tw_i inlX10) hown hK hP hL_this hK_this (by decide) rfl 9 (by decide) (hts _ (tw_c tw_50)) (pq_hv rfl hR_w_4) dX10_reckon_12 ?_
      refine lv_aload_n hx hb dX10_reckon_15 rfl (lv_at hl 0 rfl) ?_
      refine pg_f (v := .int (I 320 this)) (C := RX10) (T := TX10) (N := 13) hx hb hts (tw_i inlX10) hown hK hP hL_this hK_this (by decide) rfl 0 (by decide) (hts _ (tw_c tw_457)) rfl dX10_reckon_16 ?_
      refine pk_i (va_runV (As := [.int (I 320 this)]) (rest := []) ⟨hx, hb, hml, hown, hts⟩ (s_X3_fixIn l D t σ I J ri rj rq H.size tg hSH hG.1 w_4 (I 320 this) hL_w_4 hK_w_4) (cwV 1 hts (tw_V tw_1133 tw_1009 tw_1010 tw_49 tw_1011) rfl rfl rfl cv_yX3_fixIn_1 ⟨Nat.le_of_ble_eq_true rfl, Nat.le_of_ble_eq_true rfl⟩) ⟨pq_blind, pq_recv hK hP hL_w_4 hK_w_4 (by decide) rfl, pq_pre hK hN hP hD⟩ rfl rfl hl.1 rfl (lv_room (Nat.le_of_ble_eq_true rfl)) dX10_reckon_19 ⟨Nat.le_of_ble_eq_true rfl, Nat.le_of_ble_eq_true rfl⟩) hD hS hA (fun x_5 σ1 μ1 H locs hw_6 hP hD hS => ?_)
      have hu_7 := hw_6
      obtain ⟨hu_7a, hu_7b⟩ := Prod.mk.inj hu_7
      rw [hu_7a, hu_7b] at hP hD
      refine lv_istore_n (lv' := [(1, .int x_5), (0, .ref this)]) hx hb dX10_reckon_22 rfl hl (by decide) rfl (fun ls hl => ?_)
      refine lv_iload_n hx hb dX10_reckon_23 rfl (lv_at hl 0 rfl) ?_
      have K_61 : ∀  (x_16 : Int32) (H : Heap) (locs : List Loc) (ls : Array Slot), rg x_16 0 599 → GX [] tg σ I ri rj I ri rj rq → va_P D vwCl (pq_P t σ (I, J, ri, rj, rq)) H → va_D A (pq_P t σ (I, J, ri, rj, rq)) → va_S A s.heap H locs → lv_has ls 3 [(0, .ref this)] → W p l e ({ frames := 4, cells := 0, slots := 0, locals := 94 } : Room) s m (List.toArray ([.ref this] : List Value)) below meth c H locs 0 0 Q (F0 m 43 ls [.int x_16]) := by
        intro x_16 H locs ls h_63 hG hP hD hS hl
        refine lv_istore_n (lv' := [(2, .int x_16), (0, .ref this)]) hx hb dX10_reckon_43 rfl hl (by decide) rfl (fun ls hl => ?_)
        refine lv_aload_n hx hb dX10_reckon_44 rfl (lv_at hl 1 rfl) ?_
        refine lv_aload_n hx hb dX10_reckon_45 rfl (lv_at hl 1 rfl) ?_
        obtain ⟨w_64, hR_w_64, hL_w_64, hK_w_64⟩ := sh_o hSH 327 (ci := 10) (kd := 2) rfl hL_this hK_this
        refine pg_f (v := .ref w_64) (C := RX10) (T := TX10) (N := 13) hx hb hts (tw_i inlX10) hown hK hP hL_this hK_this (by decide) rfl 7 (by decide) (hts _ (tw_c tw_42)) (pq_hv rfl hR_w_64) dX10_reckon_46 ?_
        refine lv_aload_n hx hb dX10_reckon_49 rfl (lv_at hl 1 rfl) ?_
        refine pg_f (v := .ref w_64) (C := RX10) (T := TX10) (N := 13) hx hb hts (tw_i inlX10) hown hK hP hL_this hK_this (by decide) rfl 7 (by decide) (hts _ (tw_c tw_42)) (pq_hv rfl hR_w_64) dX10_reckon_50 ?_
        obtain ⟨w_65, hR_w_65, hL_w_65, hK_w_65, hN_w_65, hT_w_65⟩ := sh_a hSH 68 (ci := 2) (kd := 14) (len := 600) rfl (by decide) hL_w_64 hK_w_64
        refine pg_f (v := .ref w_65) (C := RX2) (T := TX2) (N := 20) hx hb hts (tw_i inlX2) hown hK hP hL_w_64 hK_w_64 (by decide) rfl 4 (by decide) (hts _ (tw_c tw_1129)) (pq_hv rfl hR_w_65) dX10_reckon_53 ?_
        refine lv_iload_n hx hb dX10_reckon_56 rfl (lv_at hl 0 rfl) ?_
        refine pl_l hx hb hK hP hL_w_65 hK_w_65 hN_w_65 (rg_in h_63 (by decide)) dX10_reckon_57 ?_
        refine lv_topl (fun x_66 ex_66 => ?_)
        refine lv_aload_n hx hb dX10_reckon_58 rfl (lv_at hl 1 rfl) ?_
        obtain ⟨w_67, hR_w_67, hL_w_67, hK_w_67⟩ := sh_o hSH 326 (ci := 10) (kd := 7) rfl hL_this hK_this
        refine pg_f (v := .ref w_67) (C := RX10) (T := TX10) (N := 13) hx hb hts (tw_i inlX10) hown hK hP hL_this hK_this (by decide) rfl 6 (by decide) (hts _ (tw_c tw_38)) (pq_hv rfl hR_w_67) dX10_reckon_59 ?_
        refine pg_f (v := .int (I 237 w_67)) (C := RX7) (T := TX7) (N := 15) hx hb hts (tw_i inlX7) hown hK hP hL_w_67 hK_w_67 (by decide) rfl 13 (by decide) (hts _ (tw_c tw_1130)) rfl dX10_reckon_62 ?_
        have h_68 : rg (I 237 w_67) 0 20 := GX.rI hG 237 rfl
        refine pk_i (va_runV (As := [.long x_66, .int (I 237 w_67)]) (rest := [.ref this]) ⟨hx, hb, hml, hown, hts⟩ (s_X2_countArea l D t σ I J ri rj rq H.size tg hSH hG.1 w_64 x_66 (I 237 w_67) hL_w_64 hK_w_64 (rg_w h_68 (by decide))) (cwV 2 hts (tw_V tw_1134 tw_1135 tw_1136 tw_41 tw_1137) rfl rfl rfl cv_yX2_countArea_2 ⟨Nat.le_of_ble_eq_true rfl, Nat.le_of_ble_eq_true rfl⟩) ⟨pq_blind, pq_recv hK hP hL_w_64 hK_w_64 (by decide) rfl, pq_pre hK hN hP hD⟩ rfl rfl hl.1 rfl (lv_room (Nat.le_of_ble_eq_true rfl)) dX10_reckon_65 ⟨Nat.le_of_ble_eq_true rfl, Nat.le_of_ble_eq_true rfl⟩) hD hS hA (fun x_69 σ1 μ1 H locs hw_70 hP hD hS => ?_)
        obtain ⟨ri_71, hu_72, hg_73⟩ := hw_70
        obtain ⟨hu_72a, hu_72b⟩ := Prod.mk.inj hu_72
        rw [hu_72a, hu_72b] at hP hD
        have hG := GX.tr hG hg_73 (by decide)
        refine pp_i (v := x_69) (ty := .int) (C := RX10) (T := TX10) (N := 13) hx hb hts (tw_i inlX10) tyX10 tyX10_ok nmX10 hown hK hP hD hS hL_this hK_this (by decide) rfl 4 324 (by decide) (hts _ (tw_c tw_32)) rfl (tyX10_ok 4 (by decide)) rfl rfl (Nat.le_of_ble_eq_true rfl) (ps_324 _ _ _ _ _) dX10_reckon_68 (fun I_75 H locs eI_75 hP hD hS => ?_)
        have hG := GX.wI hG 324 rfl eI_75 (rg_w (rg_full _) (by decide)) (by decide)
        refine lv_aload_n hx hb dX10_reckon_71 rfl (lv_at hl 1 rfl) ?_
        refine lv_dup hx hb dX10_reckon_72 rfl ?_
        refine pg_f (v := .int (I_75 321 this)) (C := RX10) (T := TX10) (N := 13) hx hb hts (tw_i inlX10) hown hK hP hL_this hK_this (by decide) rfl 1 (by decide) (hts _ (tw_c tw_1131)) rfl dX10_reckon_73 ?_
        refine lv_aload_n hx hb dX10_reckon_76 rfl (lv_at hl 1 rfl) ?_
        obtain ⟨w_76, hR_w_76, hL_w_76, hK_w_76⟩ := sh_o hSH 328 (ci := 10) (kd := 0) rfl hL_this hK_this
        refine pg_f (v := .ref w_76) (C := RX10) (T := TX10) (N := 13) hx hb hts (tw_i inlX10) hown hK hP hL_this hK_this (by decide) rfl 8 (by decide) (hts _ (tw_c tw_46)) (pq_hv rfl hR_w_76) dX10_reckon_77 ?_
        refine pk_i (va_runV (As := []) (rest := [.int (I_75 321 this), .ref this]) ⟨hx, hb, hml, hown, hts⟩ (s_X0_sendings l D t σ I_75 J ri_71 rj rq H.size tg hSH hG.1 w_76 hL_w_76 hK_w_76) (cwV 0 hts (tw_V tw_1153 tw_1154 tw_1155 tw_45 tw_1156) rfl rfl rfl cv_yX0_sendings_0 ⟨Nat.le_of_ble_eq_true rfl, Nat.le_of_ble_eq_true rfl⟩) ⟨pq_blind, pq_recv hK hP hL_w_76 hK_w_76 (by decide) rfl, pq_pre hK hN hP hD⟩ rfl rfl hl.1 rfl (lv_room (Nat.le_of_ble_eq_true rfl)) dX10_reckon_80 ⟨Nat.le_of_ble_eq_true rfl, Nat.le_of_ble_eq_true rfl⟩) hD hS hA (fun x_77 σ1 μ1 H locs hw_78 hP hD hS => ?_)
        have hu_79 := hw_78
        obtain ⟨hu_79a, hu_79b⟩ := Prod.mk.inj hu_79
        rw [hu_79a, hu_79b] at hP hD
        refine lv_aload_n hx hb dX10_reckon_83 rfl (lv_at hl 1 rfl) ?_
        refine pg_f (v := .ref w_4) (C := RX10) (T := TX10) (N := 13) hx hb hts (tw_i inlX10) hown hK hP hL_this hK_this (by decide) rfl 9 (by decide) (hts _ (tw_c tw_50)) (pq_hv rfl hR_w_4) dX10_reckon_84 ?_
        refine lv_aload_n hx hb dX10_reckon_87 rfl (lv_at hl 1 rfl) ?_
        refine pg_f (v := .int (I_75 320 this)) (C := RX10) (T := TX10) (N := 13) hx hb hts (tw_i inlX10) hown hK hP hL_this hK_this (by decide) rfl 0 (by decide) (hts _ (tw_c tw_457)) rfl dX10_reckon_88 ?_
        have h_82 : rg (I_75 320 this) 0 599 := (by rw [hG.2.1 320 (by decide) (by decide)]; exact h_3)
        refine pk_i (va_runV (As := [.int (I_75 320 this)]) (rest := [.int x_77, .int (I_75 321 this), .ref this]) ⟨hx, hb, hml, hown, hts⟩ (s_X3_leaveIn l D t σ I_75 J ri_71 rj rq H.size tg hSH hG.1 w_4 (I_75 320 this) hL_w_4 hK_w_4) (cwV 1 hts (tw_V tw_1157 tw_1005 tw_1006 tw_49 tw_1007) rfl rfl rfl cv_yX3_leaveIn_1 ⟨Nat.le_of_ble_eq_true rfl, Nat.le_of_ble_eq_true rfl⟩) ⟨pq_blind, pq_recv hK hP hL_w_4 hK_w_4 (by decide) rfl, pq_pre hK hN hP hD⟩ rfl rfl hl.1 rfl (lv_room (Nat.le_of_ble_eq_true rfl)) dX10_reckon_91 ⟨Nat.le_of_ble_eq_true rfl, Nat.le_of_ble_eq_true rfl⟩) hD hS hA (fun x_83 σ1 μ1 H locs hw_84 hP hD hS => ?_)
        have hu_85 := hw_84
        obtain ⟨hu_85a, hu_85b⟩ := Prod.mk.inj hu_85
        rw [hu_85a, hu_85b] at hP hD
        refine lv_aload_n hx hb dX10_reckon_94 rfl (lv_at hl 1 rfl) ?_
        refine pg_f (v := .int (I_75 324 this)) (C := RX10) (T := TX10) (N := 13) hx hb hts (tw_i inlX10) hown hK hP hL_this hK_this (by decide) rfl 4 (by decide) (hts _ (tw_c tw_32)) rfl dX10_reckon_95 ?_
        refine lv_imul hx hb dX10_reckon_98 ?_
        refine lv_topi (fun x_88 ex_88 => ?_)
        refine lv_bipush (v := 100) hx hb dX10_reckon_99 (by decide) ?_
        refine lv_idiv hx hb dX10_reckon_101 (by decide) ?_
        refine lv_topi (fun x_89 ex_89 => ?_)
        refine lv_iadd hx hb dX10_reckon_102 ?_
        refine lv_topi (fun x_90 ex_90 => ?_)
        refine lv_aload_n hx hb dX10_reckon_103 rfl (lv_at hl 1 rfl) ?_
        refine pg_f (v := .ref w_67) (C := RX10) (T := TX10) (N := 13) hx hb hts (tw_i inlX10) hown hK hP hL_this hK_this (by decide) rfl 6 (by decide) (hts _ (tw_c tw_38)) (pq_hv rfl hR_w_67) dX10_reckon_104 ?_
        refine pg_f (v := .int (I_75 238 w_67)) (C := RX7) (T := TX7) (N := 15) hx hb hts (tw_i inlX7) hown hK hP hL_w_67 hK_w_67 (by decide) rfl 14 (by decide) (hts _ (tw_c tw_1132)) rfl dX10_reckon_107 ?_
        refine lv_aload_n hx hb dX10_reckon_110 rfl (lv_at hl 1 rfl) ?_
        refine pg_f (v := .ref w_64) (C := RX10) (T := TX10) (N := 13) hx hb hts (tw_i inlX10) hown hK hP hL_this hK_this (by decide) rfl 7 (by decide) (hts _ (tw_c tw_42)) (pq_hv rfl hR_w_64) dX10_reckon_111 ?_
        refine pk_i (va_runV (As := []) (rest := [.int (I_75 238 w_67), .int x_90, .int (I_75 321 this), .ref this]) ⟨hx, hb, hml, hown, hts⟩ (s_X2_countWalls l D t σ I_75 J ri_71 rj rq H.size tg hSH hG.1 w_64 hL_w_64 hK_w_64) (cwV 0 hts (tw_V tw_1158 tw_1159 tw_1160 tw_41 tw_1161) rfl rfl rfl cv_yX2_countWalls_0 ⟨Nat.le_of_ble_eq_true rfl, Nat.le_of_ble_eq_true rfl⟩) ⟨pq_blind, pq_recv hK hP hL_w_64 hK_w_64 (by decide) rfl, pq_pre hK hN hP hD⟩ rfl rfl hl.1 rfl (lv_room (Nat.le_of_ble_eq_true rfl)) dX10_reckon_114 ⟨Nat.le_of_ble_eq_true rfl, Nat.le_of_ble_eq_true rfl⟩) hD hS hA (fun x_91 σ1 μ1 H locs hw_92 hP hD hS => ?_)
        have hu_93 := hw_92
        obtain ⟨hu_93a, hu_93b⟩ := Prod.mk.inj hu_93
        rw [hu_93a, hu_93b] at hP hD
        refine lv_imul hx hb dX10_reckon_117 ?_
        refine lv_topi (fun x_96 ex_96 => ?_)
        refine lv_isub hx hb dX10_reckon_118 ?_
        refine lv_topi (fun x_97 ex_97 => ?_)
        refine lv_iadd hx hb dX10_reckon_119 ?_
        refine lv_topi (fun x_98 ex_98 => ?_)
        refine pp_i (v := x_98) (ty := .int) (C := RX10) (T := TX10) (N := 13) hx hb hts (tw_i inlX10) tyX10 tyX10_ok nmX10 hown hK hP hD hS hL_this hK_this (by decide) rfl 1 321 (by decide) (hts _ (tw_c tw_1131)) rfl (tyX10_ok 1 (by decide)) rfl rfl (Nat.le_of_ble_eq_true rfl) (ps_321 _ _ _ _ _) dX10_reckon_120 (fun I_99 H locs eI_99 hP hD hS => ?_)
        have hG := GX.wI hG 321 rfl eI_99 (rg_w (rg_full _) (by decide)) (by decide)
        refine lv_aload_n hx hb dX10_reckon_123 rfl (lv_at hl 1 rfl) ?_
        refine pg_f (v := .int (I_99 321 this)) (C := RX10) (T := TX10) (N := 13) hx hb hts (tw_i inlX10) hown hK hP hL_this hK_this (by decide) rfl 1 (by decide) (hts _ (tw_c tw_1131)) rfl dX10_reckon_124 ?_
        refine lv_if_ge (tgt := 146) hx hb dX10_reckon_127 (by decide) (fun c_100 => ?_) (fun c_100 => ?_)
        · have h_101 : rg (I_99 321 this) 0 2147483647 := rg_le2 c_100 (rg_k (0 : Int32) 0 rfl) (rg_full _) (by decide)
          subst hQ
          exact W.vret hx hb hr (fun t1 ht hW => ⟨⟨(σ, I_99, J, ri_71, rj, rq), rfl, ⟨I_99, ri_71, rfl, hG⟩, by rw [ht]; exact hP, va_K.moved hW.alike hK, hD⟩, hS.F ht⟩) hS.2.2 dX10_reckon_146
        · have h_102 : rg (I_99 321 this) (-2147483648) (-1) := rg_lt1 (nle c_100) (rg_full _) (rg_k (0 : Int32) 0 rfl) (by decide)
          refine lv_aload_n hx hb dX10_reckon_130 rfl (lv_at hl 1 rfl) ?_
          refine pg_f (v := .int (I_99 323 this)) (C := RX10) (T := TX10) (N := 13) hx hb hts (tw_i inlX10) hown hK hP hL_this hK_this (by decide) rfl 3 (by decide) (hts _ (tw_c tw_31)) rfl dX10_reckon_131 ?_
          refine lv_iconst (v := (-1)) hx hb dX10_reckon_134 (by decide) ?_
          refine lv_icmp_ne (tgt := 146) hx hb dX10_reckon_135 (by decide) (fun c_103 => ?_) (fun c_103 => ?_)
          · subst hQ
            exact W.vret hx hb hr (fun t1 ht hW => ⟨⟨(σ, I_99, J, ri_71, rj, rq), rfl, ⟨I_99, ri_71, rfl, hG⟩, by rw [ht]; exact hP, va_K.moved hW.alike hK, hD⟩, hS.F ht⟩) hS.2.2 dX10_reckon_146
          · have h_104 : rg (I_99 323 this) (-1) (-1) := rg_and (rg_full _) (rg_of_eq c_103 (rg_k (-1 : Int32) (-1) rfl)) (by decide)
            refine lv_aload_n hx hb dX10_reckon_138 rfl (lv_at hl 1 rfl) ?_
            refine lv_aload_n hx hb dX10_reckon_139 rfl (lv_at hl 1 rfl) ?_
            refine pg_f (v := .int (I_99 320 this)) (C := RX10) (T := TX10) (N := 13) hx hb hts (tw_i inlX10) hown hK hP hL_this hK_this (by decide) rfl 0 (by decide) (hts _ (tw_c tw_457)) rfl dX10_reckon_140 ?_
            have h_105 : rg (I_99 320 this) 0 599 := (by rw [hG.2.1 320 (by decide) (by decide)]; exact h_3)
            refine pp_i (v := (I_99 320 this)) (ty := .int) (C := RX10) (T := TX10) (N := 13) hx hb hts (tw_i inlX10) tyX10 tyX10_ok nmX10 hown hK hP hD hS hL_this hK_this (by decide) rfl 3 323 (by decide) (hts _ (tw_c tw_31)) rfl (tyX10_ok 3 (by decide)) rfl rfl (Nat.le_of_ble_eq_true rfl) (ps_323 _ _ _ _ _) dX10_reckon_143 (fun I_106 H locs eI_106 hP hD hS => ?_)
            have hG := GX.wI hG 323 rfl eI_106 (rg_w h_105 (by decide)) (by decide)
            subst hQ
            exact W.vret hx hb hr (fun t1 ht hW => ⟨⟨(σ, I_106, J, ri_71, rj, rq), rfl, ⟨I_106, ri_71, rfl, hG⟩, by rw [ht]; exact hP, va_K.moved hW.alike hK, hD⟩, hS.F ht⟩) hS.2.2 dX10_reckon_146
      have K_107 : ∀  (H : Heap) (locs : List Loc) (ls : Array Slot), GX [] tg σ I ri rj I ri rj rq → va_P D vwCl (pq_P t σ (I, J, ri, rj, rq)) H → va_D A (pq_P t σ (I, J, ri, rj, rq)) → va_S A s.heap H locs → lv_has ls 3 [(0, .ref this)] → W p l e ({ frames := 4, cells := 0, slots := 0, locals := 94 } : Room) s m (List.toArray ([.ref this] : List Value)) below meth c H locs 0 0 Q (F0 m 39 ls []) := by
        intro H locs ls hG hP hD hS hl
        refine lv_aload_n hx hb dX10_reckon_39 rfl (lv_at hl 0 rfl) ?_
        refine pg_f (v := .int (I 320 this)) (C := RX10) (T := TX10) (N := 13) hx hb hts (tw_i inlX10) hown hK hP hL_this hK_this (by decide) rfl 0 (by decide) (hts _ (tw_c tw_457)) rfl dX10_reckon_40 ?_
        exact K_61 (I 320 this) _ _ _ (rg_w h_3 (by decide)) hG hP hD hS (lv_sub hl [0] rfl)
      refine lv_if_lt (tgt := 39) hx hb dX10_reckon_24 (by decide) (fun c_108 => ?_) (fun c_108 => ?_)
      · have h_109 : rg x_5 (-2147483648) (-1) := rg_lt1 c_108 (rg_full _) (rg_k (0 : Int32) 0 rfl) (by decide)
        exact K_107 _ _ _ hG hP hD hS (lv_sub hl [1] rfl)
      · have h_110 : rg x_5 0 2147483647 := rg_le2 (nlt c_108) (rg_k (0 : Int32) 0 rfl) (rg_full _) (by decide)
        refine lv_iload_n hx hb dX10_reckon_27 rfl (lv_at hl 0 rfl) ?_
        refine lv_aload_n hx hb dX10_reckon_28 rfl (lv_at hl 1 rfl) ?_
        refine pg_f (v := .int (I 320 this)) (C := RX10) (T := TX10) (N := 13) hx hb hts (tw_i inlX10) hown hK hP hL_this hK_this (by decide) rfl 0 (by decide) (hts _ (tw_c tw_457)) rfl dX10_reckon_29 ?_
        refine lv_icmp_ge (tgt := 39) hx hb dX10_reckon_32 (by decide) (fun c_111 => ?_) (fun c_111 => ?_)
        · exact K_107 _ _ _ hG hP hD hS (lv_sub hl [1] rfl)
        · have h_112 : rg x_5 0 598 := rg_lt1 (nle c_111) h_110 h_3 (by decide)
          have h_113 : rg (I 320 this) 1 599 := rg_lt2 (nle c_111) h_110 h_3 (by decide)
          refine lv_iload_n hx hb dX10_reckon_35 rfl (lv_at hl 0 rfl) ?_
          refine lv_goto (tgt := 43) hx hb dX10_reckon_36 (by decide) ?_
          exact K_61 x_5 _ _ _ (rg_w h_112 (by decide)) hG hP hD hS (lv_sub hl [1] rfl)
    · have h_114 : rg (I 320 this) 600 600 := rg_le2 (nlt c_2) (rg_k (600 : Int32) 600 rfl) h_1 (by decide)
      subst hQ
      exact W.vret hx hb hr (fun t1 ht hW => ⟨⟨(σ, I, J, ri, rj, rq), rfl, ⟨I, ri, rfl, hG⟩, by rw [ht]; exact hP, va_K.moved hW.alike hK, hD⟩, hS.F ht⟩) hS.2.2 dX10_reckon_10
  exact go _ _ _ hP hD hS hl

set_option maxHeartbeats 4000000 in
set_option maxRecDepth 100000 in
theorem s_X3_line_331 (l : Launch) (D : va_G) (t : pq_T) (σ : pq_S) (I : Nat → Nat → Int32) (J : Nat → Nat → Int64) (ri : Nat → Nat → Int32) (rj : Nat → Nat → Int64) (rq : Nat → Nat → Option Nat) (sz : Nat) (tg : Nat → Nat) (hSH : SH σ tg) (hG0 : GS tg σ I ri rq) (this : Nat) (a0 : Int32) (a1 : Int32) (a2 : Nat) (a3 : Nat) (hL_this : this ∈ σ.1) (hK_this : σ.2.1 this = 3) (hL_a2 : a2 ∈ σ.1) (hK_a2 : σ.2.1 a2 = 0) (hL_a3 : a3 ∈ σ.1) (hK_a3 : σ.2.1 a3 = 13) (hN_a3 : σ.2.2.2 a3 = 40) (hT_a3 : tg a3 = 331) : MetV l yX3_line (wa yX3_line cX3_line 11 none) ({ frames := 2, cells := 0, slots := 0, locals := 67 }) [.ref this, .int a0, .int a1, .ref a2, .ref a3] D t σ (I, J, ri, rj, rq) sz 0 0 (fun (u : pq_S × pq_M) => ∃ ri' : Nat → Nat → Int32, u = (σ, I, J, ri', rj, rq) ∧ GX [] tg σ I ri rj I ri' rj rq) := by
  refine Met.ofW (cc := cX3_line) (maxL := 11) (ret := none) (by decide) rfl ?_
  intro p e s m args below meth c s₁ B hml hv
  obtain ⟨rfl, hsz, hP, hK, hD0, hN⟩ := hv
  have hx := B.exec
  have hb := B.bytes
  have hr := B.returns
  have hts := atoms_spec (ws := (wa yX3_line cX3_line 11 none)) B.pre
  have hown : s.vm.findClass RX3 = some m.cls := findClass_of_methodNamed B.named
  have hlocks := B.notSynchronized
  subst hsz
  have hD : va_D (pq_B t σ (I, J, ri, rj, rq) s.heap.size) (pq_P t σ (I, J, ri, rj, rq)) := hD0.self
  generalize hAe : pq_B t σ (I, J, ri, rj, rq) s.heap.size = A at hD ⊢
  have hA : ∀ q : Nat, s.heap.size ≤ q → A q := fun q h => by rw [← hAe]; exact Or.inr h
  have hS : va_S A s.heap s.heap [] := va_S.rf
  have hG : GX [] tg σ I ri rj I ri rj rq := ⟨hG0, fun _ _ _ => rfl, fun _ _ _ _ _ => rfl, fun _ _ _ _ _ => rfl⟩
  have hl := lv_entry ([.ref this, .int a0, .int a1, .ref a2, .ref a3]) (n := 11) (Nat.le_of_ble_eq_true rfl)
  rw [lg_entry_eq]
  generalize (lg_sl ([.ref this, .int a0, .int a1, .ref a2, .ref a3]) ++ List.replicate (11 - (lg_sl ([.ref this, .int a0, .int a1, .ref a2, .ref a3])).length) Slot.unset).toArray = ls at hl ⊢
  have hl : lv_has ls 11 [(0, .ref this), (1, .int a0), (2, .int a1), (3, .ref a2), (4, .ref a3)] := hl
  refine q_gen (fun Q hQ => ?_)
  have go : ∀ (H : Heap) (locs : List Loc) (ls : Array Slot), va_P D vwCl (pq_P t σ (I, J, ri, rj, rq)) H → va_D A (pq_P t σ (I, J, ri, rj, rq)) → va_S A s.heap H locs → lv_has ls 11 [(0, .ref this), (1, .int a0), (2, .int a1), (3, .ref a2), (4, .ref a3)] → W p l e ({ frames := 2, cells := 0, slots := 0, locals := 67 } : Room) s m (List.toArray ([.ref this, .int a0, .int a1, .ref a2, .ref a3] : List Value)) below meth c H locs 0 0 Q (F0 m 0 ls []) := by
    intro H locs ls hP hD hS hl
    refine lv_aload_n hx hb dX3_line_0 rfl (lv_at hl 3 rfl) ?_
    refine pg_f (v := .int (I 0 a2)) (C := RX0) (T := TX0) (N := 16) hx hb hts (tw_i inlX0) hown hK hP hL_a2 hK_a2 (by decide) rfl 0 (by decide) (hts _ (tw_c tw_465)) rfl dX3_line_1 ?_
    have h_1 : rg (I 0 a2) 0 40 := GX.rI hG 0 rfl
    refine lv_aload hx hb dX3_line_4 (lv_at hl 4 rfl) ?_
    refine pn_i (v := 40) hx hb hK hP hL_a3 hK_a3 hN_a3 (by decide) dX3_line_6 ?_
    refine va_mmin hx hb (hml.trans hl.1.symm) hown (hts _ (tw_c tw_466)) (hts _ (tw_c tw_467)) (hts _ (tw_c tw_276)) (hts _ (tw_c tw_468)) (Nat.le_of_ble_eq_true rfl) (Nat.le_of_ble_eq_true rfl) (Nat.zero_le _) (Nat.zero_le _) dX3_line_7 ?_
    refine lv_topi (fun x_2 ex_2 => ?_)
    have h_3 : rg x_2 0 40 := rg_of_eq ex_2 (rg_min2 h_1 (rg_k (40 : Int32) 40 rfl) (by decide))
    refine lv_istore (lv' := [(5, .int x_2), (0, .ref this), (1, .int a0), (2, .int a1), (3, .ref a2), (4, .ref a3)]) hx hb dX3_line_10 hl (by decide) rfl (fun ls hl => ?_)
    refine lv_iconst (v := 0) hx hb dX3_line_12 (by decide) ?_
    refine lv_istore (lv' := [(6, .int 0), (5, .int x_2), (0, .ref this), (1, .int a0), (2, .int a1), (3, .ref a2), (4, .ref a3)]) hx hb dX3_line_13 hl (by decide) rfl (fun ls hl => ?_)
    have L_19265 : ∀ (n_19264 : Nat) (x_16821 : Int32) (ri_16822 : Nat → Nat → Int32) (H : Heap) (locs : List Loc) (ls : Array Slot), rg x_16821 0 40 → (40 - (x_16821).toInt).toNat < n_19264 → GX [] tg σ I ri rj I ri_16822 rj rq → va_P D vwCl (pq_P t σ (I, J, ri_16822, rj, rq)) H → va_D A (pq_P t σ (I, J, ri_16822, rj, rq)) → va_S A s.heap H locs → lv_has ls 11 [(0, .ref this), (1, .int a0), (2, .int a1), (3, .ref a2), (4, .ref a3), (5, .int x_2), (6, .int x_16821)] → W p l e ({ frames := 2, cells := 0, slots := 0, locals := 67 } : Room) s m (List.toArray ([.ref this, .int a0, .int a1, .ref a2, .ref a3] : List Value)) below meth c H locs 0 0 Q (F0 m 15 ls []) := by
      intro n_19264
      induction n_19264 with
      | zero => intro x_16821 ri_16822 H locs ls h_19268 hm_19263 hG hP hD hS hl; exact absurd hm_19263 (Nat.not_lt_zero _)
      | succ n_19264 ih_19266 =>
        intro x_16821 ri_16822 H locs ls h_19268 hm_19263 hG hP hD hS hl
        refine lv_iload hx hb dX3_line_15 (lv_at hl 6 rfl) ?_
        refine lv_iload hx hb dX3_line_17 (lv_at hl 5 rfl) ?_
        refine lv_icmp_ge (tgt := 35) hx hb dX3_line_19 (by decide) (fun c_19269 => ?_) (fun c_19269 => ?_)
        · refine lv_aload_n hx hb dX3_line_35 rfl (lv_at hl 0 rfl) ?_
          refine lv_iload_n hx hb dX3_line_36 rfl (lv_at hl 1 rfl) ?_
          refine lv_iload_n hx hb dX3_line_37 rfl (lv_at hl 2 rfl) ?_
          refine pk_q (va_runV (As := [.int a0, .int a1]) (rest := []) ⟨hx, hb, hml, hown, hts⟩ (s_X3_textFor l D t σ I J ri_16822 rj rq H.size tg hSH hG.1 this a0 a1 hL_this hK_this) (cwV 2 hts (tw_V tw_469 tw_470 tw_471 tw_49 tw_472) rfl rfl rfl cv_yX3_textFor_2 ⟨Nat.le_of_ble_eq_true rfl, Nat.le_of_ble_eq_true rfl⟩) ⟨pq_blind, pq_recv hK hP hL_this hK_this (by decide) rfl, pq_pre hK hN hP hD⟩ rfl rfl hl.1 rfl (lv_room (Nat.le_of_ble_eq_true rfl)) dX3_line_38 ⟨Nat.le_of_ble_eq_true rfl, Nat.le_of_ble_eq_true rfl⟩) hD hS hA (fun x_19270 σ1 μ1 H locs hw_19271 hP hD hS => ?_)
          obtain ⟨hu_19272, hr_19274⟩ := hw_19271
          obtain ⟨hu_19272a, hu_19272b⟩ := Prod.mk.inj hu_19272
          rw [hu_19272a, hu_19272b] at hP hD
          rcases hr_19274 with rfl | ⟨w_x_19270, rfl, hL_w_x_19270, hK_w_x_19270⟩
          · refine lv_astoreN (lv' := [(6, .null), (0, .ref this), (1, .int a0), (2, .int a1), (3, .ref a2), (4, .ref a3), (5, .int x_2)]) hx hb dX3_line_41 hl (by decide) rfl (fun ls hl => ?_)
            refine lv_aloadN hx hb dX3_line_43 (lv_at hl 0 rfl) ?_
            refine lv_ifnonnullN hx hb dX3_line_45 ?_
            subst hQ
            exact W.vret hx hb hr (fun t1 ht hW => ⟨⟨(σ, I, J, ri_16822, rj, rq), rfl, ⟨ri_16822, rfl, hG⟩, by rw [ht]; exact hP, va_K.moved hW.alike hK, hD⟩, hS.F ht⟩) hS.2.2 dX3_line_48
          · refine lv_astore (lv' := [(6, .ref w_x_19270), (0, .ref this), (1, .int a0), (2, .int a1), (3, .ref a2), (4, .ref a3), (5, .int x_2)]) hx hb dX3_line_41 hl (by decide) rfl (fun ls hl => ?_)
            refine lv_aload hx hb dX3_line_43 (lv_at hl 0 rfl) ?_
            refine lv_ifnonnull (tgt := 49) hx hb dX3_line_45 (by decide) ?_
            refine lv_aload hx hb dX3_line_49 (lv_at hl 0 rfl) ?_
            refine lv_iload_n hx hb dX3_line_51 rfl (lv_at hl 2 rfl) ?_
            refine pk_i (va_runV (As := [.int a0]) (rest := []) ⟨hx, hb, hml, hown, hts⟩ (s_X8_firstOf l D t σ I J ri_16822 rj rq H.size tg hSH hG.1 w_x_19270 a0 hL_w_x_19270 hK_w_x_19270) (cwV 1 hts (tw_V tw_474 tw_475 tw_476 tw_159 tw_477) rfl rfl rfl cv_yX8_firstOf_1 ⟨Nat.le_of_ble_eq_true rfl, Nat.le_of_ble_eq_true rfl⟩) ⟨pq_blind, pq_recv hK hP hL_w_x_19270 hK_w_x_19270 (by decide) rfl, pq_pre hK hN hP hD⟩ rfl rfl hl.1 rfl (lv_room (Nat.le_of_ble_eq_true rfl)) dX3_line_52 ⟨Nat.le_of_ble_eq_true rfl, Nat.le_of_ble_eq_true rfl⟩) hD hS hA (fun x_19275 σ1 μ1 H locs hw_19276 hP hD hS => ?_)
            obtain ⟨hu_19277, hp_19280, hr_19279⟩ := hw_19276
            obtain ⟨hu_19277a, hu_19277b⟩ := Prod.mk.inj hu_19277
            rw [hu_19277a, hu_19277b] at hP hD
            refine lv_istore (lv' := [(7, .int x_19275), (6, .ref w_x_19270), (0, .ref this), (1, .int a0), (2, .int a1), (3, .ref a2), (4, .ref a3), (5, .int x_2)]) hx hb dX3_line_55 hl (by decide) rfl (fun ls hl => ?_)
            refine lv_iconst (v := 1) hx hb dX3_line_57 (by decide) ?_
            refine lv_istore (lv' := [(8, .int 1), (7, .int x_19275), (6, .ref w_x_19270), (0, .ref this), (1, .int a0), (2, .int a1), (3, .ref a2), (4, .ref a3), (5, .int x_2)]) hx hb dX3_line_58 hl (by decide) rfl (fun ls hl => ?_)
            have L_21518 : ∀ (n_21517 : Nat) (x_21329 : Int32) (ri_21330 : Nat → Nat → Int32) (H : Heap) (locs : List Loc) (ls : Array Slot), rg x_21329 1 40 → (40 - (x_21329).toInt).toNat < n_21517 → GX [] tg σ I ri rj I ri_21330 rj rq → va_P D vwCl (pq_P t σ (I, J, ri_21330, rj, rq)) H → va_D A (pq_P t σ (I, J, ri_21330, rj, rq)) → va_S A s.heap H locs → lv_has ls 11 [(3, .ref a2), (4, .ref a3), (5, .int x_2), (6, .ref w_x_19270), (7, .int x_19275), (8, .int x_21329)] → W p l e ({ frames := 2, cells := 0, slots := 0, locals := 67 } : Room) s m (List.toArray ([.ref this, .int a0, .int a1, .ref a2, .ref a3] : List Value)) below meth c H locs 0 0 Q (F0 m 60 ls []) := by
              intro n_21517
              induction n_21517 with
              | zero => intro x_21329 ri_21330 H locs ls h_21521 hm_21516 hG hP hD hS hl; exact absurd hm_21516 (Nat.not_lt_zero _)
              | succ n_21517 ih_21519 =>
                intro x_21329 ri_21330 H locs ls h_21521 hm_21516 hG hP hD hS hl
                refine lv_iload hx hb dX3_line_60 (lv_at hl 5 rfl) ?_
                refine lv_iload hx hb dX3_line_62 (lv_at hl 2 rfl) ?_
                refine lv_icmp_ge (tgt := 134) hx hb dX3_line_64 (by decide) (fun c_21522 => ?_) (fun c_21522 => ?_)
                · subst hQ
                  exact W.vret hx hb hr (fun t1 ht hW => ⟨⟨(σ, I, J, ri_21330, rj, rq), rfl, ⟨ri_21330, rfl, hG⟩, by rw [ht]; exact hP, va_K.moved hW.alike hK, hD⟩, hS.F ht⟩) hS.2.2 dX3_line_134
                · have h_21523 : rg x_21329 1 39 := rg_lt1 (nle c_21522) h_21521 h_3 (by decide)
                  have h_21524 : rg x_2 2 40 := rg_lt2 (nle c_21522) h_21521 h_3 (by decide)
                  refine lv_aload hx hb dX3_line_67 (lv_at hl 1 rfl) ?_
                  refine lv_iload hx hb dX3_line_69 (lv_at hl 5 rfl) ?_
                  refine pl_i hx hb hK hP hL_a3 hK_a3 hN_a3 (rg_in h_21523 (by decide)) dX3_line_71 ?_
                  refine lv_topi (fun x_21525 ex_21525 => ?_)
                  have h_21526 : rg x_21525 0 39 := rg_of_eq ex_21525 (GX.rR hG hT_a3 rfl)
                  refine lv_istore (lv' := [(9, .int x_21525), (3, .ref a2), (4, .ref a3), (5, .int x_2), (6, .ref w_x_19270), (7, .int x_19275), (8, .int x_21329)]) hx hb dX3_line_72 hl (by decide) rfl (fun ls hl => ?_)
                  refine lv_iload hx hb dX3_line_74 (lv_at hl 6 rfl) ?_
                  refine lv_istore (lv' := [(10, .int x_21329), (9, .int x_21525), (3, .ref a2), (4, .ref a3), (5, .int x_2), (6, .ref w_x_19270), (7, .int x_19275), (8, .int x_21329)]) hx hb dX3_line_76 hl (by decide) rfl (fun ls hl => ?_)
                  have L_21677 : ∀ (n_21676 : Nat) (x_21644 : Int32) (ri_21645 : Nat → Nat → Int32) (H : Heap) (locs : List Loc) (ls : Array Slot), rg x_21644 0 39 → ((x_21644).toInt - 0).toNat < n_21676 → GX [] tg σ I ri rj I ri_21645 rj rq → va_P D vwCl (pq_P t σ (I, J, ri_21645, rj, rq)) H → va_D A (pq_P t σ (I, J, ri_21645, rj, rq)) → va_S A s.heap H locs → lv_has ls 11 [(3, .ref a2), (4, .ref a3), (5, .int x_2), (6, .ref w_x_19270), (7, .int x_19275), (8, .int x_21329), (9, .int x_21525), (10, .int x_21644)] → W p l e ({ frames := 2, cells := 0, slots := 0, locals := 67 } : Room) s m (List.toArray ([.ref this, .int a0, .int a1, .ref a2, .ref a3] : List Value)) below meth c H locs 0 0 Q (F0 m 78 ls []) := by
                    intro n_21676
                    induction n_21676 with
                    | zero => intro x_21644 ri_21645 H locs ls h_21680 hm_21675 hG hP hD hS hl; exact absurd hm_21675 (Nat.not_lt_zero _)
                    | succ n_21676 ih_21678 =>
                      intro x_21644 ri_21645 H locs ls h_21680 hm_21675 hG hP hD hS hl
                      refine lv_iload hx hb dX3_line_78 (lv_at hl 7 rfl) ?_
                      have K_21709 : ∀  (H : Heap) (locs : List Loc) (ls : Array Slot), GX [] tg σ I ri rj I ri_21645 rj rq → va_P D vwCl (pq_P t σ (I, J, ri_21645, rj, rq)) H → va_D A (pq_P t σ (I, J, ri_21645, rj, rq)) → va_S A s.heap H locs → lv_has ls 11 [(3, .ref a2), (4, .ref a3), (5, .int x_2), (6, .ref w_x_19270), (7, .int x_19275), (8, .int x_21329), (9, .int x_21525), (10, .int x_21644)] → W p l e ({ frames := 2, cells := 0, slots := 0, locals := 67 } : Room) s m (List.toArray ([.ref this, .int a0, .int a1, .ref a2, .ref a3] : List Value)) below meth c H locs 0 0 Q (F0 m 121 ls []) := by
                        intro H locs ls hG hP hD hS hl
                        refine lv_aload hx hb dX3_line_121 (lv_at hl 1 rfl) ?_
                        refine lv_iload hx hb dX3_line_123 (lv_at hl 7 rfl) ?_
                        refine lv_iload hx hb dX3_line_125 (lv_at hl 6 rfl) ?_
                        refine pt_i hx hb hK hP hD hS hL_a3 hK_a3 hN_a3 (rg_in h_21680 (by decide)) dX3_line_127 (fun r_21710 H locs er_21710 hP hD hS => ?_)
                        have hG := GX.wR hG hSH hT_a3 rfl er_21710 (rg_w h_21526 (by decide)) (by decide)
                        obtain ⟨x_21711, ex_21711⟩ : ∃ y : Int32, y = x_21329 + Int32.ofInt 1 := ⟨_, rfl⟩
                        have h_21712 : rg x_21711 2 40 := rg_of_eq ex_21711 (rg_add h_21523 (rg_k (Int32.ofInt 1) 1 rfl) (by decide))
                        refine lv_iinc (v := x_21711) (lv' := [(8, .int x_21711), (3, .ref a2), (4, .ref a3), (5, .int x_2), (6, .ref w_x_19270), (7, .int x_19275), (9, .int x_21525), (10, .int x_21644)]) hx hb dX3_line_128 hl (k := 5) rfl ex_21711.symm (by decide) rfl (fun ls hl => ?_)
                        refine lv_goto (tgt := 60) hx hb dX3_line_131 (by decide) ?_
                        exact ih_21519 x_21711 r_21710 _ _ _ (rg_w h_21712 (by decide)) (ms_up 1 hm_21516 ex_21711 rfl (by decide) h_21523 (by decide) (by decide)) hG hP hD hS (lv_sub hl [1, 2, 3, 4, 5, 0] rfl)
                      refine lv_if_le (tgt := 121) hx hb dX3_line_80 (by decide) (fun c_21713 => ?_) (fun c_21713 => ?_)
                      · have h_21714 : rg x_21644 0 0 := rg_le1 c_21713 h_21680 (rg_k (0 : Int32) 0 rfl) (by decide)
                        exact K_21709 _ _ _ hG hP hD hS (lv_sub hl [0, 1, 2, 3, 4, 5, 6, 7] rfl)
                      · have h_21715 : rg x_21644 1 39 := rg_lt2 (nle c_21713) (rg_k (0 : Int32) 0 rfl) h_21680 (by decide)
                        refine lv_aload hx hb dX3_line_83 (lv_at hl 3 rfl) ?_
                        refine lv_iload hx hb dX3_line_85 (lv_at hl 4 rfl) ?_
                        refine lv_aload_n hx hb dX3_line_87 rfl (lv_at hl 0 rfl) ?_
                        refine lv_iload hx hb dX3_line_88 (lv_at hl 6 rfl) ?_
                        refine lv_aload hx hb dX3_line_90 (lv_at hl 1 rfl) ?_
                        refine lv_iload hx hb dX3_line_92 (lv_at hl 7 rfl) ?_
                        refine lv_iconst (v := 1) hx hb dX3_line_94 (by decide) ?_
                        refine lv_isub hx hb dX3_line_95 ?_
                        refine lv_topi (fun x_21716 ex_21716 => ?_)
                        have h_21717 : rg x_21716 0 38 := rg_of_eq ex_21716 (rg_sub h_21715 (rg_k (1 : Int32) 1 rfl) (by decide))
                        refine pl_i hx hb hK hP hL_a3 hK_a3 hN_a3 (rg_in h_21717 (by decide)) dX3_line_96 ?_
                        refine lv_topi (fun x_21718 ex_21718 => ?_)
                        have h_21719 : rg x_21718 0 39 := rg_of_eq ex_21718 (GX.rR hG hT_a3 rfl)
                        refine pk_i (va_runV (As := [.int x_19275, .ref a2, .int x_21525, .int x_21718]) (rest := []) ⟨hx, hb, hml, hown, hts⟩ (s_X8_isAhead l D t σ I J ri_21645 rj rq H.size tg hSH hG.1 w_x_19270 x_19275 a2 x_21525 x_21718 hL_w_x_19270 hK_w_x_19270 hL_a2 hK_a2 (rg_w h_21526 (by decide)) (rg_w h_21719 (by decide))) (cwV 4 hts (tw_V tw_479 tw_480 tw_481 tw_159 tw_482) rfl rfl rfl cv_yX8_isAhead_4 ⟨Nat.le_of_ble_eq_true rfl, Nat.le_of_ble_eq_true rfl⟩) ⟨pq_blind, pq_recv hK hP hL_w_x_19270 hK_w_x_19270 (by decide) rfl, pq_pre hK hN hP hD⟩ rfl rfl hl.1 rfl (lv_room (Nat.le_of_ble_eq_true rfl)) dX3_line_97 ⟨Nat.le_of_ble_eq_true rfl, Nat.le_of_ble_eq_true rfl⟩) hD hS hA (fun x_21720 σ1 μ1 H locs hw_21721 hP hD hS => ?_)
                        obtain ⟨hu_21722, hr_21724⟩ := hw_21721
                        obtain ⟨hu_21722a, hu_21722b⟩ := Prod.mk.inj hu_21722
                        rw [hu_21722a, hu_21722b] at hP hD
                        have h_21725 : rg x_21720 0 1 := by rcases hr_21724 with ⟨q, -⟩ | ⟨q, -⟩ <;> rw [q] <;> exact ⟨by decide, by decide⟩
                        refine lv_if_eq (tgt := 121) hx hb dX3_line_100 (by decide) (fun c_21726 => ?_) (fun c_21726 => ?_)
                        · have f_21727 := (hr_21724.resolve_left (fun q => absurd (q.1.symm.trans c_21726) (by decide))).2
                          have h_21728 : rg x_21720 0 0 := rg_and h_21725 (rg_of_eq c_21726 (rg_k (0 : Int32) 0 rfl)) (by decide)
                          exact K_21709 _ _ _ hG hP hD hS (lv_sub hl [0, 1, 2, 3, 4, 5, 6, 7] rfl)
                        · have f_21729 := (hr_21724.resolve_right (fun q => c_21726 q.1)).2
                          have h_21730 : rg x_21720 1 1 := rg_ne c_21726 h_21725 0 rfl (by decide)
                          refine lv_aload hx hb dX3_line_103 (lv_at hl 1 rfl) ?_
                          refine lv_iload hx hb dX3_line_105 (lv_at hl 7 rfl) ?_
                          refine lv_aload hx hb dX3_line_107 (lv_at hl 1 rfl) ?_
                          refine lv_iload hx hb dX3_line_109 (lv_at hl 7 rfl) ?_
                          refine lv_iconst (v := 1) hx hb dX3_line_111 (by decide) ?_
                          refine lv_isub hx hb dX3_line_112 ?_
                          refine lv_topi (fun x_21731 ex_21731 => ?_)
                          have h_21732 : rg x_21731 0 38 := rg_of_eq ex_21731 (rg_sub h_21715 (rg_k (1 : Int32) 1 rfl) (by decide))
                          refine pl_i hx hb hK hP hL_a3 hK_a3 hN_a3 (rg_in h_21732 (by decide)) dX3_line_113 ?_
                          refine lv_topi (fun x_21733 ex_21733 => ?_)
                          have h_21734 : rg x_21733 0 39 := rg_of_eq ex_21733 (GX.rR hG hT_a3 rfl)
                          refine pt_i hx hb hK hP hD hS hL_a3 hK_a3 hN_a3 (rg_in h_21715 (by decide)) dX3_line_114 (fun r_21735 H locs er_21735 hP hD hS => ?_)
                          have hG := GX.wR hG hSH hT_a3 rfl er_21735 (rg_w h_21734 (by decide)) (by decide)
                          obtain ⟨x_21736, ex_21736⟩ : ∃ y : Int32, y = x_21644 + Int32.ofInt (-1) := ⟨_, rfl⟩
                          have h_21737 : rg x_21736 0 38 := rg_of_eq ex_21736 (rg_add h_21715 (rg_k (Int32.ofInt (-1)) (-1) rfl) (by decide))
                          refine lv_iinc (v := x_21736) (lv' := [(10, .int x_21736), (3, .ref a2), (4, .ref a3), (5, .int x_2), (6, .ref w_x_19270), (7, .int x_19275), (8, .int x_21329), (9, .int x_21525)]) hx hb dX3_line_115 hl (k := 7) rfl ex_21736.symm (by decide) rfl (fun ls hl => ?_)
                          refine lv_goto (tgt := 78) hx hb dX3_line_118 (by decide) ?_
                          exact ih_21678 x_21736 r_21735 _ _ _ (rg_w h_21737 (by decide)) (ms_dn 1 hm_21675 ex_21736 rfl (by decide) h_21715 (by decide) (by decide)) hG hP hD hS (lv_sub hl [1, 2, 3, 4, 5, 6, 7, 0] rfl)
                  exact L_21677 _ x_21329 ri_21330 _ _ _ (rg_w h_21523 (by decide)) (Nat.lt_succ_self _) hG hP hD hS (lv_sub hl [2, 3, 4, 5, 6, 7, 1, 0] rfl)
            exact L_21518 _ (1 : Int32) ri_16822 _ _ _ (rg_w (rg_k (1 : Int32) 1 rfl) (by decide)) (Nat.lt_succ_self _) hG hP hD hS (lv_sub hl [6, 7, 8, 2, 1, 0] rfl)
        · have h_21738 : rg x_16821 0 39 := rg_lt1 (nle c_19269) h_19268 h_3 (by decide)
          have h_21739 : rg x_2 1 40 := rg_lt2 (nle c_19269) h_19268 h_3 (by decide)
          refine lv_aload hx hb dX3_line_22 (lv_at hl 4 rfl) ?_
          refine lv_iload hx hb dX3_line_24 (lv_at hl 6 rfl) ?_
          refine lv_iload hx hb dX3_line_26 (lv_at hl 6 rfl) ?_
          refine pt_i hx hb hK hP hD hS hL_a3 hK_a3 hN_a3 (rg_in h_21738 (by decide)) dX3_line_28 (fun r_21740 H locs er_21740 hP hD hS => ?_)
          have hG := GX.wR hG hSH hT_a3 rfl er_21740 (rg_w h_21738 (by decide)) (by decide)
          obtain ⟨x_21741, ex_21741⟩ : ∃ y : Int32, y = x_16821 + Int32.ofInt 1 := ⟨_, rfl⟩
          have h_21742 : rg x_21741 1 40 := rg_of_eq ex_21741 (rg_add h_21738 (rg_k (Int32.ofInt 1) 1 rfl) (by decide))
          refine lv_iinc (v := x_21741) (lv' := [(6, .int x_21741), (0, .ref this), (1, .int a0), (2, .int a1), (3, .ref a2), (4, .ref a3), (5, .int x_2)]) hx hb dX3_line_29 hl (k := 6) rfl ex_21741.symm (by decide) rfl (fun ls hl => ?_)
          refine lv_goto (tgt := 15) hx hb dX3_line_32 (by decide) ?_
          exact ih_19266 x_21741 r_21740 _ _ _ (rg_w h_21742 (by decide)) (ms_up 1 hm_19263 ex_21741 rfl (by decide) h_21738 (by decide) (by decide)) hG hP hD hS (lv_sub hl [1, 2, 3, 4, 5, 6, 0] rfl)
    exact L_19265 _ (0 : Int32) ri _ _ _ (rg_w (rg_k (0 : Int32) 0 rfl) (by decide)) (Nat.lt_succ_self _) hG hP hD hS (lv_sub hl [2, 3, 4, 5, 6, 1, 0] rfl)
  exact go _ _ _ hP hD hS hl
