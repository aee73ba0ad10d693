theorem dX6_takeNumber_0 : decode cX6_takeNumber 0 = .ok (.aload_n 0, 1) := by decide +kernel
theorem dX6_takeNumber_1 : decode cX6_takeNumber 1 = .ok (.bipush 18, 2) := by decide +kernel
theorem dX6_takeNumber_3 : decode cX6_takeNumber 3 = .ok (.putfield 25, 3) := by decide +kernel
theorem dX6_takeNumber_6 : decode cX6_takeNumber 6 = .ok (.aload_n 0, 1) := by decide +kernel
theorem dX6_takeNumber_7 : decode cX6_takeNumber 7 = .ok (.iconst 0, 1) := by decide +kernel
theorem tw_676 : Cond.fieldLink RX6 48 "RingsUnder$Scanner" "value" "I" ∈ wsL_law := List.mem_of_getElem? (i := 676) (by decide +kernel)
theorem dX6_takeNumber_8 : decode cX6_takeNumber 8 = .ok (.putfield 48, 3) := by decide +kernel
theorem dX6_takeNumber_11 : decode cX6_takeNumber 11 = .ok (.aload_n 0, 1) := by decide +kernel
theorem dX6_takeNumber_12 : decode cX6_takeNumber 12 = .ok (.getfield 19, 3) := by decide +kernel
theorem dX6_takeNumber_15 : decode cX6_takeNumber 15 = .ok (.aload_n 0, 1) := by decide +kernel
theorem dX6_takeNumber_16 : decode cX6_takeNumber 16 = .ok (.getfield 15, 3) := by decide +kernel
theorem dX6_takeNumber_19 : decode cX6_takeNumber 19 = .ok (.if_icmp .ge 61, 3) := by decide +kernel
theorem dX6_takeNumber_80 : decode cX6_takeNumber 80 = .ok (.return_, 1) := by decide +kernel
theorem dX6_takeNumber_22 : decode cX6_takeNumber 22 = .ok (.aload_n 0, 1) := by decide +kernel
theorem dX6_takeNumber_23 : decode cX6_takeNumber 23 = .ok (.getfield 9, 3) := by decide +kernel
theorem dX6_takeNumber_26 : decode cX6_takeNumber 26 = .ok (.aload_n 0, 1) := by decide +kernel
theorem dX6_takeNumber_27 : decode cX6_takeNumber 27 = .ok (.getfield 19, 3) := by decide +kernel
theorem dX6_takeNumber_30 : decode cX6_takeNumber 30 = .ok (.iaload, 1) := by decide +kernel
theorem tw_669 : Cond.methodLink RX6 28 yX6_isDigit ∈ wsL_law := List.mem_of_getElem? (i := 669) (by decide +kernel)
theorem tw_670 : Cond.static yX6_isDigit ∈ wsL_law := List.mem_of_getElem? (i := 670) (by decide +kernel)
theorem tw_153 : Cond.initialized RX6 ∈ wsL_law := List.mem_of_getElem? (i := 153) (by decide +kernel)
theorem tw_671 : Cond.code yX6_isDigit cX6_isDigit 1 (some .boolean) ∈ wsL_law := List.mem_of_getElem? (i := 671) (by decide +kernel)
theorem dX6_takeNumber_31 : decode cX6_takeNumber 31 = .ok (.invokestatic 28, 3) := by decide +kernel
theorem dX6_takeNumber_34 : decode cX6_takeNumber 34 = .ok (.ifCond .eq 46, 3) := by decide +kernel
theorem dX6_takeNumber_37 : decode cX6_takeNumber 37 = .ok (.aload_n 0, 1) := by decide +kernel
theorem dX6_takeNumber_38 : decode cX6_takeNumber 38 = .ok (.sipush 10000, 3) := by decide +kernel
theorem dX6_takeNumber_41 : decode cX6_takeNumber 41 = .ok (.aload_n 0, 1) := by decide +kernel
theorem dX6_takeNumber_42 : decode cX6_takeNumber 42 = .ok (.getfield 48, 3) := by decide +kernel
theorem dX6_takeNumber_45 : decode cX6_takeNumber 45 = .ok (.bipush 10, 2) := by decide +kernel
theorem dX6_takeNumber_47 : decode cX6_takeNumber 47 = .ok (.imul, 1) := by decide +kernel
theorem dX6_takeNumber_48 : decode cX6_takeNumber 48 = .ok (.aload_n 0, 1) := by decide +kernel
theorem dX6_takeNumber_49 : decode cX6_takeNumber 49 = .ok (.getfield 9, 3) := by decide +kernel
theorem dX6_takeNumber_52 : decode cX6_takeNumber 52 = .ok (.aload_n 0, 1) := by decide +kernel
theorem dX6_takeNumber_53 : decode cX6_takeNumber 53 = .ok (.getfield 19, 3) := by decide +kernel
theorem dX6_takeNumber_56 : decode cX6_takeNumber 56 = .ok (.iaload, 1) := by decide +kernel
theorem dX6_takeNumber_57 : decode cX6_takeNumber 57 = .ok (.iadd, 1) := by decide +kernel
theorem dX6_takeNumber_58 : decode cX6_takeNumber 58 = .ok (.bipush 48, 2) := by decide +kernel
theorem dX6_takeNumber_60 : decode cX6_takeNumber 60 = .ok (.isub, 1) := by decide +kernel
theorem tw_677 : Cond.methodLink RX6 51 Lib.Math.min.name ∈ wsL_law := List.mem_of_getElem? (i := 677) (by decide +kernel)
theorem dX6_takeNumber_61 : decode cX6_takeNumber 61 = .ok (.invokestatic 51, 3) := by decide +kernel
theorem dX6_takeNumber_64 : decode cX6_takeNumber 64 = .ok (.putfield 48, 3) := by decide +kernel
theorem dX6_takeNumber_67 : decode cX6_takeNumber 67 = .ok (.aload_n 0, 1) := by decide +kernel
theorem dX6_takeNumber_68 : decode cX6_takeNumber 68 = .ok (.dup, 1) := by decide +kernel
theorem dX6_takeNumber_69 : decode cX6_takeNumber 69 = .ok (.getfield 19, 3) := by decide +kernel
theorem dX6_takeNumber_72 : decode cX6_takeNumber 72 = .ok (.iconst 1, 1) := by decide +kernel
theorem dX6_takeNumber_73 : decode cX6_takeNumber 73 = .ok (.iadd, 1) := by decide +kernel
theorem dX6_takeNumber_74 : decode cX6_takeNumber 74 = .ok (.putfield 19, 3) := by decide +kernel
theorem dX6_takeNumber_77 : decode cX6_takeNumber 77 = .ok (.goto (-66), 3) := by decide +kernel
theorem dX7_copyFrom_0 : decode cX7_copyFrom 0 = .ok (.aload_n 0, 1) := by decide +kernel
theorem dX7_copyFrom_1 : decode cX7_copyFrom 1 = .ok (.aload_n 1, 1) := by decide +kernel
theorem dX7_copyFrom_2 : decode cX7_copyFrom 2 = .ok (.getfield 59, 3) := by decide +kernel
theorem dX7_copyFrom_5 : decode cX7_copyFrom 5 = .ok (.putfield 59, 3) := by decide +kernel
theorem dX7_copyFrom_8 : decode cX7_copyFrom 8 = .ok (.aload_n 1, 1) := by decide +kernel
theorem dX7_copyFrom_9 : decode cX7_copyFrom 9 = .ok (.getfield 9, 3) := by decide +kernel
theorem dX7_copyFrom_12 : decode cX7_copyFrom 12 = .ok (.aload_n 0, 1) := by decide +kernel
theorem dX7_copyFrom_13 : decode cX7_copyFrom 13 = .ok (.getfield 9, 3) := by decide +kernel
theorem dX7_copyFrom_16 : decode cX7_copyFrom 16 = .ok (.invokestatic 62, 3) := by decide +kernel
theorem dX7_copyFrom_19 : decode cX7_copyFrom 19 = .ok (.aload_n 1, 1) := by decide +kernel
theorem dX7_copyFrom_20 : decode cX7_copyFrom 20 = .ok (.getfield 15, 3) := by decide +kernel
theorem dX7_copyFrom_23 : decode cX7_copyFrom 23 = .ok (.aload_n 0, 1) := by decide +kernel
theorem dX7_copyFrom_24 : decode cX7_copyFrom 24 = .ok (.getfield 15, 3) := by decide +kernel
theorem dX7_copyFrom_27 : decode cX7_copyFrom 27 = .ok (.invokestatic 62, 3) := by decide +kernel
theorem dX7_copyFrom_30 : decode cX7_copyFrom 30 = .ok (.aload_n 1, 1) := by decide +kernel
theorem dX7_copyFrom_31 : decode cX7_copyFrom 31 = .ok (.getfield 18, 3) := by decide +kernel
theorem dX7_copyFrom_34 : decode cX7_copyFrom 34 = .ok (.aload_n 0, 1) := by decide +kernel
theorem dX7_copyFrom_35 : decode cX7_copyFrom 35 = .ok (.getfield 18, 3) := by decide +kernel
theorem dX7_copyFrom_38 : decode cX7_copyFrom 38 = .ok (.invokestatic 62, 3) := by decide +kernel
theorem dX7_copyFrom_41 : decode cX7_copyFrom 41 = .ok (.aload_n 1, 1) := by decide +kernel
theorem dX7_copyFrom_42 : decode cX7_copyFrom 42 = .ok (.getfield 21, 3) := by decide +kernel
theorem dX7_copyFrom_45 : decode cX7_copyFrom 45 = .ok (.aload_n 0, 1) := by decide +kernel
theorem dX7_copyFrom_46 : decode cX7_copyFrom 46 = .ok (.getfield 21, 3) := by decide +kernel
theorem dX7_copyFrom_49 : decode cX7_copyFrom 49 = .ok (.invokestatic 62, 3) := by decide +kernel
theorem dX7_copyFrom_52 : decode cX7_copyFrom 52 = .ok (.aload_n 1, 1) := by decide +kernel
theorem tw_65 : Cond.fieldLink RX7 24 "RingsUnder$Seas" "low" "[I" ∈ wsL_law := List.mem_of_getElem? (i := 65) (by decide +kernel)
theorem dX7_copyFrom_53 : decode cX7_copyFrom 53 = .ok (.getfield 24, 3) := by decide +kernel
theorem dX7_copyFrom_56 : decode cX7_copyFrom 56 = .ok (.aload_n 0, 1) := by decide +kernel
theorem dX7_copyFrom_57 : decode cX7_copyFrom 57 = .ok (.getfield 24, 3) := by decide +kernel
theorem dX7_copyFrom_60 : decode cX7_copyFrom 60 = .ok (.invokestatic 62, 3) := by decide +kernel
theorem dX7_copyFrom_63 : decode cX7_copyFrom 63 = .ok (.aload_n 1, 1) := by decide +kernel
theorem tw_66 : Cond.fieldLink RX7 27 "RingsUnder$Seas" "high" "[I" ∈ wsL_law := List.mem_of_getElem? (i := 66) (by decide +kernel)
theorem dX7_copyFrom_64 : decode cX7_copyFrom 64 = .ok (.getfield 27, 3) := by decide +kernel
theorem dX7_copyFrom_67 : decode cX7_copyFrom 67 = .ok (.aload_n 0, 1) := by decide +kernel
theorem dX7_copyFrom_68 : decode cX7_copyFrom 68 = .ok (.getfield 27, 3) := by decide +kernel
theorem dX7_copyFrom_71 : decode cX7_copyFrom 71 = .ok (.invokestatic 62, 3) := by decide +kernel
theorem dX7_copyFrom_74 : decode cX7_copyFrom 74 = .ok (.aload_n 1, 1) := by decide +kernel
theorem tw_67 : Cond.fieldLink RX7 30 "RingsUnder$Seas" "warm" "[I" ∈ wsL_law := List.mem_of_getElem? (i := 67) (by decide +kernel)
theorem dX7_copyFrom_75 : decode cX7_copyFrom 75 = .ok (.getfield 30, 3) := by decide +kernel
theorem dX7_copyFrom_78 : decode cX7_copyFrom 78 = .ok (.aload_n 0, 1) := by decide +kernel
theorem dX7_copyFrom_79 : decode cX7_copyFrom 79 = .ok (.getfield 30, 3) := by decide +kernel
theorem dX7_copyFrom_82 : decode cX7_copyFrom 82 = .ok (.invokestatic 62, 3) := by decide +kernel
theorem dX7_copyFrom_85 : decode cX7_copyFrom 85 = .ok (.aload_n 1, 1) := by decide +kernel
theorem tw_68 : Cond.fieldLink RX7 33 "RingsUnder$Seas" "drift" "[I" ∈ wsL_law := List.mem_of_getElem? (i := 68) (by decide +kernel)
theorem dX7_copyFrom_86 : decode cX7_copyFrom 86 = .ok (.getfield 33, 3) := by decide +kernel
theorem dX7_copyFrom_89 : decode cX7_copyFrom 89 = .ok (.aload_n 0, 1) := by decide +kernel
theorem dX7_copyFrom_90 : decode cX7_copyFrom 90 = .ok (.getfield 33, 3) := by decide +kernel
theorem dX7_copyFrom_93 : decode cX7_copyFrom 93 = .ok (.invokestatic 62, 3) := by decide +kernel
theorem dX7_copyFrom_96 : decode cX7_copyFrom 96 = .ok (.aload_n 1, 1) := by decide +kernel
theorem tw_69 : Cond.fieldLink RX7 36 "RingsUnder$Seas" "rain" "[I" ∈ wsL_law := List.mem_of_getElem? (i := 69) (by decide +kernel)
theorem dX7_copyFrom_97 : decode cX7_copyFrom 97 = .ok (.getfield 36, 3) := by decide +kernel
theorem dX7_copyFrom_100 : decode cX7_copyFrom 100 = .ok (.aload_n 0, 1) := by decide +kernel
theorem dX7_copyFrom_101 : decode cX7_copyFrom 101 = .ok (.getfield 36, 3) := by decide +kernel
theorem dX7_copyFrom_104 : decode cX7_copyFrom 104 = .ok (.invokestatic 62, 3) := by decide +kernel
theorem dX7_copyFrom_107 : decode cX7_copyFrom 107 = .ok (.aload_n 0, 1) := by decide +kernel
theorem dX7_copyFrom_108 : decode cX7_copyFrom 108 = .ok (.aload_n 1, 1) := by decide +kernel
theorem tw_70 : Cond.fieldLink RX7 39 "RingsUnder$Seas" "bear" "I" ∈ wsL_law := List.mem_of_getElem? (i := 70) (by decide +kernel)
theorem dX7_copyFrom_109 : decode cX7_copyFrom 109 = .ok (.getfield 39, 3) := by decide +kernel
theorem dX7_copyFrom_112 : decode cX7_copyFrom 112 = .ok (.putfield 39, 3) := by decide +kernel
theorem dX7_copyFrom_115 : decode cX7_copyFrom 115 = .ok (.aload_n 0, 1) := by decide +kernel
theorem dX7_copyFrom_116 : decode cX7_copyFrom 116 = .ok (.aload_n 1, 1) := by decide +kernel
theorem tw_71 : Cond.fieldLink RX7 43 "RingsUnder$Seas" "grow" "I" ∈ wsL_law := List.mem_of_getElem? (i := 71) (by decide +kernel)
theorem dX7_copyFrom_117 : decode cX7_copyFrom 117 = .ok (.getfield 43, 3) := by decide +kernel
theorem dX7_copyFrom_120 : decode cX7_copyFrom 120 = .ok (.putfield 43, 3) := by decide +kernel
theorem dX7_copyFrom_123 : decode cX7_copyFrom 123 = .ok (.aload_n 0, 1) := by decide +kernel
theorem dX7_copyFrom_124 : decode cX7_copyFrom 124 = .ok (.aload_n 1, 1) := by decide +kernel
theorem tw_72 : Cond.fieldLink RX7 46 "RingsUnder$Seas" "die" "I" ∈ wsL_law := List.mem_of_getElem? (i := 72) (by decide +kernel)
theorem dX7_copyFrom_125 : decode cX7_copyFrom 125 = .ok (.getfield 46, 3) := by decide +kernel
theorem dX7_copyFrom_128 : decode cX7_copyFrom 128 = .ok (.putfield 46, 3) := by decide +kernel
theorem dX7_copyFrom_131 : decode cX7_copyFrom 131 = .ok (.aload_n 0, 1) := by decide +kernel
theorem dX7_copyFrom_132 : decode cX7_copyFrom 132 = .ok (.aload_n 1, 1) := by decide +kernel
theorem tw_73 : Cond.fieldLink RX7 49 "RingsUnder$Seas" "reach" "I" ∈ wsL_law := List.mem_of_getElem? (i := 73) (by decide +kernel)
theorem dX7_copyFrom_133 : decode cX7_copyFrom 133 = .ok (.getfield 49, 3) := by decide +kernel
theorem dX7_copyFrom_136 : decode cX7_copyFrom 136 = .ok (.putfield 49, 3) := by decide +kernel
theorem dX7_copyFrom_139 : decode cX7_copyFrom 139 = .ok (.aload_n 0, 1) := by decide +kernel
theorem dX7_copyFrom_140 : decode cX7_copyFrom 140 = .ok (.aload_n 1, 1) := by decide +kernel
theorem tw_74 : Cond.fieldLink RX7 52 "RingsUnder$Seas" "cost" "I" ∈ wsL_law := List.mem_of_getElem? (i := 74) (by decide +kernel)
theorem dX7_copyFrom_141 : decode cX7_copyFrom 141 = .ok (.getfield 52, 3) := by decide +kernel
theorem dX7_copyFrom_144 : decode cX7_copyFrom 144 = .ok (.putfield 52, 3) := by decide +kernel
theorem dX7_copyFrom_147 : decode cX7_copyFrom 147 = .ok (.return_, 1) := by decide +kernel
theorem dX7_tell_0 : decode cX7_tell 0 = .ok (.aload_n 0, 1) := by decide +kernel
theorem dX7_tell_1 : decode cX7_tell 1 = .ok (.getfield 59, 3) := by decide +kernel
theorem dX7_tell_4 : decode cX7_tell 4 = .ok (.sipush 200, 3) := by decide +kernel
theorem dX7_tell_7 : decode cX7_tell 7 = .ok (.if_icmp .lt 5, 3) := by decide +kernel
theorem dX7_tell_12 : decode cX7_tell 12 = .ok (.aload_n 0, 1) := by decide +kernel
theorem dX7_tell_13 : decode cX7_tell 13 = .ok (.getfield 9, 3) := by decide +kernel
theorem dX7_tell_16 : decode cX7_tell 16 = .ok (.aload_n 0, 1) := by decide +kernel
theorem dX7_tell_17 : decode cX7_tell 17 = .ok (.getfield 59, 3) := by decide +kernel
theorem dX7_tell_20 : decode cX7_tell 20 = .ok (.iload_n 1, 1) := by decide +kernel
theorem dX7_tell_21 : decode cX7_tell 21 = .ok (.iastore, 1) := by decide +kernel
theorem dX7_tell_22 : decode cX7_tell 22 = .ok (.aload_n 0, 1) := by decide +kernel
theorem dX7_tell_23 : decode cX7_tell 23 = .ok (.getfield 15, 3) := by decide +kernel
theorem dX7_tell_26 : decode cX7_tell 26 = .ok (.aload_n 0, 1) := by decide +kernel
theorem dX7_tell_27 : decode cX7_tell 27 = .ok (.getfield 59, 3) := by decide +kernel
theorem dX7_tell_30 : decode cX7_tell 30 = .ok (.iload_n 2, 1) := by decide +kernel
theorem dX7_tell_31 : decode cX7_tell 31 = .ok (.iastore, 1) := by decide +kernel
theorem dX7_tell_32 : decode cX7_tell 32 = .ok (.aload_n 0, 1) := by decide +kernel
theorem dX7_tell_33 : decode cX7_tell 33 = .ok (.getfield 18, 3) := by decide +kernel
theorem dX7_tell_36 : decode cX7_tell 36 = .ok (.aload_n 0, 1) := by decide +kernel
theorem dX7_tell_37 : decode cX7_tell 37 = .ok (.getfield 59, 3) := by decide +kernel
theorem dX7_tell_40 : decode cX7_tell 40 = .ok (.iload_n 3, 1) := by decide +kernel
theorem dX7_tell_41 : decode cX7_tell 41 = .ok (.iastore, 1) := by decide +kernel
theorem dX7_tell_42 : decode cX7_tell 42 = .ok (.aload_n 0, 1) := by decide +kernel
theorem dX7_tell_43 : decode cX7_tell 43 = .ok (.getfield 21, 3) := by decide +kernel
theorem dX7_tell_46 : decode cX7_tell 46 = .ok (.aload_n 0, 1) := by decide +kernel
theorem dX7_tell_47 : decode cX7_tell 47 = .ok (.getfield 59, 3) := by decide +kernel
theorem dX7_tell_50 : decode cX7_tell 50 = .ok (.iload 4, 2) := by decide +kernel
theorem dX7_tell_52 : decode cX7_tell 52 = .ok (.iastore, 1) := by decide +kernel
theorem dX7_tell_53 : decode cX7_tell 53 = .ok (.aload_n 0, 1) := by decide +kernel
theorem dX7_tell_54 : decode cX7_tell 54 = .ok (.dup, 1) := by decide +kernel
theorem dX7_tell_55 : decode cX7_tell 55 = .ok (.getfield 59, 3) := by decide +kernel
theorem dX7_tell_58 : decode cX7_tell 58 = .ok (.iconst 1, 1) := by decide +kernel
theorem dX7_tell_59 : decode cX7_tell 59 = .ok (.iadd, 1) := by decide +kernel
theorem dX7_tell_60 : decode cX7_tell 60 = .ok (.putfield 59, 3) := by decide +kernel
theorem dX7_tell_63 : decode cX7_tell 63 = .ok (.aload_n 0, 1) := by decide +kernel
theorem dX7_tell_64 : decode cX7_tell 64 = .ok (.getfield 59, 3) := by decide +kernel
theorem dX7_tell_67 : decode cX7_tell 67 = .ok (.ireturn, 1) := by decide +kernel
theorem dX7_tell_10 : decode cX7_tell 10 = .ok (.iconst (-1), 1) := by decide +kernel
theorem dX7_tell_11 : decode cX7_tell 11 = .ok (.ireturn, 1) := by decide +kernel
theorem dJ6_compare_7cf53_0 : decode cJ6_compare_7cf53 0 = .ok (.iload_n 0, 1) := by decide +kernel
theorem dJ6_compare_7cf53_1 : decode cJ6_compare_7cf53 1 = .ok (.iload_n 1, 1) := by decide +kernel
theorem dJ6_compare_7cf53_2 : decode cJ6_compare_7cf53 2 = .ok (.if_icmp .ge 7, 3) := by decide +kernel
theorem dJ6_compare_7cf53_9 : decode cJ6_compare_7cf53 9 = .ok (.iload_n 0, 1) := by decide +kernel
theorem dJ6_compare_7cf53_10 : decode cJ6_compare_7cf53 10 = .ok (.iload_n 1, 1) := by decide +kernel
theorem dJ6_compare_7cf53_11 : decode cJ6_compare_7cf53 11 = .ok (.if_icmp .ne 7, 3) := by decide +kernel
theorem dJ6_compare_7cf53_18 : decode cJ6_compare_7cf53 18 = .ok (.iconst 1, 1) := by decide +kernel
theorem dJ6_compare_7cf53_19 : decode cJ6_compare_7cf53 19 = .ok (.ireturn, 1) := by decide +kernel
theorem dJ6_compare_7cf53_14 : decode cJ6_compare_7cf53 14 = .ok (.iconst 0, 1) := by decide +kernel
theorem dJ6_compare_7cf53_15 : decode cJ6_compare_7cf53 15 = .ok (.goto 4, 3) := by decide +kernel
theorem dJ6_compare_7cf53_5 : decode cJ6_compare_7cf53 5 = .ok (.iconst (-1), 1) := by decide +kernel
theorem dJ6_compare_7cf53_6 : decode cJ6_compare_7cf53 6 = .ok (.goto 13, 3) := by decide +kernel
theorem dX8_isAhead_0 : decode cX8_isAhead 0 = .ok (.iload_n 1, 1) := by decide +kernel
theorem dX8_isAhead_12 : decode cX8_isAhead 12 = .ok (.iconst 0, 1) := by decide +kernel
theorem dX8_isAhead_13 : decode cX8_isAhead 13 = .ok (.ireturn, 1) := by decide +kernel
theorem dX8_isAhead_1 : decode cX8_isAhead 1 = .ok (.ifCond .lt 11, 3) := by decide +kernel
theorem dX8_isAhead_4 : decode cX8_isAhead 4 = .ok (.iload_n 1, 1) := by decide +kernel
theorem dX8_isAhead_5 : decode cX8_isAhead 5 = .ok (.aload_n 0, 1) := by decide +kernel
theorem dX8_isAhead_6 : decode cX8_isAhead 6 = .ok (.getfield 21, 3) := by decide +kernel
theorem dX8_isAhead_9 : decode cX8_isAhead 9 = .ok (.if_icmp .lt 5, 3) := by decide +kernel
theorem dX8_isAhead_14 : decode cX8_isAhead 14 = .ok (.aload_n 0, 1) := by decide +kernel
theorem dX8_isAhead_15 : decode cX8_isAhead 15 = .ok (.getfield 15, 3) := by decide +kernel
theorem dX8_isAhead_18 : decode cX8_isAhead 18 = .ok (.iload_n 1, 1) := by decide +kernel
theorem dX8_isAhead_19 : decode cX8_isAhead 19 = .ok (.iaload, 1) := by decide +kernel
theorem dX8_isAhead_20 : decode cX8_isAhead 20 = .ok (.istore 5, 2) := by decide +kernel
theorem dX8_isAhead_22 : decode cX8_isAhead 22 = .ok (.iload 5, 2) := by decide +kernel
theorem dX8_isAhead_24 : decode cX8_isAhead 24 = .ok (.aload_n 0, 1) := by decide +kernel
theorem dX8_isAhead_25 : decode cX8_isAhead 25 = .ok (.getfield 15, 3) := by decide +kernel
theorem dX8_isAhead_28 : decode cX8_isAhead 28 = .ok (.iload_n 1, 1) := by decide +kernel
theorem dX8_isAhead_29 : decode cX8_isAhead 29 = .ok (.iconst 1, 1) := by decide +kernel
theorem dX8_isAhead_30 : decode cX8_isAhead 30 = .ok (.iadd, 1) := by decide +kernel
theorem dX8_isAhead_31 : decode cX8_isAhead 31 = .ok (.iaload, 1) := by decide +kernel
theorem dX8_isAhead_32 : decode cX8_isAhead 32 = .ok (.if_icmp .ge 82, 3) := by decide +kernel
theorem dX8_isAhead_114 : decode cX8_isAhead 114 = .ok (.iconst 0, 1) := by decide +kernel
theorem dX8_isAhead_115 : decode cX8_isAhead 115 = .ok (.ireturn, 1) := by decide +kernel
theorem dX8_isAhead_35 : decode cX8_isAhead 35 = .ok (.aload_n 0, 1) := by decide +kernel
theorem dX8_isAhead_36 : decode cX8_isAhead 36 = .ok (.getfield 18, 3) := by decide +kernel
theorem dX8_isAhead_39 : decode cX8_isAhead 39 = .ok (.iload 5, 2) := by decide +kernel
theorem dX8_isAhead_41 : decode cX8_isAhead 41 = .ok (.iaload, 1) := by decide +kernel
theorem tw_483 : Cond.methodLink RX8 33 Lib.Math.abs.name ∈ wsL_law := List.mem_of_getElem? (i := 483) (by decide +kernel)
theorem dX8_isAhead_42 : decode cX8_isAhead 42 = .ok (.invokestatic 33, 3) := by decide +kernel
theorem dX8_isAhead_45 : decode cX8_isAhead 45 = .ok (.istore 6, 2) := by decide +kernel
theorem dX8_isAhead_47 : decode cX8_isAhead 47 = .ok (.aload_n 2, 1) := by decide +kernel
theorem dX8_isAhead_48 : decode cX8_isAhead 48 = .ok (.iload_n 3, 1) := by decide +kernel
theorem dX8_isAhead_49 : decode cX8_isAhead 49 = .ok (.iload 6, 2) := by decide +kernel
theorem dX8_isAhead_51 : decode cX8_isAhead 51 = .ok (.iconst 0, 1) := by decide +kernel
theorem tw_486 : Cond.methodLink RX8 38 yX0_valueOf ∈ wsL_law := List.mem_of_getElem? (i := 486) (by decide +kernel)
theorem dX8_isAhead_52 : decode cX8_isAhead 52 = .ok (.invokevirtual 38, 3) := by decide +kernel
theorem dX8_isAhead_55 : decode cX8_isAhead 55 = .ok (.aload_n 2, 1) := by decide +kernel
theorem dX8_isAhead_56 : decode cX8_isAhead 56 = .ok (.iload 4, 2) := by decide +kernel
theorem dX8_isAhead_58 : decode cX8_isAhead 58 = .ok (.iload 6, 2) := by decide +kernel
theorem dX8_isAhead_60 : decode cX8_isAhead 60 = .ok (.iconst 0, 1) := by decide +kernel
theorem dX8_isAhead_61 : decode cX8_isAhead 61 = .ok (.invokevirtual 38, 3) := by decide +kernel
theorem tw_490 : Cond.methodLink RX8 44 yJ6_compare_7cf53 ∈ wsL_law := List.mem_of_getElem? (i := 490) (by decide +kernel)
theorem tw_491 : Cond.static yJ6_compare_7cf53 ∈ wsL_law := List.mem_of_getElem? (i := 491) (by decide +kernel)
theorem tw_493 : Cond.code yJ6_compare_7cf53 cJ6_compare_7cf53 2 (some .int) ∈ wsL_law := List.mem_of_getElem? (i := 493) (by decide +kernel)
theorem dX8_isAhead_64 : decode cX8_isAhead 64 = .ok (.invokestatic 44, 3) := by decide +kernel
theorem dX8_isAhead_67 : decode cX8_isAhead 67 = .ok (.istore 7, 2) := by decide +kernel
theorem dX8_isAhead_69 : decode cX8_isAhead 69 = .ok (.iload 7, 2) := by decide +kernel
theorem dX8_isAhead_71 : decode cX8_isAhead 71 = .ok (.ifCond .eq 37, 3) := by decide +kernel
theorem dX8_isAhead_108 : decode cX8_isAhead 108 = .ok (.iinc 5 1, 3) := by decide +kernel
theorem dX8_isAhead_111 : decode cX8_isAhead 111 = .ok (.goto (-89), 3) := by decide +kernel
theorem dX8_isAhead_74 : decode cX8_isAhead 74 = .ok (.aload_n 0, 1) := by decide +kernel
theorem dX8_isAhead_75 : decode cX8_isAhead 75 = .ok (.getfield 18, 3) := by decide +kernel
theorem dX8_isAhead_78 : decode cX8_isAhead 78 = .ok (.iload 5, 2) := by decide +kernel
theorem dX8_isAhead_80 : decode cX8_isAhead 80 = .ok (.iaload, 1) := by decide +kernel
theorem dX8_isAhead_81 : decode cX8_isAhead 81 = .ok (.ifCond .ge 16, 3) := by decide +kernel
theorem dX8_isAhead_97 : decode cX8_isAhead 97 = .ok (.iload 7, 2) := by decide +kernel
theorem dX8_isAhead_99 : decode cX8_isAhead 99 = .ok (.ifCond .ge 7, 3) := by decide +kernel
theorem dX8_isAhead_106 : decode cX8_isAhead 106 = .ok (.iconst 0, 1) := by decide +kernel
theorem dX8_isAhead_107 : decode cX8_isAhead 107 = .ok (.ireturn, 1) := by decide +kernel
theorem dX8_isAhead_102 : decode cX8_isAhead 102 = .ok (.iconst 1, 1) := by decide +kernel
theorem dX8_isAhead_103 : decode cX8_isAhead 103 = .ok (.goto 4, 3) := by decide +kernel
theorem dX8_isAhead_84 : decode cX8_isAhead 84 = .ok (.iload 7, 2) := by decide +kernel
theorem dX8_isAhead_86 : decode cX8_isAhead 86 = .ok (.ifCond .le 7, 3) := by decide +kernel
theorem dX8_isAhead_93 : decode cX8_isAhead 93 = .ok (.iconst 0, 1) := by decide +kernel
theorem dX8_isAhead_94 : decode cX8_isAhead 94 = .ok (.goto 13, 3) := by decide +kernel
theorem dX8_isAhead_89 : decode cX8_isAhead 89 = .ok (.iconst 1, 1) := by decide +kernel
theorem dX8_isAhead_90 : decode cX8_isAhead 90 = .ok (.goto 17, 3) := by decide +kernel
theorem dX9_dig_0 : decode cX9_dig 0 = .ok (.aload_n 0, 1) := by decide +kernel
theorem dX9_dig_1 : decode cX9_dig 1 = .ok (.getfield 9, 3) := by decide +kernel
theorem dX9_dig_4 : decode cX9_dig 4 = .ok (.iload_n 1, 1) := by decide +kernel
theorem dX9_dig_5 : decode cX9_dig 5 = .ok (.iload_n 2, 1) := by decide +kernel
theorem dX9_dig_6 : decode cX9_dig 6 = .ok (.iastore, 1) := by decide +kernel
theorem dX9_dig_7 : decode cX9_dig 7 = .ok (.aload_n 0, 1) := by decide +kernel
theorem dX9_dig_8 : decode cX9_dig 8 = .ok (.getfield 15, 3) := by decide +kernel
theorem dX9_dig_11 : decode cX9_dig 11 = .ok (.iload_n 1, 1) := by decide +kernel
theorem dX9_dig_12 : decode cX9_dig 12 = .ok (.iload_n 3, 1) := by decide +kernel
theorem dX9_dig_13 : decode cX9_dig 13 = .ok (.iastore, 1) := by decide +kernel
theorem dX9_dig_14 : decode cX9_dig 14 = .ok (.aload_n 0, 1) := by decide +kernel
theorem dX9_dig_15 : decode cX9_dig 15 = .ok (.getfield 18, 3) := by decide +kernel
theorem dX9_dig_18 : decode cX9_dig 18 = .ok (.iload_n 1, 1) := by decide +kernel
theorem dX9_dig_19 : decode cX9_dig 19 = .ok (.iload 4, 2) := by decide +kernel
theorem dX9_dig_21 : decode cX9_dig 21 = .ok (.iastore, 1) := by decide +kernel
theorem dX9_dig_22 : decode cX9_dig 22 = .ok (.return_, 1) := by decide +kernel
theorem dX10_copyFrom_0 : decode cX10_copyFrom 0 = .ok (.aload_n 0, 1) := by decide +kernel
theorem dX10_copyFrom_1 : decode cX10_copyFrom 1 = .ok (.aload_n 1, 1) := by decide +kernel
theorem dX10_copyFrom_2 : decode cX10_copyFrom 2 = .ok (.getfield 67, 3) := by decide +kernel
theorem dX10_copyFrom_5 : decode cX10_copyFrom 5 = .ok (.putfield 67, 3) := by decide +kernel
theorem dX10_copyFrom_8 : decode cX10_copyFrom 8 = .ok (.aload_n 0, 1) := by decide +kernel
theorem dX10_copyFrom_9 : decode cX10_copyFrom 9 = .ok (.aload_n 1, 1) := by decide +kernel
theorem tw_1131 : Cond.fieldLink RX10 70 "RingsUnder$World" "fund" "I" ∈ wsL_law := List.mem_of_getElem? (i := 1131) (by decide +kernel)
theorem dX10_copyFrom_10 : decode cX10_copyFrom 10 = .ok (.getfield 70, 3) := by decide +kernel
theorem dX10_copyFrom_13 : decode cX10_copyFrom 13 = .ok (.putfield 70, 3) := by decide +kernel
theorem dX10_copyFrom_16 : decode cX10_copyFrom 16 = .ok (.aload_n 0, 1) := by decide +kernel
theorem dX10_copyFrom_17 : decode cX10_copyFrom 17 = .ok (.aload_n 1, 1) := by decide +kernel
theorem tw_1046 : Cond.fieldLink RX10 73 "RingsUnder$World" "boats" "I" ∈ wsL_law := List.mem_of_getElem? (i := 1046) (by decide +kernel)
theorem dX10_copyFrom_18 : decode cX10_copyFrom 18 = .ok (.getfield 73, 3) := by decide +kernel
theorem dX10_copyFrom_21 : decode cX10_copyFrom 21 = .ok (.putfield 73, 3) := by decide +kernel
theorem dX10_copyFrom_24 : decode cX10_copyFrom 24 = .ok (.aload_n 0, 1) := by decide +kernel
theorem dX10_copyFrom_25 : decode cX10_copyFrom 25 = .ok (.aload_n 1, 1) := by decide +kernel
theorem tw_31 : Cond.fieldLink RX10 9 "RingsUnder$World" "cantMonth" "I" ∈ wsL_law := List.mem_of_getElem? (i := 31) (by decide +kernel)
theorem dX10_copyFrom_26 : decode cX10_copyFrom 26 = .ok (.getfield 9, 3) := by decide +kernel
theorem dX10_copyFrom_29 : decode cX10_copyFrom 29 = .ok (.putfield 9, 3) := by decide +kernel
theorem dX10_copyFrom_32 : decode cX10_copyFrom 32 = .ok (.aload_n 0, 1) := by decide +kernel
theorem dX10_copyFrom_33 : decode cX10_copyFrom 33 = .ok (.aload_n 1, 1) := by decide +kernel
theorem tw_32 : Cond.fieldLink RX10 15 "RingsUnder$World" "area" "I" ∈ wsL_law := List.mem_of_getElem? (i := 32) (by decide +kernel)
theorem dX10_copyFrom_34 : decode cX10_copyFrom 34 = .ok (.getfield 15, 3) := by decide +kernel
theorem dX10_copyFrom_37 : decode cX10_copyFrom 37 = .ok (.putfield 15, 3) := by decide +kernel
theorem dX10_copyFrom_40 : decode cX10_copyFrom 40 = .ok (.aload_n 1, 1) := by decide +kernel
theorem tw_34 : Cond.fieldLink RX10 18 "RingsUnder$World" "holder" "[I" ∈ wsL_law := List.mem_of_getElem? (i := 34) (by decide +kernel)
theorem dX10_copyFrom_41 : decode cX10_copyFrom 41 = .ok (.getfield 18, 3) := by decide +kernel
theorem dX10_copyFrom_44 : decode cX10_copyFrom 44 = .ok (.aload_n 0, 1) := by decide +kernel
theorem dX10_copyFrom_45 : decode cX10_copyFrom 45 = .ok (.getfield 18, 3) := by decide +kernel
theorem dX10_copyFrom_48 : decode cX10_copyFrom 48 = .ok (.invokestatic 76, 3) := by decide +kernel
theorem dX10_copyFrom_51 : decode cX10_copyFrom 51 = .ok (.aload_n 0, 1) := by decide +kernel
theorem dX10_copyFrom_52 : decode cX10_copyFrom 52 = .ok (.getfield 25, 3) := by decide +kernel
theorem dX10_copyFrom_55 : decode cX10_copyFrom 55 = .ok (.aload_n 1, 1) := by decide +kernel
theorem dX10_copyFrom_56 : decode cX10_copyFrom 56 = .ok (.getfield 25, 3) := by decide +kernel
theorem tw_1366 : Cond.methodLink RX10 80 yX7_copyFrom ∈ wsL_law := List.mem_of_getElem? (i := 1366) (by decide +kernel)
theorem tw_1367 : Cond.instanceMethod yX7_copyFrom ∈ wsL_law := List.mem_of_getElem? (i := 1367) (by decide +kernel)
theorem tw_1368 : Cond.selects RX7 yX7_copyFrom yX7_copyFrom ∈ wsL_law := List.mem_of_getElem? (i := 1368) (by decide +kernel)
theorem tw_1369 : Cond.code yX7_copyFrom cX7_copyFrom 2 none ∈ wsL_law := List.mem_of_getElem? (i := 1369) (by decide +kernel)
theorem dX10_copyFrom_59 : decode cX10_copyFrom 59 = .ok (.invokevirtual 80, 3) := by decide +kernel
theorem dX10_copyFrom_62 : decode cX10_copyFrom 62 = .ok (.aload_n 0, 1) := by decide +kernel
theorem dX10_copyFrom_63 : decode cX10_copyFrom 63 = .ok (.getfield 32, 3) := by decide +kernel
theorem dX10_copyFrom_66 : decode cX10_copyFrom 66 = .ok (.aload_n 1, 1) := by decide +kernel
theorem dX10_copyFrom_67 : decode cX10_copyFrom 67 = .ok (.getfield 32, 3) := by decide +kernel
theorem tw_1370 : Cond.methodLink RX10 84 yX2_copyFrom ∈ wsL_law := List.mem_of_getElem? (i := 1370) (by decide +kernel)
theorem tw_1371 : Cond.instanceMethod yX2_copyFrom ∈ wsL_law := List.mem_of_getElem? (i := 1371) (by decide +kernel)
theorem tw_1372 : Cond.selects RX2 yX2_copyFrom yX2_copyFrom ∈ wsL_law := List.mem_of_getElem? (i := 1372) (by decide +kernel)
theorem tw_1373 : Cond.code yX2_copyFrom cX2_copyFrom 2 none ∈ wsL_law := List.mem_of_getElem? (i := 1373) (by decide +kernel)
theorem dX10_copyFrom_70 : decode cX10_copyFrom 70 = .ok (.invokevirtual 84, 3) := by decide +kernel
theorem dX10_copyFrom_73 : decode cX10_copyFrom 73 = .ok (.aload_n 0, 1) := by decide +kernel
theorem tw_46 : Cond.fieldLink RX10 39 "RingsUnder$World" "folk" "LRingsUnder$Folk;" ∈ wsL_law := List.mem_of_getElem? (i := 46) (by decide +kernel)
theorem dX10_copyFrom_74 : decode cX10_copyFrom 74 = .ok (.getfield 39, 3) := by decide +kernel
theorem dX10_copyFrom_77 : decode cX10_copyFrom 77 = .ok (.aload_n 1, 1) := by decide +kernel
theorem dX10_copyFrom_78 : decode cX10_copyFrom 78 = .ok (.getfield 39, 3) := by decide +kernel
theorem tw_1380 : Cond.methodLink RX10 87 yX0_copyFrom ∈ wsL_law := List.mem_of_getElem? (i := 1380) (by decide +kernel)
theorem tw_1381 : Cond.instanceMethod yX0_copyFrom ∈ wsL_law := List.mem_of_getElem? (i := 1381) (by decide +kernel)
theorem tw_1382 : Cond.selects RX0 yX0_copyFrom yX0_copyFrom ∈ wsL_law := List.mem_of_getElem? (i := 1382) (by decide +kernel)
theorem tw_1383 : Cond.code yX0_copyFrom cX0_copyFrom 2 none ∈ wsL_law := List.mem_of_getElem? (i := 1383) (by decide +kernel)
theorem dX10_copyFrom_81 : decode cX10_copyFrom 81 = .ok (.invokevirtual 87, 3) := by decide +kernel
theorem dX10_copyFrom_84 : decode cX10_copyFrom 84 = .ok (.aload_n 0, 1) := by decide +kernel
theorem tw_50 : Cond.fieldLink RX10 46 "RingsUnder$World" "law" "LRingsUnder$Law;" ∈ wsL_law := List.mem_of_getElem? (i := 50) (by decide +kernel)
theorem dX10_copyFrom_85 : decode cX10_copyFrom 85 = .ok (.getfield 46, 3) := by decide +kernel
theorem dX10_copyFrom_88 : decode cX10_copyFrom 88 = .ok (.aload_n 1, 1) := by decide +kernel
theorem dX10_copyFrom_89 : decode cX10_copyFrom 89 = .ok (.getfield 46, 3) := by decide +kernel
theorem tw_1384 : Cond.methodLink RX10 90 yX3_copyFrom ∈ wsL_law := List.mem_of_getElem? (i := 1384) (by decide +kernel)
theorem tw_1385 : Cond.instanceMethod yX3_copyFrom ∈ wsL_law := List.mem_of_getElem? (i := 1385) (by decide +kernel)
theorem tw_1386 : Cond.selects RX3 yX3_copyFrom yX3_copyFrom ∈ wsL_law := List.mem_of_getElem? (i := 1386) (by decide +kernel)
theorem tw_1387 : Cond.code yX3_copyFrom cX3_copyFrom 3 none ∈ wsL_law := List.mem_of_getElem? (i := 1387) (by decide +kernel)
theorem dX10_copyFrom_92 : decode cX10_copyFrom 92 = .ok (.invokevirtual 90, 3) := by decide +kernel
theorem dX10_copyFrom_95 : decode cX10_copyFrom 95 = .ok (.aload_n 0, 1) := by decide +kernel
theorem tw_54 : Cond.fieldLink RX10 53 "RingsUnder$World" "graves" "LRingsUnder$Graves;" ∈ wsL_law := List.mem_of_getElem? (i := 54) (by decide +kernel)
theorem dX10_copyFrom_96 : decode cX10_copyFrom 96 = .ok (.getfield 53, 3) := by decide +kernel
theorem dX10_copyFrom_99 : decode cX10_copyFrom 99 = .ok (.aload_n 1, 1) := by decide +kernel
theorem dX10_copyFrom_100 : decode cX10_copyFrom 100 = .ok (.getfield 53, 3) := by decide +kernel
theorem tw_1389 : Cond.methodLink RX10 93 yX1_copyFrom ∈ wsL_law := List.mem_of_getElem? (i := 1389) (by decide +kernel)
theorem tw_1390 : Cond.instanceMethod yX1_copyFrom ∈ wsL_law := List.mem_of_getElem? (i := 1390) (by decide +kernel)
theorem tw_1391 : Cond.selects RX1 yX1_copyFrom yX1_copyFrom ∈ wsL_law := List.mem_of_getElem? (i := 1391) (by decide +kernel)
theorem tw_53 : Cond.initialized RX1 ∈ wsL_law := List.mem_of_getElem? (i := 53) (by decide +kernel)
theorem tw_1392 : Cond.code yX1_copyFrom cX1_copyFrom 2 none ∈ wsL_law := List.mem_of_getElem? (i := 1392) (by decide +kernel)
theorem dX10_copyFrom_103 : decode cX10_copyFrom 103 = .ok (.invokevirtual 93, 3) := by decide +kernel
theorem dX10_copyFrom_106 : decode cX10_copyFrom 106 = .ok (.return_, 1) := by decide +kernel
set_option maxHeartbeats 4000000 in
set_option maxRecDepth 100000 in
theorem s_X6_takeNumber (l : Launch) (D : va_G) (t : pq_T) (σ : pq_S) (I : Nat → Nat → Int32) (J : Nat → Nat → Int64) (ri : Nat → Nat → Int32) (rj : Nat → Nat → Int64) (rq : Nat → Nat → Option Nat) (sz : Nat) (tg : Nat → Nat) (hSH : SH σ tg) (hG0 : GS tg σ I ri rq) (this : Nat) (hL_this : this ∈ σ.1) (hK_this : σ.2.1 this = 6) : MetV l yX6_takeNumber (wa yX6_takeNumber cX6_takeNumber 1 none) ({ frames := 1, cells := 0, slots := 0, locals := 40 }) [.ref this] D t σ (I, J, ri, rj, rq) sz 0 0 (fun (u : pq_S × pq_M) => ∃ I' : Nat → Nat → Int32, u = (σ, I', J, ri, rj, rq) ∧ GX [] tg σ I I' ri rq) := by
  refine Met.ofW (cc := cX6_takeNumber) (maxL := 1) (ret := none) (by decide) rfl ?_
  intro p e s m args below meth c s₁ B hml hv
  obtain ⟨rfl, hsz, hP, hK, hD0, hN⟩ := hv
  have hx := B.exec
  have hb := B.bytes
  have hr := B.returns
  have hts := atoms_spec (ws := (wa yX6_takeNumber cX6_takeNumber 1 none)) B.pre
  have hown : s.vm.findClass RX6 = some m.cls := findClass_of_methodNamed B.named
  have hlocks := B.notSynchronized
  subst hsz
  have hD : va_D (pq_B t σ (I, J, ri, rj, rq) s.heap.size) (pq_P t σ (I, J, ri, rj, rq)) := hD0.self
  generalize hAe : pq_B t σ (I, J, ri, rj, rq) s.heap.size = A at hD ⊢
  have hA : ∀ q : Nat, s.heap.size ≤ q → A q := fun q h => by rw [← hAe]; exact Or.inr h
  have hS : va_S A s.heap s.heap [] := va_S.rf
  have hG : GX [] tg σ I I ri rq := ⟨hG0, fun _ _ _ => rfl⟩
  have hl := lv_entry ([.ref this]) (n := 1) (Nat.le_of_ble_eq_true rfl)
  rw [lg_entry_eq]
  generalize (lg_sl ([.ref this]) ++ List.replicate (1 - (lg_sl ([.ref this])).length) Slot.unset).toArray = ls at hl ⊢
  have hl : lv_has ls 1 [(0, .ref this)] := hl
  refine q_gen (fun Q hQ => ?_)
  have go : ∀ (H : Heap) (locs : List Loc) (ls : Array Slot), va_P D vwCl (pq_P t σ (I, J, ri, rj, rq)) H → va_D A (pq_P t σ (I, J, ri, rj, rq)) → va_S A s.heap H locs → lv_has ls 1 [(0, .ref this)] → W p l e ({ frames := 1, cells := 0, slots := 0, locals := 40 } : Room) s m (List.toArray ([.ref this] : List Value)) below meth c H locs 0 0 Q (F0 m 0 ls []) := by
    intro H locs ls hP hD hS hl
    refine lv_aload_n hx hb dX6_takeNumber_0 rfl (lv_at hl 0 rfl) ?_
    refine lv_bipush (v := 18) hx hb dX6_takeNumber_1 (by decide) ?_
    refine pp_i (v := 18) (ty := .int) (C := RX6) (T := TX6) (N := 6) hx hb hts (tw_i inlX6) tyX6 tyX6_ok nmX6 hown hK hP hD hS hL_this hK_this (by decide) rfl 2 194 (by decide) (hts _ (tw_c tw_668)) rfl (by decide +kernel) rfl rfl (Nat.le_of_ble_eq_true rfl) (ps_194 _ _ _ _ _) dX6_takeNumber_3 (fun I_1 H locs eI_1 hP hD hS => ?_)
    have hG := GX.wI hG 194 rfl eI_1 (rg_w (rg_k (18 : Int32) 18 rfl) (by decide)) (by decide)
    refine lv_aload_n hx hb dX6_takeNumber_6 rfl (lv_at hl 0 rfl) ?_
    refine lv_iconst (v := 0) hx hb dX6_takeNumber_7 (by decide) ?_
    refine pp_i (v := 0) (ty := .int) (C := RX6) (T := TX6) (N := 6) hx hb hts (tw_i inlX6) tyX6 tyX6_ok nmX6 hown hK hP hD hS hL_this hK_this (by decide) rfl 4 196 (by decide) (hts _ (tw_c tw_676)) rfl (by decide +kernel) rfl rfl (Nat.le_of_ble_eq_true rfl) (ps_196 _ _ _ _ _) dX6_takeNumber_8 (fun I_2 H locs eI_2 hP hD hS => ?_)
    have hG := GX.wI hG 196 rfl eI_2 (rg_w (rg_k (0 : Int32) 0 rfl) (by decide)) (by decide)
    have L_122 : ∀ (n_ : Nat) (I_93 : Nat → Nat → Int32) (H : Heap) (locs : List Loc) (ls : Array Slot), (300 - (I_93 197 this).toInt).toNat < n_ → GX [] tg σ I I_93 ri rq → va_P D vwCl (pq_P t σ (I_93, J, ri, rj, rq)) H → va_D A (pq_P t σ (I_93, J, ri, rj, rq)) → va_S A s.heap H locs → lv_has ls 1 [(0, .ref this)] → W p l e ({ frames := 1, cells := 0, slots := 0, locals := 40 } : Room) s m (List.toArray ([.ref this] : List Value)) below meth c H locs 0 0 Q (F0 m 11 ls []) := by
      intro n_
      induction n_ with
      | zero => intro I_93 H locs ls hm hG hP hD hS hl; exact absurd hm (Nat.not_lt_zero _)
      | succ n_ ih_123 =>
        intro I_93 H locs ls hm hG hP hD hS hl
        refine lv_aload_n hx hb dX6_takeNumber_11 rfl (lv_at hl 0 rfl) ?_
        refine pg_f (v := .int (I_93 197 this)) (C := RX6) (T := TX6) (N := 6) hx hb hts (tw_i inlX6) hown hK hP hL_this hK_this (by decide) rfl 5 (by decide) (hts _ (tw_c tw_662)) rfl dX6_takeNumber_12 ?_
        have h_124 : rg (I_93 197 this) 0 300 := GX.rI hG 197 rfl
        refine lv_aload_n hx hb dX6_takeNumber_15 rfl (lv_at hl 0 rfl) ?_
        refine pg_f (v := .int (I_93 193 this)) (C := RX6) (T := TX6) (N := 6) hx hb hts (tw_i inlX6) hown hK hP hL_this hK_this (by decide) rfl 1 (by decide) (hts _ (tw_c tw_626)) rfl dX6_takeNumber_16 ?_
        have h_125 : rg (I_93 193 this) 0 300 := GX.rI hG 193 rfl
        refine lv_icmp_ge (tgt := 80) hx hb dX6_takeNumber_19 (by decide) (fun c_126 => ?_) (fun c_126 => ?_)
        · subst hQ
          exact W.vret hx hb hr (fun t1 ht hW => ⟨⟨(σ, I_93, J, ri, rj, rq), rfl, ⟨I_93, rfl, hG⟩, by rw [ht]; exact hP, va_K.moved hW.alike hK, hD⟩, hS.F ht⟩) hS.2.2 dX6_takeNumber_80
        · have h_127 : rg (I_93 197 this) 0 299 := rg_lt1 (nle c_126) h_124 h_125 (by decide)
          have h_128 : rg (I_93 193 this) 1 300 := rg_lt2 (nle c_126) h_124 h_125 (by decide)
          refine lv_aload_n hx hb dX6_takeNumber_22 rfl (lv_at hl 0 rfl) ?_
          obtain ⟨w_129, hR_w_129, hL_w_129, hK_w_129, hN_w_129, hT_w_129⟩ := sh_a hSH 192 (ci := 6) (kd := 13) (len := 300) rfl (by decide) hL_this hK_this
          refine pg_f (v := .ref w_129) (C := RX6) (T := TX6) (N := 6) hx hb hts (tw_i inlX6) hown hK hP hL_this hK_this (by decide) rfl 0 (by decide) (hts _ (tw_c tw_165)) (pq_hv rfl hR_w_129) dX6_takeNumber_23 ?_
          refine lv_aload_n hx hb dX6_takeNumber_26 rfl (lv_at hl 0 rfl) ?_
          refine pg_f (v := .int (I_93 197 this)) (C := RX6) (T := TX6) (N := 6) hx hb hts (tw_i inlX6) hown hK hP hL_this hK_this (by decide) rfl 5 (by decide) (hts _ (tw_c tw_662)) rfl dX6_takeNumber_27 ?_
          refine pl_i hx hb hK hP hL_w_129 hK_w_129 hN_w_129 (rg_in h_127 (by decide)) dX6_takeNumber_30 ?_
          refine lv_topi (fun x_130 ex_130 => ?_)
          refine pk_i (va_runS (As := [.int x_130]) (rest := []) ⟨hx, hb, hml, hown, hts⟩ (s_X6_isDigit l D t σ I_93 J ri rj rq H.size tg hSH hG.1 x_130) (va_cwS 1 hts (tw_S tw_669 tw_670 tw_153 tw_671) rfl rfl rfl (by decide +kernel) ⟨Nat.le_of_ble_eq_true rfl, Nat.le_of_ble_eq_true rfl⟩) ⟨pq_blind, pq_pre hK hN hP hD⟩ rfl rfl hl.1 rfl (lv_room (Nat.le_of_ble_eq_true rfl)) dX6_takeNumber_31 ⟨Nat.le_of_ble_eq_true rfl, Nat.le_of_ble_eq_true rfl⟩) hD hS hA (fun x_131 σ1 μ1 H locs hw_132 hP hD hS => ?_)
          obtain ⟨hu_133, hr_135⟩ := hw_132
          obtain ⟨hu_133a, hu_133b⟩ := Prod.mk.inj hu_133
          rw [hu_133a, hu_133b] at hP hD
          have h_136 : rg x_131 0 1 := by rcases hr_135 with ⟨q, -⟩ | ⟨q, -⟩ <;> rw [q] <;> exact ⟨by decide, by decide⟩
          refine lv_if_eq (tgt := 80) hx hb dX6_takeNumber_34 (by decide) (fun c_137 => ?_) (fun c_137 => ?_)
          · have f_138 := (hr_135.resolve_left (fun q => absurd (q.1.symm.trans c_137) (by decide))).2
            have h_139 : rg x_131 0 0 := rg_and h_136 (rg_of_eq c_137 (rg_k (0 : Int32) 0 rfl)) (by decide)
            subst hQ
            exact W.vret hx hb hr (fun t1 ht hW => ⟨⟨(σ, I_93, J, ri, rj, rq), rfl, ⟨I_93, rfl, hG⟩, by rw [ht]; exact hP, va_K.moved hW.alike hK, hD⟩, hS.F ht⟩) hS.2.2 dX6_takeNumber_80
          · have f_140 := (hr_135.resolve_right (fun q => c_137 q.1)).2
            have h_141 : rg x_131 1 1 := rg_ne c_137 h_136 0 rfl (by decide)
            refine lv_aload_n hx hb dX6_takeNumber_37 rfl (lv_at hl 0 rfl) ?_
            refine lv_sipush (v := 10000) hx hb dX6_takeNumber_38 (by decide) ?_
            refine lv_aload_n hx hb dX6_takeNumber_41 rfl (lv_at hl 0 rfl) ?_
            refine pg_f (v := .int (I_93 196 this)) (C := RX6) (T := TX6) (N := 6) hx hb hts (tw_i inlX6) hown hK hP hL_this hK_this (by decide) rfl 4 (by decide) (hts _ (tw_c tw_676)) rfl dX6_takeNumber_42 ?_
            refine lv_bipush (v := 10) hx hb dX6_takeNumber_45 (by decide) ?_
            refine lv_imul hx hb dX6_takeNumber_47 ?_
            refine lv_topi (fun x_142 ex_142 => ?_)
            refine lv_aload_n hx hb dX6_takeNumber_48 rfl (lv_at hl 0 rfl) ?_
            refine pg_f (v := .ref w_129) (C := RX6) (T := TX6) (N := 6) hx hb hts (tw_i inlX6) hown hK hP hL_this hK_this (by decide) rfl 0 (by decide) (hts _ (tw_c tw_165)) (pq_hv rfl hR_w_129) dX6_takeNumber_49 ?_
            refine lv_aload_n hx hb dX6_takeNumber_52 rfl (lv_at hl 0 rfl) ?_
            refine pg_f (v := .int (I_93 197 this)) (C := RX6) (T := TX6) (N := 6) hx hb hts (tw_i inlX6) hown hK hP hL_this hK_this (by decide) rfl 5 (by decide) (hts _ (tw_c tw_662)) rfl dX6_takeNumber_53 ?_
            refine pl_i hx hb hK hP hL_w_129 hK_w_129 hN_w_129 (rg_in h_127 (by decide)) dX6_takeNumber_56 ?_
            refine lv_tov x_130 ex_130.symm ?_
            refine lv_iadd hx hb dX6_takeNumber_57 ?_
            refine lv_topi (fun x_143 ex_143 => ?_)
            refine lv_bipush (v := 48) hx hb dX6_takeNumber_58 (by decide) ?_
            refine lv_isub hx hb dX6_takeNumber_60 ?_
            refine lv_topi (fun x_144 ex_144 => ?_)
            refine va_mmin hx hb (hml.trans hl.1.symm) hown (hts _ (tw_c tw_677)) (hts _ (tw_c tw_467)) (hts _ (tw_c tw_276)) (hts _ (tw_c tw_468)) (Nat.le_of_ble_eq_true rfl) (Nat.le_of_ble_eq_true rfl) (Nat.zero_le _) (Nat.zero_le _) dX6_takeNumber_61 ?_
            refine lv_topi (fun x_145 ex_145 => ?_)
            have h_146 : rg x_145 (-2147483648) 10000 := rg_of_eq ex_145 (rg_min2 (rg_k (10000 : Int32) 10000 rfl) (rg_full _) (by decide))
            refine pp_i (v := x_145) (ty := .int) (C := RX6) (T := TX6) (N := 6) hx hb hts (tw_i inlX6) tyX6 tyX6_ok nmX6 hown hK hP hD hS hL_this hK_this (by decide) rfl 4 196 (by decide) (hts _ (tw_c tw_676)) rfl (by decide +kernel) rfl rfl (Nat.le_of_ble_eq_true rfl) (ps_196 _ _ _ _ _) dX6_takeNumber_64 (fun I_147 H locs eI_147 hP hD hS => ?_)
            have hG := GX.wI hG 196 rfl eI_147 (rg_w h_146 (by decide)) (by decide)
            refine lv_aload_n hx hb dX6_takeNumber_67 rfl (lv_at hl 0 rfl) ?_
            refine lv_dup hx hb dX6_takeNumber_68 rfl ?_
            refine pg_f (v := .int (I_147 197 this)) (C := RX6) (T := TX6) (N := 6) hx hb hts (tw_i inlX6) hown hK hP hL_this hK_this (by decide) rfl 5 (by decide) (hts _ (tw_c tw_662)) rfl dX6_takeNumber_69 ?_
            have h_148 : rg (I_147 197 this) 0 299 := (by rw [eI_147, pq_uf _ _ _ (by decide)]; exact h_127)
            refine lv_iconst (v := 1) hx hb dX6_takeNumber_72 (by decide) ?_
            refine lv_iadd hx hb dX6_takeNumber_73 ?_
            refine lv_topi (fun x_149 ex_149 => ?_)
            have h_150 : rg x_149 1 300 := rg_of_eq ex_149 (rg_add h_148 (rg_k (1 : Int32) 1 rfl) (by decide))
            refine pp_i (v := x_149) (ty := .int) (C := RX6) (T := TX6) (N := 6) hx hb hts (tw_i inlX6) tyX6 tyX6_ok nmX6 hown hK hP hD hS hL_this hK_this (by decide) rfl 5 197 (by decide) (hts _ (tw_c tw_662)) rfl (by decide +kernel) rfl rfl (Nat.le_of_ble_eq_true rfl) (ps_197 _ _ _ _ _) dX6_takeNumber_74 (fun I_151 H locs eI_151 hP hD hS => ?_)
            have hG := GX.wI hG 197 rfl eI_151 (rg_w h_150 (by decide)) (by decide)
            refine lv_goto (tgt := 11) hx hb dX6_takeNumber_77 (by decide) ?_
            exact ih_123 I_151 _ _ _ (ms_fu_iadd hm (by rw [eI_151]; exact pq_us _ _ _ _) ex_149 ((congrFun (show I_147 197 = I_93 197 from by rw [eI_147]; exact pq_uf _ _ _ (by decide)) this).trans rfl) (kk := 1) rfl (by decide) h_148 (by decide) (by decide)) hG hP hD hS (lv_sub hl [0] rfl)
    exact L_122 _ I_2 _ _ _ (Nat.lt_succ_self _) hG hP hD hS (lv_sub hl [0] rfl)
  exact go _ _ _ hP hD hS hl

set_option maxHeartbeats 4000000 in
set_option maxRecDepth 100000 in
theorem s_X11_copy_225_225 (l : Launch) (D : va_G) (t : pq_T) (σ : pq_S) (I : Nat → Nat → Int32) (J : Nat → Nat → Int64) (ri : Nat → Nat → Int32) (rj : Nat → Nat → Int64) (rq : Nat → Nat → Option Nat) (sz : Nat) (tg : Nat → Nat) (hSH : SH σ tg) (hG0 : GS tg σ I ri rq) (a0 : Nat) (a1 : Nat) (hL_a0 : a0 ∈ σ.1) (hK_a0 : σ.2.1 a0 = 13) (hN_a0 : σ.2.2.2 a0 = 200) (hT_a0 : tg a0 = 225) (hL_a1 : a1 ∈ σ.1) (hK_a1 : σ.2.1 a1 = 13) (hN_a1 : σ.2.2.2 a1 = 200) (hT_a1 : tg a1 = 225) : MetV l yX11_copy (wa yX11_copy cX11_copy 2 none) ({ frames := 1, cells := 0, slots := 0, locals := 60 }) [.ref a0, .ref a1] D t σ (I, J, ri, rj, rq) sz 0 0 (fun (u : pq_S × pq_M) => ∃ ri' : Nat → Nat → Int32, u = (σ, I, J, ri', rj, rq) ∧ GX [] tg σ I I ri' rq ∧ (∀ j, j < 200 → ri' a1 j = ri a0 j)) := by
  refine Met.ofW (cc := cX11_copy) (maxL := 2) (ret := none) (by decide) rfl ?_
  intro p e s m args below meth c s₁ B hml hv
  obtain ⟨rfl, hsz, hP, hK, hD0, hN⟩ := hv
  have hx := B.exec
  have hb := B.bytes
  have hr := B.returns
  have hts := atoms_spec (ws := (wa yX11_copy cX11_copy 2 none)) B.pre
  have hown : s.vm.findClass RX11 = some m.cls := findClass_of_methodNamed B.named
  have hlocks := B.notSynchronized
  subst hsz
  have hD : va_D (pq_B t σ (I, J, ri, rj, rq) s.heap.size) (pq_P t σ (I, J, ri, rj, rq)) := hD0.self
  generalize hAe : pq_B t σ (I, J, ri, rj, rq) s.heap.size = A at hD ⊢
  have hA : ∀ q : Nat, s.heap.size ≤ q → A q := fun q h => by rw [← hAe]; exact Or.inr h
  have hS : va_S A s.heap s.heap [] := va_S.rf
  have hG : GX [] tg σ I I ri rq := ⟨hG0, fun _ _ _ => rfl⟩
  have hl := lv_entry ([.ref a0, .ref a1]) (n := 2) (Nat.le_of_ble_eq_true rfl)
  rw [lg_entry_eq]
  generalize (lg_sl ([.ref a0, .ref a1]) ++ List.replicate (2 - (lg_sl ([.ref a0, .ref a1])).length) Slot.unset).toArray = ls at hl ⊢
  have hl : lv_has ls 2 [(0, .ref a0), (1, .ref a1)] := hl
  refine q_gen (fun Q hQ => ?_)
  have go : ∀ (H : Heap) (locs : List Loc) (ls : Array Slot), va_P D vwCl (pq_P t σ (I, J, ri, rj, rq)) H → va_D A (pq_P t σ (I, J, ri, rj, rq)) → va_S A s.heap H locs → lv_has ls 2 [(0, .ref a0), (1, .ref a1)] → W p l e ({ frames := 1, cells := 0, slots := 0, locals := 60 } : Room) s m (List.toArray ([.ref a0, .ref a1] : List Value)) below meth c H locs 0 0 Q (F0 m 0 ls []) := by
    intro H locs ls hP hD hS hl
    refine lv_aload_n hx hb dX11_copy_0 rfl (lv_at hl 0 rfl) ?_
    refine lv_iconst (v := 0) hx hb dX11_copy_1 (by decide) ?_
    refine lv_aload_n hx hb dX11_copy_2 rfl (lv_at hl 1 rfl) ?_
    refine lv_iconst (v := 0) hx hb dX11_copy_3 (by decide) ?_
    refine lv_aload_n hx hb dX11_copy_4 rfl (lv_at hl 0 rfl) ?_
    refine pn_i (v := 200) hx hb hK hP hL_a0 hK_a0 hN_a0 (by decide) dX11_copy_5 ?_
    refine lv_aload_n hx hb dX11_copy_6 rfl (lv_at hl 1 rfl) ?_
    refine pn_i (v := 200) hx hb hK hP hL_a1 hK_a1 hN_a1 (by decide) dX11_copy_7 ?_
    refine va_mmin hx hb (hml.trans hl.1.symm) hown (hts _ (tw_c tw_1103)) (hts _ (tw_c tw_467)) (hts _ (tw_c tw_276)) (hts _ (tw_c tw_468)) (Nat.le_of_ble_eq_true rfl) (Nat.le_of_ble_eq_true rfl) (Nat.zero_le _) (Nat.zero_le _) dX11_copy_8 ?_
    refine lv_topi (fun x_1 ex_1 => ?_)
    have h_2 : rg x_1 200 200 := rg_of_eq ex_1 (rg_min2 (rg_k (200 : Int32) 200 rfl) (rg_k (200 : Int32) 200 rfl) (by decide))
    refine pc_i hx hb (hml.trans hl.1.symm) hown (hts _ (tw_c tw_1104)) (hts _ (tw_c tw_1105)) (hts _ (tw_c tw_1106)) (hts _ (tw_c tw_1107)) hK hP hD hS hL_a0 hK_a0 hN_a0 hL_a1 hK_a1 hN_a1 (rg_pos (rg_k (0 : Int32) 0 rfl) (by decide)) (rg_pos h_2 (by decide)) (rg_cp (rg_k (0 : Int32) 0 rfl) h_2 (by decide)) (rg_cl h_2 (by decide)) (Nat.le_of_ble_eq_true rfl) (Nat.le_of_ble_eq_true rfl) dX11_copy_11 (fun r_3 H locs er_3 hP hD hS => ?_)
    have hG := GX.cR hG hSH hT_a0 rfl hT_a1 rfl er_3 (by decide)
    subst hQ
    exact W.vret hx hb hr (fun t1 ht hW => ⟨⟨(σ, I, J, r_3, rj, rq), rfl, ⟨r_3, rfl, hG, (cpy_eq er_3 h_2 rfl)⟩, by rw [ht]; exact hP, va_K.moved hW.alike hK, hD⟩, hS.F ht⟩) hS.2.2 dX11_copy_14
  exact go _ _ _ hP hD hS hl

set_option maxHeartbeats 4000000 in
set_option maxRecDepth 100000 in
theorem s_X11_copy_226_226 (l : Launch) (D : va_G) (t : pq_T) (σ : pq_S) (I : Nat → Nat → Int32) (J : Nat → Nat → Int64) (ri : Nat → Nat → Int32) (rj : Nat → Nat → Int64) (rq : Nat → Nat → Option Nat) (sz : Nat) (tg : Nat → Nat) (hSH : SH σ tg) (hG0 : GS tg σ I ri rq) (a0 : Nat) (a1 : Nat) (hL_a0 : a0 ∈ σ.1) (hK_a0 : σ.2.1 a0 = 13) (hN_a0 : σ.2.2.2 a0 = 200) (hT_a0 : tg a0 = 226) (hL_a1 : a1 ∈ σ.1) (hK_a1 : σ.2.1 a1 = 13) (hN_a1 : σ.2.2.2 a1 = 200) (hT_a1 : tg a1 = 226) : MetV l yX11_copy (wa yX11_copy cX11_copy 2 none) ({ frames := 1, cells := 0, slots := 0, locals := 60 }) [.ref a0, .ref a1] D t σ (I, J, ri, rj, rq) sz 0 0 (fun (u : pq_S × pq_M) => ∃ ri' : Nat → Nat → Int32, u = (σ, I, J, ri', rj, rq) ∧ GX [] tg σ I I ri' rq ∧ (∀ j, j < 200 → ri' a1 j = ri a0 j)) := by
  refine Met.ofW (cc := cX11_copy) (maxL := 2) (ret := none) (by decide) rfl ?_
  intro p e s m args below meth c s₁ B hml hv
  obtain ⟨rfl, hsz, hP, hK, hD0, hN⟩ := hv
  have hx := B.exec
  have hb := B.bytes
  have hr := B.returns
  have hts := atoms_spec (ws := (wa yX11_copy cX11_copy 2 none)) B.pre
  have hown : s.vm.findClass RX11 = some m.cls := findClass_of_methodNamed B.named
  have hlocks := B.notSynchronized
  subst hsz
  have hD : va_D (pq_B t σ (I, J, ri, rj, rq) s.heap.size) (pq_P t σ (I, J, ri, rj, rq)) := hD0.self
  generalize hAe : pq_B t σ (I, J, ri, rj, rq) s.heap.size = A at hD ⊢
  have hA : ∀ q : Nat, s.heap.size ≤ q → A q := fun q h => by rw [← hAe]; exact Or.inr h
  have hS : va_S A s.heap s.heap [] := va_S.rf
  have hG : GX [] tg σ I I ri rq := ⟨hG0, fun _ _ _ => rfl⟩
  have hl := lv_entry ([.ref a0, .ref a1]) (n := 2) (Nat.le_of_ble_eq_true rfl)
  rw [lg_entry_eq]
  generalize (lg_sl ([.ref a0, .ref a1]) ++ List.replicate (2 - (lg_sl ([.ref a0, .ref a1])).length) Slot.unset).toArray = ls at hl ⊢
  have hl : lv_has ls 2 [(0, .ref a0), (1, .ref a1)] := hl
  refine q_gen (fun Q hQ => ?_)
  have go : ∀ (H : Heap) (locs : List Loc) (ls : Array Slot), va_P D vwCl (pq_P t σ (I, J, ri, rj, rq)) H → va_D A (pq_P t σ (I, J, ri, rj, rq)) → va_S A s.heap H locs → lv_has ls 2 [(0, .ref a0), (1, .ref a1)] → W p l e ({ frames := 1, cells := 0, slots := 0, locals := 60 } : Room) s m (List.toArray ([.ref a0, .ref a1] : List Value)) below meth c H locs 0 0 Q (F0 m 0 ls []) := by
    intro H locs ls hP hD hS hl
    refine lv_aload_n hx hb dX11_copy_0 rfl (lv_at hl 0 rfl) ?_
    refine lv_iconst (v := 0) hx hb dX11_copy_1 (by decide) ?_
    refine lv_aload_n hx hb dX11_copy_2 rfl (lv_at hl 1 rfl) ?_
    refine lv_iconst (v := 0) hx hb dX11_copy_3 (by decide) ?_
    refine lv_aload_n hx hb dX11_copy_4 rfl (lv_at hl 0 rfl) ?_
    refine pn_i (v := 200) hx hb hK hP hL_a0 hK_a0 hN_a0 (by decide) dX11_copy_5 ?_
    refine lv_aload_n hx hb dX11_copy_6 rfl (lv_at hl 1 rfl) ?_
    refine pn_i (v := 200) hx hb hK hP hL_a1 hK_a1 hN_a1 (by decide) dX11_copy_7 ?_
    refine va_mmin hx hb (hml.trans hl.1.symm) hown (hts _ (tw_c tw_1103)) (hts _ (tw_c tw_467)) (hts _ (tw_c tw_276)) (hts _ (tw_c tw_468)) (Nat.le_of_ble_eq_true rfl) (Nat.le_of_ble_eq_true rfl) (Nat.zero_le _) (Nat.zero_le _) dX11_copy_8 ?_
    refine lv_topi (fun x_1 ex_1 => ?_)
    have h_2 : rg x_1 200 200 := rg_of_eq ex_1 (rg_min2 (rg_k (200 : Int32) 200 rfl) (rg_k (200 : Int32) 200 rfl) (by decide))
    refine pc_i hx hb (hml.trans hl.1.symm) hown (hts _ (tw_c tw_1104)) (hts _ (tw_c tw_1105)) (hts _ (tw_c tw_1106)) (hts _ (tw_c tw_1107)) hK hP hD hS hL_a0 hK_a0 hN_a0 hL_a1 hK_a1 hN_a1 (rg_pos (rg_k (0 : Int32) 0 rfl) (by decide)) (rg_pos h_2 (by decide)) (rg_cp (rg_k (0 : Int32) 0 rfl) h_2 (by decide)) (rg_cl h_2 (by decide)) (Nat.le_of_ble_eq_true rfl) (Nat.le_of_ble_eq_true rfl) dX11_copy_11 (fun r_3 H locs er_3 hP hD hS => ?_)
    have hG := GX.cR hG hSH hT_a0 rfl hT_a1 rfl er_3 (by decide)
    subst hQ
    exact W.vret hx hb hr (fun t1 ht hW => ⟨⟨(σ, I, J, r_3, rj, rq), rfl, ⟨r_3, rfl, hG, (cpy_eq er_3 h_2 rfl)⟩, by rw [ht]; exact hP, va_K.moved hW.alike hK, hD⟩, hS.F ht⟩) hS.2.2 dX11_copy_14
  exact go _ _ _ hP hD hS hl

set_option maxHeartbeats 4000000 in
set_option maxRecDepth 100000 in
theorem s_X11_copy_227_227 (l : Launch) (D : va_G) (t : pq_T) (σ : pq_S) (I : Nat → Nat → Int32) (J : Nat → Nat → Int64) (ri : Nat → Nat → Int32) (rj : Nat → Nat → Int64) (rq : Nat → Nat → Option Nat) (sz : Nat) (tg : Nat → Nat) (hSH : SH σ tg) (hG0 : GS tg σ I ri rq) (a0 : Nat) (a1 : Nat) (hL_a0 : a0 ∈ σ.1) (hK_a0 : σ.2.1 a0 = 13) (hN_a0 : σ.2.2.2 a0 = 200) (hT_a0 : tg a0 = 227) (hL_a1 : a1 ∈ σ.1) (hK_a1 : σ.2.1 a1 = 13) (hN_a1 : σ.2.2.2 a1 = 200) (hT_a1 : tg a1 = 227) : MetV l yX11_copy (wa yX11_copy cX11_copy 2 none) ({ frames := 1, cells := 0, slots := 0, locals := 60 }) [.ref a0, .ref a1] D t σ (I, J, ri, rj, rq) sz 0 0 (fun (u : pq_S × pq_M) => ∃ ri' : Nat → Nat → Int32, u = (σ, I, J, ri', rj, rq) ∧ GX [] tg σ I I ri' rq ∧ (∀ j, j < 200 → ri' a1 j = ri a0 j)) := by
  refine Met.ofW (cc := cX11_copy) (maxL := 2) (ret := none) (by decide) rfl ?_
  intro p e s m args below meth c s₁ B hml hv
  obtain ⟨rfl, hsz, hP, hK, hD0, hN⟩ := hv
  have hx := B.exec
  have hb := B.bytes
  have hr := B.returns
  have hts := atoms_spec (ws := (wa yX11_copy cX11_copy 2 none)) B.pre
  have hown : s.vm.findClass RX11 = some m.cls := findClass_of_methodNamed B.named
  have hlocks := B.notSynchronized
  subst hsz
  have hD : va_D (pq_B t σ (I, J, ri, rj, rq) s.heap.size) (pq_P t σ (I, J, ri, rj, rq)) := hD0.self
  generalize hAe : pq_B t σ (I, J, ri, rj, rq) s.heap.size = A at hD ⊢
  have hA : ∀ q : Nat, s.heap.size ≤ q → A q := fun q h => by rw [← hAe]; exact Or.inr h
  have hS : va_S A s.heap s.heap [] := va_S.rf
  have hG : GX [] tg σ I I ri rq := ⟨hG0, fun _ _ _ => rfl⟩
  have hl := lv_entry ([.ref a0, .ref a1]) (n := 2) (Nat.le_of_ble_eq_true rfl)
  rw [lg_entry_eq]
  generalize (lg_sl ([.ref a0, .ref a1]) ++ List.replicate (2 - (lg_sl ([.ref a0, .ref a1])).length) Slot.unset).toArray = ls at hl ⊢
  have hl : lv_has ls 2 [(0, .ref a0), (1, .ref a1)] := hl
  refine q_gen (fun Q hQ => ?_)
  have go : ∀ (H : Heap) (locs : List Loc) (ls : Array Slot), va_P D vwCl (pq_P t σ (I, J, ri, rj, rq)) H → va_D A (pq_P t σ (I, J, ri, rj, rq)) → va_S A s.heap H locs → lv_has ls 2 [(0, .ref a0), (1, .ref a1)] → W p l e ({ frames := 1, cells := 0, slots := 0, locals := 60 } : Room) s m (List.toArray ([.ref a0, .ref a1] : List Value)) below meth c H locs 0 0 Q (F0 m 0 ls []) := by
    intro H locs ls hP hD hS hl
    refine lv_aload_n hx hb dX11_copy_0 rfl (lv_at hl 0 rfl) ?_
    refine lv_iconst (v := 0) hx hb dX11_copy_1 (by decide) ?_
    refine lv_aload_n hx hb dX11_copy_2 rfl (lv_at hl 1 rfl) ?_
    refine lv_iconst (v := 0) hx hb dX11_copy_3 (by decide) ?_
    refine lv_aload_n hx hb dX11_copy_4 rfl (lv_at hl 0 rfl) ?_
    refine pn_i (v := 200) hx hb hK hP hL_a0 hK_a0 hN_a0 (by decide) dX11_copy_5 ?_
    refine lv_aload_n hx hb dX11_copy_6 rfl (lv_at hl 1 rfl) ?_
    refine pn_i (v := 200) hx hb hK hP hL_a1 hK_a1 hN_a1 (by decide) dX11_copy_7 ?_
    refine va_mmin hx hb (hml.trans hl.1.symm) hown (hts _ (tw_c tw_1103)) (hts _ (tw_c tw_467)) (hts _ (tw_c tw_276)) (hts _ (tw_c tw_468)) (Nat.le_of_ble_eq_true rfl) (Nat.le_of_ble_eq_true rfl) (Nat.zero_le _) (Nat.zero_le _) dX11_copy_8 ?_
    refine lv_topi (fun x_1 ex_1 => ?_)
    have h_2 : rg x_1 200 200 := rg_of_eq ex_1 (rg_min2 (rg_k (200 : Int32) 200 rfl) (rg_k (200 : Int32) 200 rfl) (by decide))
    refine pc_i hx hb (hml.trans hl.1.symm) hown (hts _ (tw_c tw_1104)) (hts _ (tw_c tw_1105)) (hts _ (tw_c tw_1106)) (hts _ (tw_c tw_1107)) hK hP hD hS hL_a0 hK_a0 hN_a0 hL_a1 hK_a1 hN_a1 (rg_pos (rg_k (0 : Int32) 0 rfl) (by decide)) (rg_pos h_2 (by decide)) (rg_cp (rg_k (0 : Int32) 0 rfl) h_2 (by decide)) (rg_cl h_2 (by decide)) (Nat.le_of_ble_eq_true rfl) (Nat.le_of_ble_eq_true rfl) dX11_copy_11 (fun r_3 H locs er_3 hP hD hS => ?_)
    have hG := GX.cR hG hSH hT_a0 rfl hT_a1 rfl er_3 (by decide)
    subst hQ
    exact W.vret hx hb hr (fun t1 ht hW => ⟨⟨(σ, I, J, r_3, rj, rq), rfl, ⟨r_3, rfl, hG, (cpy_eq er_3 h_2 rfl)⟩, by rw [ht]; exact hP, va_K.moved hW.alike hK, hD⟩, hS.F ht⟩) hS.2.2 dX11_copy_14
  exact go _ _ _ hP hD hS hl

set_option maxHeartbeats 4000000 in
set_option maxRecDepth 100000 in
theorem s_X11_copy_228_228 (l : Launch) (D : va_G) (t : pq_T) (σ : pq_S) (I : Nat → Nat → Int32) (J : Nat → Nat → Int64) (ri : Nat → Nat → Int32) (rj : Nat → Nat → Int64) (rq : Nat → Nat → Option Nat) (sz : Nat) (tg : Nat → Nat) (hSH : SH σ tg) (hG0 : GS tg σ I ri rq) (a0 : Nat) (a1 : Nat) (hL_a0 : a0 ∈ σ.1) (hK_a0 : σ.2.1 a0 = 13) (hN_a0 : σ.2.2.2 a0 = 200) (hT_a0 : tg a0 = 228) (hL_a1 : a1 ∈ σ.1) (hK_a1 : σ.2.1 a1 = 13) (hN_a1 : σ.2.2.2 a1 = 200) (hT_a1 : tg a1 = 228) : MetV l yX11_copy (wa yX11_copy cX11_copy 2 none) ({ frames := 1, cells := 0, slots := 0, locals := 60 }) [.ref a0, .ref a1] D t σ (I, J, ri, rj, rq) sz 0 0 (fun (u : pq_S × pq_M) => ∃ ri' : Nat → Nat → Int32, u = (σ, I, J, ri', rj, rq) ∧ GX [] tg σ I I ri' rq ∧ (∀ j, j < 200 → ri' a1 j = ri a0 j)) := by
  refine Met.ofW (cc := cX11_copy) (maxL := 2) (ret := none) (by decide) rfl ?_
  intro p e s m args below meth c s₁ B hml hv
  obtain ⟨rfl, hsz, hP, hK, hD0, hN⟩ := hv
  have hx := B.exec
  have hb := B.bytes
  have hr := B.returns
  have hts := atoms_spec (ws := (wa yX11_copy cX11_copy 2 none)) B.pre
  have hown : s.vm.findClass RX11 = some m.cls := findClass_of_methodNamed B.named
  have hlocks := B.notSynchronized
  subst hsz
  have hD : va_D (pq_B t σ (I, J, ri, rj, rq) s.heap.size) (pq_P t σ (I, J, ri, rj, rq)) := hD0.self
  generalize hAe : pq_B t σ (I, J, ri, rj, rq) s.heap.size = A at hD ⊢
  have hA : ∀ q : Nat, s.heap.size ≤ q → A q := fun q h => by rw [← hAe]; exact Or.inr h
  have hS : va_S A s.heap s.heap [] := va_S.rf
  have hG : GX [] tg σ I I ri rq := ⟨hG0, fun _ _ _ => rfl⟩
  have hl := lv_entry ([.ref a0, .ref a1]) (n := 2) (Nat.le_of_ble_eq_true rfl)
  rw [lg_entry_eq]
  generalize (lg_sl ([.ref a0, .ref a1]) ++ List.replicate (2 - (lg_sl ([.ref a0, .ref a1])).length) Slot.unset).toArray = ls at hl ⊢
  have hl : lv_has ls 2 [(0, .ref a0), (1, .ref a1)] := hl
  refine q_gen (fun Q hQ => ?_)
  have go : ∀ (H : Heap) (locs : List Loc) (ls : Array Slot), va_P D vwCl (pq_P t σ (I, J, ri, rj, rq)) H → va_D A (pq_P t σ (I, J, ri, rj, rq)) → va_S A s.heap H locs → lv_has ls 2 [(0, .ref a0), (1, .ref a1)] → W p l e ({ frames := 1, cells := 0, slots := 0, locals := 60 } : Room) s m (List.toArray ([.ref a0, .ref a1] : List Value)) below meth c H locs 0 0 Q (F0 m 0 ls []) := by
    intro H locs ls hP hD hS hl
    refine lv_aload_n hx hb dX11_copy_0 rfl (lv_at hl 0 rfl) ?_
    refine lv_iconst (v := 0) hx hb dX11_copy_1 (by decide) ?_
    refine lv_aload_n hx hb dX11_copy_2 rfl (lv_at hl 1 rfl) ?_
    refine lv_iconst (v := 0) hx hb dX11_copy_3 (by decide) ?_
    refine lv_aload_n hx hb dX11_copy_4 rfl (lv_at hl 0 rfl) ?_
    refine pn_i (v := 200) hx hb hK hP hL_a0 hK_a0 hN_a0 (by decide) dX11_copy_5 ?_
    refine lv_aload_n hx hb dX11_copy_6 rfl (lv_at hl 1 rfl) ?_
    refine pn_i (v := 200) hx hb hK hP hL_a1 hK_a1 hN_a1 (by decide) dX11_copy_7 ?_
    refine va_mmin hx hb (hml.trans hl.1.symm) hown (hts _ (tw_c tw_1103)) (hts _ (tw_c tw_467)) (hts _ (tw_c tw_276)) (hts _ (tw_c tw_468)) (Nat.le_of_ble_eq_true rfl) (Nat.le_of_ble_eq_true rfl) (Nat.zero_le _) (Nat.zero_le _) dX11_copy_8 ?_
    refine lv_topi (fun x_1 ex_1 => ?_)
    have h_2 : rg x_1 200 200 := rg_of_eq ex_1 (rg_min2 (rg_k (200 : Int32) 200 rfl) (rg_k (200 : Int32) 200 rfl) (by decide))
    refine pc_i hx hb (hml.trans hl.1.symm) hown (hts _ (tw_c tw_1104)) (hts _ (tw_c tw_1105)) (hts _ (tw_c tw_1106)) (hts _ (tw_c tw_1107)) hK hP hD hS hL_a0 hK_a0 hN_a0 hL_a1 hK_a1 hN_a1 (rg_pos (rg_k (0 : Int32) 0 rfl) (by decide)) (rg_pos h_2 (by decide)) (rg_cp (rg_k (0 : Int32) 0 rfl) h_2 (by decide)) (rg_cl h_2 (by decide)) (Nat.le_of_ble_eq_true rfl) (Nat.le_of_ble_eq_true rfl) dX11_copy_11 (fun r_3 H locs er_3 hP hD hS => ?_)
    have hG := GX.cR hG hSH hT_a0 rfl hT_a1 rfl er_3 (by decide)
    subst hQ
    exact W.vret hx hb hr (fun t1 ht hW => ⟨⟨(σ, I, J, r_3, rj, rq), rfl, ⟨r_3, rfl, hG, (cpy_eq er_3 h_2 rfl)⟩, by rw [ht]; exact hP, va_K.moved hW.alike hK, hD⟩, hS.F ht⟩) hS.2.2 dX11_copy_14
  exact go _ _ _ hP hD hS hl

set_option maxHeartbeats 4000000 in
set_option maxRecDepth 100000 in
theorem s_X11_copy_229_229 (l : Launch) (D : va_G) (t : pq_T) (σ : pq_S) (I : Nat → Nat → Int32) (J : Nat → Nat → Int64) (ri : Nat → Nat → Int32) (rj : Nat → Nat → Int64) (rq : Nat → Nat → Option Nat) (sz : Nat) (tg : Nat → Nat) (hSH : SH σ tg) (hG0 : GS tg σ I ri rq) (a0 : Nat) (a1 : Nat) (hL_a0 : a0 ∈ σ.1) (hK_a0 : σ.2.1 a0 = 13) (hN_a0 : σ.2.2.2 a0 = 12) (hT_a0 : tg a0 = 229) (hL_a1 : a1 ∈ σ.1) (hK_a1 : σ.2.1 a1 = 13) (hN_a1 : σ.2.2.2 a1 = 12) (hT_a1 : tg a1 = 229) : MetV l yX11_copy (wa yX11_copy cX11_copy 2 none) ({ frames := 1, cells := 0, slots := 0, locals := 60 }) [.ref a0, .ref a1] D t σ (I, J, ri, rj, rq) sz 0 0 (fun (u : pq_S × pq_M) => ∃ ri' : Nat → Nat → Int32, u = (σ, I, J, ri', rj, rq) ∧ GX [] tg σ I I ri' rq ∧ (∀ j, j < 12 → ri' a1 j = ri a0 j)) := by
  refine Met.ofW (cc := cX11_copy) (maxL := 2) (ret := none) (by decide) rfl ?_
  intro p e s m args below meth c s₁ B hml hv
  obtain ⟨rfl, hsz, hP, hK, hD0, hN⟩ := hv
  have hx := B.exec
  have hb := B.bytes
  have hr := B.returns
  have hts := atoms_spec (ws := (wa yX11_copy cX11_copy 2 none)) B.pre
  have hown : s.vm.findClass RX11 = some m.cls := findClass_of_methodNamed B.named
  have hlocks := B.notSynchronized
  subst hsz
  have hD : va_D (pq_B t σ (I, J, ri, rj, rq) s.heap.size) (pq_P t σ (I, J, ri, rj, rq)) := hD0.self
  generalize hAe : pq_B t σ (I, J, ri, rj, rq) s.heap.size = A at hD ⊢
  have hA : ∀ q : Nat, s.heap.size ≤ q → A q := fun q h => by rw [← hAe]; exact Or.inr h
  have hS : va_S A s.heap s.heap [] := va_S.rf
  have hG : GX [] tg σ I I ri rq := ⟨hG0, fun _ _ _ => rfl⟩
  have hl := lv_entry ([.ref a0, .ref a1]) (n := 2) (Nat.le_of_ble_eq_true rfl)
  rw [lg_entry_eq]
  generalize (lg_sl ([.ref a0, .ref a1]) ++ List.replicate (2 - (lg_sl ([.ref a0, .ref a1])).length) Slot.unset).toArray = ls at hl ⊢
  have hl : lv_has ls 2 [(0, .ref a0), (1, .ref a1)] := hl
  refine q_gen (fun Q hQ => ?_)
  have go : ∀ (H : Heap) (locs : List Loc) (ls : Array Slot), va_P D vwCl (pq_P t σ (I, J, ri, rj, rq)) H → va_D A (pq_P t σ (I, J, ri, rj, rq)) → va_S A s.heap H locs → lv_has ls 2 [(0, .ref a0), (1, .ref a1)] → W p l e ({ frames := 1, cells := 0, slots := 0, locals := 60 } : Room) s m (List.toArray ([.ref a0, .ref a1] : List Value)) below meth c H locs 0 0 Q (F0 m 0 ls []) := by
    intro H locs ls hP hD hS hl
    refine lv_aload_n hx hb dX11_copy_0 rfl (lv_at hl 0 rfl) ?_
    refine lv_iconst (v := 0) hx hb dX11_copy_1 (by decide) ?_
    refine lv_aload_n hx hb dX11_copy_2 rfl (lv_at hl 1 rfl) ?_
    refine lv_iconst (v := 0) hx hb dX11_copy_3 (by decide) ?_
    refine lv_aload_n hx hb dX11_copy_4 rfl (lv_at hl 0 rfl) ?_
    refine pn_i (v := 12) hx hb hK hP hL_a0 hK_a0 hN_a0 (by decide) dX11_copy_5 ?_
    refine lv_aload_n hx hb dX11_copy_6 rfl (lv_at hl 1 rfl) ?_
    refine pn_i (v := 12) hx hb hK hP hL_a1 hK_a1 hN_a1 (by decide) dX11_copy_7 ?_
    refine va_mmin hx hb (hml.trans hl.1.symm) hown (hts _ (tw_c tw_1103)) (hts _ (tw_c tw_467)) (hts _ (tw_c tw_276)) (hts _ (tw_c tw_468)) (Nat.le_of_ble_eq_true rfl) (Nat.le_of_ble_eq_true rfl) (Nat.zero_le _) (Nat.zero_le _) dX11_copy_8 ?_
    refine lv_topi (fun x_1 ex_1 => ?_)
    have h_2 : rg x_1 12 12 := rg_of_eq ex_1 (rg_min2 (rg_k (12 : Int32) 12 rfl) (rg_k (12 : Int32) 12 rfl) (by decide))
    refine pc_i hx hb (hml.trans hl.1.symm) hown (hts _ (tw_c tw_1104)) (hts _ (tw_c tw_1105)) (hts _ (tw_c tw_1106)) (hts _ (tw_c tw_1107)) hK hP hD hS hL_a0 hK_a0 hN_a0 hL_a1 hK_a1 hN_a1 (rg_pos (rg_k (0 : Int32) 0 rfl) (by decide)) (rg_pos h_2 (by decide)) (rg_cp (rg_k (0 : Int32) 0 rfl) h_2 (by decide)) (rg_cl h_2 (by decide)) (Nat.le_of_ble_eq_true rfl) (Nat.le_of_ble_eq_true rfl) dX11_copy_11 (fun r_3 H locs er_3 hP hD hS => ?_)
    have hG := GX.cR hG hSH hT_a0 rfl hT_a1 rfl er_3 (by decide)
    subst hQ
    exact W.vret hx hb hr (fun t1 ht hW => ⟨⟨(σ, I, J, r_3, rj, rq), rfl, ⟨r_3, rfl, hG, (cpy_eq er_3 h_2 rfl)⟩, by rw [ht]; exact hP, va_K.moved hW.alike hK, hD⟩, hS.F ht⟩) hS.2.2 dX11_copy_14
  exact go _ _ _ hP hD hS hl

set_option maxHeartbeats 4000000 in
set_option maxRecDepth 100000 in
theorem s_X11_copy_230_230 (l : Launch) (D : va_G) (t : pq_T) (σ : pq_S) (I : Nat → Nat → Int32) (J : Nat → Nat → Int64) (ri : Nat → Nat → Int32) (rj : Nat → Nat → Int64) (rq : Nat → Nat → Option Nat) (sz : Nat) (tg : Nat → Nat) (hSH : SH σ tg) (hG0 : GS tg σ I ri rq) (a0 : Nat) (a1 : Nat) (hL_a0 : a0 ∈ σ.1) (hK_a0 : σ.2.1 a0 = 13) (hN_a0 : σ.2.2.2 a0 = 12) (hT_a0 : tg a0 = 230) (hL_a1 : a1 ∈ σ.1) (hK_a1 : σ.2.1 a1 = 13) (hN_a1 : σ.2.2.2 a1 = 12) (hT_a1 : tg a1 = 230) : MetV l yX11_copy (wa yX11_copy cX11_copy 2 none) ({ frames := 1, cells := 0, slots := 0, locals := 60 }) [.ref a0, .ref a1] D t σ (I, J, ri, rj, rq) sz 0 0 (fun (u : pq_S × pq_M) => ∃ ri' : Nat → Nat → Int32, u = (σ, I, J, ri', rj, rq) ∧ GX [] tg σ I I ri' rq ∧ (∀ j, j < 12 → ri' a1 j = ri a0 j)) := by
  refine Met.ofW (cc := cX11_copy) (maxL := 2) (ret := none) (by decide) rfl ?_
  intro p e s m args below meth c s₁ B hml hv
  obtain ⟨rfl, hsz, hP, hK, hD0, hN⟩ := hv
  have hx := B.exec
  have hb := B.bytes
  have hr := B.returns
  have hts := atoms_spec (ws := (wa yX11_copy cX11_copy 2 none)) B.pre
  have hown : s.vm.findClass RX11 = some m.cls := findClass_of_methodNamed B.named
  have hlocks := B.notSynchronized
  subst hsz
  have hD : va_D (pq_B t σ (I, J, ri, rj, rq) s.heap.size) (pq_P t σ (I, J, ri, rj, rq)) := hD0.self
  generalize hAe : pq_B t σ (I, J, ri, rj, rq) s.heap.size = A at hD ⊢
  have hA : ∀ q : Nat, s.heap.size ≤ q → A q := fun q h => by rw [← hAe]; exact Or.inr h
  have hS : va_S A s.heap s.heap [] := va_S.rf
  have hG : GX [] tg σ I I ri rq := ⟨hG0, fun _ _ _ => rfl⟩
  have hl := lv_entry ([.ref a0, .ref a1]) (n := 2) (Nat.le_of_ble_eq_true rfl)
  rw [lg_entry_eq]
  generalize (lg_sl ([.ref a0, .ref a1]) ++ List.replicate (2 - (lg_sl ([.ref a0, .ref a1])).length) Slot.unset).toArray = ls at hl ⊢
  have hl : lv_has ls 2 [(0, .ref a0), (1, .ref a1)] := hl
  refine q_gen (fun Q hQ => ?_)
  have go : ∀ (H : Heap) (locs : List Loc) (ls : Array Slot), va_P D vwCl (pq_P t σ (I, J, ri, rj, rq)) H → va_D A (pq_P t σ (I, J, ri, rj, rq)) → va_S A s.heap H locs → lv_has ls 2 [(0, .ref a0), (1, .ref a1)] → W p l e ({ frames := 1, cells := 0, slots := 0, locals := 60 } : Room) s m (List.toArray ([.ref a0, .ref a1] : List Value)) below meth c H locs 0 0 Q (F0 m 0 ls []) := by
    intro H locs ls hP hD hS hl
    refine lv_aload_n hx hb dX11_copy_0 rfl (lv_at hl 0 rfl) ?_
    refine lv_iconst (v := 0) hx hb dX11_copy_1 (by decide) ?_
    refine lv_aload_n hx hb dX11_copy_2 rfl (lv_at hl 1 rfl) ?_
    refine lv_iconst (v := 0) hx hb dX11_copy_3 (by decide) ?_
    refine lv_aload_n hx hb dX11_copy_4 rfl (lv_at hl 0 rfl) ?_
    refine pn_i (v := 12) hx hb hK hP hL_a0 hK_a0 hN_a0 (by decide) dX11_copy_5 ?_
    refine lv_aload_n hx hb dX11_copy_6 rfl (lv_at hl 1 rfl) ?_
    refine pn_i (v := 12) hx hb hK hP hL_a1 hK_a1 hN_a1 (by decide) dX11_copy_7 ?_
    refine va_mmin hx hb (hml.trans hl.1.symm) hown (hts _ (tw_c tw_1103)) (hts _ (tw_c tw_467)) (hts _ (tw_c tw_276)) (hts _ (tw_c tw_468)) (Nat.le_of_ble_eq_true rfl) (Nat.le_of_ble_eq_true rfl) (Nat.zero_le _) (Nat.zero_le _) dX11_copy_8 ?_
    refine lv_topi (fun x_1 ex_1 => ?_)
    have h_2 : rg x_1 12 12 := rg_of_eq ex_1 (rg_min2 (rg_k (12 : Int32) 12 rfl) (rg_k (12 : Int32) 12 rfl) (by decide))
    refine pc_i hx hb (hml.trans hl.1.symm) hown (hts _ (tw_c tw_1104)) (hts _ (tw_c tw_1105)) (hts _ (tw_c tw_1106)) (hts _ (tw_c tw_1107)) hK hP hD hS hL_a0 hK_a0 hN_a0 hL_a1 hK_a1 hN_a1 (rg_pos (rg_k (0 : Int32) 0 rfl) (by decide)) (rg_pos h_2 (by decide)) (rg_cp (rg_k (0 : Int32) 0 rfl) h_2 (by decide)) (rg_cl h_2 (by decide)) (Nat.le_of_ble_eq_true rfl) (Nat.le_of_ble_eq_true rfl) dX11_copy_11 (fun r_3 H locs er_3 hP hD hS => ?_)
    have hG := GX.cR hG hSH hT_a0 rfl hT_a1 rfl er_3 (by decide)
    subst hQ
    exact W.vret hx hb hr (fun t1 ht hW => ⟨⟨(σ, I, J, r_3, rj, rq), rfl, ⟨r_3, rfl, hG, (cpy_eq er_3 h_2 rfl)⟩, by rw [ht]; exact hP, va_K.moved hW.alike hK, hD⟩, hS.F ht⟩) hS.2.2 dX11_copy_14
  exact go _ _ _ hP hD hS hl

set_option maxHeartbeats 4000000 in
set_option maxRecDepth 100000 in
theorem s_X11_copy_231_231 (l : Launch) (D : va_G) (t : pq_T) (σ : pq_S) (I : Nat → Nat → Int32) (J : Nat → Nat → Int64) (ri : Nat → Nat → Int32) (rj : Nat → Nat → Int64) (rq : Nat → Nat → Option Nat) (sz : Nat) (tg : Nat → Nat) (hSH : SH σ tg) (hG0 : GS tg σ I ri rq) (a0 : Nat) (a1 : Nat) (hL_a0 : a0 ∈ σ.1) (hK_a0 : σ.2.1 a0 = 13) (hN_a0 : σ.2.2.2 a0 = 12) (hT_a0 : tg a0 = 231) (hL_a1 : a1 ∈ σ.1) (hK_a1 : σ.2.1 a1 = 13) (hN_a1 : σ.2.2.2 a1 = 12) (hT_a1 : tg a1 = 231) : MetV l yX11_copy (wa yX11_copy cX11_copy 2 none) ({ frames := 1, cells := 0, slots := 0, locals := 60 }) [.ref a0, .ref a1] D t σ (I, J, ri, rj, rq) sz 0 0 (fun (u : pq_S × pq_M) => ∃ ri' : Nat → Nat → Int32, u = (σ, I, J, ri', rj, rq) ∧ GX [] tg σ I I ri' rq ∧ (∀ j, j < 12 → ri' a1 j = ri a0 j)) := by
  refine Met.ofW (cc := cX11_copy) (maxL := 2) (ret := none) (by decide) rfl ?_
  intro p e s m args below meth c s₁ B hml hv
  obtain ⟨rfl, hsz, hP, hK, hD0, hN⟩ := hv
  have hx := B.exec
  have hb := B.bytes
  have hr := B.returns
  have hts := atoms_spec (ws := (wa yX11_copy cX11_copy 2 none)) B.pre
  have hown : s.vm.findClass RX11 = some m.cls := findClass_of_methodNamed B.named
  have hlocks := B.notSynchronized
  subst hsz
  have hD : va_D (pq_B t σ (I, J, ri, rj, rq) s.heap.size) (pq_P t σ (I, J, ri, rj, rq)) := hD0.self
  generalize hAe : pq_B t σ (I, J, ri, rj, rq) s.heap.size = A at hD ⊢
  have hA : ∀ q : Nat, s.heap.size ≤ q → A q := fun q h => by rw [← hAe]; exact Or.inr h
  have hS : va_S A s.heap s.heap [] := va_S.rf
  have hG : GX [] tg σ I I ri rq := ⟨hG0, fun _ _ _ => rfl⟩
  have hl := lv_entry ([.ref a0, .ref a1]) (n := 2) (Nat.le_of_ble_eq_true rfl)
  rw [lg_entry_eq]
  generalize (lg_sl ([.ref a0, .ref a1]) ++ List.replicate (2 - (lg_sl ([.ref a0, .ref a1])).length) Slot.unset).toArray = ls at hl ⊢
  have hl : lv_has ls 2 [(0, .ref a0), (1, .ref a1)] := hl
  refine q_gen (fun Q hQ => ?_)
  have go : ∀ (H : Heap) (locs : List Loc) (ls : Array Slot), va_P D vwCl (pq_P t σ (I, J, ri, rj, rq)) H → va_D A (pq_P t σ (I, J, ri, rj, rq)) → va_S A s.heap H locs → lv_has ls 2 [(0, .ref a0), (1, .ref a1)] → W p l e ({ frames := 1, cells := 0, slots := 0, locals := 60 } : Room) s m (List.toArray ([.ref a0, .ref a1] : List Value)) below meth c H locs 0 0 Q (F0 m 0 ls []) := by
    intro H locs ls hP hD hS hl
    refine lv_aload_n hx hb dX11_copy_0 rfl (lv_at hl 0 rfl) ?_
    refine lv_iconst (v := 0) hx hb dX11_copy_1 (by decide) ?_
    refine lv_aload_n hx hb dX11_copy_2 rfl (lv_at hl 1 rfl) ?_
    refine lv_iconst (v := 0) hx hb dX11_copy_3 (by decide) ?_
    refine lv_aload_n hx hb dX11_copy_4 rfl (lv_at hl 0 rfl) ?_
    refine pn_i (v := 12) hx hb hK hP hL_a0 hK_a0 hN_a0 (by decide) dX11_copy_5 ?_
    refine lv_aload_n hx hb dX11_copy_6 rfl (lv_at hl 1 rfl) ?_
    refine pn_i (v := 12) hx hb hK hP hL_a1 hK_a1 hN_a1 (by decide) dX11_copy_7 ?_
    refine va_mmin hx hb (hml.trans hl.1.symm) hown (hts _ (tw_c tw_1103)) (hts _ (tw_c tw_467)) (hts _ (tw_c tw_276)) (hts _ (tw_c tw_468)) (Nat.le_of_ble_eq_true rfl) (Nat.le_of_ble_eq_true rfl) (Nat.zero_le _) (Nat.zero_le _) dX11_copy_8 ?_
    refine lv_topi (fun x_1 ex_1 => ?_)
    have h_2 : rg x_1 12 12 := rg_of_eq ex_1 (rg_min2 (rg_k (12 : Int32) 12 rfl) (rg_k (12 : Int32) 12 rfl) (by decide))
    refine pc_i hx hb (hml.trans hl.1.symm) hown (hts _ (tw_c tw_1104)) (hts _ (tw_c tw_1105)) (hts _ (tw_c tw_1106)) (hts _ (tw_c tw_1107)) hK hP hD hS hL_a0 hK_a0 hN_a0 hL_a1 hK_a1 hN_a1 (rg_pos (rg_k (0 : Int32) 0 rfl) (by decide)) (rg_pos h_2 (by decide)) (rg_cp (rg_k (0 : Int32) 0 rfl) h_2 (by decide)) (rg_cl h_2 (by decide)) (Nat.le_of_ble_eq_true rfl) (Nat.le_of_ble_eq_true rfl) dX11_copy_11 (fun r_3 H locs er_3 hP hD hS => ?_)
    have hG := GX.cR hG hSH hT_a0 rfl hT_a1 rfl er_3 (by decide)
    subst hQ
    exact W.vret hx hb hr (fun t1 ht hW => ⟨⟨(σ, I, J, r_3, rj, rq), rfl, ⟨r_3, rfl, hG, (cpy_eq er_3 h_2 rfl)⟩, by rw [ht]; exact hP, va_K.moved hW.alike hK, hD⟩, hS.F ht⟩) hS.2.2 dX11_copy_14
  exact go _ _ _ hP hD hS hl

set_option maxHeartbeats 4000000 in
set_option maxRecDepth 100000 in
theorem s_X11_copy_232_232 (l : Launch) (D : va_G) (t : pq_T) (σ : pq_S) (I : Nat → Nat → Int32) (J : Nat → Nat → Int64) (ri : Nat → Nat → Int32) (rj : Nat → Nat → Int64) (rq : Nat → Nat → Option Nat) (sz : Nat) (tg : Nat → Nat) (hSH : SH σ tg) (hG0 : GS tg σ I ri rq) (a0 : Nat) (a1 : Nat) (hL_a0 : a0 ∈ σ.1) (hK_a0 : σ.2.1 a0 = 13) (hN_a0 : σ.2.2.2 a0 = 12) (hT_a0 : tg a0 = 232) (hL_a1 : a1 ∈ σ.1) (hK_a1 : σ.2.1 a1 = 13) (hN_a1 : σ.2.2.2 a1 = 12) (hT_a1 : tg a1 = 232) : MetV l yX11_copy (wa yX11_copy cX11_copy 2 none) ({ frames := 1, cells := 0, slots := 0, locals := 60 }) [.ref a0, .ref a1] D t σ (I, J, ri, rj, rq) sz 0 0 (fun (u : pq_S × pq_M) => ∃ ri' : Nat → Nat → Int32, u = (σ, I, J, ri', rj, rq) ∧ GX [] tg σ I I ri' rq ∧ (∀ j, j < 12 → ri' a1 j = ri a0 j)) := by
  refine Met.ofW (cc := cX11_copy) (maxL := 2) (ret := none) (by decide) rfl ?_
  intro p e s m args below meth c s₁ B hml hv
  obtain ⟨rfl, hsz, hP, hK, hD0, hN⟩ := hv
  have hx := B.exec
  have hb := B.bytes
  have hr := B.returns
  have hts := atoms_spec (ws := (wa yX11_copy cX11_copy 2 none)) B.pre
  have hown : s.vm.findClass RX11 = some m.cls := findClass_of_methodNamed B.named
  have hlocks := B.notSynchronized
  subst hsz
  have hD : va_D (pq_B t σ (I, J, ri, rj, rq) s.heap.size) (pq_P t σ (I, J, ri, rj, rq)) := hD0.self
  generalize hAe : pq_B t σ (I, J, ri, rj, rq) s.heap.size = A at hD ⊢
  have hA : ∀ q : Nat, s.heap.size ≤ q → A q := fun q h => by rw [← hAe]; exact Or.inr h
  have hS : va_S A s.heap s.heap [] := va_S.rf
  have hG : GX [] tg σ I I ri rq := ⟨hG0, fun _ _ _ => rfl⟩
  have hl := lv_entry ([.ref a0, .ref a1]) (n := 2) (Nat.le_of_ble_eq_true rfl)
  rw [lg_entry_eq]
  generalize (lg_sl ([.ref a0, .ref a1]) ++ List.replicate (2 - (lg_sl ([.ref a0, .ref a1])).length) Slot.unset).toArray = ls at hl ⊢
  have hl : lv_has ls 2 [(0, .ref a0), (1, .ref a1)] := hl
  refine q_gen (fun Q hQ => ?_)
  have go : ∀ (H : Heap) (locs : List Loc) (ls : Array Slot), va_P D vwCl (pq_P t σ (I, J, ri, rj, rq)) H → va_D A (pq_P t σ (I, J, ri, rj, rq)) → va_S A s.heap H locs → lv_has ls 2 [(0, .ref a0), (1, .ref a1)] → W p l e ({ frames := 1, cells := 0, slots := 0, locals := 60 } : Room) s m (List.toArray ([.ref a0, .ref a1] : List Value)) below meth c H locs 0 0 Q (F0 m 0 ls []) := by
    intro H locs ls hP hD hS hl
    refine lv_aload_n hx hb dX11_copy_0 rfl (lv_at hl 0 rfl) ?_
    refine lv_iconst (v := 0) hx hb dX11_copy_1 (by decide) ?_
    refine lv_aload_n hx hb dX11_copy_2 rfl (lv_at hl 1 rfl) ?_
    refine lv_iconst (v := 0) hx hb dX11_copy_3 (by decide) ?_
    refine lv_aload_n hx hb dX11_copy_4 rfl (lv_at hl 0 rfl) ?_
    refine pn_i (v := 12) hx hb hK hP hL_a0 hK_a0 hN_a0 (by decide) dX11_copy_5 ?_
    refine lv_aload_n hx hb dX11_copy_6 rfl (lv_at hl 1 rfl) ?_
    refine pn_i (v := 12) hx hb hK hP hL_a1 hK_a1 hN_a1 (by decide) dX11_copy_7 ?_
    refine va_mmin hx hb (hml.trans hl.1.symm) hown (hts _ (tw_c tw_1103)) (hts _ (tw_c tw_467)) (hts _ (tw_c tw_276)) (hts _ (tw_c tw_468)) (Nat.le_of_ble_eq_true rfl) (Nat.le_of_ble_eq_true rfl) (Nat.zero_le _) (Nat.zero_le _) dX11_copy_8 ?_
    refine lv_topi (fun x_1 ex_1 => ?_)
    have h_2 : rg x_1 12 12 := rg_of_eq ex_1 (rg_min2 (rg_k (12 : Int32) 12 rfl) (rg_k (12 : Int32) 12 rfl) (by decide))
    refine pc_i hx hb (hml.trans hl.1.symm) hown (hts _ (tw_c tw_1104)) (hts _ (tw_c tw_1105)) (hts _ (tw_c tw_1106)) (hts _ (tw_c tw_1107)) hK hP hD hS hL_a0 hK_a0 hN_a0 hL_a1 hK_a1 hN_a1 (rg_pos (rg_k (0 : Int32) 0 rfl) (by decide)) (rg_pos h_2 (by decide)) (rg_cp (rg_k (0 : Int32) 0 rfl) h_2 (by decide)) (rg_cl h_2 (by decide)) (Nat.le_of_ble_eq_true rfl) (Nat.le_of_ble_eq_true rfl) dX11_copy_11 (fun r_3 H locs er_3 hP hD hS => ?_)
    have hG := GX.cR hG hSH hT_a0 rfl hT_a1 rfl er_3 (by decide)
    subst hQ
    exact W.vret hx hb hr (fun t1 ht hW => ⟨⟨(σ, I, J, r_3, rj, rq), rfl, ⟨r_3, rfl, hG, (cpy_eq er_3 h_2 rfl)⟩, by rw [ht]; exact hP, va_K.moved hW.alike hK, hD⟩, hS.F ht⟩) hS.2.2 dX11_copy_14
  exact go _ _ _ hP hD hS hl

set_option maxHeartbeats 4000000 in
set_option maxRecDepth 100000 in
theorem s_X11_copy_233_233 (l : Launch) (D : va_G) (t : pq_T) (σ : pq_S) (I : Nat → Nat → Int32) (J : Nat → Nat → Int64) (ri : Nat → Nat → Int32) (rj : Nat → Nat → Int64) (rq : Nat → Nat → Option Nat) (sz : Nat) (tg : Nat → Nat) (hSH : SH σ tg) (hG0 : GS tg σ I ri rq) (a0 : Nat) (a1 : Nat) (hL_a0 : a0 ∈ σ.1) (hK_a0 : σ.2.1 a0 = 13) (hN_a0 : σ.2.2.2 a0 = 12) (hT_a0 : tg a0 = 233) (hL_a1 : a1 ∈ σ.1) (hK_a1 : σ.2.1 a1 = 13) (hN_a1 : σ.2.2.2 a1 = 12) (hT_a1 : tg a1 = 233) : MetV l yX11_copy (wa yX11_copy cX11_copy 2 none) ({ frames := 1, cells := 0, slots := 0, locals := 60 }) [.ref a0, .ref a1] D t σ (I, J, ri, rj, rq) sz 0 0 (fun (u : pq_S × pq_M) => ∃ ri' : Nat → Nat → Int32, u = (σ, I, J, ri', rj, rq) ∧ GX [] tg σ I I ri' rq ∧ (∀ j, j < 12 → ri' a1 j = ri a0 j)) := by
  refine Met.ofW (cc := cX11_copy) (maxL := 2) (ret := none) (by decide) rfl ?_
  intro p e s m args below meth c s₁ B hml hv
  obtain ⟨rfl, hsz, hP, hK, hD0, hN⟩ := hv
  have hx := B.exec
  have hb := B.bytes
  have hr := B.returns
  have hts := atoms_spec (ws := (wa yX11_copy cX11_copy 2 none)) B.pre
  have hown : s.vm.findClass RX11 = some m.cls := findClass_of_methodNamed B.named
  have hlocks := B.notSynchronized
  subst hsz
  have hD : va_D (pq_B t σ (I, J, ri, rj, rq) s.heap.size) (pq_P t σ (I, J, ri, rj, rq)) := hD0.self
  generalize hAe : pq_B t σ (I, J, ri, rj, rq) s.heap.size = A at hD ⊢
  have hA : ∀ q : Nat, s.heap.size ≤ q → A q := fun q h => by rw [← hAe]; exact Or.inr h
  have hS : va_S A s.heap s.heap [] := va_S.rf
  have hG : GX [] tg σ I I ri rq := ⟨hG0, fun _ _ _ => rfl⟩
  have hl := lv_entry ([.ref a0, .ref a1]) (n := 2) (Nat.le_of_ble_eq_true rfl)
  rw [lg_entry_eq]
  generalize (lg_sl ([.ref a0, .ref a1]) ++ List.replicate (2 - (lg_sl ([.ref a0, .ref a1])).length) Slot.unset).toArray = ls at hl ⊢
  have hl : lv_has ls 2 [(0, .ref a0), (1, .ref a1)] := hl
  refine q_gen (fun Q hQ => ?_)
  have go : ∀ (H : Heap) (locs : List Loc) (ls : Array Slot), va_P D vwCl (pq_P t σ (I, J, ri, rj, rq)) H → va_D A (pq_P t σ (I, J, ri, rj, rq)) → va_S A s.heap H locs → lv_has ls 2 [(0, .ref a0), (1, .ref a1)] → W p l e ({ frames := 1, cells := 0, slots := 0, locals := 60 } : Room) s m (List.toArray ([.ref a0, .ref a1] : List Value)) below meth c H locs 0 0 Q (F0 m 0 ls []) := by
    intro H locs ls hP hD hS hl
    refine lv_aload_n hx hb dX11_copy_0 rfl (lv_at hl 0 rfl) ?_
    refine lv_iconst (v := 0) hx hb dX11_copy_1 (by decide) ?_
    refine lv_aload_n hx hb dX11_copy_2 rfl (lv_at hl 1 rfl) ?_
    refine lv_iconst (v := 0) hx hb dX11_copy_3 (by decide) ?_
    refine lv_aload_n hx hb dX11_copy_4 rfl (lv_at hl 0 rfl) ?_
    refine pn_i (v := 12) hx hb hK hP hL_a0 hK_a0 hN_a0 (by decide) dX11_copy_5 ?_
    refine lv_aload_n hx hb dX11_copy_6 rfl (lv_at hl 1 rfl) ?_
    refine pn_i (v := 12) hx hb hK hP hL_a1 hK_a1 hN_a1 (by decide) dX11_copy_7 ?_
    refine va_mmin hx hb (hml.trans hl.1.symm) hown (hts _ (tw_c tw_1103)) (hts _ (tw_c tw_467)) (hts _ (tw_c tw_276)) (hts _ (tw_c tw_468)) (Nat.le_of_ble_eq_true rfl) (Nat.le_of_ble_eq_true rfl) (Nat.zero_le _) (Nat.zero_le _) dX11_copy_8 ?_
    refine lv_topi (fun x_1 ex_1 => ?_)
    have h_2 : rg x_1 12 12 := rg_of_eq ex_1 (rg_min2 (rg_k (12 : Int32) 12 rfl) (rg_k (12 : Int32) 12 rfl) (by decide))
    refine pc_i hx hb (hml.trans hl.1.symm) hown (hts _ (tw_c tw_1104)) (hts _ (tw_c tw_1105)) (hts _ (tw_c tw_1106)) (hts _ (tw_c tw_1107)) hK hP hD hS hL_a0 hK_a0 hN_a0 hL_a1 hK_a1 hN_a1 (rg_pos (rg_k (0 : Int32) 0 rfl) (by decide)) (rg_pos h_2 (by decide)) (rg_cp (rg_k (0 : Int32) 0 rfl) h_2 (by decide)) (rg_cl h_2 (by decide)) (Nat.le_of_ble_eq_true rfl) (Nat.le_of_ble_eq_true rfl) dX11_copy_11 (fun r_3 H locs er_3 hP hD hS => ?_)
    have hG := GX.cR hG hSH hT_a0 rfl hT_a1 rfl er_3 (by decide)
    subst hQ
    exact W.vret hx hb hr (fun t1 ht hW => ⟨⟨(σ, I, J, r_3, rj, rq), rfl, ⟨r_3, rfl, hG, (cpy_eq er_3 h_2 rfl)⟩, by rw [ht]; exact hP, va_K.moved hW.alike hK, hD⟩, hS.F ht⟩) hS.2.2 dX11_copy_14
  exact go _ _ _ hP hD hS hl

set_option maxHeartbeats 4000000 in
set_option maxRecDepth 100000 in
theorem s_X7_copyFrom (l : Launch) (D : va_G) (t : pq_T) (σ : pq_S) (I : Nat → Nat → Int32) (J : Nat → Nat → Int64) (ri : Nat → Nat → Int32) (rj : Nat → Nat → Int64) (rq : Nat → Nat → Option Nat) (sz : Nat) (tg : Nat → Nat) (hSH : SH σ tg) (hG0 : GS tg σ I ri rq) (this : Nat) (a0 : Nat) (hL_this : this ∈ σ.1) (hK_this : σ.2.1 this = 7) (hL_a0 : a0 ∈ σ.1) (hK_a0 : σ.2.1 a0 = 7) : MetV l yX7_copyFrom (wa yX7_copyFrom cX7_copyFrom 2 none) ({ frames := 2, cells := 0, slots := 0, locals := 81 }) [.ref this, .ref a0] D t σ (I, J, ri, rj, rq) sz 0 0 (fun (u : pq_S × pq_M) => ∃ I' : Nat → Nat → Int32, ∃ ri' : Nat → Nat → Int32, u = (σ, I', J, ri', rj, rq) ∧ GX [224] tg σ I I' ri' rq) := by
  refine Met.ofW (cc := cX7_copyFrom) (maxL := 2) (ret := none) (by decide) rfl ?_
  intro p e s m args below meth c s₁ B hml hv
  obtain ⟨rfl, hsz, hP, hK, hD0, hN⟩ := hv
  have hx := B.exec
  have hb := B.bytes
  have hr := B.returns
  have hts := atoms_spec (ws := (wa yX7_copyFrom cX7_copyFrom 2 none)) B.pre
  have hown : s.vm.findClass RX7 = some m.cls := findClass_of_methodNamed B.named
  have hlocks := B.notSynchronized
  subst hsz
  have hD : va_D (pq_B t σ (I, J, ri, rj, rq) s.heap.size) (pq_P t σ (I, J, ri, rj, rq)) := hD0.self
  generalize hAe : pq_B t σ (I, J, ri, rj, rq) s.heap.size = A at hD ⊢
  have hA : ∀ q : Nat, s.heap.size ≤ q → A q := fun q h => by rw [← hAe]; exact Or.inr h
  have hS : va_S A s.heap s.heap [] := va_S.rf
  have hG : GX [224] tg σ I I ri rq := ⟨hG0, fun _ _ _ => rfl⟩
  have hl := lv_entry ([.ref this, .ref a0]) (n := 2) (Nat.le_of_ble_eq_true rfl)
  rw [lg_entry_eq]
  generalize (lg_sl ([.ref this, .ref a0]) ++ List.replicate (2 - (lg_sl ([.ref this, .ref a0])).length) Slot.unset).toArray = ls at hl ⊢
  have hl : lv_has ls 2 [(0, .ref this), (1, .ref a0)] := hl
  refine q_gen (fun Q hQ => ?_)
  have go : ∀ (H : Heap) (locs : List Loc) (ls : Array Slot), va_P D vwCl (pq_P t σ (I, J, ri, rj, rq)) H → va_D A (pq_P t σ (I, J, ri, rj, rq)) → va_S A s.heap H locs → lv_has ls 2 [(0, .ref this), (1, .ref a0)] → W p l e ({ frames := 2, cells := 0, slots := 0, locals := 81 } : Room) s m (List.toArray ([.ref this, .ref a0] : List Value)) below meth c H locs 0 0 Q (F0 m 0 ls []) := by
    intro H locs ls hP hD hS hl
    refine lv_aload_n hx hb dX7_copyFrom_0 rfl (lv_at hl 0 rfl) ?_
    refine lv_aload_n hx hb dX7_copyFrom_1 rfl (lv_at hl 1 rfl) ?_
    refine pg_f (v := .int (I 224 a0)) (C := RX7) (T := TX7) (N := 15) hx hb hts (tw_i inlX7) hown hK hP hL_a0 hK_a0 (by decide) rfl 0 (by decide) (hts _ (tw_c tw_254)) rfl dX7_copyFrom_2 ?_
    have h_1 : rg (I 224 a0) 0 200 := GX.rI hG 224 rfl
    refine pp_i (v := (I 224 a0)) (ty := .int) (C := RX7) (T := TX7) (N := 15) hx hb hts (tw_i inlX7) tyX7 tyX7_ok nmX7 hown hK hP hD hS hL_this hK_this (by decide) rfl 0 224 (by decide) (hts _ (tw_c tw_254)) rfl (by decide +kernel) rfl rfl (Nat.le_of_ble_eq_true rfl) (ps_224 _ _ _ _ _) dX7_copyFrom_5 (fun I_2 H locs eI_2 hP hD hS => ?_)
    have hG := GX.wI hG 224 rfl eI_2 (rg_w h_1 (by decide)) (by decide)
    refine lv_aload_n hx hb dX7_copyFrom_8 rfl (lv_at hl 1 rfl) ?_
    obtain ⟨w_3, hR_w_3, hL_w_3, hK_w_3, hN_w_3, hT_w_3⟩ := sh_a hSH 225 (ci := 7) (kd := 13) (len := 200) rfl (by decide) hL_a0 hK_a0
    refine pg_f (v := .ref w_3) (C := RX7) (T := TX7) (N := 15) hx hb hts (tw_i inlX7) hown hK hP hL_a0 hK_a0 (by decide) rfl 1 (by decide) (hts _ (tw_c tw_61)) (pq_hv rfl hR_w_3) dX7_copyFrom_9 ?_
    refine lv_aload_n hx hb dX7_copyFrom_12 rfl (lv_at hl 0 rfl) ?_
    obtain ⟨w_4, hR_w_4, hL_w_4, hK_w_4, hN_w_4, hT_w_4⟩ := sh_a hSH 225 (ci := 7) (kd := 13) (len := 200) rfl (by decide) hL_this hK_this
    refine pg_f (v := .ref w_4) (C := RX7) (T := TX7) (N := 15) hx hb hts (tw_i inlX7) hown hK hP hL_this hK_this (by decide) rfl 1 (by decide) (hts _ (tw_c tw_61)) (pq_hv rfl hR_w_4) dX7_copyFrom_13 ?_
    refine pk_v (va_runSN (As := [.ref w_3, .ref w_4]) (rest := []) ⟨hx, hb, hml, hown, hts⟩ (s_X11_copy_225_225 l D t σ I_2 J ri rj rq H.size tg hSH hG.1 w_3 w_4 hL_w_3 hK_w_3 hN_w_3 hT_w_3 hL_w_4 hK_w_4 hN_w_4 hT_w_4) ⟨va_cnB (host := "RingsUnder") 2 hts (tw_W tw_1102) rfl rfl rfl (nl_18 hN) (hts _ (tw_c tw_2)) (by decide +kernel) ⟨Nat.le_of_ble_eq_true rfl, Nat.le_of_ble_eq_true rfl⟩, hts (.static yX11_copy) (by decide +kernel), trivial⟩ ⟨pq_blind, pq_pre hK hN hP hD⟩ rfl rfl hl.1 rfl (lv_room (Nat.le_of_ble_eq_true rfl)) dX7_copyFrom_16 ⟨Nat.le_of_ble_eq_true rfl, Nat.le_of_ble_eq_true rfl⟩) hD hS hA (fun σ1 μ1 H locs hw_6 hP hD hS => ?_)
    obtain ⟨ri_7, hu_8, hg_9, hp_11⟩ := hw_6
    obtain ⟨hu_8a, hu_8b⟩ := Prod.mk.inj hu_8
    rw [hu_8a, hu_8b] at hP hD
    have hG := GX.tr hG hg_9 (by decide)
    refine lv_aload_n hx hb dX7_copyFrom_19 rfl (lv_at hl 1 rfl) ?_
    obtain ⟨w_12, hR_w_12, hL_w_12, hK_w_12, hN_w_12, hT_w_12⟩ := sh_a hSH 226 (ci := 7) (kd := 13) (len := 200) rfl (by decide) hL_a0 hK_a0
    refine pg_f (v := .ref w_12) (C := RX7) (T := TX7) (N := 15) hx hb hts (tw_i inlX7) hown hK hP hL_a0 hK_a0 (by decide) rfl 2 (by decide) (hts _ (tw_c tw_62)) (pq_hv rfl hR_w_12) dX7_copyFrom_20 ?_
    refine lv_aload_n hx hb dX7_copyFrom_23 rfl (lv_at hl 0 rfl) ?_
    obtain ⟨w_13, hR_w_13, hL_w_13, hK_w_13, hN_w_13, hT_w_13⟩ := sh_a hSH 226 (ci := 7) (kd := 13) (len := 200) rfl (by decide) hL_this hK_this
    refine pg_f (v := .ref w_13) (C := RX7) (T := TX7) (N := 15) hx hb hts (tw_i inlX7) hown hK hP hL_this hK_this (by decide) rfl 2 (by decide) (hts _ (tw_c tw_62)) (pq_hv rfl hR_w_13) dX7_copyFrom_24 ?_
    refine pk_v (va_runSN (As := [.ref w_12, .ref w_13]) (rest := []) ⟨hx, hb, hml, hown, hts⟩ (s_X11_copy_226_226 l D t σ I_2 J ri_7 rj rq H.size tg hSH hG.1 w_12 w_13 hL_w_12 hK_w_12 hN_w_12 hT_w_12 hL_w_13 hK_w_13 hN_w_13 hT_w_13) ⟨va_cnB (host := "RingsUnder") 2 hts (tw_W tw_1102) rfl rfl rfl (nl_18 hN) (hts _ (tw_c tw_2)) (by decide +kernel) ⟨Nat.le_of_ble_eq_true rfl, Nat.le_of_ble_eq_true rfl⟩, hts (.static yX11_copy) (by decide +kernel), trivial⟩ ⟨pq_blind, pq_pre hK hN hP hD⟩ rfl rfl hl.1 rfl (lv_room (Nat.le_of_ble_eq_true rfl)) dX7_copyFrom_27 ⟨Nat.le_of_ble_eq_true rfl, Nat.le_of_ble_eq_true rfl⟩) hD hS hA (fun σ1 μ1 H locs hw_15 hP hD hS => ?_)
    obtain ⟨ri_16, hu_17, hg_18, hp_20⟩ := hw_15
    obtain ⟨hu_17a, hu_17b⟩ := Prod.mk.inj hu_17
    rw [hu_17a, hu_17b] at hP hD
    have hG := GX.tr hG hg_18 (by decide)
    refine lv_aload_n hx hb dX7_copyFrom_30 rfl (lv_at hl 1 rfl) ?_
    obtain ⟨w_21, hR_w_21, hL_w_21, hK_w_21, hN_w_21, hT_w_21⟩ := sh_a hSH 227 (ci := 7) (kd := 13) (len := 200) rfl (by decide) hL_a0 hK_a0
    refine pg_f (v := .ref w_21) (C := RX7) (T := TX7) (N := 15) hx hb hts (tw_i inlX7) hown hK hP hL_a0 hK_a0 (by decide) rfl 3 (by decide) (hts _ (tw_c tw_63)) (pq_hv rfl hR_w_21) dX7_copyFrom_31 ?_
    refine lv_aload_n hx hb dX7_copyFrom_34 rfl (lv_at hl 0 rfl) ?_
    obtain ⟨w_22, hR_w_22, hL_w_22, hK_w_22, hN_w_22, hT_w_22⟩ := sh_a hSH 227 (ci := 7) (kd := 13) (len := 200) rfl (by decide) hL_this hK_this
    refine pg_f (v := .ref w_22) (C := RX7) (T := TX7) (N := 15) hx hb hts (tw_i inlX7) hown hK hP hL_this hK_this (by decide) rfl 3 (by decide) (hts _ (tw_c tw_63)) (pq_hv rfl hR_w_22) dX7_copyFrom_35 ?_
    refine pk_v (va_runSN (As := [.ref w_21, .ref w_22]) (rest := []) ⟨hx, hb, hml, hown, hts⟩ (s_X11_copy_227_227 l D t σ I_2 J ri_16 rj rq H.size tg hSH hG.1 w_21 w_22 hL_w_21 hK_w_21 hN_w_21 hT_w_21 hL_w_22 hK_w_22 hN_w_22 hT_w_22) ⟨va_cnB (host := "RingsUnder") 2 hts (tw_W tw_1102) rfl rfl rfl (nl_18 hN) (hts _ (tw_c tw_2)) (by decide +kernel) ⟨Nat.le_of_ble_eq_true rfl, Nat.le_of_ble_eq_true rfl⟩, hts (.static yX11_copy) (by decide +kernel), trivial⟩ ⟨pq_blind, pq_pre hK hN hP hD⟩ rfl rfl hl.1 rfl (lv_room (Nat.le_of_ble_eq_true rfl)) dX7_copyFrom_38 ⟨Nat.le_of_ble_eq_true rfl, Nat.le_of_ble_eq_true rfl⟩) hD hS hA (fun σ1 μ1 H locs hw_24 hP hD hS => ?_)
    obtain ⟨ri_25, hu_26, hg_27, hp_29⟩ := hw_24
    obtain ⟨hu_26a, hu_26b⟩ := Prod.mk.inj hu_26
    rw [hu_26a, hu_26b] at hP hD
    have hG := GX.tr hG hg_27 (by decide)
    refine lv_aload_n hx hb dX7_copyFrom_41 rfl (lv_at hl 1 rfl) ?_
    obtain ⟨w_30, hR_w_30, hL_w_30, hK_w_30, hN_w_30, hT_w_30⟩ := sh_a hSH 228 (ci := 7) (kd := 13) (len := 200) rfl (by decide) hL_a0 hK_a0
    refine pg_f (v := .ref w_30) (C := RX7) (T := TX7) (N := 15) hx hb hts (tw_i inlX7) hown hK hP hL_a0 hK_a0 (by decide) rfl 4 (by decide) (hts _ (tw_c tw_64)) (pq_hv rfl hR_w_30) dX7_copyFrom_42 ?_
    refine lv_aload_n hx hb dX7_copyFrom_45 rfl (lv_at hl 0 rfl) ?_
    obtain ⟨w_31, hR_w_31, hL_w_31, hK_w_31, hN_w_31, hT_w_31⟩ := sh_a hSH 228 (ci := 7) (kd := 13) (len := 200) rfl (by decide) hL_this hK_this
    refine pg_f (v := .ref w_31) (C := RX7) (T := TX7) (N := 15) hx hb hts (tw_i inlX7) hown hK hP hL_this hK_this (by decide) rfl 4 (by decide) (hts _ (tw_c tw_64)) (pq_hv rfl hR_w_31) dX7_copyFrom_46 ?_
    refine pk_v (va_runSN (As := [.ref w_30, .ref w_31]) (rest := []) ⟨hx, hb, hml, hown, hts⟩ (s_X11_copy_228_228 l D t σ I_2 J ri_25 rj rq H.size tg hSH hG.1 w_30 w_31 hL_w_30 hK_w_30 hN_w_30 hT_w_30 hL_w_31 hK_w_31 hN_w_31 hT_w_31) ⟨va_cnB (host := "RingsUnder") 2 hts (tw_W tw_1102) rfl rfl rfl (nl_18 hN) (hts _ (tw_c tw_2)) (by decide +kernel) ⟨Nat.le_of_ble_eq_true rfl, Nat.le_of_ble_eq_true rfl⟩, hts (.static yX11_copy) (by decide +kernel), trivial⟩ ⟨pq_blind, pq_pre hK hN hP hD⟩ rfl rfl hl.1 rfl (lv_room (Nat.le_of_ble_eq_true rfl)) dX7_copyFrom_49 ⟨Nat.le_of_ble_eq_true rfl, Nat.le_of_ble_eq_true rfl⟩) hD hS hA (fun σ1 μ1 H locs hw_33 hP hD hS => ?_)
    obtain ⟨ri_34, hu_35, hg_36, hp_38⟩ := hw_33
    obtain ⟨hu_35a, hu_35b⟩ := Prod.mk.inj hu_35
    rw [hu_35a, hu_35b] at hP hD
    have hG := GX.tr hG hg_36 (by decide)
    refine lv_aload_n hx hb dX7_copyFrom_52 rfl (lv_at hl 1 rfl) ?_
    obtain ⟨w_39, hR_w_39, hL_w_39, hK_w_39, hN_w_39, hT_w_39⟩ := sh_a hSH 229 (ci := 7) (kd := 13) (len := 12) rfl (by decide) hL_a0 hK_a0
    refine pg_f (v := .ref w_39) (C := RX7) (T := TX7) (N := 15) hx hb hts (tw_i inlX7) hown hK hP hL_a0 hK_a0 (by decide) rfl 5 (by decide) (hts _ (tw_c tw_65)) (pq_hv rfl hR_w_39) dX7_copyFrom_53 ?_
    refine lv_aload_n hx hb dX7_copyFrom_56 rfl (lv_at hl 0 rfl) ?_
    obtain ⟨w_40, hR_w_40, hL_w_40, hK_w_40, hN_w_40, hT_w_40⟩ := sh_a hSH 229 (ci := 7) (kd := 13) (len := 12) rfl (by decide) hL_this hK_this
    refine pg_f (v := .ref w_40) (C := RX7) (T := TX7) (N := 15) hx hb hts (tw_i inlX7) hown hK hP hL_this hK_this (by decide) rfl 5 (by decide) (hts _ (tw_c tw_65)) (pq_hv rfl hR_w_40) dX7_copyFrom_57 ?_
    refine pk_v (va_runSN (As := [.ref w_39, .ref w_40]) (rest := []) ⟨hx, hb, hml, hown, hts⟩ (s_X11_copy_229_229 l D t σ I_2 J ri_34 rj rq H.size tg hSH hG.1 w_39 w_40 hL_w_39 hK_w_39 hN_w_39 hT_w_39 hL_w_40 hK_w_40 hN_w_40 hT_w_40) ⟨va_cnB (host := "RingsUnder") 2 hts (tw_W tw_1102) rfl rfl rfl (nl_18 hN) (hts _ (tw_c tw_2)) (by decide +kernel) ⟨Nat.le_of_ble_eq_true rfl, Nat.le_of_ble_eq_true rfl⟩, hts (.static yX11_copy) (by decide +kernel), trivial⟩ ⟨pq_blind, pq_pre hK hN hP hD⟩ rfl rfl hl.1 rfl (lv_room (Nat.le_of_ble_eq_true rfl)) dX7_copyFrom_60 ⟨Nat.le_of_ble_eq_true rfl, Nat.le_of_ble_eq_true rfl⟩) hD hS hA (fun σ1 μ1 H locs hw_42 hP hD hS => ?_)
    obtain ⟨ri_43, hu_44, hg_45, hp_47⟩ := hw_42
    obtain ⟨hu_44a, hu_44b⟩ := Prod.mk.inj hu_44
    rw [hu_44a, hu_44b] at hP hD
    have hG := GX.tr hG hg_45 (by decide)
    refine lv_aload_n hx hb dX7_copyFrom_63 rfl (lv_at hl 1 rfl) ?_
    obtain ⟨w_48, hR_w_48, hL_w_48, hK_w_48, hN_w_48, hT_w_48⟩ := sh_a hSH 230 (ci := 7) (kd := 13) (len := 12) rfl (by decide) hL_a0 hK_a0
    refine pg_f (v := .ref w_48) (C := RX7) (T := TX7) (N := 15) hx hb hts (tw_i inlX7) hown hK hP hL_a0 hK_a0 (by decide) rfl 6 (by decide) (hts _ (tw_c tw_66)) (pq_hv rfl hR_w_48) dX7_copyFrom_64 ?_
    refine lv_aload_n hx hb dX7_copyFrom_67 rfl (lv_at hl 0 rfl) ?_
    obtain ⟨w_49, hR_w_49, hL_w_49, hK_w_49, hN_w_49, hT_w_49⟩ := sh_a hSH 230 (ci := 7) (kd := 13) (len := 12) rfl (by decide) hL_this hK_this
    refine pg_f (v := .ref w_49) (C := RX7) (T := TX7) (N := 15) hx hb hts (tw_i inlX7) hown hK hP hL_this hK_this (by decide) rfl 6 (by decide) (hts _ (tw_c tw_66)) (pq_hv rfl hR_w_49) dX7_copyFrom_68 ?_
    refine pk_v (va_runSN (As := [.ref w_48, .ref w_49]) (rest := []) ⟨hx, hb, hml, hown, hts⟩ (s_X11_copy_230_230 l D t σ I_2 J ri_43 rj rq H.size tg hSH hG.1 w_48 w_49 hL_w_48 hK_w_48 hN_w_48 hT_w_48 hL_w_49 hK_w_49 hN_w_49 hT_w_49) ⟨va_cnB (host := "RingsUnder") 2 hts (tw_W tw_1102) rfl rfl rfl (nl_18 hN) (hts _ (tw_c tw_2)) (by decide +kernel) ⟨Nat.le_of_ble_eq_true rfl, Nat.le_of_ble_eq_true rfl⟩, hts (.static yX11_copy) (by decide +kernel), trivial⟩ ⟨pq_blind, pq_pre hK hN hP hD⟩ rfl rfl hl.1 rfl (lv_room (Nat.le_of_ble_eq_true rfl)) dX7_copyFrom_71 ⟨Nat.le_of_ble_eq_true rfl, Nat.le_of_ble_eq_true rfl⟩) hD hS hA (fun σ1 μ1 H locs hw_51 hP hD hS => ?_)
    obtain ⟨ri_52, hu_53, hg_54, hp_56⟩ := hw_51
    obtain ⟨hu_53a, hu_53b⟩ := Prod.mk.inj hu_53
    rw [hu_53a, hu_53b] at hP hD
    have hG := GX.tr hG hg_54 (by decide)
    refine lv_aload_n hx hb dX7_copyFrom_74 rfl (lv_at hl 1 rfl) ?_
    obtain ⟨w_57, hR_w_57, hL_w_57, hK_w_57, hN_w_57, hT_w_57⟩ := sh_a hSH 231 (ci := 7) (kd := 13) (len := 12) rfl (by decide) hL_a0 hK_a0
    refine pg_f (v := .ref w_57) (C := RX7) (T := TX7) (N := 15) hx hb hts (tw_i inlX7) hown hK hP hL_a0 hK_a0 (by decide) rfl 7 (by decide) (hts _ (tw_c tw_67)) (pq_hv rfl hR_w_57) dX7_copyFrom_75 ?_
    refine lv_aload_n hx hb dX7_copyFrom_78 rfl (lv_at hl 0 rfl) ?_
    obtain ⟨w_58, hR_w_58, hL_w_58, hK_w_58, hN_w_58, hT_w_58⟩ := sh_a hSH 231 (ci := 7) (kd := 13) (len := 12) rfl (by decide) hL_this hK_this
    refine pg_f (v := .ref w_58) (C := RX7) (T := TX7) (N := 15) hx hb hts (tw_i inlX7) hown hK hP hL_this hK_this (by decide) rfl 7 (by decide) (hts _ (tw_c tw_67)) (pq_hv rfl hR_w_58) dX7_copyFrom_79 ?_
    refine pk_v (va_runSN (As := [.ref w_57, .ref w_58]) (rest := []) ⟨hx, hb, hml, hown, hts⟩ (s_X11_copy_231_231 l D t σ I_2 J ri_52 rj rq H.size tg hSH hG.1 w_57 w_58 hL_w_57 hK_w_57 hN_w_57 hT_w_57 hL_w_58 hK_w_58 hN_w_58 hT_w_58) ⟨va_cnB (host := "RingsUnder") 2 hts (tw_W tw_1102) rfl rfl rfl (nl_18 hN) (hts _ (tw_c tw_2)) (by decide +kernel) ⟨Nat.le_of_ble_eq_true rfl, Nat.le_of_ble_eq_true rfl⟩, hts (.static yX11_copy) (by decide +kernel), trivial⟩ ⟨pq_blind, pq_pre hK hN hP hD⟩ rfl rfl hl.1 rfl (lv_room (Nat.le_of_ble_eq_true rfl)) dX7_copyFrom_82 ⟨Nat.le_of_ble_eq_true rfl, Nat.le_of_ble_eq_true rfl⟩) hD hS hA (fun σ1 μ1 H locs hw_60 hP hD hS => ?_)
    obtain ⟨ri_61, hu_62, hg_63, hp_65⟩ := hw_60
    obtain ⟨hu_62a, hu_62b⟩ := Prod.mk.inj hu_62
    rw [hu_62a, hu_62b] at hP hD
    have hG := GX.tr hG hg_63 (by decide)
    refine lv_aload_n hx hb dX7_copyFrom_85 rfl (lv_at hl 1 rfl) ?_
    obtain ⟨w_66, hR_w_66, hL_w_66, hK_w_66, hN_w_66, hT_w_66⟩ := sh_a hSH 232 (ci := 7) (kd := 13) (len := 12) rfl (by decide) hL_a0 hK_a0
    refine pg_f (v := .ref w_66) (C := RX7) (T := TX7) (N := 15) hx hb hts (tw_i inlX7) hown hK hP hL_a0 hK_a0 (by decide) rfl 8 (by decide) (hts _ (tw_c tw_68)) (pq_hv rfl hR_w_66) dX7_copyFrom_86 ?_
    refine lv_aload_n hx hb dX7_copyFrom_89 rfl (lv_at hl 0 rfl) ?_
    obtain ⟨w_67, hR_w_67, hL_w_67, hK_w_67, hN_w_67, hT_w_67⟩ := sh_a hSH 232 (ci := 7) (kd := 13) (len := 12) rfl (by decide) hL_this hK_this
    refine pg_f (v := .ref w_67) (C := RX7) (T := TX7) (N := 15) hx hb hts (tw_i inlX7) hown hK hP hL_this hK_this (by decide) rfl 8 (by decide) (hts _ (tw_c tw_68)) (pq_hv rfl hR_w_67) dX7_copyFrom_90 ?_
    refine pk_v (va_runSN (As := [.ref w_66, .ref w_67]) (rest := []) ⟨hx, hb, hml, hown, hts⟩ (s_X11_copy_232_232 l D t σ I_2 J ri_61 rj rq H.size tg hSH hG.1 w_66 w_67 hL_w_66 hK_w_66 hN_w_66 hT_w_66 hL_w_67 hK_w_67 hN_w_67 hT_w_67) ⟨va_cnB (host := "RingsUnder") 2 hts (tw_W tw_1102) rfl rfl rfl (nl_18 hN) (hts _ (tw_c tw_2)) (by decide +kernel) ⟨Nat.le_of_ble_eq_true rfl, Nat.le_of_ble_eq_true rfl⟩, hts (.static yX11_copy) (by decide +kernel), trivial⟩ ⟨pq_blind, pq_pre hK hN hP hD⟩ rfl rfl hl.1 rfl (lv_room (Nat.le_of_ble_eq_true rfl)) dX7_copyFrom_93 ⟨Nat.le_of_ble_eq_true rfl, Nat.le_of_ble_eq_true rfl⟩) hD hS hA (fun σ1 μ1 H locs hw_69 hP hD hS => ?_)
    obtain ⟨ri_70, hu_71, hg_72, hp_74⟩ := hw_69
    obtain ⟨hu_71a, hu_71b⟩ := Prod.mk.inj hu_71
    rw [hu_71a, hu_71b] at hP hD
    have hG := GX.tr hG hg_72 (by decide)
    refine lv_aload_n hx hb dX7_copyFrom_96 rfl (lv_at hl 1 rfl) ?_
    obtain ⟨w_75, hR_w_75, hL_w_75, hK_w_75, hN_w_75, hT_w_75⟩ := sh_a hSH 233 (ci := 7) (kd := 13) (len := 12) rfl (by decide) hL_a0 hK_a0
    refine pg_f (v := .ref w_75) (C := RX7) (T := TX7) (N := 15) hx hb hts (tw_i inlX7) hown hK hP hL_a0 hK_a0 (by decide) rfl 9 (by decide) (hts _ (tw_c tw_69)) (pq_hv rfl hR_w_75) dX7_copyFrom_97 ?_
    refine lv_aload_n hx hb dX7_copyFrom_100 rfl (lv_at hl 0 rfl) ?_
    obtain ⟨w_76, hR_w_76, hL_w_76, hK_w_76, hN_w_76, hT_w_76⟩ := sh_a hSH 233 (ci := 7) (kd := 13) (len := 12) rfl (by decide) hL_this hK_this
    refine pg_f (v := .ref w_76) (C := RX7) (T := TX7) (N := 15) hx hb hts (tw_i inlX7) hown hK hP hL_this hK_this (by decide) rfl 9 (by decide) (hts _ (tw_c tw_69)) (pq_hv rfl hR_w_76) dX7_copyFrom_101 ?_
    refine pk_v (va_runSN (As := [.ref w_75, .ref w_76]) (rest := []) ⟨hx, hb, hml, hown, hts⟩ (s_X11_copy_233_233 l D t σ I_2 J ri_70 rj rq H.size tg hSH hG.1 w_75 w_76 hL_w_75 hK_w_75 hN_w_75 hT_w_75 hL_w_76 hK_w_76 hN_w_76 hT_w_76) ⟨va_cnB (host := "RingsUnder") 2 hts (tw_W tw_1102) rfl rfl rfl (nl_18 hN) (hts _ (tw_c tw_2)) (by decide +kernel) ⟨Nat.le_of_ble_eq_true rfl, Nat.le_of_ble_eq_true rfl⟩, hts (.static yX11_copy) (by decide +kernel), trivial⟩ ⟨pq_blind, pq_pre hK hN hP hD⟩ rfl rfl hl.1 rfl (lv_room (Nat.le_of_ble_eq_true rfl)) dX7_copyFrom_104 ⟨Nat.le_of_ble_eq_true rfl, Nat.le_of_ble_eq_true rfl⟩) hD hS hA (fun σ1 μ1 H locs hw_78 hP hD hS => ?_)
    obtain ⟨ri_79, hu_80, hg_81, hp_83⟩ := hw_78
    obtain ⟨hu_80a, hu_80b⟩ := Prod.mk.inj hu_80
    rw [hu_80a, hu_80b] at hP hD
    have hG := GX.tr hG hg_81 (by decide)
    refine lv_aload_n hx hb dX7_copyFrom_107 rfl (lv_at hl 0 rfl) ?_
    refine lv_aload_n hx hb dX7_copyFrom_108 rfl (lv_at hl 1 rfl) ?_
    refine pg_f (v := .int (I_2 234 a0)) (C := RX7) (T := TX7) (N := 15) hx hb hts (tw_i inlX7) hown hK hP hL_a0 hK_a0 (by decide) rfl 10 (by decide) (hts _ (tw_c tw_70)) rfl dX7_copyFrom_109 ?_
    refine pp_i (v := (I_2 234 a0)) (ty := .int) (C := RX7) (T := TX7) (N := 15) hx hb hts (tw_i inlX7) tyX7 tyX7_ok nmX7 hown hK hP hD hS hL_this hK_this (by decide) rfl 10 234 (by decide) (hts _ (tw_c tw_70)) rfl (by decide +kernel) rfl rfl (Nat.le_of_ble_eq_true rfl) (ps_234 _ _ _ _ _) dX7_copyFrom_112 (fun I_84 H locs eI_84 hP hD hS => ?_)
    have hG := GX.wI hG 234 rfl eI_84 (rg_w (rg_full _) (by decide)) (by decide)
    refine lv_aload_n hx hb dX7_copyFrom_115 rfl (lv_at hl 0 rfl) ?_
    refine lv_aload_n hx hb dX7_copyFrom_116 rfl (lv_at hl 1 rfl) ?_
    refine pg_f (v := .int (I_84 235 a0)) (C := RX7) (T := TX7) (N := 15) hx hb hts (tw_i inlX7) hown hK hP hL_a0 hK_a0 (by decide) rfl 11 (by decide) (hts _ (tw_c tw_71)) rfl dX7_copyFrom_117 ?_
    refine pp_i (v := (I_84 235 a0)) (ty := .int) (C := RX7) (T := TX7) (N := 15) hx hb hts (tw_i inlX7) tyX7 tyX7_ok nmX7 hown hK hP hD hS hL_this hK_this (by decide) rfl 11 235 (by decide) (hts _ (tw_c tw_71)) rfl (by decide +kernel) rfl rfl (Nat.le_of_ble_eq_true rfl) (ps_235 _ _ _ _ _) dX7_copyFrom_120 (fun I_85 H locs eI_85 hP hD hS => ?_)
    have hG := GX.wI hG 235 rfl eI_85 (rg_w (rg_full _) (by decide)) (by decide)
    refine lv_aload_n hx hb dX7_copyFrom_123 rfl (lv_at hl 0 rfl) ?_
    refine lv_aload_n hx hb dX7_copyFrom_124 rfl (lv_at hl 1 rfl) ?_
    refine pg_f (v := .int (I_85 236 a0)) (C := RX7) (T := TX7) (N := 15) hx hb hts (tw_i inlX7) hown hK hP hL_a0 hK_a0 (by decide) rfl 12 (by decide) (hts _ (tw_c tw_72)) rfl dX7_copyFrom_125 ?_
    refine pp_i (v := (I_85 236 a0)) (ty := .int) (C := RX7) (T := TX7) (N := 15) hx hb hts (tw_i inlX7) tyX7 tyX7_ok nmX7 hown hK hP hD hS hL_this hK_this (by decide) rfl 12 236 (by decide) (hts _ (tw_c tw_72)) rfl (by decide +kernel) rfl rfl (Nat.le_of_ble_eq_true rfl) (ps_236 _ _ _ _ _) dX7_copyFrom_128 (fun I_86 H locs eI_86 hP hD hS => ?_)
    have hG := GX.wI hG 236 rfl eI_86 (rg_w (rg_full _) (by decide)) (by decide)
    refine lv_aload_n hx hb dX7_copyFrom_131 rfl (lv_at hl 0 rfl) ?_
    refine lv_aload_n hx hb dX7_copyFrom_132 rfl (lv_at hl 1 rfl) ?_
    refine pg_f (v := .int (I_86 237 a0)) (C := RX7) (T := TX7) (N := 15) hx hb hts (tw_i inlX7) hown hK hP hL_a0 hK_a0 (by decide) rfl 13 (by decide) (hts _ (tw_c tw_73)) rfl dX7_copyFrom_133 ?_
    have h_87 : rg (I_86 237 a0) 0 20 := GX.rI hG 237 rfl
    refine pp_i (v := (I_86 237 a0)) (ty := .int) (C := RX7) (T := TX7) (N := 15) hx hb hts (tw_i inlX7) tyX7 tyX7_ok nmX7 hown hK hP hD hS hL_this hK_this (by decide) rfl 13 237 (by decide) (hts _ (tw_c tw_73)) rfl (by decide +kernel) rfl rfl (Nat.le_of_ble_eq_true rfl) (ps_237 _ _ _ _ _) dX7_copyFrom_136 (fun I_88 H locs eI_88 hP hD hS => ?_)
    have hG := GX.wI hG 237 rfl eI_88 (rg_w h_87 (by decide)) (by decide)
    refine lv_aload_n hx hb dX7_copyFrom_139 rfl (lv_at hl 0 rfl) ?_
    refine lv_aload_n hx hb dX7_copyFrom_140 rfl (lv_at hl 1 rfl) ?_
    refine pg_f (v := .int (I_88 238 a0)) (C := RX7) (T := TX7) (N := 15) hx hb hts (tw_i inlX7) hown hK hP hL_a0 hK_a0 (by decide) rfl 14 (by decide) (hts _ (tw_c tw_74)) rfl dX7_copyFrom_141 ?_
    refine pp_i (v := (I_88 238 a0)) (ty := .int) (C := RX7) (T := TX7) (N := 15) hx hb hts (tw_i inlX7) tyX7 tyX7_ok nmX7 hown hK hP hD hS hL_this hK_this (by decide) rfl 14 238 (by decide) (hts _ (tw_c tw_74)) rfl (by decide +kernel) rfl rfl (Nat.le_of_ble_eq_true rfl) (ps_238 _ _ _ _ _) dX7_copyFrom_144 (fun I_89 H locs eI_89 hP hD hS => ?_)
    have hG := GX.wI hG 238 rfl eI_89 (rg_w (rg_full _) (by decide)) (by decide)
    subst hQ
    exact W.vret hx hb hr (fun t1 ht hW => ⟨⟨(σ, I_89, J, ri_79, rj, rq), rfl, ⟨I_89, ri_79, rfl, hG⟩, by rw [ht]; exact hP, va_K.moved hW.alike hK, hD⟩, hS.F ht⟩) hS.2.2 dX7_copyFrom_147
  exact go _ _ _ hP hD hS hl

set_option maxHeartbeats 4000000 in
set_option maxRecDepth 100000 in
theorem s_X7_tell (l : Launch) (D : va_G) (t : pq_T) (σ : pq_S) (I : Nat → Nat → Int32) (J : Nat → Nat → Int64) (ri : Nat → Nat → Int32) (rj : Nat → Nat → Int64) (rq : Nat → Nat → Option Nat) (sz : Nat) (tg : Nat → Nat) (hSH : SH σ tg) (hG0 : GS tg σ I ri rq) (this : Nat) (a0 : Int32) (a1 : Int32) (a2 : Int32) (a3 : Int32) (hL_this : this ∈ σ.1) (hK_this : σ.2.1 this = 7) : MetI l yX7_tell (wa yX7_tell cX7_tell 5 (some .int)) ({ frames := 0, cells := 0, slots := 0, locals := 0 }) [.ref this, .int a0, .int a1, .int a2, .int a3] D t σ (I, J, ri, rj, rq) sz 0 0 (fun (r : Int32) (u : pq_S × pq_M) => ∃ I' : Nat → Nat → Int32, ∃ ri' : Nat → Nat → Int32, u = (σ, I', J, ri', rj, rq) ∧ GX [224] tg σ I I' ri' rq ∧ rg r (-1) 200) := by
  refine Met.ofW (cc := cX7_tell) (maxL := 5) (ret := (some .int)) (by decide) rfl ?_
  intro p e s m args below meth c s₁ B hml hv
  obtain ⟨rfl, hsz, hP, hK, hD0, hN⟩ := hv
  have hx := B.exec
  have hb := B.bytes
  have hr := B.returns
  have hts := atoms_spec (ws := (wa yX7_tell cX7_tell 5 (some .int))) B.pre
  have hown : s.vm.findClass RX7 = some m.cls := findClass_of_methodNamed B.named
  have hlocks := B.notSynchronized
  subst hsz
  have hD : va_D (pq_B t σ (I, J, ri, rj, rq) s.heap.size) (pq_P t σ (I, J, ri, rj, rq)) := hD0.self
  generalize hAe : pq_B t σ (I, J, ri, rj, rq) s.heap.size = A at hD ⊢
  have hA : ∀ q : Nat, s.heap.size ≤ q → A q := fun q h => by rw [← hAe]; exact Or.inr h
  have hS : va_S A s.heap s.heap [] := va_S.rf
  have hG : GX [224] tg σ I I ri rq := ⟨hG0, fun _ _ _ => rfl⟩
  have hl := lv_entry ([.ref this, .int a0, .int a1, .int a2, .int a3]) (n := 5) (Nat.le_of_ble_eq_true rfl)
  rw [lg_entry_eq]
  generalize (lg_sl ([.ref this, .int a0, .int a1, .int a2, .int a3]) ++ List.replicate (5 - (lg_sl ([.ref this, .int a0, .int a1, .int a2, .int a3])).length) Slot.unset).toArray = ls at hl ⊢
  have hl : lv_has ls 5 [(0, .ref this), (1, .int a0), (2, .int a1), (3, .int a2), (4, .int a3)] := hl
  refine q_gen (fun Q hQ => ?_)
  have go : ∀ (H : Heap) (locs : List Loc) (ls : Array Slot), va_P D vwCl (pq_P t σ (I, J, ri, rj, rq)) H → va_D A (pq_P t σ (I, J, ri, rj, rq)) → va_S A s.heap H locs → lv_has ls 5 [(0, .ref this), (1, .int a0), (2, .int a1), (3, .int a2), (4, .int a3)] → W p l e ({ frames := 0, cells := 0, slots := 0, locals := 0 } : Room) s m (List.toArray ([.ref this, .int a0, .int a1, .int a2, .int a3] : List Value)) below meth c H locs 0 0 Q (F0 m 0 ls []) := by
    intro H locs ls hP hD hS hl
    refine lv_aload_n hx hb dX7_tell_0 rfl (lv_at hl 0 rfl) ?_
    refine pg_f (v := .int (I 224 this)) (C := RX7) (T := TX7) (N := 15) hx hb hts (tw_i inlX7) hown hK hP hL_this hK_this (by decide) rfl 0 (by decide) (hts _ (tw_c tw_254)) rfl dX7_tell_1 ?_
    have h_1 : rg (I 224 this) 0 200 := GX.rI hG 224 rfl
    refine lv_sipush (v := 200) hx hb dX7_tell_4 (by decide) ?_
    refine lv_icmp_lt (tgt := 12) hx hb dX7_tell_7 (by decide) (fun c_2 => ?_) (fun c_2 => ?_)
    · have h_3 : rg (I 224 this) 0 199 := rg_lt1 c_2 h_1 (rg_k (200 : Int32) 200 rfl) (by decide)
      refine lv_aload_n hx hb dX7_tell_12 rfl (lv_at hl 0 rfl) ?_
      obtain ⟨w_4, hR_w_4, hL_w_4, hK_w_4, hN_w_4, hT_w_4⟩ := sh_a hSH 225 (ci := 7) (kd := 13) (len := 200) rfl (by decide) hL_this hK_this
      refine pg_f (v := .ref w_4) (C := RX7) (T := TX7) (N := 15) hx hb hts (tw_i inlX7) hown hK hP hL_this hK_this (by decide) rfl 1 (by decide) (hts _ (tw_c tw_61)) (pq_hv rfl hR_w_4) dX7_tell_13 ?_
      refine lv_aload_n hx hb dX7_tell_16 rfl (lv_at hl 0 rfl) ?_
      refine pg_f (v := .int (I 224 this)) (C := RX7) (T := TX7) (N := 15) hx hb hts (tw_i inlX7) hown hK hP hL_this hK_this (by decide) rfl 0 (by decide) (hts _ (tw_c tw_254)) rfl dX7_tell_17 ?_
      refine lv_iload_n hx hb dX7_tell_20 rfl (lv_at hl 1 rfl) ?_
      refine pt_i hx hb hK hP hD hS hL_w_4 hK_w_4 hN_w_4 (rg_in h_3 (by decide)) dX7_tell_21 (fun r_5 H locs er_5 hP hD hS => ?_)
      have hG := GX.wR hG hSH hT_w_4 rfl er_5 (rg_w (rg_full _) (by decide)) (by decide)
      refine lv_aload_n hx hb dX7_tell_22 rfl (lv_at hl 0 rfl) ?_
      obtain ⟨w_6, hR_w_6, hL_w_6, hK_w_6, hN_w_6, hT_w_6⟩ := sh_a hSH 226 (ci := 7) (kd := 13) (len := 200) rfl (by decide) hL_this hK_this
      refine pg_f (v := .ref w_6) (C := RX7) (T := TX7) (N := 15) hx hb hts (tw_i inlX7) hown hK hP hL_this hK_this (by decide) rfl 2 (by decide) (hts _ (tw_c tw_62)) (pq_hv rfl hR_w_6) dX7_tell_23 ?_
      refine lv_aload_n hx hb dX7_tell_26 rfl (lv_at hl 0 rfl) ?_
      refine pg_f (v := .int (I 224 this)) (C := RX7) (T := TX7) (N := 15) hx hb hts (tw_i inlX7) hown hK hP hL_this hK_this (by decide) rfl 0 (by decide) (hts _ (tw_c tw_254)) rfl dX7_tell_27 ?_
      refine lv_iload_n hx hb dX7_tell_30 rfl (lv_at hl 2 rfl) ?_
      refine pt_i hx hb hK hP hD hS hL_w_6 hK_w_6 hN_w_6 (rg_in h_3 (by decide)) dX7_tell_31 (fun r_7 H locs er_7 hP hD hS => ?_)
      have hG := GX.wR hG hSH hT_w_6 rfl er_7 (rg_w (rg_full _) (by decide)) (by decide)
      refine lv_aload_n hx hb dX7_tell_32 rfl (lv_at hl 0 rfl) ?_
      obtain ⟨w_8, hR_w_8, hL_w_8, hK_w_8, hN_w_8, hT_w_8⟩ := sh_a hSH 227 (ci := 7) (kd := 13) (len := 200) rfl (by decide) hL_this hK_this
      refine pg_f (v := .ref w_8) (C := RX7) (T := TX7) (N := 15) hx hb hts (tw_i inlX7) hown hK hP hL_this hK_this (by decide) rfl 3 (by decide) (hts _ (tw_c tw_63)) (pq_hv rfl hR_w_8) dX7_tell_33 ?_
      refine lv_aload_n hx hb dX7_tell_36 rfl (lv_at hl 0 rfl) ?_
      refine pg_f (v := .int (I 224 this)) (C := RX7) (T := TX7) (N := 15) hx hb hts (tw_i inlX7) hown hK hP hL_this hK_this (by decide) rfl 0 (by decide) (hts _ (tw_c tw_254)) rfl dX7_tell_37 ?_
      refine lv_iload_n hx hb dX7_tell_40 rfl (lv_at hl 3 rfl) ?_
      refine pt_i hx hb hK hP hD hS hL_w_8 hK_w_8 hN_w_8 (rg_in h_3 (by decide)) dX7_tell_41 (fun r_9 H locs er_9 hP hD hS => ?_)
      have hG := GX.wR hG hSH hT_w_8 rfl er_9 (rg_w (rg_full _) (by decide)) (by decide)
      refine lv_aload_n hx hb dX7_tell_42 rfl (lv_at hl 0 rfl) ?_
      obtain ⟨w_10, hR_w_10, hL_w_10, hK_w_10, hN_w_10, hT_w_10⟩ := sh_a hSH 228 (ci := 7) (kd := 13) (len := 200) rfl (by decide) hL_this hK_this
      refine pg_f (v := .ref w_10) (C := RX7) (T := TX7) (N := 15) hx hb hts (tw_i inlX7) hown hK hP hL_this hK_this (by decide) rfl 4 (by decide) (hts _ (tw_c tw_64)) (pq_hv rfl hR_w_10) dX7_tell_43 ?_
      refine lv_aload_n hx hb dX7_tell_46 rfl (lv_at hl 0 rfl) ?_
      refine pg_f (v := .int (I 224 this)) (C := RX7) (T := TX7) (N := 15) hx hb hts (tw_i inlX7) hown hK hP hL_this hK_this (by decide) rfl 0 (by decide) (hts _ (tw_c tw_254)) rfl dX7_tell_47 ?_
      refine lv_iload hx hb dX7_tell_50 (lv_at hl 4 rfl) ?_
      refine pt_i hx hb hK hP hD hS hL_w_10 hK_w_10 hN_w_10 (rg_in h_3 (by decide)) dX7_tell_52 (fun r_11 H locs er_11 hP hD hS => ?_)
      have hG := GX.wR hG hSH hT_w_10 rfl er_11 (rg_w (rg_full _) (by decide)) (by decide)
      refine lv_aload_n hx hb dX7_tell_53 rfl (lv_at hl 0 rfl) ?_
      refine lv_dup hx hb dX7_tell_54 rfl ?_
      refine pg_f (v := .int (I 224 this)) (C := RX7) (T := TX7) (N := 15) hx hb hts (tw_i inlX7) hown hK hP hL_this hK_this (by decide) rfl 0 (by decide) (hts _ (tw_c tw_254)) rfl dX7_tell_55 ?_
      refine lv_iconst (v := 1) hx hb dX7_tell_58 (by decide) ?_
      refine lv_iadd hx hb dX7_tell_59 ?_
      refine lv_topi (fun x_12 ex_12 => ?_)
      have h_13 : rg x_12 1 200 := rg_of_eq ex_12 (rg_add h_3 (rg_k (1 : Int32) 1 rfl) (by decide))
      refine pp_i (v := x_12) (ty := .int) (C := RX7) (T := TX7) (N := 15) hx hb hts (tw_i inlX7) tyX7 tyX7_ok nmX7 hown hK hP hD hS hL_this hK_this (by decide) rfl 0 224 (by decide) (hts _ (tw_c tw_254)) rfl (by decide +kernel) rfl rfl (Nat.le_of_ble_eq_true rfl) (ps_224 _ _ _ _ _) dX7_tell_60 (fun I_14 H locs eI_14 hP hD hS => ?_)
      have hG := GX.wI hG 224 rfl eI_14 (rg_w h_13 (by decide)) (by decide)
      refine lv_aload_n hx hb dX7_tell_63 rfl (lv_at hl 0 rfl) ?_
      refine pg_f (v := .int (I_14 224 this)) (C := RX7) (T := TX7) (N := 15) hx hb hts (tw_i inlX7) hown hK hP hL_this hK_this (by decide) rfl 0 (by decide) (hts _ (tw_c tw_254)) rfl dX7_tell_64 ?_
      have h_15 : rg (I_14 224 this) 1 200 := (by rw [eI_14, pq_us]; exact h_13)
      subst hQ
      exact W.iret (v := (I_14 224 this)) hx hb hr (fun t1 ht hW => ⟨⟨(I_14 224 this), (σ, I_14, J, r_11, rj, rq), rfl, ⟨I_14, r_11, rfl, hG, (rg_w h_15 (by decide))⟩, by rw [ht]; exact hP, va_K.moved hW.alike hK, hD⟩, hS.F ht⟩) hS.2.2 dX7_tell_67
    · have h_16 : rg (I 224 this) 200 200 := rg_le2 (nlt c_2) (rg_k (200 : Int32) 200 rfl) h_1 (by decide)
      refine lv_iconst (v := (-1)) hx hb dX7_tell_10 (by decide) ?_
      subst hQ
      exact W.iret (v := (-1)) hx hb hr (fun t1 ht hW => ⟨⟨(-1), (σ, I, J, ri, rj, rq), rfl, ⟨I, ri, rfl, hG, (rg_w (rg_k (-1 : Int32) (-1) rfl) (by decide))⟩, by rw [ht]; exact hP, va_K.moved hW.alike hK, hD⟩, hS.F ht⟩) hS.2.2 dX7_tell_11
  exact go _ _ _ hP hD hS hl

set_option maxHeartbeats 4000000 in
set_option maxRecDepth 100000 in
theorem s_J6_compare_7cf53 (l : Launch) (D : va_G) (t : pq_T) (σ : pq_S) (I : Nat → Nat → Int32) (J : Nat → Nat → Int64) (ri : Nat → Nat → Int32) (rj : Nat → Nat → Int64) (rq : Nat → Nat → Option Nat) (sz : Nat) (tg : Nat → Nat) (hSH : SH σ tg) (hG0 : GS tg σ I ri rq) (a0 : Int32) (a1 : Int32) : MetI l yJ6_compare_7cf53 (wa yJ6_compare_7cf53 cJ6_compare_7cf53 2 (some .int)) ({ frames := 0, cells := 0, slots := 0, locals := 0 }) [.int a0, .int a1] D t σ (I, J, ri, rj, rq) sz 0 0 (fun (r : Int32) (u : pq_S × pq_M) => u = (σ, I, J, ri, rj, rq) ∧ rg r (-1) 1) := by
  refine Met.ofW (cc := cJ6_compare_7cf53) (maxL := 2) (ret := (some .int)) (by decide) rfl ?_
  intro p e s m args below meth c s₁ B hml hv
  obtain ⟨rfl, hsz, hP, hK, hD0, hN⟩ := hv
  have hx := B.exec
  have hb := B.bytes
  have hr := B.returns
  have hts := atoms_spec (ws := (wa yJ6_compare_7cf53 cJ6_compare_7cf53 2 (some .int))) B.pre
  have hown : s.vm.findClass RJ6 = some m.cls := findClass_of_methodNamed B.named
  have hlocks := B.notSynchronized
  subst hsz
  have hD : va_D (pq_B t σ (I, J, ri, rj, rq) s.heap.size) (pq_P t σ (I, J, ri, rj, rq)) := hD0.self
  generalize hAe : pq_B t σ (I, J, ri, rj, rq) s.heap.size = A at hD ⊢
  have hA : ∀ q : Nat, s.heap.size ≤ q → A q := fun q h => by rw [← hAe]; exact Or.inr h
  have hS : va_S A s.heap s.heap [] := va_S.rf
  have hG : GX [] tg σ I I ri rq := ⟨hG0, fun _ _ _ => rfl⟩
  have hl := lv_entry ([.int a0, .int a1]) (n := 2) (Nat.le_of_ble_eq_true rfl)
  rw [lg_entry_eq]
  generalize (lg_sl ([.int a0, .int a1]) ++ List.replicate (2 - (lg_sl ([.int a0, .int a1])).length) Slot.unset).toArray = ls at hl ⊢
  have hl : lv_has ls 2 [(0, .int a0), (1, .int a1)] := hl
  refine q_gen (fun Q hQ => ?_)
  have go : ∀ (H : Heap) (locs : List Loc) (ls : Array Slot), va_P D vwCl (pq_P t σ (I, J, ri, rj, rq)) H → va_D A (pq_P t σ (I, J, ri, rj, rq)) → va_S A s.heap H locs → lv_has ls 2 [(0, .int a0), (1, .int a1)] → W p l e ({ frames := 0, cells := 0, slots := 0, locals := 0 } : Room) s m (List.toArray ([.int a0, .int a1] : List Value)) below meth c H locs 0 0 Q (F0 m 0 ls []) := by
    intro H locs ls hP hD hS hl
    refine lv_iload_n hx hb dJ6_compare_7cf53_0 rfl (lv_at hl 0 rfl) ?_
    refine lv_iload_n hx hb dJ6_compare_7cf53_1 rfl (lv_at hl 1 rfl) ?_
    refine lv_icmp_ge (tgt := 9) hx hb dJ6_compare_7cf53_2 (by decide) (fun c_1 => ?_) (fun c_1 => ?_)
    · refine lv_iload_n hx hb dJ6_compare_7cf53_9 rfl (lv_at hl 0 rfl) ?_
      refine lv_iload_n hx hb dJ6_compare_7cf53_10 rfl (lv_at hl 1 rfl) ?_
      refine lv_icmp_ne (tgt := 18) hx hb dJ6_compare_7cf53_11 (by decide) (fun c_2 => ?_) (fun c_2 => ?_)
      · refine lv_iconst (v := 1) hx hb dJ6_compare_7cf53_18 (by decide) ?_
        subst hQ
        exact W.iret (v := 1) hx hb hr (fun t1 ht hW => ⟨⟨1, (σ, I, J, ri, rj, rq), rfl, ⟨rfl, (rg_w (rg_k (1 : Int32) 1 rfl) (by decide))⟩, by rw [ht]; exact hP, va_K.moved hW.alike hK, hD⟩, hS.F ht⟩) hS.2.2 dJ6_compare_7cf53_19
      · refine lv_iconst (v := 0) hx hb dJ6_compare_7cf53_14 (by decide) ?_
        refine lv_goto (tgt := 19) hx hb dJ6_compare_7cf53_15 (by decide) ?_
        subst hQ
        exact W.iret (v := 0) hx hb hr (fun t1 ht hW => ⟨⟨0, (σ, I, J, ri, rj, rq), rfl, ⟨rfl, (rg_w (rg_k (0 : Int32) 0 rfl) (by decide))⟩, by rw [ht]; exact hP, va_K.moved hW.alike hK, hD⟩, hS.F ht⟩) hS.2.2 dJ6_compare_7cf53_19
    · have h_3 : rg a0 (-2147483648) 2147483646 := rg_lt1 (nle c_1) (rg_full _) (rg_full _) (by decide)
      have h_4 : rg a1 (-2147483647) 2147483647 := rg_lt2 (nle c_1) (rg_full _) (rg_full _) (by decide)
      refine lv_iconst (v := (-1)) hx hb dJ6_compare_7cf53_5 (by decide) ?_
      refine lv_goto (tgt := 19) hx hb dJ6_compare_7cf53_6 (by decide) ?_
      subst hQ
      exact W.iret (v := (-1)) hx hb hr (fun t1 ht hW => ⟨⟨(-1), (σ, I, J, ri, rj, rq), rfl, ⟨rfl, (rg_w (rg_k (-1 : Int32) (-1) rfl) (by decide))⟩, by rw [ht]; exact hP, va_K.moved hW.alike hK, hD⟩, hS.F ht⟩) hS.2.2 dJ6_compare_7cf53_19
  exact go _ _ _ hP hD hS hl

set_option maxHeartbeats 4000000 in
set_option maxRecDepth 100000 in
theorem s_X8_isAhead (l : Launch) (D : va_G) (t : pq_T) (σ : pq_S) (I : Nat → Nat → Int32) (J : Nat → Nat → Int64) (ri : Nat → Nat → Int32) (rj : Nat → Nat → Int64) (rq : Nat → Nat → Option Nat) (sz : Nat) (tg : Nat → Nat) (hSH : SH σ tg) (hG0 : GS tg σ I ri rq) (this : Nat) (a0 : Int32) (a1 : Nat) (a2 : Int32) (a3 : Int32) (hL_this : this ∈ σ.1) (hK_this : σ.2.1 this = 8) (hL_a1 : a1 ∈ σ.1) (hK_a1 : σ.2.1 a1 = 0) (h_a2 : rg a2 0 39) (h_a3 : rg a3 0 39) : MetI l yX8_isAhead (wa yX8_isAhead cX8_isAhead 8 (some .boolean)) ({ frames := 1, cells := 0, slots := 0, locals := 40 }) [.ref this, .int a0, .ref a1, .int a2, .int a3] D t σ (I, J, ri, rj, rq) sz 0 0 (fun (r : Int32) (u : pq_S × pq_M) => u = (σ, I, J, ri, rj, rq) ∧ ((r = 1 ∧ rg a0 0 19) ∨ (r = 0 ∧ True))) := by
  refine Met.ofW (cc := cX8_isAhead) (maxL := 8) (ret := (some .boolean)) (by decide) rfl ?_
  intro p e s m args below meth c s₁ B hml hv
  obtain ⟨rfl, hsz, hP, hK, hD0, hN⟩ := hv
  have hx := B.exec
  have hb := B.bytes
  have hr := B.returns
  have hts := atoms_spec (ws := (wa yX8_isAhead cX8_isAhead 8 (some .boolean))) B.pre
  have hown : s.vm.findClass RX8 = some m.cls := findClass_of_methodNamed B.named
  have hlocks := B.notSynchronized
  subst hsz
  have hD : va_D (pq_B t σ (I, J, ri, rj, rq) s.heap.size) (pq_P t σ (I, J, ri, rj, rq)) := hD0.self
  generalize hAe : pq_B t σ (I, J, ri, rj, rq) s.heap.size = A at hD ⊢
  have hA : ∀ q : Nat, s.heap.size ≤ q → A q := fun q h => by rw [← hAe]; exact Or.inr h
  have hS : va_S A s.heap s.heap [] := va_S.rf
  have hG : GX [] tg σ I I ri rq := ⟨hG0, fun _ _ _ => rfl⟩
  have hl := lv_entry ([.ref this, .int a0, .ref a1, .int a2, .int a3]) (n := 8) (Nat.le_of_ble_eq_true rfl)
  rw [lg_entry_eq]
  generalize (lg_sl ([.ref this, .int a0, .ref a1, .int a2, .int a3]) ++ List.replicate (8 - (lg_sl ([.ref this, .int a0, .ref a1, .int a2, .int a3])).length) Slot.unset).toArray = ls at hl ⊢
  have hl : lv_has ls 8 [(0, .ref this), (1, .int a0), (2, .ref a1), (3, .int a2), (4, .int a3)] := hl
  refine q_gen (fun Q hQ => ?_)
  have go : ∀ (H : Heap) (locs : List Loc) (ls : Array Slot), va_P D vwCl (pq_P t σ (I, J, ri, rj, rq)) H → va_D A (pq_P t σ (I, J, ri, rj, rq)) → va_S A s.heap H locs → lv_has ls 8 [(0, .ref this), (1, .int a0), (2, .ref a1), (3, .int a2), (4, .int a3)] → W p l e ({ frames := 1, cells := 0, slots := 0, locals := 40 } : Room) s m (List.toArray ([.ref this, .int a0, .ref a1, .int a2, .int a3] : List Value)) below meth c H locs 0 0 Q (F0 m 0 ls []) := by
    intro H locs ls hP hD hS hl
    refine lv_iload_n hx hb dX8_isAhead_0 rfl (lv_at hl 1 rfl) ?_
    have K_208 : ∀  (H : Heap) (locs : List Loc) (ls : Array Slot), GX [] tg σ I I ri rq → va_P D vwCl (pq_P t σ (I, J, ri, rj, rq)) H → va_D A (pq_P t σ (I, J, ri, rj, rq)) → va_S A s.heap H locs → lv_has ls 8 [] → W p l e ({ frames := 1, cells := 0, slots := 0, locals := 40 } : Room) s m (List.toArray ([.ref this, .int a0, .ref a1, .int a2, .int a3] : List Value)) below meth c H locs 0 0 Q (F0 m 12 ls []) := by
      intro H locs ls hG hP hD hS hl
      refine lv_iconst (v := 0) hx hb dX8_isAhead_12 (by decide) ?_
      subst hQ
      exact W.zret (v := 0) hx hb hr (by decide) (fun t1 ht hW => ⟨⟨0, (σ, I, J, ri, rj, rq), rfl, ⟨rfl, (Or.inr ⟨rfl, trivial⟩)⟩, by rw [ht]; exact hP, va_K.moved hW.alike hK, hD⟩, hS.F ht⟩) hS.2.2 dX8_isAhead_13
    refine lv_if_lt (tgt := 12) hx hb dX8_isAhead_1 (by decide) (fun c_209 => ?_) (fun c_209 => ?_)
    · have h_210 : rg a0 (-2147483648) (-1) := rg_lt1 c_209 (rg_full _) (rg_k (0 : Int32) 0 rfl) (by decide)
      exact K_208 _ _ _ hG hP hD hS (lv_sub hl [] rfl)
    · have h_211 : rg a0 0 2147483647 := rg_le2 (nlt c_209) (rg_k (0 : Int32) 0 rfl) (rg_full _) (by decide)
      refine lv_iload_n hx hb dX8_isAhead_4 rfl (lv_at hl 1 rfl) ?_
      refine lv_aload_n hx hb dX8_isAhead_5 rfl (lv_at hl 0 rfl) ?_
      refine pg_f (v := .int (I 256 this)) (C := RX8) (T := TX8) (N := 4) hx hb hts (tw_i inlX8) hown hK hP hL_this hK_this (by decide) rfl 0 (by decide) (hts _ (tw_c tw_478)) rfl dX8_isAhead_6 ?_
      have h_212 : rg (I 256 this) 0 20 := GX.rI hG 256 rfl
      refine lv_icmp_lt (tgt := 14) hx hb dX8_isAhead_9 (by decide) (fun c_213 => ?_) (fun c_213 => ?_)
      · have h_214 : rg a0 0 19 := rg_lt1 c_213 h_211 h_212 (by decide)
        have h_215 : rg (I 256 this) 1 20 := rg_lt2 c_213 h_211 h_212 (by decide)
        refine lv_aload_n hx hb dX8_isAhead_14 rfl (lv_at hl 0 rfl) ?_
        obtain ⟨w_216, hR_w_216, hL_w_216, hK_w_216, hN_w_216, hT_w_216⟩ := sh_a hSH 258 (ci := 8) (kd := 13) (len := 21) rfl (by decide) hL_this hK_this
        refine pg_f (v := .ref w_216) (C := RX8) (T := TX8) (N := 4) hx hb hts (tw_i inlX8) hown hK hP hL_this hK_this (by decide) rfl 2 (by decide) (hts _ (tw_c tw_170)) (pq_hv rfl hR_w_216) dX8_isAhead_15 ?_
        refine lv_iload_n hx hb dX8_isAhead_18 rfl (lv_at hl 1 rfl) ?_
        refine pl_i hx hb hK hP hL_w_216 hK_w_216 hN_w_216 (rg_in h_214 (by decide)) dX8_isAhead_19 ?_
        refine lv_topi (fun x_217 ex_217 => ?_)
        have h_218 : rg x_217 0 300 := rg_of_eq ex_217 (GX.rR hG hT_w_216 rfl)
        refine lv_istore (lv' := [(5, .int x_217), (0, .ref this), (1, .int a0), (2, .ref a1), (3, .int a2), (4, .int a3)]) hx hb dX8_isAhead_20 hl (by decide) rfl (fun ls hl => ?_)
        have L_377 : ∀ (n_ : Nat) (x_337 : Int32) (H : Heap) (locs : List Loc) (ls : Array Slot), rg x_337 0 300 → (300 - (x_337).toInt).toNat < n_ → GX [] tg σ I I ri rq → va_P D vwCl (pq_P t σ (I, J, ri, rj, rq)) H → va_D A (pq_P t σ (I, J, ri, rj, rq)) → va_S A s.heap H locs → lv_has ls 8 [(0, .ref this), (1, .int a0), (2, .ref a1), (3, .int a2), (4, .int a3), (5, .int x_337)] → W p l e ({ frames := 1, cells := 0, slots := 0, locals := 40 } : Room) s m (List.toArray ([.ref this, .int a0, .ref a1, .int a2, .int a3] : List Value)) below meth c H locs 0 0 Q (F0 m 22 ls []) := by
          intro n_
          induction n_ with
          | zero => intro x_337 H locs ls h_380 hm hG hP hD hS hl; exact absurd hm (Nat.not_lt_zero _)
          | succ n_ ih_378 =>
            intro x_337 H locs ls h_380 hm hG hP hD hS hl
            refine lv_iload hx hb dX8_isAhead_22 (lv_at hl 5 rfl) ?_
            refine lv_aload_n hx hb dX8_isAhead_24 rfl (lv_at hl 0 rfl) ?_
            refine pg_f (v := .ref w_216) (C := RX8) (T := TX8) (N := 4) hx hb hts (tw_i inlX8) hown hK hP hL_this hK_this (by decide) rfl 2 (by decide) (hts _ (tw_c tw_170)) (pq_hv rfl hR_w_216) dX8_isAhead_25 ?_
            refine lv_iload_n hx hb dX8_isAhead_28 rfl (lv_at hl 1 rfl) ?_
            refine lv_iconst (v := 1) hx hb dX8_isAhead_29 (by decide) ?_
            refine lv_iadd hx hb dX8_isAhead_30 ?_
            refine lv_topi (fun x_381 ex_381 => ?_)
            have h_382 : rg x_381 1 20 := rg_of_eq ex_381 (rg_add h_214 (rg_k (1 : Int32) 1 rfl) (by decide))
            refine pl_i hx hb hK hP hL_w_216 hK_w_216 hN_w_216 (rg_in h_382 (by decide)) dX8_isAhead_31 ?_
            refine lv_topi (fun x_383 ex_383 => ?_)
            have h_384 : rg x_383 0 300 := rg_of_eq ex_383 (GX.rR hG hT_w_216 rfl)
            refine lv_icmp_ge (tgt := 114) hx hb dX8_isAhead_32 (by decide) (fun c_385 => ?_) (fun c_385 => ?_)
            · refine lv_iconst (v := 0) hx hb dX8_isAhead_114 (by decide) ?_
              subst hQ
              exact W.zret (v := 0) hx hb hr (by decide) (fun t1 ht hW => ⟨⟨0, (σ, I, J, ri, rj, rq), rfl, ⟨rfl, (Or.inr ⟨rfl, trivial⟩)⟩, by rw [ht]; exact hP, va_K.moved hW.alike hK, hD⟩, hS.F ht⟩) hS.2.2 dX8_isAhead_115
            · have h_386 : rg x_337 0 299 := rg_lt1 (nle c_385) h_380 h_384 (by decide)
              have h_387 : rg x_383 1 300 := rg_lt2 (nle c_385) h_380 h_384 (by decide)
              refine lv_aload_n hx hb dX8_isAhead_35 rfl (lv_at hl 0 rfl) ?_
              obtain ⟨w_388, hR_w_388, hL_w_388, hK_w_388, hN_w_388, hT_w_388⟩ := sh_a hSH 259 (ci := 8) (kd := 13) (len := 300) rfl (by decide) hL_this hK_this
              refine pg_f (v := .ref w_388) (C := RX8) (T := TX8) (N := 4) hx hb hts (tw_i inlX8) hown hK hP hL_this hK_this (by decide) rfl 3 (by decide) (hts _ (tw_c tw_171)) (pq_hv rfl hR_w_388) dX8_isAhead_36 ?_
              refine lv_iload hx hb dX8_isAhead_39 (lv_at hl 5 rfl) ?_
              refine pl_i hx hb hK hP hL_w_388 hK_w_388 hN_w_388 (rg_in h_386 (by decide)) dX8_isAhead_41 ?_
              refine lv_topi (fun x_389 ex_389 => ?_)
              refine va_mabs hx hb (hml.trans hl.1.symm) hown (hts _ (tw_c tw_483)) (hts _ (tw_c tw_484)) (hts _ (tw_c tw_276)) (hts _ (tw_c tw_485)) (Nat.le_of_ble_eq_true rfl) (Nat.le_of_ble_eq_true rfl) (Nat.zero_le _) (Nat.zero_le _) dX8_isAhead_42 ?_
              refine lv_topi (fun x_390 ex_390 => ?_)
              refine lv_istore (lv' := [(6, .int x_390), (0, .ref this), (1, .int a0), (2, .ref a1), (3, .int a2), (4, .int a3), (5, .int x_337)]) hx hb dX8_isAhead_45 hl (by decide) rfl (fun ls hl => ?_)
              refine lv_aload_n hx hb dX8_isAhead_47 rfl (lv_at hl 3 rfl) ?_
              refine lv_iload_n hx hb dX8_isAhead_48 rfl (lv_at hl 4 rfl) ?_
              refine lv_iload hx hb dX8_isAhead_49 (lv_at hl 0 rfl) ?_
              refine lv_iconst (v := 0) hx hb dX8_isAhead_51 (by decide) ?_
              refine pk_i (va_runV (As := [.int a2, .int x_390, .int 0]) (rest := []) ⟨hx, hb, hml, hown, hts⟩ (s_X0_valueOf l D t σ I J ri rj rq H.size tg hSH hG.1 a1 a2 x_390 (0 : Int32) hL_a1 hK_a1 (rg_w h_a2 (by decide))) (cwV 3 hts (tw_V tw_486 tw_487 tw_488 tw_45 tw_489) rfl rfl rfl (by decide +kernel) ⟨Nat.le_of_ble_eq_true rfl, Nat.le_of_ble_eq_true rfl⟩) ⟨pq_blind, pq_recv hK hP hL_a1 hK_a1 (by decide) rfl, pq_pre hK hN hP hD⟩ rfl rfl hl.1 rfl (lv_room (Nat.le_of_ble_eq_true rfl)) dX8_isAhead_52 ⟨Nat.le_of_ble_eq_true rfl, Nat.le_of_ble_eq_true rfl⟩) hD hS hA (fun x_391 σ1 μ1 H locs hw_392 hP hD hS => ?_)
              have hu_393 := hw_392
              obtain ⟨hu_393a, hu_393b⟩ := Prod.mk.inj hu_393
              rw [hu_393a, hu_393b] at hP hD
              refine lv_aload_n hx hb dX8_isAhead_55 rfl (lv_at hl 3 rfl) ?_
              refine lv_iload hx hb dX8_isAhead_56 (lv_at hl 5 rfl) ?_
              refine lv_iload hx hb dX8_isAhead_58 (lv_at hl 0 rfl) ?_
              refine lv_iconst (v := 0) hx hb dX8_isAhead_60 (by decide) ?_
              refine pk_i (va_runV (As := [.int a3, .int x_390, .int 0]) (rest := [.int x_391]) ⟨hx, hb, hml, hown, hts⟩ (s_X0_valueOf l D t σ I J ri rj rq H.size tg hSH hG.1 a1 a3 x_390 (0 : Int32) hL_a1 hK_a1 (rg_w h_a3 (by decide))) (cwV 3 hts (tw_V tw_486 tw_487 tw_488 tw_45 tw_489) rfl rfl rfl (by decide +kernel) ⟨Nat.le_of_ble_eq_true rfl, Nat.le_of_ble_eq_true rfl⟩) ⟨pq_blind, pq_recv hK hP hL_a1 hK_a1 (by decide) rfl, pq_pre hK hN hP hD⟩ rfl rfl hl.1 rfl (lv_room (Nat.le_of_ble_eq_true rfl)) dX8_isAhead_61 ⟨Nat.le_of_ble_eq_true rfl, Nat.le_of_ble_eq_true rfl⟩) hD hS hA (fun x_396 σ1 μ1 H locs hw_397 hP hD hS => ?_)
              have hu_398 := hw_397
              obtain ⟨hu_398a, hu_398b⟩ := Prod.mk.inj hu_398
              rw [hu_398a, hu_398b] at hP hD
              refine pk_i (va_runS (As := [.int x_391, .int x_396]) (rest := []) ⟨hx, hb, hml, hown, hts⟩ (s_J6_compare_7cf53 l D t σ I J ri rj rq H.size tg hSH hG.1 x_391 x_396) (va_cwS 2 hts (tw_S tw_490 tw_491 tw_492 tw_493) rfl rfl rfl (by decide +kernel) ⟨Nat.le_of_ble_eq_true rfl, Nat.le_of_ble_eq_true rfl⟩) ⟨pq_blind, pq_pre hK hN hP hD⟩ rfl rfl hl.1 rfl (lv_room (Nat.le_of_ble_eq_true rfl)) dX8_isAhead_64 ⟨Nat.le_of_ble_eq_true rfl, Nat.le_of_ble_eq_true rfl⟩) hD hS hA (fun x_401 σ1 μ1 H locs hw_402 hP hD hS => ?_)
              obtain ⟨hu_403, hr_405⟩ := hw_402
              obtain ⟨hu_403a, hu_403b⟩ := Prod.mk.inj hu_403
              rw [hu_403a, hu_403b] at hP hD
              refine lv_istore (lv' := [(7, .int x_401), (6, .int x_390), (0, .ref this), (1, .int a0), (2, .ref a1), (3, .int a2), (4, .int a3), (5, .int x_337)]) hx hb dX8_isAhead_67 hl (by decide) rfl (fun ls hl => ?_)
              refine lv_iload hx hb dX8_isAhead_69 (lv_at hl 0 rfl) ?_
              refine lv_if_eq (tgt := 108) hx hb dX8_isAhead_71 (by decide) (fun c_406 => ?_) (fun c_406 => ?_)
              · have h_407 : rg x_401 0 0 := rg_and hr_405 (rg_of_eq c_406 (rg_k (0 : Int32) 0 rfl)) (by decide)
                obtain ⟨x_408, ex_408⟩ : ∃ y : Int32, y = x_337 + Int32.ofInt 1 := ⟨_, rfl⟩
                have h_409 : rg x_408 1 300 := rg_of_eq ex_408 (rg_add h_386 (rg_k (Int32.ofInt 1) 1 rfl) (by decide))
                refine lv_iinc (v := x_408) (lv' := [(5, .int x_408), (7, .int x_401), (6, .int x_390), (0, .ref this), (1, .int a0), (2, .ref a1), (3, .int a2), (4, .int a3)]) hx hb dX8_isAhead_108 hl (k := 7) rfl ex_408.symm (by decide) rfl (fun ls hl => ?_)
                refine lv_goto (tgt := 22) hx hb dX8_isAhead_111 (by decide) ?_
                exact ih_378 x_408 _ _ _ (rg_w h_409 (by decide)) (ms_up 1 hm ex_408 rfl (by decide) h_386 (by decide) (by decide)) hG hP hD hS (lv_sub hl [3, 4, 5, 6, 7, 0] rfl)
              · refine lv_aload_n hx hb dX8_isAhead_74 rfl (lv_at hl 2 rfl) ?_
                refine pg_f (v := .ref w_388) (C := RX8) (T := TX8) (N := 4) hx hb hts (tw_i inlX8) hown hK hP hL_this hK_this (by decide) rfl 3 (by decide) (hts _ (tw_c tw_171)) (pq_hv rfl hR_w_388) dX8_isAhead_75 ?_
                refine lv_iload hx hb dX8_isAhead_78 (lv_at hl 7 rfl) ?_
                refine pl_i hx hb hK hP hL_w_388 hK_w_388 hN_w_388 (rg_in h_386 (by decide)) dX8_isAhead_80 ?_
                refine lv_tov x_389 ex_389.symm ?_
                refine lv_if_ge (tgt := 97) hx hb dX8_isAhead_81 (by decide) (fun c_410 => ?_) (fun c_410 => ?_)
                · have h_411 : rg x_389 0 2147483647 := rg_le2 c_410 (rg_k (0 : Int32) 0 rfl) (rg_full _) (by decide)
                  refine lv_iload hx hb dX8_isAhead_97 (lv_at hl 0 rfl) ?_
                  refine lv_if_ge (tgt := 106) hx hb dX8_isAhead_99 (by decide) (fun c_412 => ?_) (fun c_412 => ?_)
                  · have h_413 : rg x_401 0 1 := rg_le2 c_412 (rg_k (0 : Int32) 0 rfl) hr_405 (by decide)
                    refine lv_iconst (v := 0) hx hb dX8_isAhead_106 (by decide) ?_
                    subst hQ
                    exact W.zret (v := 0) hx hb hr (by decide) (fun t1 ht hW => ⟨⟨0, (σ, I, J, ri, rj, rq), rfl, ⟨rfl, (Or.inr ⟨rfl, trivial⟩)⟩, by rw [ht]; exact hP, va_K.moved hW.alike hK, hD⟩, hS.F ht⟩) hS.2.2 dX8_isAhead_107
                  · have h_414 : rg x_401 (-1) (-1) := rg_lt1 (nle c_412) hr_405 (rg_k (0 : Int32) 0 rfl) (by decide)
                    refine lv_iconst (v := 1) hx hb dX8_isAhead_102 (by decide) ?_
                    refine lv_goto (tgt := 107) hx hb dX8_isAhead_103 (by decide) ?_
                    subst hQ
                    exact W.zret (v := 1) hx hb hr (by decide) (fun t1 ht hW => ⟨⟨1, (σ, I, J, ri, rj, rq), rfl, ⟨rfl, (Or.inl ⟨rfl, (rg_w h_214 (by decide))⟩)⟩, by rw [ht]; exact hP, va_K.moved hW.alike hK, hD⟩, hS.F ht⟩) hS.2.2 dX8_isAhead_107
                · have h_415 : rg x_389 (-2147483648) (-1) := rg_lt1 (nle c_410) (rg_full _) (rg_k (0 : Int32) 0 rfl) (by decide)
                  refine lv_iload hx hb dX8_isAhead_84 (lv_at hl 0 rfl) ?_
                  refine lv_if_le (tgt := 93) hx hb dX8_isAhead_86 (by decide) (fun c_416 => ?_) (fun c_416 => ?_)
                  · have h_417 : rg x_401 (-1) 0 := rg_le1 c_416 hr_405 (rg_k (0 : Int32) 0 rfl) (by decide)
                    refine lv_iconst (v := 0) hx hb dX8_isAhead_93 (by decide) ?_
                    refine lv_goto (tgt := 107) hx hb dX8_isAhead_94 (by decide) ?_
                    subst hQ
                    exact W.zret (v := 0) hx hb hr (by decide) (fun t1 ht hW => ⟨⟨0, (σ, I, J, ri, rj, rq), rfl, ⟨rfl, (Or.inr ⟨rfl, trivial⟩)⟩, by rw [ht]; exact hP, va_K.moved hW.alike hK, hD⟩, hS.F ht⟩) hS.2.2 dX8_isAhead_107
                  · have h_418 : rg x_401 1 1 := rg_lt2 (nle c_416) (rg_k (0 : Int32) 0 rfl) hr_405 (by decide)
                    refine lv_iconst (v := 1) hx hb dX8_isAhead_89 (by decide) ?_
                    refine lv_goto (tgt := 107) hx hb dX8_isAhead_90 (by decide) ?_
                    subst hQ
                    exact W.zret (v := 1) hx hb hr (by decide) (fun t1 ht hW => ⟨⟨1, (σ, I, J, ri, rj, rq), rfl, ⟨rfl, (Or.inl ⟨rfl, (rg_w h_214 (by decide))⟩)⟩, by rw [ht]; exact hP, va_K.moved hW.alike hK, hD⟩, hS.F ht⟩) hS.2.2 dX8_isAhead_107
        exact L_377 _ x_217 _ _ _ (rg_w h_218 (by decide)) (Nat.lt_succ_self _) hG hP hD hS (lv_sub hl [1, 2, 3, 4, 5, 0] rfl)
      · exact K_208 _ _ _ hG hP hD hS (lv_sub hl [] rfl)
  exact go _ _ _ hP hD hS hl

set_option maxHeartbeats 4000000 in
set_option maxRecDepth 100000 in
theorem s_X9_dig (l : Launch) (D : va_G) (t : pq_T) (σ : pq_S) (I : Nat → Nat → Int32) (J : Nat → Nat → Int64) (ri : Nat → Nat → Int32) (rj : Nat → Nat → Int64) (rq : Nat → Nat → Option Nat) (sz : Nat) (tg : Nat → Nat) (hSH : SH σ tg) (hG0 : GS tg σ I ri rq) (this : Nat) (a0 : Int32) (a1 : Int32) (a2 : Int32) (a3 : Int32) (hL_this : this ∈ σ.1) (hK_this : σ.2.1 this = 9) (h_a0 : rg a0 0 39) : MetV l yX9_dig (wa yX9_dig cX9_dig 5 none) ({ frames := 0, cells := 0, slots := 0, locals := 0 }) [.ref this, .int a0, .int a1, .int a2, .int a3] D t σ (I, J, ri, rj, rq) sz 0 0 (fun (u : pq_S × pq_M) => ∃ ri' : Nat → Nat → Int32, u = (σ, I, J, ri', rj, rq) ∧ GX [] tg σ I I ri' rq) := by
  refine Met.ofW (cc := cX9_dig) (maxL := 5) (ret := none) (by decide) rfl ?_
  intro p e s m args below meth c s₁ B hml hv
  obtain ⟨rfl, hsz, hP, hK, hD0, hN⟩ := hv
  have hx := B.exec
  have hb := B.bytes
  have hr := B.returns
  have hts := atoms_spec (ws := (wa yX9_dig cX9_dig 5 none)) B.pre
  have hown : s.vm.findClass RX9 = some m.cls := findClass_of_methodNamed B.named
  have hlocks := B.notSynchronized
  subst hsz
  have hD : va_D (pq_B t σ (I, J, ri, rj, rq) s.heap.size) (pq_P t σ (I, J, ri, rj, rq)) := hD0.self
  generalize hAe : pq_B t σ (I, J, ri, rj, rq) s.heap.size = A at hD ⊢
  have hA : ∀ q : Nat, s.heap.size ≤ q → A q := fun q h => by rw [← hAe]; exact Or.inr h
  have hS : va_S A s.heap s.heap [] := va_S.rf
  have hG : GX [] tg σ I I ri rq := ⟨hG0, fun _ _ _ => rfl⟩
  have hl := lv_entry ([.ref this, .int a0, .int a1, .int a2, .int a3]) (n := 5) (Nat.le_of_ble_eq_true rfl)
  rw [lg_entry_eq]
  generalize (lg_sl ([.ref this, .int a0, .int a1, .int a2, .int a3]) ++ List.replicate (5 - (lg_sl ([.ref this, .int a0, .int a1, .int a2, .int a3])).length) Slot.unset).toArray = ls at hl ⊢
  have hl : lv_has ls 5 [(0, .ref this), (1, .int a0), (2, .int a1), (3, .int a2), (4, .int a3)] := hl
  refine q_gen (fun Q hQ => ?_)
  have go : ∀ (H : Heap) (locs : List Loc) (ls : Array Slot), va_P D vwCl (pq_P t σ (I, J, ri, rj, rq)) H → va_D A (pq_P t σ (I, J, ri, rj, rq)) → va_S A s.heap H locs → lv_has ls 5 [(0, .ref this), (1, .int a0), (2, .int a1), (3, .int a2), (4, .int a3)] → W p l e ({ frames := 0, cells := 0, slots := 0, locals := 0 } : Room) s m (List.toArray ([.ref this, .int a0, .int a1, .int a2, .int a3] : List Value)) below meth c H locs 0 0 Q (F0 m 0 ls []) := by
    intro H locs ls hP hD hS hl
    refine lv_aload_n hx hb dX9_dig_0 rfl (lv_at hl 0 rfl) ?_
    obtain ⟨w_1, hR_w_1, hL_w_1, hK_w_1, hN_w_1, hT_w_1⟩ := sh_a hSH 288 (ci := 9) (kd := 13) (len := 40) rfl (by decide) hL_this hK_this
    refine pg_f (v := .ref w_1) (C := RX9) (T := TX9) (N := 3) hx hb hts (tw_i inlX9) hown hK hP hL_this hK_this (by decide) rfl 0 (by decide) (hts _ (tw_c tw_104)) (pq_hv rfl hR_w_1) dX9_dig_1 ?_
    refine lv_iload_n hx hb dX9_dig_4 rfl (lv_at hl 1 rfl) ?_
    refine lv_iload_n hx hb dX9_dig_5 rfl (lv_at hl 2 rfl) ?_
    refine pt_i hx hb hK hP hD hS hL_w_1 hK_w_1 hN_w_1 (rg_in h_a0 (by decide)) dX9_dig_6 (fun r_2 H locs er_2 hP hD hS => ?_)
    have hG := GX.wR hG hSH hT_w_1 rfl er_2 (rg_w (rg_full _) (by decide)) (by decide)
    refine lv_aload_n hx hb dX9_dig_7 rfl (lv_at hl 0 rfl) ?_
    obtain ⟨w_3, hR_w_3, hL_w_3, hK_w_3, hN_w_3, hT_w_3⟩ := sh_a hSH 289 (ci := 9) (kd := 13) (len := 40) rfl (by decide) hL_this hK_this
    refine pg_f (v := .ref w_3) (C := RX9) (T := TX9) (N := 3) hx hb hts (tw_i inlX9) hown hK hP hL_this hK_this (by decide) rfl 1 (by decide) (hts _ (tw_c tw_105)) (pq_hv rfl hR_w_3) dX9_dig_8 ?_
    refine lv_iload_n hx hb dX9_dig_11 rfl (lv_at hl 1 rfl) ?_
    refine lv_iload_n hx hb dX9_dig_12 rfl (lv_at hl 3 rfl) ?_
    refine pt_i hx hb hK hP hD hS hL_w_3 hK_w_3 hN_w_3 (rg_in h_a0 (by decide)) dX9_dig_13 (fun r_4 H locs er_4 hP hD hS => ?_)
    have hG := GX.wR hG hSH hT_w_3 rfl er_4 (rg_w (rg_full _) (by decide)) (by decide)
    refine lv_aload_n hx hb dX9_dig_14 rfl (lv_at hl 0 rfl) ?_
    obtain ⟨w_5, hR_w_5, hL_w_5, hK_w_5, hN_w_5, hT_w_5⟩ := sh_a hSH 290 (ci := 9) (kd := 13) (len := 40) rfl (by decide) hL_this hK_this
    refine pg_f (v := .ref w_5) (C := RX9) (T := TX9) (N := 3) hx hb hts (tw_i inlX9) hown hK hP hL_this hK_this (by decide) rfl 2 (by decide) (hts _ (tw_c tw_106)) (pq_hv rfl hR_w_5) dX9_dig_15 ?_
    refine lv_iload_n hx hb dX9_dig_18 rfl (lv_at hl 1 rfl) ?_
    refine lv_iload hx hb dX9_dig_19 (lv_at hl 4 rfl) ?_
    refine pt_i hx hb hK hP hD hS hL_w_5 hK_w_5 hN_w_5 (rg_in h_a0 (by decide)) dX9_dig_21 (fun r_6 H locs er_6 hP hD hS => ?_)
    have hG := GX.wR hG hSH hT_w_5 rfl er_6 (rg_w (rg_full _) (by decide)) (by decide)
    subst hQ
    exact W.vret hx hb hr (fun t1 ht hW => ⟨⟨(σ, I, J, r_6, rj, rq), rfl, ⟨r_6, rfl, hG⟩, by rw [ht]; exact hP, va_K.moved hW.alike hK, hD⟩, hS.F ht⟩) hS.2.2 dX9_dig_22
  exact go _ _ _ hP hD hS hl

set_option maxHeartbeats 4000000 in
set_option maxRecDepth 100000 in
theorem s_X11_copy_325_325 (l : Launch) (D : va_G) (t : pq_T) (σ : pq_S) (I : Nat → Nat → Int32) (J : Nat → Nat → Int64) (ri : Nat → Nat → Int32) (rj : Nat → Nat → Int64) (rq : Nat → Nat → Option Nat) (sz : Nat) (tg : Nat → Nat) (hSH : SH σ tg) (hG0 : GS tg σ I ri rq) (a0 : Nat) (a1 : Nat) (hL_a0 : a0 ∈ σ.1) (hK_a0 : σ.2.1 a0 = 13) (hN_a0 : σ.2.2.2 a0 = 40) (hT_a0 : tg a0 = 325) (hL_a1 : a1 ∈ σ.1) (hK_a1 : σ.2.1 a1 = 13) (hN_a1 : σ.2.2.2 a1 = 40) (hT_a1 : tg a1 = 325) : MetV l yX11_copy (wa yX11_copy cX11_copy 2 none) ({ frames := 1, cells := 0, slots := 0, locals := 60 }) [.ref a0, .ref a1] D t σ (I, J, ri, rj, rq) sz 0 0 (fun (u : pq_S × pq_M) => ∃ ri' : Nat → Nat → Int32, u = (σ, I, J, ri', rj, rq) ∧ GX [] tg σ I I ri' rq ∧ (∀ j, j < 40 → ri' a1 j = ri a0 j)) := by
  refine Met.ofW (cc := cX11_copy) (maxL := 2) (ret := none) (by decide) rfl ?_
  intro p e s m args below meth c s₁ B hml hv
  obtain ⟨rfl, hsz, hP, hK, hD0, hN⟩ := hv
  have hx := B.exec
  have hb := B.bytes
  have hr := B.returns
  have hts := atoms_spec (ws := (wa yX11_copy cX11_copy 2 none)) B.pre
  have hown : s.vm.findClass RX11 = some m.cls := findClass_of_methodNamed B.named
  have hlocks := B.notSynchronized
  subst hsz
  have hD : va_D (pq_B t σ (I, J, ri, rj, rq) s.heap.size) (pq_P t σ (I, J, ri, rj, rq)) := hD0.self
  generalize hAe : pq_B t σ (I, J, ri, rj, rq) s.heap.size = A at hD ⊢
  have hA : ∀ q : Nat, s.heap.size ≤ q → A q := fun q h => by rw [← hAe]; exact Or.inr h
  have hS : va_S A s.heap s.heap [] := va_S.rf
  have hG : GX [] tg σ I I ri rq := ⟨hG0, fun _ _ _ => rfl⟩
  have hl := lv_entry ([.ref a0, .ref a1]) (n := 2) (Nat.le_of_ble_eq_true rfl)
  rw [lg_entry_eq]
  generalize (lg_sl ([.ref a0, .ref a1]) ++ List.replicate (2 - (lg_sl ([.ref a0, .ref a1])).length) Slot.unset).toArray = ls at hl ⊢
  have hl : lv_has ls 2 [(0, .ref a0), (1, .ref a1)] := hl
  refine q_gen (fun Q hQ => ?_)
  have go : ∀ (H : Heap) (locs : List Loc) (ls : Array Slot), va_P D vwCl (pq_P t σ (I, J, ri, rj, rq)) H → va_D A (pq_P t σ (I, J, ri, rj, rq)) → va_S A s.heap H locs → lv_has ls 2 [(0, .ref a0), (1, .ref a1)] → W p l e ({ frames := 1, cells := 0, slots := 0, locals := 60 } : Room) s m (List.toArray ([.ref a0, .ref a1] : List Value)) below meth c H locs 0 0 Q (F0 m 0 ls []) := by
    intro H locs ls hP hD hS hl
    refine lv_aload_n hx hb dX11_copy_0 rfl (lv_at hl 0 rfl) ?_
    refine lv_iconst (v := 0) hx hb dX11_copy_1 (by decide) ?_
    refine lv_aload_n hx hb dX11_copy_2 rfl (lv_at hl 1 rfl) ?_
    refine lv_iconst (v := 0) hx hb dX11_copy_3 (by decide) ?_
    refine lv_aload_n hx hb dX11_copy_4 rfl (lv_at hl 0 rfl) ?_
    refine pn_i (v := 40) hx hb hK hP hL_a0 hK_a0 hN_a0 (by decide) dX11_copy_5 ?_
    refine lv_aload_n hx hb dX11_copy_6 rfl (lv_at hl 1 rfl) ?_
    refine pn_i (v := 40) hx hb hK hP hL_a1 hK_a1 hN_a1 (by decide) dX11_copy_7 ?_
    refine va_mmin hx hb (hml.trans hl.1.symm) hown (hts _ (tw_c tw_1103)) (hts _ (tw_c tw_467)) (hts _ (tw_c tw_276)) (hts _ (tw_c tw_468)) (Nat.le_of_ble_eq_true rfl) (Nat.le_of_ble_eq_true rfl) (Nat.zero_le _) (Nat.zero_le _) dX11_copy_8 ?_
    refine lv_topi (fun x_1 ex_1 => ?_)
    have h_2 : rg x_1 40 40 := rg_of_eq ex_1 (rg_min2 (rg_k (40 : Int32) 40 rfl) (rg_k (40 : Int32) 40 rfl) (by decide))
    refine pc_i hx hb (hml.trans hl.1.symm) hown (hts _ (tw_c tw_1104)) (hts _ (tw_c tw_1105)) (hts _ (tw_c tw_1106)) (hts _ (tw_c tw_1107)) hK hP hD hS hL_a0 hK_a0 hN_a0 hL_a1 hK_a1 hN_a1 (rg_pos (rg_k (0 : Int32) 0 rfl) (by decide)) (rg_pos h_2 (by decide)) (rg_cp (rg_k (0 : Int32) 0 rfl) h_2 (by decide)) (rg_cl h_2 (by decide)) (Nat.le_of_ble_eq_true rfl) (Nat.le_of_ble_eq_true rfl) dX11_copy_11 (fun r_3 H locs er_3 hP hD hS => ?_)
    have hG := GX.cR hG hSH hT_a0 rfl hT_a1 rfl er_3 (by decide)
    subst hQ
    exact W.vret hx hb hr (fun t1 ht hW => ⟨⟨(σ, I, J, r_3, rj, rq), rfl, ⟨r_3, rfl, hG, (cpy_eq er_3 h_2 rfl)⟩, by rw [ht]; exact hP, va_K.moved hW.alike hK, hD⟩, hS.F ht⟩) hS.2.2 dX11_copy_14
  exact go _ _ _ hP hD hS hl

set_option maxHeartbeats 4000000 in
set_option maxRecDepth 100000 in
theorem s_X10_copyFrom (l : Launch) (D : va_G) (t : pq_T) (σ : pq_S) (I : Nat → Nat → Int32) (J : Nat → Nat → Int64) (ri : Nat → Nat → Int32) (rj : Nat → Nat → Int64) (rq : Nat → Nat → Option Nat) (sz : Nat) (tg : Nat → Nat) (hSH : SH σ tg) (hG0 : GS tg σ I ri rq) (this : Nat) (a0 : Nat) (hL_this : this ∈ σ.1) (hK_this : σ.2.1 this = 10) (hL_a0 : a0 ∈ σ.1) (hK_a0 : σ.2.1 a0 = 10) : MetV l yX10_copyFrom (wa yX10_copyFrom cX10_copyFrom 2 none) ({ frames := 4, cells := 0, slots := 0, locals := 123 }) [.ref this, .ref a0] D t σ (I, J, ri, rj, rq) sz 0 0 (fun (u : pq_S × pq_M) => ∃ I' : Nat → Nat → Int32, ∃ J' : Nat → Nat → Int64, ∃ ri' : Nat → Nat → Int32, ∃ rj' : Nat → Nat → Int64, ∃ rq' : Nat → Nat → Option Nat, u = (σ, I', J', ri', rj', rq') ∧ GX [320, 224, 64, 65, 0, 10, 32] tg σ I I' ri' rq' ∧ (I' 320 this = I 320 a0)) := by
  refine Met.ofW (cc := cX10_copyFrom) (maxL := 2) (ret := none) (by decide) rfl ?_
  intro p e s m args below meth c s₁ B hml hv
  obtain ⟨rfl, hsz, hP, hK, hD0, hN⟩ := hv
  have hx := B.exec
  have hb := B.bytes
  have hr := B.returns
  have hts := atoms_spec (ws := (wa yX10_copyFrom cX10_copyFrom 2 none)) B.pre
  have hown : s.vm.findClass RX10 = some m.cls := findClass_of_methodNamed B.named
  have hlocks := B.notSynchronized
  subst hsz
  have hD : va_D (pq_B t σ (I, J, ri, rj, rq) s.heap.size) (pq_P t σ (I, J, ri, rj, rq)) := hD0.self
  generalize hAe : pq_B t σ (I, J, ri, rj, rq) s.heap.size = A at hD ⊢
  have hA : ∀ q : Nat, s.heap.size ≤ q → A q := fun q h => by rw [← hAe]; exact Or.inr h
  have hS : va_S A s.heap s.heap [] := va_S.rf
  have hG : GX [320, 224, 64, 65, 0, 10, 32] tg σ I I ri rq := ⟨hG0, fun _ _ _ => rfl⟩
  have hl := lv_entry ([.ref this, .ref a0]) (n := 2) (Nat.le_of_ble_eq_true rfl)
  rw [lg_entry_eq]
  generalize (lg_sl ([.ref this, .ref a0]) ++ List.replicate (2 - (lg_sl ([.ref this, .ref a0])).length) Slot.unset).toArray = ls at hl ⊢
  have hl : lv_has ls 2 [(0, .ref this), (1, .ref a0)] := hl
  refine q_gen (fun Q hQ => ?_)
  have go : ∀ (H : Heap) (locs : List Loc) (ls : Array Slot), va_P D vwCl (pq_P t σ (I, J, ri, rj, rq)) H → va_D A (pq_P t σ (I, J, ri, rj, rq)) → va_S A s.heap H locs → lv_has ls 2 [(0, .ref this), (1, .ref a0)] → W p l e ({ frames := 4, cells := 0, slots := 0, locals := 123 } : Room) s m (List.toArray ([.ref this, .ref a0] : List Value)) below meth c H locs 0 0 Q (F0 m 0 ls []) := by
    intro H locs ls hP hD hS hl
    refine lv_aload_n hx hb dX10_copyFrom_0 rfl (lv_at hl 0 rfl) ?_
    refine lv_aload_n hx hb dX10_copyFrom_1 rfl (lv_at hl 1 rfl) ?_
    refine pg_f (v := .int (I 320 a0)) (C := RX10) (T := TX10) (N := 13) hx hb hts (tw_i inlX10) hown hK hP hL_a0 hK_a0 (by decide) rfl 0 (by decide) (hts _ (tw_c tw_457)) rfl dX10_copyFrom_2 ?_
    have h_1 : rg (I 320 a0) 0 600 := GX.rI hG 320 rfl
    refine pp_i (v := (I 320 a0)) (ty := .int) (C := RX10) (T := TX10) (N := 13) hx hb hts (tw_i inlX10) tyX10 tyX10_ok nmX10 hown hK hP hD hS hL_this hK_this (by decide) rfl 0 320 (by decide) (hts _ (tw_c tw_457)) rfl (by decide +kernel) rfl rfl (Nat.le_of_ble_eq_true rfl) (ps_320 _ _ _ _ _) dX10_copyFrom_5 (fun I_2 H locs eI_2 hP hD hS => ?_)
    have hG := GX.wI hG 320 rfl eI_2 (rg_w h_1 (by decide)) (by decide)
    refine lv_aload_n hx hb dX10_copyFrom_8 rfl (lv_at hl 0 rfl) ?_
    refine lv_aload_n hx hb dX10_copyFrom_9 rfl (lv_at hl 1 rfl) ?_
    refine pg_f (v := .int (I_2 321 a0)) (C := RX10) (T := TX10) (N := 13) hx hb hts (tw_i inlX10) hown hK hP hL_a0 hK_a0 (by decide) rfl 1 (by decide) (hts _ (tw_c tw_1131)) rfl dX10_copyFrom_10 ?_
    refine pp_i (v := (I_2 321 a0)) (ty := .int) (C := RX10) (T := TX10) (N := 13) hx hb hts (tw_i inlX10) tyX10 tyX10_ok nmX10 hown hK hP hD hS hL_this hK_this (by decide) rfl 1 321 (by decide) (hts _ (tw_c tw_1131)) rfl (by decide +kernel) rfl rfl (Nat.le_of_ble_eq_true rfl) (ps_321 _ _ _ _ _) dX10_copyFrom_13 (fun I_3 H locs eI_3 hP hD hS => ?_)
    have hG := GX.wI hG 321 rfl eI_3 (rg_w (rg_full _) (by decide)) (by decide)
    refine lv_aload_n hx hb dX10_copyFrom_16 rfl (lv_at hl 0 rfl) ?_
    refine lv_aload_n hx hb dX10_copyFrom_17 rfl (lv_at hl 1 rfl) ?_
    refine pg_f (v := .int (I_3 322 a0)) (C := RX10) (T := TX10) (N := 13) hx hb hts (tw_i inlX10) hown hK hP hL_a0 hK_a0 (by decide) rfl 2 (by decide) (hts _ (tw_c tw_1046)) rfl dX10_copyFrom_18 ?_
    refine pp_i (v := (I_3 322 a0)) (ty := .int) (C := RX10) (T := TX10) (N := 13) hx hb hts (tw_i inlX10) tyX10 tyX10_ok nmX10 hown hK hP hD hS hL_this hK_this (by decide) rfl 2 322 (by decide) (hts _ (tw_c tw_1046)) rfl (by decide +kernel) rfl rfl (Nat.le_of_ble_eq_true rfl) (ps_322 _ _ _ _ _) dX10_copyFrom_21 (fun I_4 H locs eI_4 hP hD hS => ?_)
    have hG := GX.wI hG 322 rfl eI_4 (rg_w (rg_full _) (by decide)) (by decide)
    refine lv_aload_n hx hb dX10_copyFrom_24 rfl (lv_at hl 0 rfl) ?_
    refine lv_aload_n hx hb dX10_copyFrom_25 rfl (lv_at hl 1 rfl) ?_
    refine pg_f (v := .int (I_4 323 a0)) (C := RX10) (T := TX10) (N := 13) hx hb hts (tw_i inlX10) hown hK hP hL_a0 hK_a0 (by decide) rfl 3 (by decide) (hts _ (tw_c tw_31)) rfl dX10_copyFrom_26 ?_
    refine pp_i (v := (I_4 323 a0)) (ty := .int) (C := RX10) (T := TX10) (N := 13) hx hb hts (tw_i inlX10) tyX10 tyX10_ok nmX10 hown hK hP hD hS hL_this hK_this (by decide) rfl 3 323 (by decide) (hts _ (tw_c tw_31)) rfl (by decide +kernel) rfl rfl (Nat.le_of_ble_eq_true rfl) (ps_323 _ _ _ _ _) dX10_copyFrom_29 (fun I_5 H locs eI_5 hP hD hS => ?_)
    have hG := GX.wI hG 323 rfl eI_5 (rg_w (rg_full _) (by decide)) (by decide)
    refine lv_aload_n hx hb dX10_copyFrom_32 rfl (lv_at hl 0 rfl) ?_
    refine lv_aload_n hx hb dX10_copyFrom_33 rfl (lv_at hl 1 rfl) ?_
    refine pg_f (v := .int (I_5 324 a0)) (C := RX10) (T := TX10) (N := 13) hx hb hts (tw_i inlX10) hown hK hP hL_a0 hK_a0 (by decide) rfl 4 (by decide) (hts _ (tw_c tw_32)) rfl dX10_copyFrom_34 ?_
    refine pp_i (v := (I_5 324 a0)) (ty := .int) (C := RX10) (T := TX10) (N := 13) hx hb hts (tw_i inlX10) tyX10 tyX10_ok nmX10 hown hK hP hD hS hL_this hK_this (by decide) rfl 4 324 (by decide) (hts _ (tw_c tw_32)) rfl (by decide +kernel) rfl rfl (Nat.le_of_ble_eq_true rfl) (ps_324 _ _ _ _ _) dX10_copyFrom_37 (fun I_6 H locs eI_6 hP hD hS => ?_)
    have hG := GX.wI hG 324 rfl eI_6 (rg_w (rg_full _) (by decide)) (by decide)
    refine lv_aload_n hx hb dX10_copyFrom_40 rfl (lv_at hl 1 rfl) ?_
    obtain ⟨w_7, hR_w_7, hL_w_7, hK_w_7, hN_w_7, hT_w_7⟩ := sh_a hSH 325 (ci := 10) (kd := 13) (len := 40) rfl (by decide) hL_a0 hK_a0
    refine pg_f (v := .ref w_7) (C := RX10) (T := TX10) (N := 13) hx hb hts (tw_i inlX10) hown hK hP hL_a0 hK_a0 (by decide) rfl 5 (by decide) (hts _ (tw_c tw_34)) (pq_hv rfl hR_w_7) dX10_copyFrom_41 ?_
    refine lv_aload_n hx hb dX10_copyFrom_44 rfl (lv_at hl 0 rfl) ?_
    obtain ⟨w_8, hR_w_8, hL_w_8, hK_w_8, hN_w_8, hT_w_8⟩ := sh_a hSH 325 (ci := 10) (kd := 13) (len := 40) rfl (by decide) hL_this hK_this
    refine pg_f (v := .ref w_8) (C := RX10) (T := TX10) (N := 13) hx hb hts (tw_i inlX10) hown hK hP hL_this hK_this (by decide) rfl 5 (by decide) (hts _ (tw_c tw_34)) (pq_hv rfl hR_w_8) dX10_copyFrom_45 ?_
    refine pk_v (va_runSN (As := [.ref w_7, .ref w_8]) (rest := []) ⟨hx, hb, hml, hown, hts⟩ (s_X11_copy_325_325 l D t σ I_6 J ri rj rq H.size tg hSH hG.1 w_7 w_8 hL_w_7 hK_w_7 hN_w_7 hT_w_7 hL_w_8 hK_w_8 hN_w_8 hT_w_8) ⟨va_cnB (host := "RingsUnder") 2 hts (tw_W tw_1102) rfl rfl rfl (nl_17 hN) (hts _ (tw_c tw_2)) (by decide +kernel) ⟨Nat.le_of_ble_eq_true rfl, Nat.le_of_ble_eq_true rfl⟩, hts (.static yX11_copy) (by decide +kernel), trivial⟩ ⟨pq_blind, pq_pre hK hN hP hD⟩ rfl rfl hl.1 rfl (lv_room (Nat.le_of_ble_eq_true rfl)) dX10_copyFrom_48 ⟨Nat.le_of_ble_eq_true rfl, Nat.le_of_ble_eq_true rfl⟩) hD hS hA (fun σ1 μ1 H locs hw_10 hP hD hS => ?_)
    obtain ⟨ri_11, hu_12, hg_13, hp_15⟩ := hw_10
    obtain ⟨hu_12a, hu_12b⟩ := Prod.mk.inj hu_12
    rw [hu_12a, hu_12b] at hP hD
    have hG := GX.tr hG hg_13 (by decide)
    refine lv_aload_n hx hb dX10_copyFrom_51 rfl (lv_at hl 0 rfl) ?_
    obtain ⟨w_16, hR_w_16, hL_w_16, hK_w_16⟩ := sh_o hSH 326 (ci := 10) (kd := 7) rfl hL_this hK_this
    refine pg_f (v := .ref w_16) (C := RX10) (T := TX10) (N := 13) hx hb hts (tw_i inlX10) hown hK hP hL_this hK_this (by decide) rfl 6 (by decide) (hts _ (tw_c tw_38)) (pq_hv rfl hR_w_16) dX10_copyFrom_52 ?_
    refine lv_aload_n hx hb dX10_copyFrom_55 rfl (lv_at hl 1 rfl) ?_
    obtain ⟨w_17, hR_w_17, hL_w_17, hK_w_17⟩ := sh_o hSH 326 (ci := 10) (kd := 7) rfl hL_a0 hK_a0
    refine pg_f (v := .ref w_17) (C := RX10) (T := TX10) (N := 13) hx hb hts (tw_i inlX10) hown hK hP hL_a0 hK_a0 (by decide) rfl 6 (by decide) (hts _ (tw_c tw_38)) (pq_hv rfl hR_w_17) dX10_copyFrom_56 ?_
    refine pk_v (va_runV (As := [.ref w_17]) (rest := []) ⟨hx, hb, hml, hown, hts⟩ (s_X7_copyFrom l D t σ I_6 J ri_11 rj rq H.size tg hSH hG.1 w_16 w_17 hL_w_16 hK_w_16 hL_w_17 hK_w_17) (cwV 1 hts (tw_V tw_1366 tw_1367 tw_1368 tw_37 tw_1369) rfl rfl rfl (by decide +kernel) ⟨Nat.le_of_ble_eq_true rfl, Nat.le_of_ble_eq_true rfl⟩) ⟨pq_blind, pq_recv hK hP hL_w_16 hK_w_16 (by decide) rfl, pq_pre hK hN hP hD⟩ rfl rfl hl.1 rfl (lv_room (Nat.le_of_ble_eq_true rfl)) dX10_copyFrom_59 ⟨Nat.le_of_ble_eq_true rfl, Nat.le_of_ble_eq_true rfl⟩) hD hS hA (fun σ1 μ1 H locs hw_19 hP hD hS => ?_)
    obtain ⟨I_20, ri_21, hu_22, hg_23⟩ := hw_19
    obtain ⟨hu_22a, hu_22b⟩ := Prod.mk.inj hu_22
    rw [hu_22a, hu_22b] at hP hD
    have hG := GX.tr hG hg_23 (by decide)
    refine lv_aload_n hx hb dX10_copyFrom_62 rfl (lv_at hl 0 rfl) ?_
    obtain ⟨w_25, hR_w_25, hL_w_25, hK_w_25⟩ := sh_o hSH 327 (ci := 10) (kd := 2) rfl hL_this hK_this
    refine pg_f (v := .ref w_25) (C := RX10) (T := TX10) (N := 13) hx hb hts (tw_i inlX10) hown hK hP hL_this hK_this (by decide) rfl 7 (by decide) (hts _ (tw_c tw_42)) (pq_hv rfl hR_w_25) dX10_copyFrom_63 ?_
    refine lv_aload_n hx hb dX10_copyFrom_66 rfl (lv_at hl 1 rfl) ?_
    obtain ⟨w_26, hR_w_26, hL_w_26, hK_w_26⟩ := sh_o hSH 327 (ci := 10) (kd := 2) rfl hL_a0 hK_a0
    refine pg_f (v := .ref w_26) (C := RX10) (T := TX10) (N := 13) hx hb hts (tw_i inlX10) hown hK hP hL_a0 hK_a0 (by decide) rfl 7 (by decide) (hts _ (tw_c tw_42)) (pq_hv rfl hR_w_26) dX10_copyFrom_67 ?_
    refine pk_v (va_runV (As := [.ref w_26]) (rest := []) ⟨hx, hb, hml, hown, hts⟩ (s_X2_copyFrom l D t σ I_20 J ri_21 rj rq H.size tg hSH hG.1 w_25 w_26 hL_w_25 hK_w_25 hL_w_26 hK_w_26) (cwV 1 hts (tw_V tw_1370 tw_1371 tw_1372 tw_41 tw_1373) rfl rfl rfl (by decide +kernel) ⟨Nat.le_of_ble_eq_true rfl, Nat.le_of_ble_eq_true rfl⟩) ⟨pq_blind, pq_recv hK hP hL_w_25 hK_w_25 (by decide) rfl, pq_pre hK hN hP hD⟩ rfl rfl hl.1 rfl (lv_room (Nat.le_of_ble_eq_true rfl)) dX10_copyFrom_70 ⟨Nat.le_of_ble_eq_true rfl, Nat.le_of_ble_eq_true rfl⟩) hD hS hA (fun σ1 μ1 H locs hw_28 hP hD hS => ?_)
    obtain ⟨I_29, J_30, ri_31, rj_32, hu_33, hg_34⟩ := hw_28
    obtain ⟨hu_33a, hu_33b⟩ := Prod.mk.inj hu_33
    rw [hu_33a, hu_33b] at hP hD
    have hG := GX.tr hG hg_34 (by decide)
    refine lv_aload_n hx hb dX10_copyFrom_73 rfl (lv_at hl 0 rfl) ?_
    obtain ⟨w_36, hR_w_36, hL_w_36, hK_w_36⟩ := sh_o hSH 328 (ci := 10) (kd := 0) rfl hL_this hK_this
    refine pg_f (v := .ref w_36) (C := RX10) (T := TX10) (N := 13) hx hb hts (tw_i inlX10) hown hK hP hL_this hK_this (by decide) rfl 8 (by decide) (hts _ (tw_c tw_46)) (pq_hv rfl hR_w_36) dX10_copyFrom_74 ?_
    refine lv_aload_n hx hb dX10_copyFrom_77 rfl (lv_at hl 1 rfl) ?_
    obtain ⟨w_37, hR_w_37, hL_w_37, hK_w_37⟩ := sh_o hSH 328 (ci := 10) (kd := 0) rfl hL_a0 hK_a0
    refine pg_f (v := .ref w_37) (C := RX10) (T := TX10) (N := 13) hx hb hts (tw_i inlX10) hown hK hP hL_a0 hK_a0 (by decide) rfl 8 (by decide) (hts _ (tw_c tw_46)) (pq_hv rfl hR_w_37) dX10_copyFrom_78 ?_
    refine pk_v (va_runV (As := [.ref w_37]) (rest := []) ⟨hx, hb, hml, hown, hts⟩ (s_X0_copyFrom l D t σ I_29 J_30 ri_31 rj_32 rq H.size tg hSH hG.1 w_36 w_37 hL_w_36 hK_w_36 hL_w_37 hK_w_37) (cwV 1 hts (tw_V tw_1380 tw_1381 tw_1382 tw_45 tw_1383) rfl rfl rfl (by decide +kernel) ⟨Nat.le_of_ble_eq_true rfl, Nat.le_of_ble_eq_true rfl⟩) ⟨pq_blind, pq_recv hK hP hL_w_36 hK_w_36 (by decide) rfl, pq_pre hK hN hP hD⟩ rfl rfl hl.1 rfl (lv_room (Nat.le_of_ble_eq_true rfl)) dX10_copyFrom_81 ⟨Nat.le_of_ble_eq_true rfl, Nat.le_of_ble_eq_true rfl⟩) hD hS hA (fun σ1 μ1 H locs hw_39 hP hD hS => ?_)
    obtain ⟨I_40, ri_41, hu_42, hg_43⟩ := hw_39
    obtain ⟨hu_42a, hu_42b⟩ := Prod.mk.inj hu_42
    rw [hu_42a, hu_42b] at hP hD
    have hG := GX.tr hG hg_43 (by decide)
    refine lv_aload_n hx hb dX10_copyFrom_84 rfl (lv_at hl 0 rfl) ?_
    obtain ⟨w_45, hR_w_45, hL_w_45, hK_w_45⟩ := sh_o hSH 329 (ci := 10) (kd := 3) rfl hL_this hK_this
    refine pg_f (v := .ref w_45) (C := RX10) (T := TX10) (N := 13) hx hb hts (tw_i inlX10) hown hK hP hL_this hK_this (by decide) rfl 9 (by decide) (hts _ (tw_c tw_50)) (pq_hv rfl hR_w_45) dX10_copyFrom_85 ?_
    refine lv_aload_n hx hb dX10_copyFrom_88 rfl (lv_at hl 1 rfl) ?_
    obtain ⟨w_46, hR_w_46, hL_w_46, hK_w_46⟩ := sh_o hSH 329 (ci := 10) (kd := 3) rfl hL_a0 hK_a0
    refine pg_f (v := .ref w_46) (C := RX10) (T := TX10) (N := 13) hx hb hts (tw_i inlX10) hown hK hP hL_a0 hK_a0 (by decide) rfl 9 (by decide) (hts _ (tw_c tw_50)) (pq_hv rfl hR_w_46) dX10_copyFrom_89 ?_
    refine pk_v (va_runV (As := [.ref w_46]) (rest := []) ⟨hx, hb, hml, hown, hts⟩ (s_X3_copyFrom l D t σ I_40 J_30 ri_41 rj_32 rq H.size tg hSH hG.1 w_45 w_46 hL_w_45 hK_w_45 hL_w_46 hK_w_46) (cwV 1 hts (tw_V tw_1384 tw_1385 tw_1386 tw_49 tw_1387) rfl rfl rfl (by decide +kernel) ⟨Nat.le_of_ble_eq_true rfl, Nat.le_of_ble_eq_true rfl⟩) ⟨pq_blind, pq_recv hK hP hL_w_45 hK_w_45 (by decide) rfl, pq_pre hK hN hP hD⟩ rfl rfl hl.1 rfl (lv_room (Nat.le_of_ble_eq_true rfl)) dX10_copyFrom_92 ⟨Nat.le_of_ble_eq_true rfl, Nat.le_of_ble_eq_true rfl⟩) hD hS hA (fun σ1 μ1 H locs hw_48 hP hD hS => ?_)
    obtain ⟨I_49, ri_50, rq_51, hu_52, hg_53⟩ := hw_48
    obtain ⟨hu_52a, hu_52b⟩ := Prod.mk.inj hu_52
    rw [hu_52a, hu_52b] at hP hD
    have hG := GX.tr hG hg_53 (by decide)
    refine lv_aload_n hx hb dX10_copyFrom_95 rfl (lv_at hl 0 rfl) ?_
    obtain ⟨w_55, hR_w_55, hL_w_55, hK_w_55⟩ := sh_o hSH 330 (ci := 10) (kd := 1) rfl hL_this hK_this
    refine pg_f (v := .ref w_55) (C := RX10) (T := TX10) (N := 13) hx hb hts (tw_i inlX10) hown hK hP hL_this hK_this (by decide) rfl 10 (by decide) (hts _ (tw_c tw_54)) (pq_hv rfl hR_w_55) dX10_copyFrom_96 ?_
    refine lv_aload_n hx hb dX10_copyFrom_99 rfl (lv_at hl 1 rfl) ?_
    obtain ⟨w_56, hR_w_56, hL_w_56, hK_w_56⟩ := sh_o hSH 330 (ci := 10) (kd := 1) rfl hL_a0 hK_a0
    refine pg_f (v := .ref w_56) (C := RX10) (T := TX10) (N := 13) hx hb hts (tw_i inlX10) hown hK hP hL_a0 hK_a0 (by decide) rfl 10 (by decide) (hts _ (tw_c tw_54)) (pq_hv rfl hR_w_56) dX10_copyFrom_100 ?_
    refine pk_v (va_runV (As := [.ref w_56]) (rest := []) ⟨hx, hb, hml, hown, hts⟩ (s_X1_copyFrom l D t σ I_49 J_30 ri_50 rj_32 rq_51 H.size tg hSH hG.1 w_55 w_56 hL_w_55 hK_w_55 hL_w_56 hK_w_56) (cwV 1 hts (tw_V tw_1389 tw_1390 tw_1391 tw_53 tw_1392) rfl rfl rfl (by decide +kernel) ⟨Nat.le_of_ble_eq_true rfl, Nat.le_of_ble_eq_true rfl⟩) ⟨pq_blind, pq_recv hK hP hL_w_55 hK_w_55 (by decide) rfl, pq_pre hK hN hP hD⟩ rfl rfl hl.1 rfl (lv_room (Nat.le_of_ble_eq_true rfl)) dX10_copyFrom_103 ⟨Nat.le_of_ble_eq_true rfl, Nat.le_of_ble_eq_true rfl⟩) hD hS hA (fun σ1 μ1 H locs hw_58 hP hD hS => ?_)
    obtain ⟨I_59, ri_60, rj_61, hu_62, hg_63⟩ := hw_58
    obtain ⟨hu_62a, hu_62b⟩ := Prod.mk.inj hu_62
    rw [hu_62a, hu_62b] at hP hD
    have hG := GX.tr hG hg_63 (by decide)
    subst hQ
    exact W.vret hx hb hr (fun t1 ht hW => ⟨⟨(σ, I_59, J_30, ri_60, rj_61, rq_51), rfl, ⟨I_59, J_30, ri_60, rj_61, rq_51, rfl, hG, ((congrFun (hg_63.2 320 (by decide) (by decide)) this).trans ((congrFun (hg_53.2 320 (by decide) (by decide)) this).trans ((congrFun (hg_43.2 320 (by decide) (by decide)) this).trans ((congrFun (hg_34.2 320 (by decide) (by decide)) this).trans ((congrFun (hg_23.2 320 (by decide) (by decide)) this).trans ((congrFun (show I_6 320 = I_5 320 from by rw [eI_6]; exact pq_uf _ _ _ (by decide)) this).trans ((congrFun (show I_5 320 = I_4 320 from by rw [eI_5]; exact pq_uf _ _ _ (by decide)) this).trans ((congrFun (show I_4 320 = I_3 320 from by rw [eI_4]; exact pq_uf _ _ _ (by decide)) this).trans ((congrFun (show I_3 320 = I_2 320 from by rw [eI_3]; exact pq_uf _ _ _ (by decide)) this).trans (by rw [eI_2]; exact pq_us _ _ _ _))))))))))⟩, by rw [ht]; exact hP, va_K.moved hW.alike hK, hD⟩, hS.F ht⟩) hS.2.2 dX10_copyFrom_106
  exact go _ _ _ hP hD hS hl
