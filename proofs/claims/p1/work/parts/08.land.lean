theorem dX2_growReef_0 : decode cX2_growReef 0 = .ok (.iconst 0, 1) := by decide +kernel
theorem dX2_growReef_1 : decode cX2_growReef 1 = .ok (.istore_n 2, 1) := by decide +kernel
theorem dX2_growReef_2 : decode cX2_growReef 2 = .ok (.iload_n 2, 1) := by decide +kernel
theorem dX2_growReef_3 : decode cX2_growReef 3 = .ok (.aload_n 0, 1) := by decide +kernel
theorem tw_222 : Cond.fieldLink RX2 73 "RingsUnder$Land" "cells" "I" ∈ wsL_law := List.mem_of_getElem? (i := 222) (by decide +kernel)
theorem dX2_growReef_4 : decode cX2_growReef 4 = .ok (.getfield 73, 3) := by decide +kernel
theorem dX2_growReef_7 : decode cX2_growReef 7 = .ok (.if_icmp .ge 33, 3) := by decide +kernel
theorem dX2_growReef_40 : decode cX2_growReef 40 = .ok (.return_, 1) := by decide +kernel
theorem dX2_walk_0 : decode cX2_walk 0 = .ok (.iconst 0, 1) := by decide +kernel
theorem dX2_walk_1 : decode cX2_walk 1 = .ok (.istore_n 2, 1) := by decide +kernel
theorem dX2_walk_2 : decode cX2_walk 2 = .ok (.iload_n 2, 1) := by decide +kernel
theorem dX2_walk_3 : decode cX2_walk 3 = .ok (.aload_n 0, 1) := by decide +kernel
theorem dX2_walk_4 : decode cX2_walk 4 = .ok (.getfield 73, 3) := by decide +kernel
theorem dX2_walk_7 : decode cX2_walk 7 = .ok (.if_icmp .ge 38, 3) := by decide +kernel
theorem dX2_walk_45 : decode cX2_walk 45 = .ok (.iconst 0, 1) := by decide +kernel
theorem dX2_walk_46 : decode cX2_walk 46 = .ok (.istore_n 2, 1) := by decide +kernel
theorem dX2_walk_47 : decode cX2_walk 47 = .ok (.iload_n 2, 1) := by decide +kernel
theorem dX2_walk_48 : decode cX2_walk 48 = .ok (.aload_n 0, 1) := by decide +kernel
theorem dX2_walk_49 : decode cX2_walk 49 = .ok (.getfield 73, 3) := by decide +kernel
theorem dX2_walk_52 : decode cX2_walk 52 = .ok (.if_icmp .ge 72, 3) := by decide +kernel
theorem dX2_walk_124 : decode cX2_walk 124 = .ok (.return_, 1) := by decide +kernel
theorem dX2_tide_0 : decode cX2_tide 0 = .ok (.aload_n 0, 1) := by decide +kernel
theorem dX2_tide_1 : decode cX2_tide 1 = .ok (.lconst 0, 1) := by decide +kernel
theorem tw_558 : Cond.fieldLink RX2 79 "RingsUnder$Land" "dry" "J" ∈ wsL_law := List.mem_of_getElem? (i := 558) (by decide +kernel)
theorem dX2_tide_2 : decode cX2_tide 2 = .ok (.putfield 79, 3) := by decide +kernel
theorem dX2_tide_5 : decode cX2_tide 5 = .ok (.lconst 0, 1) := by decide +kernel
theorem dX2_tide_6 : decode cX2_tide 6 = .ok (.lstore 4, 2) := by decide +kernel
theorem dX2_tide_8 : decode cX2_tide 8 = .ok (.iconst 0, 1) := by decide +kernel
theorem dX2_tide_9 : decode cX2_tide 9 = .ok (.istore 6, 2) := by decide +kernel
theorem dX2_tide_11 : decode cX2_tide 11 = .ok (.iload 6, 2) := by decide +kernel
theorem dX2_tide_13 : decode cX2_tide 13 = .ok (.aload_n 0, 1) := by decide +kernel
theorem dX2_tide_14 : decode cX2_tide 14 = .ok (.getfield 73, 3) := by decide +kernel
theorem dX2_tide_17 : decode cX2_tide 17 = .ok (.if_icmp .ge 73, 3) := by decide +kernel
theorem dX2_tide_90 : decode cX2_tide 90 = .ok (.iload_n 1, 1) := by decide +kernel
theorem dX2_tide_91 : decode cX2_tide 91 = .ok (.ifCond .lt 18, 3) := by decide +kernel
theorem dX2_tide_109 : decode cX2_tide 109 = .ok (.return_, 1) := by decide +kernel
theorem dX2_tide_94 : decode cX2_tide 94 = .ok (.iload_n 1, 1) := by decide +kernel
theorem dX2_tide_95 : decode cX2_tide 95 = .ok (.sipush 600, 3) := by decide +kernel
theorem dX2_tide_98 : decode cX2_tide 98 = .ok (.if_icmp .ge 11, 3) := by decide +kernel
theorem dX2_tide_101 : decode cX2_tide 101 = .ok (.aload_n 0, 1) := by decide +kernel
theorem tw_82 : Cond.fieldLink RX2 9 "RingsUnder$Land" "rocks" "[J" ∈ wsL_law := List.mem_of_getElem? (i := 82) (by decide +kernel)
theorem dX2_tide_102 : decode cX2_tide 102 = .ok (.getfield 9, 3) := by decide +kernel
theorem dX2_tide_105 : decode cX2_tide 105 = .ok (.iload_n 1, 1) := by decide +kernel
theorem dX2_tide_106 : decode cX2_tide 106 = .ok (.lload 4, 2) := by decide +kernel
theorem dX2_tide_108 : decode cX2_tide 108 = .ok (.lastore, 1) := by decide +kernel
theorem dX2_giveUpBeds_0 : decode cX2_giveUpBeds 0 = .ok (.iconst 0, 1) := by decide +kernel
theorem dX2_giveUpBeds_1 : decode cX2_giveUpBeds 1 = .ok (.istore_n 1, 1) := by decide +kernel
theorem dX2_giveUpBeds_2 : decode cX2_giveUpBeds 2 = .ok (.iload_n 1, 1) := by decide +kernel
theorem dX2_giveUpBeds_3 : decode cX2_giveUpBeds 3 = .ok (.aload_n 0, 1) := by decide +kernel
theorem dX2_giveUpBeds_4 : decode cX2_giveUpBeds 4 = .ok (.getfield 73, 3) := by decide +kernel
theorem dX2_giveUpBeds_7 : decode cX2_giveUpBeds 7 = .ok (.if_icmp .ge 24, 3) := by decide +kernel
theorem dX2_giveUpBeds_31 : decode cX2_giveUpBeds 31 = .ok (.return_, 1) := by decide +kernel
theorem dX2_countWalls_0 : decode cX2_countWalls 0 = .ok (.iconst 0, 1) := by decide +kernel
theorem dX2_countWalls_1 : decode cX2_countWalls 1 = .ok (.istore_n 1, 1) := by decide +kernel
theorem dX2_countWalls_2 : decode cX2_countWalls 2 = .ok (.iconst 0, 1) := by decide +kernel
theorem dX2_countWalls_3 : decode cX2_countWalls 3 = .ok (.istore_n 2, 1) := by decide +kernel
theorem dX2_countWalls_4 : decode cX2_countWalls 4 = .ok (.iload_n 2, 1) := by decide +kernel
theorem dX2_countWalls_5 : decode cX2_countWalls 5 = .ok (.aload_n 0, 1) := by decide +kernel
theorem dX2_countWalls_6 : decode cX2_countWalls 6 = .ok (.getfield 73, 3) := by decide +kernel
theorem dX2_countWalls_9 : decode cX2_countWalls 9 = .ok (.if_icmp .ge 21, 3) := by decide +kernel
theorem dX2_countWalls_30 : decode cX2_countWalls 30 = .ok (.iload_n 1, 1) := by decide +kernel
theorem dX2_countWalls_31 : decode cX2_countWalls 31 = .ok (.ireturn, 1) := by decide +kernel
theorem dX7_isNumber_0 : decode cX7_isNumber 0 = .ok (.iload_n 0, 1) := by decide +kernel
theorem dX7_isNumber_1 : decode cX7_isNumber 1 = .ok (.sipush (-5000), 3) := by decide +kernel
theorem dX7_isNumber_4 : decode cX7_isNumber 4 = .ok (.if_icmp .le 7, 3) := by decide +kernel
theorem dX7_isNumber_11 : decode cX7_isNumber 11 = .ok (.iconst 0, 1) := by decide +kernel
theorem dX7_isNumber_12 : decode cX7_isNumber 12 = .ok (.ireturn, 1) := by decide +kernel
theorem dX7_isNumber_7 : decode cX7_isNumber 7 = .ok (.iconst 1, 1) := by decide +kernel
theorem dX7_isNumber_8 : decode cX7_isNumber 8 = .ok (.goto 4, 3) := by decide +kernel
theorem dX7_known_0 : decode cX7_known 0 = .ok (.sipush (-6000), 3) := by decide +kernel
theorem dX7_known_3 : decode cX7_known 3 = .ok (.istore 4, 2) := by decide +kernel
theorem dX7_known_5 : decode cX7_known 5 = .ok (.sipush (-6000), 3) := by decide +kernel
theorem dX7_known_8 : decode cX7_known 8 = .ok (.istore 5, 2) := by decide +kernel
theorem dX7_known_10 : decode cX7_known 10 = .ok (.sipush (-6000), 3) := by decide +kernel
theorem dX7_known_13 : decode cX7_known 13 = .ok (.istore 6, 2) := by decide +kernel
theorem dX7_known_15 : decode cX7_known 15 = .ok (.sipush (-6000), 3) := by decide +kernel
theorem dX7_known_18 : decode cX7_known 18 = .ok (.istore 7, 2) := by decide +kernel
theorem dX7_known_20 : decode cX7_known 20 = .ok (.iconst 0, 1) := by decide +kernel
theorem dX7_known_21 : decode cX7_known 21 = .ok (.istore 8, 2) := by decide +kernel
theorem dX7_known_23 : decode cX7_known 23 = .ok (.iload 8, 2) := by decide +kernel
theorem dX7_known_25 : decode cX7_known 25 = .ok (.aload_n 0, 1) := by decide +kernel
theorem tw_254 : Cond.fieldLink RX7 59 "RingsUnder$Seas" "levels" "I" ∈ wsL_law := List.mem_of_getElem? (i := 254) (by decide +kernel)
theorem dX7_known_26 : decode cX7_known 26 = .ok (.getfield 59, 3) := by decide +kernel
theorem dX7_known_29 : decode cX7_known 29 = .ok (.if_icmp .ge 115, 3) := by decide +kernel
theorem dX7_known_144 : decode cX7_known 144 = .ok (.iload 4, 2) := by decide +kernel
theorem tw_278 : Cond.methodLink RX7 72 yX7_isNumber ∈ wsL_law := List.mem_of_getElem? (i := 278) (by decide +kernel)
theorem tw_279 : Cond.static yX7_isNumber ∈ wsL_law := List.mem_of_getElem? (i := 279) (by decide +kernel)
theorem tw_37 : Cond.initialized RX7 ∈ wsL_law := List.mem_of_getElem? (i := 37) (by decide +kernel)
theorem tw_280 : Cond.code yX7_isNumber cX7_isNumber 1 (some .boolean) ∈ wsL_law := List.mem_of_getElem? (i := 280) (by decide +kernel)
theorem dX7_known_146 : decode cX7_known 146 = .ok (.invokestatic 72, 3) := by decide +kernel
theorem dX7_known_149 : decode cX7_known 149 = .ok (.ifCond .eq 6, 3) := by decide +kernel
theorem dX7_known_155 : decode cX7_known 155 = .ok (.iload 4, 2) := by decide +kernel
theorem dX7_known_157 : decode cX7_known 157 = .ok (.sipush (-5000), 3) := by decide +kernel
theorem dX7_known_160 : decode cX7_known 160 = .ok (.if_icmp .ne 27, 3) := by decide +kernel
theorem dX7_known_187 : decode cX7_known 187 = .ok (.iload 7, 2) := by decide +kernel
theorem dX7_known_189 : decode cX7_known 189 = .ok (.invokestatic 72, 3) := by decide +kernel
theorem dX7_known_192 : decode cX7_known 192 = .ok (.ifCond .eq 8, 3) := by decide +kernel
theorem dX7_known_200 : decode cX7_known 200 = .ok (.iconst 0, 1) := by decide +kernel
theorem dX7_known_201 : decode cX7_known 201 = .ok (.ireturn, 1) := by decide +kernel
theorem dX10_nature_0 : decode cX10_nature 0 = .ok (.aload_n 0, 1) := by decide +kernel
theorem tw_457 : Cond.fieldLink RX10 67 "RingsUnder$World" "clock" "I" ∈ wsL_law := List.mem_of_getElem? (i := 457) (by decide +kernel)
theorem dX10_nature_1 : decode cX10_nature 1 = .ok (.getfield 67, 3) := by decide +kernel
theorem dX10_nature_4 : decode cX10_nature 4 = .ok (.sipush 600, 3) := by decide +kernel
theorem dX10_nature_7 : decode cX10_nature 7 = .ok (.if_icmp .lt 4, 3) := by decide +kernel
theorem dX10_nature_11 : decode cX10_nature 11 = .ok (.aload_n 0, 1) := by decide +kernel
theorem dX10_nature_12 : decode cX10_nature 12 = .ok (.getfield 67, 3) := by decide +kernel
theorem dX10_nature_15 : decode cX10_nature 15 = .ok (.bipush 12, 2) := by decide +kernel
theorem dX10_nature_17 : decode cX10_nature 17 = .ok (.irem, 1) := by decide +kernel
theorem dX10_nature_18 : decode cX10_nature 18 = .ok (.istore_n 2, 1) := by decide +kernel
theorem dX10_nature_19 : decode cX10_nature 19 = .ok (.aload_n 0, 1) := by decide +kernel
theorem tw_38 : Cond.fieldLink RX10 25 "RingsUnder$World" "seas" "LRingsUnder$Seas;" ∈ wsL_law := List.mem_of_getElem? (i := 38) (by decide +kernel)
theorem dX10_nature_20 : decode cX10_nature 20 = .ok (.getfield 25, 3) := by decide +kernel
theorem dX10_nature_23 : decode cX10_nature 23 = .ok (.iload_n 1, 1) := by decide +kernel
theorem dX10_nature_24 : decode cX10_nature 24 = .ok (.aload_n 0, 1) := by decide +kernel
theorem dX10_nature_25 : decode cX10_nature 25 = .ok (.getfield 67, 3) := by decide +kernel
theorem dX10_nature_28 : decode cX10_nature 28 = .ok (.aload_n 0, 1) := by decide +kernel
theorem dX10_nature_29 : decode cX10_nature 29 = .ok (.getfield 67, 3) := by decide +kernel
theorem tw_1058 : Cond.methodLink RX10 153 yX7_known ∈ wsL_law := List.mem_of_getElem? (i := 1058) (by decide +kernel)
theorem tw_271 : Cond.instanceMethod yX7_known ∈ wsL_law := List.mem_of_getElem? (i := 271) (by decide +kernel)
theorem tw_272 : Cond.selects RX7 yX7_known yX7_known ∈ wsL_law := List.mem_of_getElem? (i := 272) (by decide +kernel)
theorem tw_273 : Cond.code yX7_known cX7_known 9 (some .int) ∈ wsL_law := List.mem_of_getElem? (i := 273) (by decide +kernel)
theorem dX10_nature_32 : decode cX10_nature 32 = .ok (.invokevirtual 153, 3) := by decide +kernel
theorem dX10_nature_35 : decode cX10_nature 35 = .ok (.istore_n 3, 1) := by decide +kernel
theorem dX10_nature_36 : decode cX10_nature 36 = .ok (.aload_n 0, 1) := by decide +kernel
theorem tw_42 : Cond.fieldLink RX10 32 "RingsUnder$World" "land" "LRingsUnder$Land;" ∈ wsL_law := List.mem_of_getElem? (i := 42) (by decide +kernel)
theorem dX10_nature_37 : decode cX10_nature 37 = .ok (.getfield 32, 3) := by decide +kernel
theorem dX10_nature_40 : decode cX10_nature 40 = .ok (.aload_n 0, 1) := by decide +kernel
theorem dX10_nature_41 : decode cX10_nature 41 = .ok (.getfield 25, 3) := by decide +kernel
theorem tw_1051 : Cond.fieldLink RX10 157 "RingsUnder$Seas" "warm" "[I" ∈ wsL_law := List.mem_of_getElem? (i := 1051) (by decide +kernel)
theorem dX10_nature_44 : decode cX10_nature 44 = .ok (.getfield 157, 3) := by decide +kernel
theorem dX10_nature_47 : decode cX10_nature 47 = .ok (.iload_n 2, 1) := by decide +kernel
theorem dX10_nature_48 : decode cX10_nature 48 = .ok (.iaload, 1) := by decide +kernel
theorem dX10_nature_49 : decode cX10_nature 49 = .ok (.aload_n 0, 1) := by decide +kernel
theorem dX10_nature_50 : decode cX10_nature 50 = .ok (.getfield 25, 3) := by decide +kernel
theorem tw_1052 : Cond.fieldLink RX10 160 "RingsUnder$Seas" "bear" "I" ∈ wsL_law := List.mem_of_getElem? (i := 1052) (by decide +kernel)
theorem dX10_nature_53 : decode cX10_nature 53 = .ok (.getfield 160, 3) := by decide +kernel
theorem dX10_nature_56 : decode cX10_nature 56 = .ok (.if_icmp .gt 13, 3) := by decide +kernel
theorem dX10_nature_69 : decode cX10_nature 69 = .ok (.aload_n 0, 1) := by decide +kernel
theorem dX10_nature_70 : decode cX10_nature 70 = .ok (.getfield 25, 3) := by decide +kernel
theorem tw_1054 : Cond.fieldLink RX10 166 "RingsUnder$Seas" "die" "I" ∈ wsL_law := List.mem_of_getElem? (i := 1054) (by decide +kernel)
theorem dX10_nature_73 : decode cX10_nature 73 = .ok (.getfield 166, 3) := by decide +kernel
theorem dX10_nature_76 : decode cX10_nature 76 = .ok (.ineg, 1) := by decide +kernel
theorem tw_1059 : Cond.methodLink RX10 169 yX2_growReef ∈ wsL_law := List.mem_of_getElem? (i := 1059) (by decide +kernel)
theorem tw_1060 : Cond.instanceMethod yX2_growReef ∈ wsL_law := List.mem_of_getElem? (i := 1060) (by decide +kernel)
theorem tw_1061 : Cond.selects RX2 yX2_growReef yX2_growReef ∈ wsL_law := List.mem_of_getElem? (i := 1061) (by decide +kernel)
theorem tw_41 : Cond.initialized RX2 ∈ wsL_law := List.mem_of_getElem? (i := 41) (by decide +kernel)
theorem tw_1062 : Cond.code yX2_growReef cX2_growReef 3 none ∈ wsL_law := List.mem_of_getElem? (i := 1062) (by decide +kernel)
theorem dX10_nature_77 : decode cX10_nature 77 = .ok (.invokevirtual 169, 3) := by decide +kernel
theorem dX10_nature_80 : decode cX10_nature 80 = .ok (.aload_n 0, 1) := by decide +kernel
theorem dX10_nature_81 : decode cX10_nature 81 = .ok (.getfield 32, 3) := by decide +kernel
theorem dX10_nature_84 : decode cX10_nature 84 = .ok (.aload_n 0, 1) := by decide +kernel
theorem dX10_nature_85 : decode cX10_nature 85 = .ok (.getfield 25, 3) := by decide +kernel
theorem tw_1055 : Cond.fieldLink RX10 172 "RingsUnder$Seas" "drift" "[I" ∈ wsL_law := List.mem_of_getElem? (i := 1055) (by decide +kernel)
theorem dX10_nature_88 : decode cX10_nature 88 = .ok (.getfield 172, 3) := by decide +kernel
theorem dX10_nature_91 : decode cX10_nature 91 = .ok (.iload_n 2, 1) := by decide +kernel
theorem dX10_nature_92 : decode cX10_nature 92 = .ok (.iaload, 1) := by decide +kernel
theorem tw_1065 : Cond.methodLink RX10 175 yX2_walk ∈ wsL_law := List.mem_of_getElem? (i := 1065) (by decide +kernel)
theorem tw_1066 : Cond.instanceMethod yX2_walk ∈ wsL_law := List.mem_of_getElem? (i := 1066) (by decide +kernel)
theorem tw_1067 : Cond.selects RX2 yX2_walk yX2_walk ∈ wsL_law := List.mem_of_getElem? (i := 1067) (by decide +kernel)
theorem tw_1068 : Cond.code yX2_walk cX2_walk 3 none ∈ wsL_law := List.mem_of_getElem? (i := 1068) (by decide +kernel)
theorem dX10_nature_93 : decode cX10_nature 93 = .ok (.invokevirtual 175, 3) := by decide +kernel
theorem dX10_nature_96 : decode cX10_nature 96 = .ok (.aload_n 0, 1) := by decide +kernel
theorem dX10_nature_97 : decode cX10_nature 97 = .ok (.getfield 32, 3) := by decide +kernel
theorem dX10_nature_100 : decode cX10_nature 100 = .ok (.aload_n 0, 1) := by decide +kernel
theorem dX10_nature_101 : decode cX10_nature 101 = .ok (.getfield 67, 3) := by decide +kernel
theorem dX10_nature_104 : decode cX10_nature 104 = .ok (.iload_n 3, 1) := by decide +kernel
theorem dX10_nature_105 : decode cX10_nature 105 = .ok (.aload_n 0, 1) := by decide +kernel
theorem dX10_nature_106 : decode cX10_nature 106 = .ok (.getfield 25, 3) := by decide +kernel
theorem tw_1056 : Cond.fieldLink RX10 178 "RingsUnder$Seas" "high" "[I" ∈ wsL_law := List.mem_of_getElem? (i := 1056) (by decide +kernel)
theorem dX10_nature_109 : decode cX10_nature 109 = .ok (.getfield 178, 3) := by decide +kernel
theorem dX10_nature_112 : decode cX10_nature 112 = .ok (.iload_n 2, 1) := by decide +kernel
theorem dX10_nature_113 : decode cX10_nature 113 = .ok (.iaload, 1) := by decide +kernel
theorem dX10_nature_114 : decode cX10_nature 114 = .ok (.iadd, 1) := by decide +kernel
theorem dX10_nature_115 : decode cX10_nature 115 = .ok (.iload_n 3, 1) := by decide +kernel
theorem dX10_nature_116 : decode cX10_nature 116 = .ok (.aload_n 0, 1) := by decide +kernel
theorem dX10_nature_117 : decode cX10_nature 117 = .ok (.getfield 25, 3) := by decide +kernel
theorem tw_1057 : Cond.fieldLink RX10 181 "RingsUnder$Seas" "low" "[I" ∈ wsL_law := List.mem_of_getElem? (i := 1057) (by decide +kernel)
theorem dX10_nature_120 : decode cX10_nature 120 = .ok (.getfield 181, 3) := by decide +kernel
theorem dX10_nature_123 : decode cX10_nature 123 = .ok (.iload_n 2, 1) := by decide +kernel
theorem dX10_nature_124 : decode cX10_nature 124 = .ok (.iaload, 1) := by decide +kernel
theorem dX10_nature_125 : decode cX10_nature 125 = .ok (.iadd, 1) := by decide +kernel
theorem tw_1070 : Cond.methodLink RX10 184 yX2_tide ∈ wsL_law := List.mem_of_getElem? (i := 1070) (by decide +kernel)
theorem tw_1071 : Cond.instanceMethod yX2_tide ∈ wsL_law := List.mem_of_getElem? (i := 1071) (by decide +kernel)
theorem tw_1072 : Cond.selects RX2 yX2_tide yX2_tide ∈ wsL_law := List.mem_of_getElem? (i := 1072) (by decide +kernel)
theorem tw_1073 : Cond.code yX2_tide cX2_tide 8 none ∈ wsL_law := List.mem_of_getElem? (i := 1073) (by decide +kernel)
theorem dX10_nature_126 : decode cX10_nature 126 = .ok (.invokevirtual 184, 3) := by decide +kernel
theorem dX10_nature_129 : decode cX10_nature 129 = .ok (.aload_n 0, 1) := by decide +kernel
theorem dX10_nature_130 : decode cX10_nature 130 = .ok (.getfield 32, 3) := by decide +kernel
theorem tw_1078 : Cond.methodLink RX10 188 yX2_giveUpBeds ∈ wsL_law := List.mem_of_getElem? (i := 1078) (by decide +kernel)
theorem tw_1079 : Cond.instanceMethod yX2_giveUpBeds ∈ wsL_law := List.mem_of_getElem? (i := 1079) (by decide +kernel)
theorem tw_1080 : Cond.selects RX2 yX2_giveUpBeds yX2_giveUpBeds ∈ wsL_law := List.mem_of_getElem? (i := 1080) (by decide +kernel)
theorem tw_1081 : Cond.code yX2_giveUpBeds cX2_giveUpBeds 2 none ∈ wsL_law := List.mem_of_getElem? (i := 1081) (by decide +kernel)
theorem dX10_nature_133 : decode cX10_nature 133 = .ok (.invokevirtual 188, 3) := by decide +kernel
theorem dX10_nature_136 : decode cX10_nature 136 = .ok (.return_, 1) := by decide +kernel
theorem dX10_nature_59 : decode cX10_nature 59 = .ok (.aload_n 0, 1) := by decide +kernel
theorem dX10_nature_60 : decode cX10_nature 60 = .ok (.getfield 25, 3) := by decide +kernel
theorem tw_1053 : Cond.fieldLink RX10 163 "RingsUnder$Seas" "grow" "I" ∈ wsL_law := List.mem_of_getElem? (i := 1053) (by decide +kernel)
theorem dX10_nature_63 : decode cX10_nature 63 = .ok (.getfield 163, 3) := by decide +kernel
theorem dX10_nature_66 : decode cX10_nature 66 = .ok (.goto 11, 3) := by decide +kernel
theorem dX2_countBeds_0 : decode cX2_countBeds 0 = .ok (.iload_n 2, 1) := by decide +kernel
theorem dX2_countBeds_1 : decode cX2_countBeds 1 = .ok (.ifCond .lt 11, 3) := by decide +kernel
theorem dX2_countBeds_4 : decode cX2_countBeds 4 = .ok (.iload_n 2, 1) := by decide +kernel
theorem dX2_countBeds_5 : decode cX2_countBeds 5 = .ok (.iconst 5, 1) := by decide +kernel
theorem dX2_countBeds_6 : decode cX2_countBeds 6 = .ok (.iadd, 1) := by decide +kernel
theorem dX2_countBeds_7 : decode cX2_countBeds 7 = .ok (.aload_n 1, 1) := by decide +kernel
theorem dX2_countBeds_8 : decode cX2_countBeds 8 = .ok (.arraylength, 1) := by decide +kernel
theorem dX2_countBeds_9 : decode cX2_countBeds 9 = .ok (.if_icmp .le 4, 3) := by decide +kernel
theorem dX2_countBeds_13 : decode cX2_countBeds 13 = .ok (.iconst 0, 1) := by decide +kernel
theorem dX2_countBeds_14 : decode cX2_countBeds 14 = .ok (.istore_n 3, 1) := by decide +kernel
theorem dX2_countBeds_15 : decode cX2_countBeds 15 = .ok (.iload_n 3, 1) := by decide +kernel
theorem dX2_countBeds_16 : decode cX2_countBeds 16 = .ok (.iconst 5, 1) := by decide +kernel
theorem dX2_countBeds_17 : decode cX2_countBeds 17 = .ok (.if_icmp .ge 15, 3) := by decide +kernel
theorem dX2_countBeds_20 : decode cX2_countBeds 20 = .ok (.aload_n 1, 1) := by decide +kernel
theorem dX2_countBeds_21 : decode cX2_countBeds 21 = .ok (.iload_n 2, 1) := by decide +kernel
theorem dX2_countBeds_22 : decode cX2_countBeds 22 = .ok (.iload_n 3, 1) := by decide +kernel
theorem dX2_countBeds_23 : decode cX2_countBeds 23 = .ok (.iadd, 1) := by decide +kernel
theorem dX2_countBeds_24 : decode cX2_countBeds 24 = .ok (.iconst 0, 1) := by decide +kernel
theorem dX2_countBeds_25 : decode cX2_countBeds 25 = .ok (.iastore, 1) := by decide +kernel
theorem dX2_countBeds_26 : decode cX2_countBeds 26 = .ok (.iinc 3 1, 3) := by decide +kernel
theorem dX2_countBeds_29 : decode cX2_countBeds 29 = .ok (.goto (-14), 3) := by decide +kernel
theorem dX2_countBeds_32 : decode cX2_countBeds 32 = .ok (.iconst 0, 1) := by decide +kernel
theorem dX2_countBeds_33 : decode cX2_countBeds 33 = .ok (.istore_n 3, 1) := by decide +kernel
theorem dX2_countBeds_34 : decode cX2_countBeds 34 = .ok (.iload_n 3, 1) := by decide +kernel
theorem dX2_countBeds_35 : decode cX2_countBeds 35 = .ok (.aload_n 0, 1) := by decide +kernel
theorem dX2_countBeds_36 : decode cX2_countBeds 36 = .ok (.getfield 73, 3) := by decide +kernel
theorem dX2_countBeds_39 : decode cX2_countBeds 39 = .ok (.if_icmp .ge 28, 3) := by decide +kernel
theorem dX2_countBeds_67 : decode cX2_countBeds 67 = .ok (.return_, 1) := by decide +kernel
set_option maxHeartbeats 4000000 in
set_option maxRecDepth 100000 in
theorem c_X2_growReef (l : Launch) (D : va_G) (t : pq_T) (σ : pq_S) (I : Nat → Nat → Int32) (J : Nat → Nat → Int64) (ri : Nat → Nat → Int32) (rj : Nat → Nat → Int64) (rq : Nat → Nat → Option Nat) (sz : Nat) (this : Nat) (more : Int32) (hL_this : this ∈ σ.1) (hK_this : σ.2.1 this = 2) (hZ : pq_Z I) : MetV l yX2_growReef (wa yX2_growReef cX2_growReef 3 none) ({ frames := 0, cells := 0, slots := 0, locals := 0 }) [.ref this, .int more] D t σ (I, J, ri, rj, rq) sz 0 0 (fun (u : pq_S × pq_M) => u = (σ, I, J, ri, rj, rq)) := by
  refine Met.ofW (cc := cX2_growReef) (maxL := 3) (ret := none) (by decide) rfl ?_
  intro p e s m args below meth c s₁ B hml hv
  obtain ⟨rfl, hsz, hP, hK, hD0, hN⟩ := hv
  have hx := B.exec
  have hb := B.bytes
  have hr := B.returns
  have hts := atoms_spec (ws := (wa yX2_growReef cX2_growReef 3 none)) B.pre
  have hown : s.vm.findClass RX2 = some m.cls := findClass_of_methodNamed B.named
  have hlocks := B.notSynchronized
  subst hsz
  have hD : va_D (pq_B t σ (I, J, ri, rj, rq) s.heap.size) (pq_P t σ (I, J, ri, rj, rq)) := hD0.self
  generalize hAe : pq_B t σ (I, J, ri, rj, rq) s.heap.size = A at hD ⊢
  have hA : ∀ q : Nat, s.heap.size ≤ q → A q := fun q h => by rw [← hAe]; exact Or.inr h
  have hS : va_S A s.heap s.heap [] := va_S.rf
  have hl := lv_entry ([.ref this, .int more]) (n := 3) (Nat.le_of_ble_eq_true rfl)
  rw [lg_entry_eq]
  generalize (lg_sl ([.ref this, .int more]) ++ List.replicate (3 - (lg_sl ([.ref this, .int more])).length) Slot.unset).toArray = ls at hl ⊢
  have hl : lv_has ls 3 [(0, .ref this), (1, .int more)] := hl
  refine lv_iconst (v := 0) hx hb dX2_growReef_0 (by decide) ?_
  refine lv_istore_n (lv' := [(2, .int 0), (0, .ref this), (1, .int more)]) hx hb dX2_growReef_1 rfl hl (by decide) rfl (fun ls hl => ?_)
  refine lv_iload_n hx hb dX2_growReef_2 rfl (lv_at hl 0 rfl) ?_
  refine lv_aload_n hx hb dX2_growReef_3 rfl (lv_at hl 1 rfl) ?_
  refine pg_f (v := .int (I 65 this)) (C := RX2) (T := TX2) (N := 20) hx hb hts (tw_i inlX2) hown hK hP hL_this hK_this (by decide) rfl 1 (by decide) (hts _ (tw_c tw_222)) rfl dX2_growReef_4 ?_
  refine lv_tov 0 (congrFun (hZ 65 (by decide)) this) ?_
  refine lv_icmp_ge (tgt := 40) hx hb dX2_growReef_7 (by decide) (fun c_1 => ?_) (fun c_1 => absurd c_1 (by decide))
  exact W.vret hx hb hr (fun t1 ht hW => ⟨⟨(σ, I, J, ri, rj, rq), rfl, rfl, by rw [ht]; exact hP, va_K.moved hW.alike hK, hD⟩, hS.F ht⟩) hS.2.2 dX2_growReef_40

set_option maxHeartbeats 4000000 in
set_option maxRecDepth 100000 in
theorem c_X2_walk (l : Launch) (D : va_G) (t : pq_T) (σ : pq_S) (I : Nat → Nat → Int32) (J : Nat → Nat → Int64) (ri : Nat → Nat → Int32) (rj : Nat → Nat → Int64) (rq : Nat → Nat → Option Nat) (sz : Nat) (this : Nat) (dr : Int32) (hL_this : this ∈ σ.1) (hK_this : σ.2.1 this = 2) (hZ : pq_Z I) : MetV l yX2_walk (wa yX2_walk cX2_walk 3 none) ({ frames := 0, cells := 0, slots := 0, locals := 0 }) [.ref this, .int dr] D t σ (I, J, ri, rj, rq) sz 0 0 (fun (u : pq_S × pq_M) => u = (σ, I, J, ri, rj, rq)) := by
  refine Met.ofW (cc := cX2_walk) (maxL := 3) (ret := none) (by decide) rfl ?_
  intro p e s m args below meth c s₁ B hml hv
  obtain ⟨rfl, hsz, hP, hK, hD0, hN⟩ := hv
  have hx := B.exec
  have hb := B.bytes
  have hr := B.returns
  have hts := atoms_spec (ws := (wa yX2_walk cX2_walk 3 none)) B.pre
  have hown : s.vm.findClass RX2 = some m.cls := findClass_of_methodNamed B.named
  have hlocks := B.notSynchronized
  subst hsz
  have hD : va_D (pq_B t σ (I, J, ri, rj, rq) s.heap.size) (pq_P t σ (I, J, ri, rj, rq)) := hD0.self
  generalize hAe : pq_B t σ (I, J, ri, rj, rq) s.heap.size = A at hD ⊢
  have hA : ∀ q : Nat, s.heap.size ≤ q → A q := fun q h => by rw [← hAe]; exact Or.inr h
  have hS : va_S A s.heap s.heap [] := va_S.rf
  have hl := lv_entry ([.ref this, .int dr]) (n := 3) (Nat.le_of_ble_eq_true rfl)
  rw [lg_entry_eq]
  generalize (lg_sl ([.ref this, .int dr]) ++ List.replicate (3 - (lg_sl ([.ref this, .int dr])).length) Slot.unset).toArray = ls at hl ⊢
  have hl : lv_has ls 3 [(0, .ref this), (1, .int dr)] := hl
  refine lv_iconst (v := 0) hx hb dX2_walk_0 (by decide) ?_
  refine lv_istore_n (lv' := [(2, .int 0), (0, .ref this), (1, .int dr)]) hx hb dX2_walk_1 rfl hl (by decide) rfl (fun ls hl => ?_)
  refine lv_iload_n hx hb dX2_walk_2 rfl (lv_at hl 0 rfl) ?_
  refine lv_aload_n hx hb dX2_walk_3 rfl (lv_at hl 1 rfl) ?_
  refine pg_f (v := .int (I 65 this)) (C := RX2) (T := TX2) (N := 20) hx hb hts (tw_i inlX2) hown hK hP hL_this hK_this (by decide) rfl 1 (by decide) (hts _ (tw_c tw_222)) rfl dX2_walk_4 ?_
  refine lv_tov 0 (congrFun (hZ 65 (by decide)) this) ?_
  refine lv_icmp_ge (tgt := 45) hx hb dX2_walk_7 (by decide) (fun c_1 => ?_) (fun c_1 => absurd c_1 (by decide))
  refine lv_iconst (v := 0) hx hb dX2_walk_45 (by decide) ?_
  refine lv_istore_n (lv' := [(2, .int 0), (0, .ref this), (1, .int dr)]) hx hb dX2_walk_46 rfl hl (by decide) rfl (fun ls hl => ?_)
  refine lv_iload_n hx hb dX2_walk_47 rfl (lv_at hl 0 rfl) ?_
  refine lv_aload_n hx hb dX2_walk_48 rfl (lv_at hl 1 rfl) ?_
  refine pg_f (v := .int (I 65 this)) (C := RX2) (T := TX2) (N := 20) hx hb hts (tw_i inlX2) hown hK hP hL_this hK_this (by decide) rfl 1 (by decide) (hts _ (tw_c tw_222)) rfl dX2_walk_49 ?_
  refine lv_tov 0 (congrFun (hZ 65 (by decide)) this) ?_
  refine lv_icmp_ge (tgt := 124) hx hb dX2_walk_52 (by decide) (fun c_2 => ?_) (fun c_2 => absurd c_2 (by decide))
  exact W.vret hx hb hr (fun t1 ht hW => ⟨⟨(σ, I, J, ri, rj, rq), rfl, rfl, by rw [ht]; exact hP, va_K.moved hW.alike hK, hD⟩, hS.F ht⟩) hS.2.2 dX2_walk_124

set_option maxHeartbeats 4000000 in
set_option maxRecDepth 100000 in
theorem c_X2_tide (l : Launch) (D : va_G) (t : pq_T) (σ : pq_S) (I : Nat → Nat → Int32) (J : Nat → Nat → Int64) (ri : Nat → Nat → Int32) (rj : Nat → Nat → Int64) (rq : Nat → Nat → Option Nat) (sz : Nat) (this : Nat) (mo : Int32) (hi : Int32) (lo : Int32) (hL_this : this ∈ σ.1) (hK_this : σ.2.1 this = 2) (this_rocks : Nat) (hR_this_rocks : σ.2.2.1 68 this = some this_rocks) (hL_this_rocks : this_rocks ∈ σ.1) (hK_this_rocks : σ.2.1 this_rocks = 14) (hN_this_rocks : σ.2.2.2 this_rocks = 600) (hZ : pq_Z I) : MetV l yX2_tide (wa yX2_tide cX2_tide 8 none) ({ frames := 0, cells := 0, slots := 0, locals := 0 }) [.ref this, .int mo, .int hi, .int lo] D t σ (I, J, ri, rj, rq) sz 0 0 (fun (u : pq_S × pq_M) => ∃ J' : Nat → Nat → Int64, ∃ rj' : Nat → Nat → Int64, u = (σ, I, J', ri, rj', rq)) := by
  refine Met.ofW (cc := cX2_tide) (maxL := 8) (ret := none) (by decide) rfl ?_
  intro p e s m args below meth c s₁ B hml hv
  obtain ⟨rfl, hsz, hP, hK, hD0, hN⟩ := hv
  have hx := B.exec
  have hb := B.bytes
  have hr := B.returns
  have hts := atoms_spec (ws := (wa yX2_tide cX2_tide 8 none)) B.pre
  have hown : s.vm.findClass RX2 = some m.cls := findClass_of_methodNamed B.named
  have hlocks := B.notSynchronized
  subst hsz
  have hD : va_D (pq_B t σ (I, J, ri, rj, rq) s.heap.size) (pq_P t σ (I, J, ri, rj, rq)) := hD0.self
  generalize hAe : pq_B t σ (I, J, ri, rj, rq) s.heap.size = A at hD ⊢
  have hA : ∀ q : Nat, s.heap.size ≤ q → A q := fun q h => by rw [← hAe]; exact Or.inr h
  have hS : va_S A s.heap s.heap [] := va_S.rf
  have hl := lv_entry ([.ref this, .int mo, .int hi, .int lo]) (n := 8) (Nat.le_of_ble_eq_true rfl)
  rw [lg_entry_eq]
  generalize (lg_sl ([.ref this, .int mo, .int hi, .int lo]) ++ List.replicate (8 - (lg_sl ([.ref this, .int mo, .int hi, .int lo])).length) Slot.unset).toArray = ls at hl ⊢
  have hl : lv_has ls 8 [(0, .ref this), (1, .int mo), (2, .int hi), (3, .int lo)] := hl
  refine lv_aload_n hx hb dX2_tide_0 rfl (lv_at hl 0 rfl) ?_
  refine lv_lconst (v := 0) hx hb dX2_tide_1 (by decide) ?_
  refine pp_l (v := 0) (C := RX2) (T := TX2) (N := 20) hx hb hts (tw_i inlX2) tyX2 tyX2_ok nmX2 hown hK hP hD hS hL_this hK_this (by decide) rfl 3 67 (by decide) (hts _ (tw_c tw_558)) rfl (by decide +kernel) (Nat.le_of_ble_eq_true rfl) (ps_67 _ _ _ _ _) dX2_tide_2 (fun J_1 H locs eJ_1 hP hD hS => ?_)
  refine lv_lconst (v := 0) hx hb dX2_tide_5 (by decide) ?_
  refine lv_lstore (lv' := [(4, .long 0), (0, .ref this), (1, .int mo), (2, .int hi), (3, .int lo)]) hx hb dX2_tide_6 hl (by decide) rfl (fun ls hl => ?_)
  refine lv_iconst (v := 0) hx hb dX2_tide_8 (by decide) ?_
  refine lv_istore (lv' := [(6, .int 0), (4, .long 0), (0, .ref this), (1, .int mo), (2, .int hi), (3, .int lo)]) hx hb dX2_tide_9 hl (by decide) rfl (fun ls hl => ?_)
  refine lv_iload hx hb dX2_tide_11 (lv_at hl 0 rfl) ?_
  refine lv_aload_n hx hb dX2_tide_13 rfl (lv_at hl 2 rfl) ?_
  refine pg_f (v := .int (I 65 this)) (C := RX2) (T := TX2) (N := 20) hx hb hts (tw_i inlX2) hown hK hP hL_this hK_this (by decide) rfl 1 (by decide) (hts _ (tw_c tw_222)) rfl dX2_tide_14 ?_
  refine lv_tov 0 (congrFun (hZ 65 (by decide)) this) ?_
  refine lv_icmp_ge (tgt := 90) hx hb dX2_tide_17 (by decide) (fun c_2 => ?_) (fun c_2 => absurd c_2 (by decide))
  refine lv_iload_n hx hb dX2_tide_90 rfl (lv_at hl 3 rfl) ?_
  refine lv_if_lt (tgt := 109) hx hb dX2_tide_91 (by decide) (fun c_3 => ?_) (fun c_3 => ?_)
  · exact W.vret hx hb hr (fun t1 ht hW => ⟨⟨(σ, I, J_1, ri, rj, rq), rfl, ⟨J_1, rj, rfl⟩, by rw [ht]; exact hP, va_K.moved hW.alike hK, hD⟩, hS.F ht⟩) hS.2.2 dX2_tide_109
  · refine lv_iload_n hx hb dX2_tide_94 rfl (lv_at hl 3 rfl) ?_
    refine lv_sipush (v := 600) hx hb dX2_tide_95 (by decide) ?_
    refine lv_icmp_ge (tgt := 109) hx hb dX2_tide_98 (by decide) (fun c_4 => ?_) (fun c_4 => ?_)
    · exact W.vret hx hb hr (fun t1 ht hW => ⟨⟨(σ, I, J_1, ri, rj, rq), rfl, ⟨J_1, rj, rfl⟩, by rw [ht]; exact hP, va_K.moved hW.alike hK, hD⟩, hS.F ht⟩) hS.2.2 dX2_tide_109
    · refine lv_aload_n hx hb dX2_tide_101 rfl (lv_at hl 2 rfl) ?_
      refine pg_f (v := .ref this_rocks) (C := RX2) (T := TX2) (N := 20) hx hb hts (tw_i inlX2) hown hK hP hL_this hK_this (by decide) rfl 4 (by decide) (hts _ (tw_c tw_82)) (pq_hv rfl hR_this_rocks) dX2_tide_102 ?_
      refine lv_iload_n hx hb dX2_tide_105 rfl (lv_at hl 3 rfl) ?_
      refine lv_lload hx hb dX2_tide_106 (lv_at hl 1 rfl) ?_
      refine pt_l hx hb hK hP hD hS hL_this_rocks hK_this_rocks hN_this_rocks (in_of2 c_3 c_4 (by decide)) dX2_tide_108 (fun r_5 H locs er_5 hP hD hS => ?_)
      exact W.vret hx hb hr (fun t1 ht hW => ⟨⟨(σ, I, J_1, ri, r_5, rq), rfl, ⟨J_1, r_5, rfl⟩, by rw [ht]; exact hP, va_K.moved hW.alike hK, hD⟩, hS.F ht⟩) hS.2.2 dX2_tide_109

set_option maxHeartbeats 4000000 in
set_option maxRecDepth 100000 in
theorem c_X2_giveUpBeds (l : Launch) (D : va_G) (t : pq_T) (σ : pq_S) (I : Nat → Nat → Int32) (J : Nat → Nat → Int64) (ri : Nat → Nat → Int32) (rj : Nat → Nat → Int64) (rq : Nat → Nat → Option Nat) (sz : Nat) (this : Nat) (hL_this : this ∈ σ.1) (hK_this : σ.2.1 this = 2) (hZ : pq_Z I) : MetV l yX2_giveUpBeds (wa yX2_giveUpBeds cX2_giveUpBeds 2 none) ({ frames := 0, cells := 0, slots := 0, locals := 0 }) [.ref this] D t σ (I, J, ri, rj, rq) sz 0 0 (fun (u : pq_S × pq_M) => u = (σ, I, J, ri, rj, rq)) := by
  refine Met.ofW (cc := cX2_giveUpBeds) (maxL := 2) (ret := none) (by decide) rfl ?_
  intro p e s m args below meth c s₁ B hml hv
  obtain ⟨rfl, hsz, hP, hK, hD0, hN⟩ := hv
  have hx := B.exec
  have hb := B.bytes
  have hr := B.returns
  have hts := atoms_spec (ws := (wa yX2_giveUpBeds cX2_giveUpBeds 2 none)) B.pre
  have hown : s.vm.findClass RX2 = some m.cls := findClass_of_methodNamed B.named
  have hlocks := B.notSynchronized
  subst hsz
  have hD : va_D (pq_B t σ (I, J, ri, rj, rq) s.heap.size) (pq_P t σ (I, J, ri, rj, rq)) := hD0.self
  generalize hAe : pq_B t σ (I, J, ri, rj, rq) s.heap.size = A at hD ⊢
  have hA : ∀ q : Nat, s.heap.size ≤ q → A q := fun q h => by rw [← hAe]; exact Or.inr h
  have hS : va_S A s.heap s.heap [] := va_S.rf
  have hl := lv_entry ([.ref this]) (n := 2) (Nat.le_of_ble_eq_true rfl)
  rw [lg_entry_eq]
  generalize (lg_sl ([.ref this]) ++ List.replicate (2 - (lg_sl ([.ref this])).length) Slot.unset).toArray = ls at hl ⊢
  have hl : lv_has ls 2 [(0, .ref this)] := hl
  refine lv_iconst (v := 0) hx hb dX2_giveUpBeds_0 (by decide) ?_
  refine lv_istore_n (lv' := [(1, .int 0), (0, .ref this)]) hx hb dX2_giveUpBeds_1 rfl hl (by decide) rfl (fun ls hl => ?_)
  refine lv_iload_n hx hb dX2_giveUpBeds_2 rfl (lv_at hl 0 rfl) ?_
  refine lv_aload_n hx hb dX2_giveUpBeds_3 rfl (lv_at hl 1 rfl) ?_
  refine pg_f (v := .int (I 65 this)) (C := RX2) (T := TX2) (N := 20) hx hb hts (tw_i inlX2) hown hK hP hL_this hK_this (by decide) rfl 1 (by decide) (hts _ (tw_c tw_222)) rfl dX2_giveUpBeds_4 ?_
  refine lv_tov 0 (congrFun (hZ 65 (by decide)) this) ?_
  refine lv_icmp_ge (tgt := 31) hx hb dX2_giveUpBeds_7 (by decide) (fun c_1 => ?_) (fun c_1 => absurd c_1 (by decide))
  exact W.vret hx hb hr (fun t1 ht hW => ⟨⟨(σ, I, J, ri, rj, rq), rfl, rfl, by rw [ht]; exact hP, va_K.moved hW.alike hK, hD⟩, hS.F ht⟩) hS.2.2 dX2_giveUpBeds_31

set_option maxHeartbeats 4000000 in
set_option maxRecDepth 100000 in
theorem c_X2_countWalls (l : Launch) (D : va_G) (t : pq_T) (σ : pq_S) (I : Nat → Nat → Int32) (J : Nat → Nat → Int64) (ri : Nat → Nat → Int32) (rj : Nat → Nat → Int64) (rq : Nat → Nat → Option Nat) (sz : Nat) (this : Nat) (hL_this : this ∈ σ.1) (hK_this : σ.2.1 this = 2) (hZ : pq_Z I) : MetI l yX2_countWalls (wa yX2_countWalls cX2_countWalls 3 (some .int)) ({ frames := 0, cells := 0, slots := 0, locals := 0 }) [.ref this] D t σ (I, J, ri, rj, rq) sz 0 0 (fun (r : Int32) (u : pq_S × pq_M) => u = (σ, I, J, ri, rj, rq) ∧ ((r = 0))) := by
  refine Met.ofW (cc := cX2_countWalls) (maxL := 3) (ret := (some .int)) (by decide) rfl ?_
  intro p e s m args below meth c s₁ B hml hv
  obtain ⟨rfl, hsz, hP, hK, hD0, hN⟩ := hv
  have hx := B.exec
  have hb := B.bytes
  have hr := B.returns
  have hts := atoms_spec (ws := (wa yX2_countWalls cX2_countWalls 3 (some .int))) B.pre
  have hown : s.vm.findClass RX2 = some m.cls := findClass_of_methodNamed B.named
  have hlocks := B.notSynchronized
  subst hsz
  have hD : va_D (pq_B t σ (I, J, ri, rj, rq) s.heap.size) (pq_P t σ (I, J, ri, rj, rq)) := hD0.self
  generalize hAe : pq_B t σ (I, J, ri, rj, rq) s.heap.size = A at hD ⊢
  have hA : ∀ q : Nat, s.heap.size ≤ q → A q := fun q h => by rw [← hAe]; exact Or.inr h
  have hS : va_S A s.heap s.heap [] := va_S.rf
  have hl := lv_entry ([.ref this]) (n := 3) (Nat.le_of_ble_eq_true rfl)
  rw [lg_entry_eq]
  generalize (lg_sl ([.ref this]) ++ List.replicate (3 - (lg_sl ([.ref this])).length) Slot.unset).toArray = ls at hl ⊢
  have hl : lv_has ls 3 [(0, .ref this)] := hl
  refine lv_iconst (v := 0) hx hb dX2_countWalls_0 (by decide) ?_
  refine lv_istore_n (lv' := [(1, .int 0), (0, .ref this)]) hx hb dX2_countWalls_1 rfl hl (by decide) rfl (fun ls hl => ?_)
  refine lv_iconst (v := 0) hx hb dX2_countWalls_2 (by decide) ?_
  refine lv_istore_n (lv' := [(2, .int 0), (1, .int 0), (0, .ref this)]) hx hb dX2_countWalls_3 rfl hl (by decide) rfl (fun ls hl => ?_)
  refine lv_iload_n hx hb dX2_countWalls_4 rfl (lv_at hl 0 rfl) ?_
  refine lv_aload_n hx hb dX2_countWalls_5 rfl (lv_at hl 2 rfl) ?_
  refine pg_f (v := .int (I 65 this)) (C := RX2) (T := TX2) (N := 20) hx hb hts (tw_i inlX2) hown hK hP hL_this hK_this (by decide) rfl 1 (by decide) (hts _ (tw_c tw_222)) rfl dX2_countWalls_6 ?_
  refine lv_tov 0 (congrFun (hZ 65 (by decide)) this) ?_
  refine lv_icmp_ge (tgt := 30) hx hb dX2_countWalls_9 (by decide) (fun c_1 => ?_) (fun c_1 => absurd c_1 (by decide))
  refine lv_iload_n hx hb dX2_countWalls_30 rfl (lv_at hl 1 rfl) ?_
  exact W.iret (v := 0) hx hb hr (fun t1 ht hW => ⟨⟨0, (σ, I, J, ri, rj, rq), rfl, ⟨rfl, rfl⟩, by rw [ht]; exact hP, va_K.moved hW.alike hK, hD⟩, hS.F ht⟩) hS.2.2 dX2_countWalls_31

set_option maxHeartbeats 4000000 in
set_option maxRecDepth 100000 in
theorem c_X7_isNumber (l : Launch) (D : va_G) (t : pq_T) (σ : pq_S) (I : Nat → Nat → Int32) (J : Nat → Nat → Int64) (ri : Nat → Nat → Int32) (rj : Nat → Nat → Int64) (rq : Nat → Nat → Option Nat) (sz : Nat) (v : Int32) : MetI l yX7_isNumber (wa yX7_isNumber cX7_isNumber 1 (some .boolean)) ({ frames := 0, cells := 0, slots := 0, locals := 0 }) [.int v] D t σ (I, J, ri, rj, rq) sz 0 0 (fun (r : Int32) (u : pq_S × pq_M) => u = (σ, I, J, ri, rj, rq) ∧ ((r = 1 ∧ (-5000) < v) ∨ (r = 0 ∧ v ≤ (-5000)))) := by
  refine Met.ofW (cc := cX7_isNumber) (maxL := 1) (ret := (some .boolean)) (by decide) rfl ?_
  intro p e s m args below meth c s₁ B hml hv
  obtain ⟨rfl, hsz, hP, hK, hD0, hN⟩ := hv
  have hx := B.exec
  have hb := B.bytes
  have hr := B.returns
  have hts := atoms_spec (ws := (wa yX7_isNumber cX7_isNumber 1 (some .boolean))) B.pre
  have hown : s.vm.findClass RX7 = some m.cls := findClass_of_methodNamed B.named
  have hlocks := B.notSynchronized
  subst hsz
  have hD : va_D (pq_B t σ (I, J, ri, rj, rq) s.heap.size) (pq_P t σ (I, J, ri, rj, rq)) := hD0.self
  generalize hAe : pq_B t σ (I, J, ri, rj, rq) s.heap.size = A at hD ⊢
  have hA : ∀ q : Nat, s.heap.size ≤ q → A q := fun q h => by rw [← hAe]; exact Or.inr h
  have hS : va_S A s.heap s.heap [] := va_S.rf
  have hl := lv_entry ([.int v]) (n := 1) (Nat.le_of_ble_eq_true rfl)
  rw [lg_entry_eq]
  generalize (lg_sl ([.int v]) ++ List.replicate (1 - (lg_sl ([.int v])).length) Slot.unset).toArray = ls at hl ⊢
  have hl : lv_has ls 1 [(0, .int v)] := hl
  refine lv_iload_n hx hb dX7_isNumber_0 rfl (lv_at hl 0 rfl) ?_
  refine lv_sipush (v := (-5000)) hx hb dX7_isNumber_1 (by decide) ?_
  refine lv_icmp_le (tgt := 11) hx hb dX7_isNumber_4 (by decide) (fun c_1 => ?_) (fun c_1 => ?_)
  · refine lv_iconst (v := 0) hx hb dX7_isNumber_11 (by decide) ?_
    exact W.zret (v := 0) hx hb hr (by decide) (fun t1 ht hW => ⟨⟨0, (σ, I, J, ri, rj, rq), rfl, ⟨rfl, (Or.inr ⟨rfl, c_1⟩)⟩, by rw [ht]; exact hP, va_K.moved hW.alike hK, hD⟩, hS.F ht⟩) hS.2.2 dX7_isNumber_12
  · refine lv_iconst (v := 1) hx hb dX7_isNumber_7 (by decide) ?_
    refine lv_goto (tgt := 12) hx hb dX7_isNumber_8 (by decide) ?_
    exact W.zret (v := 1) hx hb hr (by decide) (fun t1 ht hW => ⟨⟨1, (σ, I, J, ri, rj, rq), rfl, ⟨rfl, (Or.inl ⟨rfl, Int32.not_le.mp c_1⟩)⟩, by rw [ht]; exact hP, va_K.moved hW.alike hK, hD⟩, hS.F ht⟩) hS.2.2 dX7_isNumber_12

set_option maxHeartbeats 4000000 in
set_option maxRecDepth 100000 in
theorem c_X7_known (l : Launch) (D : va_G) (t : pq_T) (σ : pq_S) (I : Nat → Nat → Int32) (J : Nat → Nat → Int64) (ri : Nat → Nat → Int32) (rj : Nat → Nat → Int64) (rq : Nat → Nat → Option Nat) (sz : Nat) (this : Nat) (ri_ : Int32) (mo : Int32) (kn : Int32) (hL_this : this ∈ σ.1) (hK_this : σ.2.1 this = 7) (hZ : pq_Z I) : MetI l yX7_known (wa yX7_known cX7_known 9 (some .int)) ({ frames := 1, cells := 0, slots := 0, locals := 20 }) [.ref this, .int ri_, .int mo, .int kn] D t σ (I, J, ri, rj, rq) sz 0 0 (fun (r : Int32) (u : pq_S × pq_M) => u = (σ, I, J, ri, rj, rq) ∧ ((r = 0))) := by
  refine Met.ofW (cc := cX7_known) (maxL := 9) (ret := (some .int)) (by decide) rfl ?_
  intro p e s m args below meth c s₁ B hml hv
  obtain ⟨rfl, hsz, hP, hK, hD0, hN⟩ := hv
  have hx := B.exec
  have hb := B.bytes
  have hr := B.returns
  have hts := atoms_spec (ws := (wa yX7_known cX7_known 9 (some .int))) B.pre
  have hown : s.vm.findClass RX7 = some m.cls := findClass_of_methodNamed B.named
  have hlocks := B.notSynchronized
  subst hsz
  have hD : va_D (pq_B t σ (I, J, ri, rj, rq) s.heap.size) (pq_P t σ (I, J, ri, rj, rq)) := hD0.self
  generalize hAe : pq_B t σ (I, J, ri, rj, rq) s.heap.size = A at hD ⊢
  have hA : ∀ q : Nat, s.heap.size ≤ q → A q := fun q h => by rw [← hAe]; exact Or.inr h
  have hS : va_S A s.heap s.heap [] := va_S.rf
  have hl := lv_entry ([.ref this, .int ri_, .int mo, .int kn]) (n := 9) (Nat.le_of_ble_eq_true rfl)
  rw [lg_entry_eq]
  generalize (lg_sl ([.ref this, .int ri_, .int mo, .int kn]) ++ List.replicate (9 - (lg_sl ([.ref this, .int ri_, .int mo, .int kn])).length) Slot.unset).toArray = ls at hl ⊢
  have hl : lv_has ls 9 [(0, .ref this), (1, .int ri_), (2, .int mo), (3, .int kn)] := hl
  refine lv_sipush (v := (-6000)) hx hb dX7_known_0 (by decide) ?_
  refine lv_istore (lv' := [(4, .int (-6000)), (0, .ref this), (1, .int ri_), (2, .int mo), (3, .int kn)]) hx hb dX7_known_3 hl (by decide) rfl (fun ls hl => ?_)
  refine lv_sipush (v := (-6000)) hx hb dX7_known_5 (by decide) ?_
  refine lv_istore (lv' := [(5, .int (-6000)), (4, .int (-6000)), (0, .ref this), (1, .int ri_), (2, .int mo), (3, .int kn)]) hx hb dX7_known_8 hl (by decide) rfl (fun ls hl => ?_)
  refine lv_sipush (v := (-6000)) hx hb dX7_known_10 (by decide) ?_
  refine lv_istore (lv' := [(6, .int (-6000)), (5, .int (-6000)), (4, .int (-6000)), (0, .ref this), (1, .int ri_), (2, .int mo), (3, .int kn)]) hx hb dX7_known_13 hl (by decide) rfl (fun ls hl => ?_)
  refine lv_sipush (v := (-6000)) hx hb dX7_known_15 (by decide) ?_
  refine lv_istore (lv' := [(7, .int (-6000)), (6, .int (-6000)), (5, .int (-6000)), (4, .int (-6000)), (0, .ref this), (1, .int ri_), (2, .int mo), (3, .int kn)]) hx hb dX7_known_18 hl (by decide) rfl (fun ls hl => ?_)
  refine lv_iconst (v := 0) hx hb dX7_known_20 (by decide) ?_
  refine lv_istore (lv' := [(8, .int 0), (7, .int (-6000)), (6, .int (-6000)), (5, .int (-6000)), (4, .int (-6000)), (0, .ref this), (1, .int ri_), (2, .int mo), (3, .int kn)]) hx hb dX7_known_21 hl (by decide) rfl (fun ls hl => ?_)
  refine lv_iload hx hb dX7_known_23 (lv_at hl 0 rfl) ?_
  refine lv_aload_n hx hb dX7_known_25 rfl (lv_at hl 5 rfl) ?_
  refine pg_f (v := .int (I 224 this)) (C := RX7) (T := TX7) (N := 15) hx hb hts (tw_i inlX7) hown hK hP hL_this hK_this (by decide) rfl 0 (by decide) (hts _ (tw_c tw_254)) rfl dX7_known_26 ?_
  refine lv_tov 0 (congrFun (hZ 224 (by decide)) this) ?_
  refine lv_icmp_ge (tgt := 144) hx hb dX7_known_29 (by decide) (fun c_1 => ?_) (fun c_1 => absurd c_1 (by decide))
  refine lv_iload hx hb dX7_known_144 (lv_at hl 4 rfl) ?_
  refine pk_i (va_runS (As := [.int (-6000)]) (rest := []) ⟨hx, hb, hml, hown, hts⟩ (c_X7_isNumber l D t σ I J ri rj rq (Array.size s.heap) (-6000 : Int32)) (va_cwS 1 hts (tw_S tw_278 tw_279 tw_37 tw_280) rfl rfl rfl (by decide +kernel) ⟨Nat.le_of_ble_eq_true rfl, Nat.le_of_ble_eq_true rfl⟩) ⟨pq_blind, pq_pre hK hN hP hD⟩ rfl rfl hl.1 rfl (lv_room (Nat.le_of_ble_eq_true rfl)) dX7_known_146 ⟨Nat.le_of_ble_eq_true rfl, Nat.le_of_ble_eq_true rfl⟩) hD hS hA (fun r_2 σ1 μ1 H locs hw_3 hP hD hS => ?_)
  obtain ⟨hu_4, hr_5⟩ := hw_3
  obtain ⟨hu_4a, hu_4b⟩ := Prod.mk.inj hu_4
  rw [hu_4a, hu_4b] at hP hD
  rcases hr_5 with ⟨rfl, hr_5_0⟩ | ⟨rfl, hr_5_0⟩
  · exact absurd hr_5_0 (by decide)
  · refine lv_if_eq (tgt := 155) hx hb dX7_known_149 (by decide) (fun c_6 => ?_) (fun c_6 => absurd c_6 (by decide))
    refine lv_iload hx hb dX7_known_155 (lv_at hl 4 rfl) ?_
    refine lv_sipush (v := (-5000)) hx hb dX7_known_157 (by decide) ?_
    refine lv_icmp_ne (tgt := 187) hx hb dX7_known_160 (by decide) (fun c_7 => ?_) (fun c_7 => absurd c_7 (by decide))
    refine lv_iload hx hb dX7_known_187 (lv_at hl 1 rfl) ?_
    refine pk_i (va_runS (As := [.int (-6000)]) (rest := []) ⟨hx, hb, hml, hown, hts⟩ (c_X7_isNumber l D t σ I J ri rj rq H.size (-6000 : Int32)) (va_cwS 1 hts (tw_S tw_278 tw_279 tw_37 tw_280) rfl rfl rfl (by decide +kernel) ⟨Nat.le_of_ble_eq_true rfl, Nat.le_of_ble_eq_true rfl⟩) ⟨pq_blind, pq_pre hK hN hP hD⟩ rfl rfl hl.1 rfl (lv_room (Nat.le_of_ble_eq_true rfl)) dX7_known_189 ⟨Nat.le_of_ble_eq_true rfl, Nat.le_of_ble_eq_true rfl⟩) hD hS hA (fun r_8 σ1 μ1 H locs hw_9 hP hD hS => ?_)
    obtain ⟨hu_10, hr_11⟩ := hw_9
    obtain ⟨hu_10a, hu_10b⟩ := Prod.mk.inj hu_10
    rw [hu_10a, hu_10b] at hP hD
    rcases hr_11 with ⟨rfl, hr_11_0⟩ | ⟨rfl, hr_11_0⟩
    · exact absurd hr_11_0 (by decide)
    · refine lv_if_eq (tgt := 200) hx hb dX7_known_192 (by decide) (fun c_12 => ?_) (fun c_12 => absurd c_12 (by decide))
      refine lv_iconst (v := 0) hx hb dX7_known_200 (by decide) ?_
      exact W.iret (v := 0) hx hb hr (fun t1 ht hW => ⟨⟨0, (σ, I, J, ri, rj, rq), rfl, ⟨rfl, rfl⟩, by rw [ht]; exact hP, va_K.moved hW.alike hK, hD⟩, hS.F ht⟩) hS.2.2 dX7_known_201

set_option maxHeartbeats 4000000 in
set_option maxRecDepth 100000 in
theorem c_X10_nature (l : Launch) (D : va_G) (t : pq_T) (σ : pq_S) (I : Nat → Nat → Int32) (J : Nat → Nat → Int64) (ri : Nat → Nat → Int32) (rj : Nat → Nat → Int64) (rq : Nat → Nat → Option Nat) (sz : Nat) (this : Nat) (rise : Int32) (hL_this : this ∈ σ.1) (hK_this : σ.2.1 this = 10) (this_seas : Nat) (hR_this_seas : σ.2.2.1 326 this = some this_seas) (hL_this_seas : this_seas ∈ σ.1) (hK_this_seas : σ.2.1 this_seas = 7) (this_land : Nat) (hR_this_land : σ.2.2.1 327 this = some this_land) (hL_this_land : this_land ∈ σ.1) (hK_this_land : σ.2.1 this_land = 2) (this_seas_warm : Nat) (hR_this_seas_warm : σ.2.2.1 231 this_seas = some this_seas_warm) (hL_this_seas_warm : this_seas_warm ∈ σ.1) (hK_this_seas_warm : σ.2.1 this_seas_warm = 13) (hN_this_seas_warm : σ.2.2.2 this_seas_warm = 12) (this_seas_drift : Nat) (hR_this_seas_drift : σ.2.2.1 232 this_seas = some this_seas_drift) (hL_this_seas_drift : this_seas_drift ∈ σ.1) (hK_this_seas_drift : σ.2.1 this_seas_drift = 13) (hN_this_seas_drift : σ.2.2.2 this_seas_drift = 12) (this_seas_high : Nat) (hR_this_seas_high : σ.2.2.1 230 this_seas = some this_seas_high) (hL_this_seas_high : this_seas_high ∈ σ.1) (hK_this_seas_high : σ.2.1 this_seas_high = 13) (hN_this_seas_high : σ.2.2.2 this_seas_high = 12) (this_seas_low : Nat) (hR_this_seas_low : σ.2.2.1 229 this_seas = some this_seas_low) (hL_this_seas_low : this_seas_low ∈ σ.1) (hK_this_seas_low : σ.2.1 this_seas_low = 13) (hN_this_seas_low : σ.2.2.2 this_seas_low = 12) (this_land_rocks : Nat) (hR_this_land_rocks : σ.2.2.1 68 this_land = some this_land_rocks) (hL_this_land_rocks : this_land_rocks ∈ σ.1) (hK_this_land_rocks : σ.2.1 this_land_rocks = 14) (hN_this_land_rocks : σ.2.2.2 this_land_rocks = 600) (hZ : pq_Z I) (k : Nat) (hk : k < 600) (hC : I 320 this = nI k) : MetV l yX10_nature (wa yX10_nature cX10_nature 4 none) ({ frames := 2, cells := 0, slots := 0, locals := 48 }) [.ref this, .int rise] D t σ (I, J, ri, rj, rq) sz 0 0 (fun (u : pq_S × pq_M) => ∃ J' : Nat → Nat → Int64, ∃ rj' : Nat → Nat → Int64, u = (σ, I, J', ri, rj', rq)) := by
  refine Met.ofW (cc := cX10_nature) (maxL := 4) (ret := none) (by decide) rfl ?_
  intro p e s m args below meth c s₁ B hml hv
  obtain ⟨rfl, hsz, hP, hK, hD0, hN⟩ := hv
  have hx := B.exec
  have hb := B.bytes
  have hr := B.returns
  have hts := atoms_spec (ws := (wa yX10_nature cX10_nature 4 none)) B.pre
  have hown : s.vm.findClass RX10 = some m.cls := findClass_of_methodNamed B.named
  have hlocks := B.notSynchronized
  subst hsz
  have hD : va_D (pq_B t σ (I, J, ri, rj, rq) s.heap.size) (pq_P t σ (I, J, ri, rj, rq)) := hD0.self
  generalize hAe : pq_B t σ (I, J, ri, rj, rq) s.heap.size = A at hD ⊢
  have hA : ∀ q : Nat, s.heap.size ≤ q → A q := fun q h => by rw [← hAe]; exact Or.inr h
  have hS : va_S A s.heap s.heap [] := va_S.rf
  have hl := lv_entry ([.ref this, .int rise]) (n := 4) (Nat.le_of_ble_eq_true rfl)
  rw [lg_entry_eq]
  generalize (lg_sl ([.ref this, .int rise]) ++ List.replicate (4 - (lg_sl ([.ref this, .int rise])).length) Slot.unset).toArray = ls at hl ⊢
  have hl : lv_has ls 4 [(0, .ref this), (1, .int rise)] := hl
  refine lv_aload_n hx hb dX10_nature_0 rfl (lv_at hl 0 rfl) ?_
  refine pg_f (v := .int (I 320 this)) (C := RX10) (T := TX10) (N := 13) hx hb hts (tw_i inlX10) hown hK hP hL_this hK_this (by decide) rfl 0 (by decide) (hts _ (tw_c tw_457)) rfl dX10_nature_1 ?_
  refine lv_tov (nI k) hC ?_
  refine lv_sipush (v := 600) hx hb dX10_nature_4 (by decide) ?_
  refine lv_icmp_lt (tgt := 11) hx hb dX10_nature_7 (by decide) (fun c_1 => ?_) (fun c_1 => (c_1 (nI_lt (a := k) (b := 600) (by omega) (by omega))).elim)
  refine lv_aload_n hx hb dX10_nature_11 rfl (lv_at hl 0 rfl) ?_
  refine pg_f (v := .int (I 320 this)) (C := RX10) (T := TX10) (N := 13) hx hb hts (tw_i inlX10) hown hK hP hL_this hK_this (by decide) rfl 0 (by decide) (hts _ (tw_c tw_457)) rfl dX10_nature_12 ?_
  refine lv_tov (nI k) hC ?_
  refine lv_bipush (v := 12) hx hb dX10_nature_15 (by decide) ?_
  refine lv_irem hx hb dX10_nature_17 (by decide) ?_
  refine lv_tov (nI (k % 12)) (pk_rem (a := k) (d := 12) (by omega) (by decide) (by decide)) ?_
  refine lv_istore_n (lv' := [(2, .int (nI (k % 12))), (0, .ref this), (1, .int rise)]) hx hb dX10_nature_18 rfl hl (by decide) rfl (fun ls hl => ?_)
  refine lv_aload_n hx hb dX10_nature_19 rfl (lv_at hl 1 rfl) ?_
  refine pg_f (v := .ref this_seas) (C := RX10) (T := TX10) (N := 13) hx hb hts (tw_i inlX10) hown hK hP hL_this hK_this (by decide) rfl 6 (by decide) (hts _ (tw_c tw_38)) (pq_hv rfl hR_this_seas) dX10_nature_20 ?_
  refine lv_iload_n hx hb dX10_nature_23 rfl (lv_at hl 2 rfl) ?_
  refine lv_aload_n hx hb dX10_nature_24 rfl (lv_at hl 1 rfl) ?_
  refine pg_f (v := .int (I 320 this)) (C := RX10) (T := TX10) (N := 13) hx hb hts (tw_i inlX10) hown hK hP hL_this hK_this (by decide) rfl 0 (by decide) (hts _ (tw_c tw_457)) rfl dX10_nature_25 ?_
  refine lv_tov (nI k) hC ?_
  refine lv_aload_n hx hb dX10_nature_28 rfl (lv_at hl 1 rfl) ?_
  refine pg_f (v := .int (I 320 this)) (C := RX10) (T := TX10) (N := 13) hx hb hts (tw_i inlX10) hown hK hP hL_this hK_this (by decide) rfl 0 (by decide) (hts _ (tw_c tw_457)) rfl dX10_nature_29 ?_
  refine lv_tov (nI k) hC ?_
  refine pk_i (va_runV (As := [.int rise, .int (nI k), .int (nI k)]) (rest := []) ⟨hx, hb, hml, hown, hts⟩ (c_X7_known l D t σ I J ri rj rq (Array.size s.heap) this_seas rise (nI k) (nI k) hL_this_seas hK_this_seas hZ) (cwV 3 hts (tw_V tw_1058 tw_271 tw_272 tw_37 tw_273) rfl rfl rfl (by decide +kernel) ⟨Nat.le_of_ble_eq_true rfl, Nat.le_of_ble_eq_true rfl⟩) ⟨pq_blind, pq_recv hK hP hL_this_seas hK_this_seas (by decide) rfl, pq_pre hK hN hP hD⟩ rfl rfl hl.1 rfl (lv_room (Nat.le_of_ble_eq_true rfl)) dX10_nature_32 ⟨Nat.le_of_ble_eq_true rfl, Nat.le_of_ble_eq_true rfl⟩) hD hS hA (fun r_2 σ1 μ1 H locs hw_3 hP hD hS => ?_)
  obtain ⟨hu_4, hr_5⟩ := hw_3
  obtain ⟨hu_4a, hu_4b⟩ := Prod.mk.inj hu_4
  rw [hu_4a, hu_4b] at hP hD
  subst hr_5
  refine lv_istore_n (lv' := [(3, .int 0), (2, .int (nI (k % 12))), (0, .ref this), (1, .int rise)]) hx hb dX10_nature_35 rfl hl (by decide) rfl (fun ls hl => ?_)
  refine lv_aload_n hx hb dX10_nature_36 rfl (lv_at hl 2 rfl) ?_
  refine pg_f (v := .ref this_land) (C := RX10) (T := TX10) (N := 13) hx hb hts (tw_i inlX10) hown hK hP hL_this hK_this (by decide) rfl 7 (by decide) (hts _ (tw_c tw_42)) (pq_hv rfl hR_this_land) dX10_nature_37 ?_
  refine lv_aload_n hx hb dX10_nature_40 rfl (lv_at hl 2 rfl) ?_
  refine pg_f (v := .ref this_seas) (C := RX10) (T := TX10) (N := 13) hx hb hts (tw_i inlX10) hown hK hP hL_this hK_this (by decide) rfl 6 (by decide) (hts _ (tw_c tw_38)) (pq_hv rfl hR_this_seas) dX10_nature_41 ?_
  refine pg_f (v := .ref this_seas_warm) (C := RX7) (T := TX7) (N := 15) hx hb hts (tw_i inlX7) hown hK hP hL_this_seas hK_this_seas (by decide) rfl 7 (by decide) (hts _ (tw_c tw_1051)) (pq_hv rfl hR_this_seas_warm) dX10_nature_44 ?_
  refine lv_iload_n hx hb dX10_nature_47 rfl (lv_at hl 1 rfl) ?_
  refine pl_i hx hb hK hP hL_this_seas_warm hK_this_seas_warm hN_this_seas_warm (nI_in (c := (k % 12)) (by omega) (by omega)) dX10_nature_48 ?_
  refine lv_topi (fun x_6 ex_6 => ?_)
  refine lv_aload_n hx hb dX10_nature_49 rfl (lv_at hl 2 rfl) ?_
  refine pg_f (v := .ref this_seas) (C := RX10) (T := TX10) (N := 13) hx hb hts (tw_i inlX10) hown hK hP hL_this hK_this (by decide) rfl 6 (by decide) (hts _ (tw_c tw_38)) (pq_hv rfl hR_this_seas) dX10_nature_50 ?_
  refine pg_f (v := .int (I 234 this_seas)) (C := RX7) (T := TX7) (N := 15) hx hb hts (tw_i inlX7) hown hK hP hL_this_seas hK_this_seas (by decide) rfl 10 (by decide) (hts _ (tw_c tw_1052)) rfl dX10_nature_53 ?_
  refine lv_icmp_gt (tgt := 69) hx hb dX10_nature_56 (by decide) (fun c_7 => ?_) (fun c_7 => ?_)
  · refine lv_aload_n hx hb dX10_nature_69 rfl (lv_at hl 2 rfl) ?_
    refine pg_f (v := .ref this_seas) (C := RX10) (T := TX10) (N := 13) hx hb hts (tw_i inlX10) hown hK hP hL_this hK_this (by decide) rfl 6 (by decide) (hts _ (tw_c tw_38)) (pq_hv rfl hR_this_seas) dX10_nature_70 ?_
    refine pg_f (v := .int (I 236 this_seas)) (C := RX7) (T := TX7) (N := 15) hx hb hts (tw_i inlX7) hown hK hP hL_this_seas hK_this_seas (by decide) rfl 12 (by decide) (hts _ (tw_c tw_1054)) rfl dX10_nature_73 ?_
    refine lv_ineg hx hb dX10_nature_76 ?_
    refine lv_topi (fun x_8 ex_8 => ?_)
    refine pk_v (va_runV (As := [.int x_8]) (rest := []) ⟨hx, hb, hml, hown, hts⟩ (c_X2_growReef l D t σ I J ri rj rq H.size this_land x_8 hL_this_land hK_this_land hZ) (cwV 1 hts (tw_V tw_1059 tw_1060 tw_1061 tw_41 tw_1062) rfl rfl rfl (by decide +kernel) ⟨Nat.le_of_ble_eq_true rfl, Nat.le_of_ble_eq_true rfl⟩) ⟨pq_blind, pq_recv hK hP hL_this_land hK_this_land (by decide) rfl, pq_pre hK hN hP hD⟩ rfl rfl hl.1 rfl (lv_room (Nat.le_of_ble_eq_true rfl)) dX10_nature_77 ⟨Nat.le_of_ble_eq_true rfl, Nat.le_of_ble_eq_true rfl⟩) hD hS hA (fun σ1 μ1 H locs hw_10 hP hD hS => ?_)
    have hu_11 := hw_10
    obtain ⟨hu_11a, hu_11b⟩ := Prod.mk.inj hu_11
    rw [hu_11a, hu_11b] at hP hD
    refine lv_aload_n hx hb dX10_nature_80 rfl (lv_at hl 2 rfl) ?_
    refine pg_f (v := .ref this_land) (C := RX10) (T := TX10) (N := 13) hx hb hts (tw_i inlX10) hown hK hP hL_this hK_this (by decide) rfl 7 (by decide) (hts _ (tw_c tw_42)) (pq_hv rfl hR_this_land) dX10_nature_81 ?_
    refine lv_aload_n hx hb dX10_nature_84 rfl (lv_at hl 2 rfl) ?_
    refine pg_f (v := .ref this_seas) (C := RX10) (T := TX10) (N := 13) hx hb hts (tw_i inlX10) hown hK hP hL_this hK_this (by decide) rfl 6 (by decide) (hts _ (tw_c tw_38)) (pq_hv rfl hR_this_seas) dX10_nature_85 ?_
    refine pg_f (v := .ref this_seas_drift) (C := RX7) (T := TX7) (N := 15) hx hb hts (tw_i inlX7) hown hK hP hL_this_seas hK_this_seas (by decide) rfl 8 (by decide) (hts _ (tw_c tw_1055)) (pq_hv rfl hR_this_seas_drift) dX10_nature_88 ?_
    refine lv_iload_n hx hb dX10_nature_91 rfl (lv_at hl 1 rfl) ?_
    refine pl_i hx hb hK hP hL_this_seas_drift hK_this_seas_drift hN_this_seas_drift (nI_in (c := (k % 12)) (by omega) (by omega)) dX10_nature_92 ?_
    refine lv_topi (fun x_13 ex_13 => ?_)
    refine pk_v (va_runV (As := [.int x_13]) (rest := []) ⟨hx, hb, hml, hown, hts⟩ (c_X2_walk l D t σ I J ri rj rq H.size this_land x_13 hL_this_land hK_this_land hZ) (cwV 1 hts (tw_V tw_1065 tw_1066 tw_1067 tw_41 tw_1068) rfl rfl rfl (by decide +kernel) ⟨Nat.le_of_ble_eq_true rfl, Nat.le_of_ble_eq_true rfl⟩) ⟨pq_blind, pq_recv hK hP hL_this_land hK_this_land (by decide) rfl, pq_pre hK hN hP hD⟩ rfl rfl hl.1 rfl (lv_room (Nat.le_of_ble_eq_true rfl)) dX10_nature_93 ⟨Nat.le_of_ble_eq_true rfl, Nat.le_of_ble_eq_true rfl⟩) hD hS hA (fun σ1 μ1 H locs hw_15 hP hD hS => ?_)
    have hu_16 := hw_15
    obtain ⟨hu_16a, hu_16b⟩ := Prod.mk.inj hu_16
    rw [hu_16a, hu_16b] at hP hD
    refine lv_aload_n hx hb dX10_nature_96 rfl (lv_at hl 2 rfl) ?_
    refine pg_f (v := .ref this_land) (C := RX10) (T := TX10) (N := 13) hx hb hts (tw_i inlX10) hown hK hP hL_this hK_this (by decide) rfl 7 (by decide) (hts _ (tw_c tw_42)) (pq_hv rfl hR_this_land) dX10_nature_97 ?_
    refine lv_aload_n hx hb dX10_nature_100 rfl (lv_at hl 2 rfl) ?_
    refine pg_f (v := .int (I 320 this)) (C := RX10) (T := TX10) (N := 13) hx hb hts (tw_i inlX10) hown hK hP hL_this hK_this (by decide) rfl 0 (by decide) (hts _ (tw_c tw_457)) rfl dX10_nature_101 ?_
    refine lv_tov (nI k) hC ?_
    refine lv_iload_n hx hb dX10_nature_104 rfl (lv_at hl 0 rfl) ?_
    refine lv_aload_n hx hb dX10_nature_105 rfl (lv_at hl 2 rfl) ?_
    refine pg_f (v := .ref this_seas) (C := RX10) (T := TX10) (N := 13) hx hb hts (tw_i inlX10) hown hK hP hL_this hK_this (by decide) rfl 6 (by decide) (hts _ (tw_c tw_38)) (pq_hv rfl hR_this_seas) dX10_nature_106 ?_
    refine pg_f (v := .ref this_seas_high) (C := RX7) (T := TX7) (N := 15) hx hb hts (tw_i inlX7) hown hK hP hL_this_seas hK_this_seas (by decide) rfl 6 (by decide) (hts _ (tw_c tw_1056)) (pq_hv rfl hR_this_seas_high) dX10_nature_109 ?_
    refine lv_iload_n hx hb dX10_nature_112 rfl (lv_at hl 1 rfl) ?_
    refine pl_i hx hb hK hP hL_this_seas_high hK_this_seas_high hN_this_seas_high (nI_in (c := (k % 12)) (by omega) (by omega)) dX10_nature_113 ?_
    refine lv_topi (fun x_18 ex_18 => ?_)
    refine lv_iadd hx hb dX10_nature_114 ?_
    refine lv_tov x_18 (Int32.zero_add _) ?_
    refine lv_iload_n hx hb dX10_nature_115 rfl (lv_at hl 0 rfl) ?_
    refine lv_aload_n hx hb dX10_nature_116 rfl (lv_at hl 2 rfl) ?_
    refine pg_f (v := .ref this_seas) (C := RX10) (T := TX10) (N := 13) hx hb hts (tw_i inlX10) hown hK hP hL_this hK_this (by decide) rfl 6 (by decide) (hts _ (tw_c tw_38)) (pq_hv rfl hR_this_seas) dX10_nature_117 ?_
    refine pg_f (v := .ref this_seas_low) (C := RX7) (T := TX7) (N := 15) hx hb hts (tw_i inlX7) hown hK hP hL_this_seas hK_this_seas (by decide) rfl 5 (by decide) (hts _ (tw_c tw_1057)) (pq_hv rfl hR_this_seas_low) dX10_nature_120 ?_
    refine lv_iload_n hx hb dX10_nature_123 rfl (lv_at hl 1 rfl) ?_
    refine pl_i hx hb hK hP hL_this_seas_low hK_this_seas_low hN_this_seas_low (nI_in (c := (k % 12)) (by omega) (by omega)) dX10_nature_124 ?_
    refine lv_topi (fun x_19 ex_19 => ?_)
    refine lv_iadd hx hb dX10_nature_125 ?_
    refine lv_tov x_19 (Int32.zero_add _) ?_
    refine pk_v (va_runV (As := [.int (nI k), .int x_18, .int x_19]) (rest := []) ⟨hx, hb, hml, hown, hts⟩ (c_X2_tide l D t σ I J ri rj rq H.size this_land (nI k) x_18 x_19 hL_this_land hK_this_land this_land_rocks hR_this_land_rocks hL_this_land_rocks hK_this_land_rocks hN_this_land_rocks hZ) (cwV 3 hts (tw_V tw_1070 tw_1071 tw_1072 tw_41 tw_1073) rfl rfl rfl (by decide +kernel) ⟨Nat.le_of_ble_eq_true rfl, Nat.le_of_ble_eq_true rfl⟩) ⟨pq_blind, pq_recv hK hP hL_this_land hK_this_land (by decide) rfl, pq_pre hK hN hP hD⟩ rfl rfl hl.1 rfl (lv_room (Nat.le_of_ble_eq_true rfl)) dX10_nature_126 ⟨Nat.le_of_ble_eq_true rfl, Nat.le_of_ble_eq_true rfl⟩) hD hS hA (fun σ1 μ1 H locs hw_21 hP hD hS => ?_)
    obtain ⟨J_22, rj_23, hu_24⟩ := hw_21
    obtain ⟨hu_24a, hu_24b⟩ := Prod.mk.inj hu_24
    rw [hu_24a, hu_24b] at hP hD
    refine lv_aload_n hx hb dX10_nature_129 rfl (lv_at hl 2 rfl) ?_
    refine pg_f (v := .ref this_land) (C := RX10) (T := TX10) (N := 13) hx hb hts (tw_i inlX10) hown hK hP hL_this hK_this (by decide) rfl 7 (by decide) (hts _ (tw_c tw_42)) (pq_hv rfl hR_this_land) dX10_nature_130 ?_
    refine pk_v (va_runV (As := []) (rest := []) ⟨hx, hb, hml, hown, hts⟩ (c_X2_giveUpBeds l D t σ I J_22 ri rj_23 rq H.size this_land hL_this_land hK_this_land hZ) (cwV 0 hts (tw_V tw_1078 tw_1079 tw_1080 tw_41 tw_1081) rfl rfl rfl (by decide +kernel) ⟨Nat.le_of_ble_eq_true rfl, Nat.le_of_ble_eq_true rfl⟩) ⟨pq_blind, pq_recv hK hP hL_this_land hK_this_land (by decide) rfl, pq_pre hK hN hP hD⟩ rfl rfl hl.1 rfl (lv_room (Nat.le_of_ble_eq_true rfl)) dX10_nature_133 ⟨Nat.le_of_ble_eq_true rfl, Nat.le_of_ble_eq_true rfl⟩) hD hS hA (fun σ1 μ1 H locs hw_27 hP hD hS => ?_)
    have hu_28 := hw_27
    obtain ⟨hu_28a, hu_28b⟩ := Prod.mk.inj hu_28
    rw [hu_28a, hu_28b] at hP hD
    exact W.vret hx hb hr (fun t1 ht hW => ⟨⟨(σ, I, J_22, ri, rj_23, rq), rfl, ⟨J_22, rj_23, rfl⟩, by rw [ht]; exact hP, va_K.moved hW.alike hK, hD⟩, hS.F ht⟩) hS.2.2 dX10_nature_136
  · refine lv_aload_n hx hb dX10_nature_59 rfl (lv_at hl 2 rfl) ?_
    refine pg_f (v := .ref this_seas) (C := RX10) (T := TX10) (N := 13) hx hb hts (tw_i inlX10) hown hK hP hL_this hK_this (by decide) rfl 6 (by decide) (hts _ (tw_c tw_38)) (pq_hv rfl hR_this_seas) dX10_nature_60 ?_
    refine pg_f (v := .int (I 235 this_seas)) (C := RX7) (T := TX7) (N := 15) hx hb hts (tw_i inlX7) hown hK hP hL_this_seas hK_this_seas (by decide) rfl 11 (by decide) (hts _ (tw_c tw_1053)) rfl dX10_nature_63 ?_
    refine lv_goto (tgt := 77) hx hb dX10_nature_66 (by decide) ?_
    refine pk_v (va_runV (As := [.int (I 235 this_seas)]) (rest := []) ⟨hx, hb, hml, hown, hts⟩ (c_X2_growReef l D t σ I J ri rj rq H.size this_land (I 235 this_seas) hL_this_land hK_this_land hZ) (cwV 1 hts (tw_V tw_1059 tw_1060 tw_1061 tw_41 tw_1062) rfl rfl rfl (by decide +kernel) ⟨Nat.le_of_ble_eq_true rfl, Nat.le_of_ble_eq_true rfl⟩) ⟨pq_blind, pq_recv hK hP hL_this_land hK_this_land (by decide) rfl, pq_pre hK hN hP hD⟩ rfl rfl hl.1 rfl (lv_room (Nat.le_of_ble_eq_true rfl)) dX10_nature_77 ⟨Nat.le_of_ble_eq_true rfl, Nat.le_of_ble_eq_true rfl⟩) hD hS hA (fun σ1 μ1 H locs hw_31 hP hD hS => ?_)
    have hu_32 := hw_31
    obtain ⟨hu_32a, hu_32b⟩ := Prod.mk.inj hu_32
    rw [hu_32a, hu_32b] at hP hD
    refine lv_aload_n hx hb dX10_nature_80 rfl (lv_at hl 2 rfl) ?_
    refine pg_f (v := .ref this_land) (C := RX10) (T := TX10) (N := 13) hx hb hts (tw_i inlX10) hown hK hP hL_this hK_this (by decide) rfl 7 (by decide) (hts _ (tw_c tw_42)) (pq_hv rfl hR_this_land) dX10_nature_81 ?_
    refine lv_aload_n hx hb dX10_nature_84 rfl (lv_at hl 2 rfl) ?_
    refine pg_f (v := .ref this_seas) (C := RX10) (T := TX10) (N := 13) hx hb hts (tw_i inlX10) hown hK hP hL_this hK_this (by decide) rfl 6 (by decide) (hts _ (tw_c tw_38)) (pq_hv rfl hR_this_seas) dX10_nature_85 ?_
    refine pg_f (v := .ref this_seas_drift) (C := RX7) (T := TX7) (N := 15) hx hb hts (tw_i inlX7) hown hK hP hL_this_seas hK_this_seas (by decide) rfl 8 (by decide) (hts _ (tw_c tw_1055)) (pq_hv rfl hR_this_seas_drift) dX10_nature_88 ?_
    refine lv_iload_n hx hb dX10_nature_91 rfl (lv_at hl 1 rfl) ?_
    refine pl_i hx hb hK hP hL_this_seas_drift hK_this_seas_drift hN_this_seas_drift (nI_in (c := (k % 12)) (by omega) (by omega)) dX10_nature_92 ?_
    refine lv_topi (fun x_34 ex_34 => ?_)
    refine pk_v (va_runV (As := [.int x_34]) (rest := []) ⟨hx, hb, hml, hown, hts⟩ (c_X2_walk l D t σ I J ri rj rq H.size this_land x_34 hL_this_land hK_this_land hZ) (cwV 1 hts (tw_V tw_1065 tw_1066 tw_1067 tw_41 tw_1068) rfl rfl rfl (by decide +kernel) ⟨Nat.le_of_ble_eq_true rfl, Nat.le_of_ble_eq_true rfl⟩) ⟨pq_blind, pq_recv hK hP hL_this_land hK_this_land (by decide) rfl, pq_pre hK hN hP hD⟩ rfl rfl hl.1 rfl (lv_room (Nat.le_of_ble_eq_true rfl)) dX10_nature_93 ⟨Nat.le_of_ble_eq_true rfl, Nat.le_of_ble_eq_true rfl⟩) hD hS hA (fun σ1 μ1 H locs hw_36 hP hD hS => ?_)
    have hu_37 := hw_36
    obtain ⟨hu_37a, hu_37b⟩ := Prod.mk.inj hu_37
    rw [hu_37a, hu_37b] at hP hD
    refine lv_aload_n hx hb dX10_nature_96 rfl (lv_at hl 2 rfl) ?_
    refine pg_f (v := .ref this_land) (C := RX10) (T := TX10) (N := 13) hx hb hts (tw_i inlX10) hown hK hP hL_this hK_this (by decide) rfl 7 (by decide) (hts _ (tw_c tw_42)) (pq_hv rfl hR_this_land) dX10_nature_97 ?_
    refine lv_aload_n hx hb dX10_nature_100 rfl (lv_at hl 2 rfl) ?_
    refine pg_f (v := .int (I 320 this)) (C := RX10) (T := TX10) (N := 13) hx hb hts (tw_i inlX10) hown hK hP hL_this hK_this (by decide) rfl 0 (by decide) (hts _ (tw_c tw_457)) rfl dX10_nature_101 ?_
    refine lv_tov (nI k) hC ?_
    refine lv_iload_n hx hb dX10_nature_104 rfl (lv_at hl 0 rfl) ?_
    refine lv_aload_n hx hb dX10_nature_105 rfl (lv_at hl 2 rfl) ?_
    refine pg_f (v := .ref this_seas) (C := RX10) (T := TX10) (N := 13) hx hb hts (tw_i inlX10) hown hK hP hL_this hK_this (by decide) rfl 6 (by decide) (hts _ (tw_c tw_38)) (pq_hv rfl hR_this_seas) dX10_nature_106 ?_
    refine pg_f (v := .ref this_seas_high) (C := RX7) (T := TX7) (N := 15) hx hb hts (tw_i inlX7) hown hK hP hL_this_seas hK_this_seas (by decide) rfl 6 (by decide) (hts _ (tw_c tw_1056)) (pq_hv rfl hR_this_seas_high) dX10_nature_109 ?_
    refine lv_iload_n hx hb dX10_nature_112 rfl (lv_at hl 1 rfl) ?_
    refine pl_i hx hb hK hP hL_this_seas_high hK_this_seas_high hN_this_seas_high (nI_in (c := (k % 12)) (by omega) (by omega)) dX10_nature_113 ?_
    refine lv_topi (fun x_39 ex_39 => ?_)
    refine lv_iadd hx hb dX10_nature_114 ?_
    refine lv_tov x_39 (Int32.zero_add _) ?_
    refine lv_iload_n hx hb dX10_nature_115 rfl (lv_at hl 0 rfl) ?_
    refine lv_aload_n hx hb dX10_nature_116 rfl (lv_at hl 2 rfl) ?_
    refine pg_f (v := .ref this_seas) (C := RX10) (T := TX10) (N := 13) hx hb hts (tw_i inlX10) hown hK hP hL_this hK_this (by decide) rfl 6 (by decide) (hts _ (tw_c tw_38)) (pq_hv rfl hR_this_seas) dX10_nature_117 ?_
    refine pg_f (v := .ref this_seas_low) (C := RX7) (T := TX7) (N := 15) hx hb hts (tw_i inlX7) hown hK hP hL_this_seas hK_this_seas (by decide) rfl 5 (by decide) (hts _ (tw_c tw_1057)) (pq_hv rfl hR_this_seas_low) dX10_nature_120 ?_
    refine lv_iload_n hx hb dX10_nature_123 rfl (lv_at hl 1 rfl) ?_
    refine pl_i hx hb hK hP hL_this_seas_low hK_this_seas_low hN_this_seas_low (nI_in (c := (k % 12)) (by omega) (by omega)) dX10_nature_124 ?_
    refine lv_topi (fun x_40 ex_40 => ?_)
    refine lv_iadd hx hb dX10_nature_125 ?_
    refine lv_tov x_40 (Int32.zero_add _) ?_
    refine pk_v (va_runV (As := [.int (nI k), .int x_39, .int x_40]) (rest := []) ⟨hx, hb, hml, hown, hts⟩ (c_X2_tide l D t σ I J ri rj rq H.size this_land (nI k) x_39 x_40 hL_this_land hK_this_land this_land_rocks hR_this_land_rocks hL_this_land_rocks hK_this_land_rocks hN_this_land_rocks hZ) (cwV 3 hts (tw_V tw_1070 tw_1071 tw_1072 tw_41 tw_1073) rfl rfl rfl (by decide +kernel) ⟨Nat.le_of_ble_eq_true rfl, Nat.le_of_ble_eq_true rfl⟩) ⟨pq_blind, pq_recv hK hP hL_this_land hK_this_land (by decide) rfl, pq_pre hK hN hP hD⟩ rfl rfl hl.1 rfl (lv_room (Nat.le_of_ble_eq_true rfl)) dX10_nature_126 ⟨Nat.le_of_ble_eq_true rfl, Nat.le_of_ble_eq_true rfl⟩) hD hS hA (fun σ1 μ1 H locs hw_42 hP hD hS => ?_)
    obtain ⟨J_43, rj_44, hu_45⟩ := hw_42
    obtain ⟨hu_45a, hu_45b⟩ := Prod.mk.inj hu_45
    rw [hu_45a, hu_45b] at hP hD
    refine lv_aload_n hx hb dX10_nature_129 rfl (lv_at hl 2 rfl) ?_
    refine pg_f (v := .ref this_land) (C := RX10) (T := TX10) (N := 13) hx hb hts (tw_i inlX10) hown hK hP hL_this hK_this (by decide) rfl 7 (by decide) (hts _ (tw_c tw_42)) (pq_hv rfl hR_this_land) dX10_nature_130 ?_
    refine pk_v (va_runV (As := []) (rest := []) ⟨hx, hb, hml, hown, hts⟩ (c_X2_giveUpBeds l D t σ I J_43 ri rj_44 rq H.size this_land hL_this_land hK_this_land hZ) (cwV 0 hts (tw_V tw_1078 tw_1079 tw_1080 tw_41 tw_1081) rfl rfl rfl (by decide +kernel) ⟨Nat.le_of_ble_eq_true rfl, Nat.le_of_ble_eq_true rfl⟩) ⟨pq_blind, pq_recv hK hP hL_this_land hK_this_land (by decide) rfl, pq_pre hK hN hP hD⟩ rfl rfl hl.1 rfl (lv_room (Nat.le_of_ble_eq_true rfl)) dX10_nature_133 ⟨Nat.le_of_ble_eq_true rfl, Nat.le_of_ble_eq_true rfl⟩) hD hS hA (fun σ1 μ1 H locs hw_48 hP hD hS => ?_)
    have hu_49 := hw_48
    obtain ⟨hu_49a, hu_49b⟩ := Prod.mk.inj hu_49
    rw [hu_49a, hu_49b] at hP hD
    exact W.vret hx hb hr (fun t1 ht hW => ⟨⟨(σ, I, J_43, ri, rj_44, rq), rfl, ⟨J_43, rj_44, rfl⟩, by rw [ht]; exact hP, va_K.moved hW.alike hK, hD⟩, hS.F ht⟩) hS.2.2 dX10_nature_136

set_option maxHeartbeats 4000000 in
set_option maxRecDepth 100000 in
theorem c_X2_countBeds (l : Launch) (D : va_G) (t : pq_T) (σ : pq_S) (I : Nat → Nat → Int32) (J : Nat → Nat → Int64) (ri : Nat → Nat → Int32) (rj : Nat → Nat → Int64) (rq : Nat → Nat → Option Nat) (sz : Nat) (this : Nat) (row : Nat) (g : Nat) (n_row : Nat) (hL_this : this ∈ σ.1) (hK_this : σ.2.1 this = 2) (hL_row : row ∈ σ.1) (hK_row : σ.2.1 row = 13) (hN_row : σ.2.2.2 row = n_row) (hZ : pq_Z I) (hg : g + 5 ≤ n_row ∧ n_row < 1000) : MetV l yX2_countBeds (wa yX2_countBeds cX2_countBeds 4 none) ({ frames := 0, cells := 0, slots := 0, locals := 0 }) [.ref this, .ref row, .int (nI g)] D t σ (I, J, ri, rj, rq) sz 0 0 (fun (u : pq_S × pq_M) => ∃ ri' : Nat → Nat → Int32, u = (σ, I, J, ri', rj, rq)) := by
  refine Met.ofW (cc := cX2_countBeds) (maxL := 4) (ret := none) (by decide) rfl ?_
  intro p e s m args below meth c s₁ B hml hv
  obtain ⟨rfl, hsz, hP, hK, hD0, hN⟩ := hv
  have hx := B.exec
  have hb := B.bytes
  have hr := B.returns
  have hts := atoms_spec (ws := (wa yX2_countBeds cX2_countBeds 4 none)) B.pre
  have hown : s.vm.findClass RX2 = some m.cls := findClass_of_methodNamed B.named
  have hlocks := B.notSynchronized
  subst hsz
  have hD : va_D (pq_B t σ (I, J, ri, rj, rq) s.heap.size) (pq_P t σ (I, J, ri, rj, rq)) := hD0.self
  generalize hAe : pq_B t σ (I, J, ri, rj, rq) s.heap.size = A at hD ⊢
  have hA : ∀ q : Nat, s.heap.size ≤ q → A q := fun q h => by rw [← hAe]; exact Or.inr h
  have hS : va_S A s.heap s.heap [] := va_S.rf
  have hl := lv_entry ([.ref this, .ref row, .int (nI g)]) (n := 4) (Nat.le_of_ble_eq_true rfl)
  rw [lg_entry_eq]
  generalize (lg_sl ([.ref this, .ref row, .int (nI g)]) ++ List.replicate (4 - (lg_sl ([.ref this, .ref row, .int (nI g)])).length) Slot.unset).toArray = ls at hl ⊢
  have hl : lv_has ls 4 [(0, .ref this), (1, .ref row), (2, .int (nI g))] := hl
  refine lv_iload_n hx hb dX2_countBeds_0 rfl (lv_at hl 2 rfl) ?_
  refine lv_if_lt (tgt := 12) hx hb dX2_countBeds_1 (by decide) (fun c_1 => (nI_nlt (a := g) (b := 0) (by omega) (by omega) c_1).elim) (fun c_1 => ?_)
  refine lv_iload_n hx hb dX2_countBeds_4 rfl (lv_at hl 2 rfl) ?_
  refine lv_iconst (v := 5) hx hb dX2_countBeds_5 (by decide) ?_
  refine lv_iadd hx hb dX2_countBeds_6 ?_
  refine lv_tov (nI (g + 5)) (nI_add g 5) ?_
  refine lv_aload_n hx hb dX2_countBeds_7 rfl (lv_at hl 1 rfl) ?_
  refine pn_i (v := nI n_row) hx hb hK hP hL_row hK_row hN_row rfl dX2_countBeds_8 ?_
  refine lv_icmp_le (tgt := 13) hx hb dX2_countBeds_9 (by decide) (fun c_2 => ?_) (fun c_2 => (c_2 (nI_le (a := (g + 5)) (b := n_row) (by omega) (by omega))).elim)
  refine lv_iconst (v := 0) hx hb dX2_countBeds_13 (by decide) ?_
  refine lv_istore_n (lv' := [(3, .int 0), (0, .ref this), (1, .ref row), (2, .int (nI g))]) hx hb dX2_countBeds_14 rfl hl (by decide) rfl (fun ls hl => ?_)
  refine lv_iload_n hx hb dX2_countBeds_15 rfl (lv_at hl 0 rfl) ?_
  refine lv_iconst (v := 5) hx hb dX2_countBeds_16 (by decide) ?_
  refine lv_icmp_ge (tgt := 32) hx hb dX2_countBeds_17 (by decide) (fun c_3 => absurd c_3 (by decide)) (fun c_3 => ?_)
  refine lv_aload_n hx hb dX2_countBeds_20 rfl (lv_at hl 2 rfl) ?_
  refine lv_iload_n hx hb dX2_countBeds_21 rfl (lv_at hl 3 rfl) ?_
  refine lv_iload_n hx hb dX2_countBeds_22 rfl (lv_at hl 0 rfl) ?_
  refine lv_iadd hx hb dX2_countBeds_23 ?_
  refine lv_tov (nI g) (Int32.add_zero _) ?_
  refine lv_iconst (v := 0) hx hb dX2_countBeds_24 (by decide) ?_
  refine pt_i hx hb hK hP hD hS hL_row hK_row hN_row (nI_in (c := g) (by omega) (by omega)) dX2_countBeds_25 (fun r_4 H locs er_4 hP hD hS => ?_)
  refine lv_iinc (v := 1) (lv' := [(3, .int 1), (0, .ref this), (1, .ref row), (2, .int (nI g))]) hx hb dX2_countBeds_26 hl (k := 0) rfl (by decide) (by decide) rfl (fun ls hl => ?_)
  refine lv_goto (tgt := 15) hx hb dX2_countBeds_29 (by decide) ?_
  refine lv_iload_n hx hb dX2_countBeds_15 rfl (lv_at hl 0 rfl) ?_
  refine lv_iconst (v := 5) hx hb dX2_countBeds_16 (by decide) ?_
  refine lv_icmp_ge (tgt := 32) hx hb dX2_countBeds_17 (by decide) (fun c_5 => absurd c_5 (by decide)) (fun c_5 => ?_)
  refine lv_aload_n hx hb dX2_countBeds_20 rfl (lv_at hl 2 rfl) ?_
  refine lv_iload_n hx hb dX2_countBeds_21 rfl (lv_at hl 3 rfl) ?_
  refine lv_iload_n hx hb dX2_countBeds_22 rfl (lv_at hl 0 rfl) ?_
  refine lv_iadd hx hb dX2_countBeds_23 ?_
  refine lv_tov (nI (g + 1)) (nI_add g 1) ?_
  refine lv_iconst (v := 0) hx hb dX2_countBeds_24 (by decide) ?_
  refine pt_i hx hb hK hP hD hS hL_row hK_row hN_row (nI_in (c := (g + 1)) (by omega) (by omega)) dX2_countBeds_25 (fun r_6 H locs er_6 hP hD hS => ?_)
  refine lv_iinc (v := 2) (lv' := [(3, .int 2), (0, .ref this), (1, .ref row), (2, .int (nI g))]) hx hb dX2_countBeds_26 hl (k := 0) rfl (by decide) (by decide) rfl (fun ls hl => ?_)
  refine lv_goto (tgt := 15) hx hb dX2_countBeds_29 (by decide) ?_
  refine lv_iload_n hx hb dX2_countBeds_15 rfl (lv_at hl 0 rfl) ?_
  refine lv_iconst (v := 5) hx hb dX2_countBeds_16 (by decide) ?_
  refine lv_icmp_ge (tgt := 32) hx hb dX2_countBeds_17 (by decide) (fun c_7 => absurd c_7 (by decide)) (fun c_7 => ?_)
  refine lv_aload_n hx hb dX2_countBeds_20 rfl (lv_at hl 2 rfl) ?_
  refine lv_iload_n hx hb dX2_countBeds_21 rfl (lv_at hl 3 rfl) ?_
  refine lv_iload_n hx hb dX2_countBeds_22 rfl (lv_at hl 0 rfl) ?_
  refine lv_iadd hx hb dX2_countBeds_23 ?_
  refine lv_tov (nI (g + 2)) (nI_add g 2) ?_
  refine lv_iconst (v := 0) hx hb dX2_countBeds_24 (by decide) ?_
  refine pt_i hx hb hK hP hD hS hL_row hK_row hN_row (nI_in (c := (g + 2)) (by omega) (by omega)) dX2_countBeds_25 (fun r_8 H locs er_8 hP hD hS => ?_)
  refine lv_iinc (v := 3) (lv' := [(3, .int 3), (0, .ref this), (1, .ref row), (2, .int (nI g))]) hx hb dX2_countBeds_26 hl (k := 0) rfl (by decide) (by decide) rfl (fun ls hl => ?_)
  refine lv_goto (tgt := 15) hx hb dX2_countBeds_29 (by decide) ?_
  refine lv_iload_n hx hb dX2_countBeds_15 rfl (lv_at hl 0 rfl) ?_
  refine lv_iconst (v := 5) hx hb dX2_countBeds_16 (by decide) ?_
  refine lv_icmp_ge (tgt := 32) hx hb dX2_countBeds_17 (by decide) (fun c_9 => absurd c_9 (by decide)) (fun c_9 => ?_)
  refine lv_aload_n hx hb dX2_countBeds_20 rfl (lv_at hl 2 rfl) ?_
  refine lv_iload_n hx hb dX2_countBeds_21 rfl (lv_at hl 3 rfl) ?_
  refine lv_iload_n hx hb dX2_countBeds_22 rfl (lv_at hl 0 rfl) ?_
  refine lv_iadd hx hb dX2_countBeds_23 ?_
  refine lv_tov (nI (g + 3)) (nI_add g 3) ?_
  refine lv_iconst (v := 0) hx hb dX2_countBeds_24 (by decide) ?_
  refine pt_i hx hb hK hP hD hS hL_row hK_row hN_row (nI_in (c := (g + 3)) (by omega) (by omega)) dX2_countBeds_25 (fun r_10 H locs er_10 hP hD hS => ?_)
  refine lv_iinc (v := 4) (lv' := [(3, .int 4), (0, .ref this), (1, .ref row), (2, .int (nI g))]) hx hb dX2_countBeds_26 hl (k := 0) rfl (by decide) (by decide) rfl (fun ls hl => ?_)
  refine lv_goto (tgt := 15) hx hb dX2_countBeds_29 (by decide) ?_
  refine lv_iload_n hx hb dX2_countBeds_15 rfl (lv_at hl 0 rfl) ?_
  refine lv_iconst (v := 5) hx hb dX2_countBeds_16 (by decide) ?_
  refine lv_icmp_ge (tgt := 32) hx hb dX2_countBeds_17 (by decide) (fun c_11 => absurd c_11 (by decide)) (fun c_11 => ?_)
  refine lv_aload_n hx hb dX2_countBeds_20 rfl (lv_at hl 2 rfl) ?_
  refine lv_iload_n hx hb dX2_countBeds_21 rfl (lv_at hl 3 rfl) ?_
  refine lv_iload_n hx hb dX2_countBeds_22 rfl (lv_at hl 0 rfl) ?_
  refine lv_iadd hx hb dX2_countBeds_23 ?_
  refine lv_tov (nI (g + 4)) (nI_add g 4) ?_
  refine lv_iconst (v := 0) hx hb dX2_countBeds_24 (by decide) ?_
  refine pt_i hx hb hK hP hD hS hL_row hK_row hN_row (nI_in (c := (g + 4)) (by omega) (by omega)) dX2_countBeds_25 (fun r_12 H locs er_12 hP hD hS => ?_)
  refine lv_iinc (v := 5) (lv' := [(3, .int 5), (0, .ref this), (1, .ref row), (2, .int (nI g))]) hx hb dX2_countBeds_26 hl (k := 0) rfl (by decide) (by decide) rfl (fun ls hl => ?_)
  refine lv_goto (tgt := 15) hx hb dX2_countBeds_29 (by decide) ?_
  refine lv_iload_n hx hb dX2_countBeds_15 rfl (lv_at hl 0 rfl) ?_
  refine lv_iconst (v := 5) hx hb dX2_countBeds_16 (by decide) ?_
  refine lv_icmp_ge (tgt := 32) hx hb dX2_countBeds_17 (by decide) (fun c_13 => ?_) (fun c_13 => absurd c_13 (by decide))
  refine lv_iconst (v := 0) hx hb dX2_countBeds_32 (by decide) ?_
  refine lv_istore_n (lv' := [(3, .int 0), (0, .ref this), (1, .ref row), (2, .int (nI g))]) hx hb dX2_countBeds_33 rfl hl (by decide) rfl (fun ls hl => ?_)
  refine lv_iload_n hx hb dX2_countBeds_34 rfl (lv_at hl 0 rfl) ?_
  refine lv_aload_n hx hb dX2_countBeds_35 rfl (lv_at hl 1 rfl) ?_
  refine pg_f (v := .int (I 65 this)) (C := RX2) (T := TX2) (N := 20) hx hb hts (tw_i inlX2) hown hK hP hL_this hK_this (by decide) rfl 1 (by decide) (hts _ (tw_c tw_222)) rfl dX2_countBeds_36 ?_
  refine lv_tov 0 (congrFun (hZ 65 (by decide)) this) ?_
  refine lv_icmp_ge (tgt := 67) hx hb dX2_countBeds_39 (by decide) (fun c_14 => ?_) (fun c_14 => absurd c_14 (by decide))
  exact W.vret hx hb hr (fun t1 ht hW => ⟨⟨(σ, I, J, r_12, rj, rq), rfl, ⟨r_12, rfl⟩, by rw [ht]; exact hP, va_K.moved hW.alike hK, hD⟩, hS.F ht⟩) hS.2.2 dX2_countBeds_67
