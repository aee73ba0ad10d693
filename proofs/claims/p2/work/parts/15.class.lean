theorem dX10_reckon_0 : decode cX10_reckon 0 = .ok (.aload_n 0, 1) := by decide +kernel
theorem dX10_reckon_1 : decode cX10_reckon 1 = .ok (.getfield 67, 3) := by decide +kernel
theorem dX10_reckon_4 : decode cX10_reckon 4 = .ok (.sipush 600, 3) := by decide +kernel
theorem dX10_reckon_7 : decode cX10_reckon 7 = .ok (.if_icmp .lt 4, 3) := by decide +kernel
theorem dX10_reckon_11 : decode cX10_reckon 11 = .ok (.aload_n 0, 1) := by decide +kernel
theorem dX10_reckon_12 : decode cX10_reckon 12 = .ok (.getfield 46, 3) := by decide +kernel
theorem dX10_reckon_15 : decode cX10_reckon 15 = .ok (.aload_n 0, 1) := by decide +kernel
theorem dX10_reckon_16 : decode cX10_reckon 16 = .ok (.getfield 67, 3) := by decide +kernel
theorem tw_1133 : Cond.methodLink RX10 191 yX3_fixIn ∈ wsL_law := List.mem_of_getElem? (i := 1133) (by decide +kernel)
theorem tw_1009 : Cond.instanceMethod yX3_fixIn ∈ wsL_law := List.mem_of_getElem? (i := 1009) (by decide +kernel)
theorem tw_1010 : Cond.selects RX3 yX3_fixIn yX3_fixIn ∈ wsL_law := List.mem_of_getElem? (i := 1010) (by decide +kernel)
theorem tw_1011 : Cond.code yX3_fixIn cX3_fixIn 2 (some .int) ∈ wsL_law := List.mem_of_getElem? (i := 1011) (by decide +kernel)
theorem dX10_reckon_19 : decode cX10_reckon 19 = .ok (.invokevirtual 191, 3) := by decide +kernel
theorem dX10_reckon_22 : decode cX10_reckon 22 = .ok (.istore_n 1, 1) := by decide +kernel
theorem dX10_reckon_23 : decode cX10_reckon 23 = .ok (.iload_n 1, 1) := by decide +kernel
theorem dX10_reckon_43 : decode cX10_reckon 43 = .ok (.istore_n 2, 1) := by decide +kernel
theorem dX10_reckon_44 : decode cX10_reckon 44 = .ok (.aload_n 0, 1) := by decide +kernel
theorem dX10_reckon_45 : decode cX10_reckon 45 = .ok (.aload_n 0, 1) := by decide +kernel
theorem dX10_reckon_46 : decode cX10_reckon 46 = .ok (.getfield 32, 3) := by decide +kernel
theorem dX10_reckon_49 : decode cX10_reckon 49 = .ok (.aload_n 0, 1) := by decide +kernel
theorem dX10_reckon_50 : decode cX10_reckon 50 = .ok (.getfield 32, 3) := by decide +kernel
theorem tw_1129 : Cond.fieldLink RX10 195 "RingsUnder$Land" "rocks" "[J" ∈ wsL_law := List.mem_of_getElem? (i := 1129) (by decide +kernel)
theorem dX10_reckon_53 : decode cX10_reckon 53 = .ok (.getfield 195, 3) := by decide +kernel
theorem dX10_reckon_56 : decode cX10_reckon 56 = .ok (.iload_n 2, 1) := by decide +kernel
theorem dX10_reckon_57 : decode cX10_reckon 57 = .ok (.laload, 1) := by decide +kernel
theorem dX10_reckon_58 : decode cX10_reckon 58 = .ok (.aload_n 0, 1) := by decide +kernel
theorem dX10_reckon_59 : decode cX10_reckon 59 = .ok (.getfield 25, 3) := by decide +kernel
theorem tw_1130 : Cond.fieldLink RX10 199 "RingsUnder$Seas" "reach" "I" ∈ wsL_law := List.mem_of_getElem? (i := 1130) (by decide +kernel)
theorem dX10_reckon_62 : decode cX10_reckon 62 = .ok (.getfield 199, 3) := by decide +kernel
theorem tw_1134 : Cond.methodLink RX10 202 yX2_countArea ∈ wsL_law := List.mem_of_getElem? (i := 1134) (by decide +kernel)
theorem tw_1135 : Cond.instanceMethod yX2_countArea ∈ wsL_law := List.mem_of_getElem? (i := 1135) (by decide +kernel)
theorem tw_1136 : Cond.selects RX2 yX2_countArea yX2_countArea ∈ wsL_law := List.mem_of_getElem? (i := 1136) (by decide +kernel)
theorem tw_1137 : Cond.code yX2_countArea cX2_countArea 6 (some .int) ∈ wsL_law := List.mem_of_getElem? (i := 1137) (by decide +kernel)
theorem dX10_reckon_65 : decode cX10_reckon 65 = .ok (.invokevirtual 202, 3) := by decide +kernel
theorem dX10_reckon_68 : decode cX10_reckon 68 = .ok (.putfield 15, 3) := by decide +kernel
theorem dX10_reckon_71 : decode cX10_reckon 71 = .ok (.aload_n 0, 1) := by decide +kernel
theorem dX10_reckon_72 : decode cX10_reckon 72 = .ok (.dup, 1) := by decide +kernel
theorem dX10_reckon_73 : decode cX10_reckon 73 = .ok (.getfield 70, 3) := by decide +kernel
theorem dX10_reckon_76 : decode cX10_reckon 76 = .ok (.aload_n 0, 1) := by decide +kernel
theorem dX10_reckon_77 : decode cX10_reckon 77 = .ok (.getfield 39, 3) := by decide +kernel
theorem tw_1153 : Cond.methodLink RX10 206 yX0_sendings ∈ wsL_law := List.mem_of_getElem? (i := 1153) (by decide +kernel)
theorem tw_1154 : Cond.instanceMethod yX0_sendings ∈ wsL_law := List.mem_of_getElem? (i := 1154) (by decide +kernel)
theorem tw_1155 : Cond.selects RX0 yX0_sendings yX0_sendings ∈ wsL_law := List.mem_of_getElem? (i := 1155) (by decide +kernel)
theorem tw_1156 : Cond.code yX0_sendings cX0_sendings 3 (some .int) ∈ wsL_law := List.mem_of_getElem? (i := 1156) (by decide +kernel)
theorem dX10_reckon_80 : decode cX10_reckon 80 = .ok (.invokevirtual 206, 3) := by decide +kernel
theorem dX10_reckon_83 : decode cX10_reckon 83 = .ok (.aload_n 0, 1) := by decide +kernel
theorem dX10_reckon_84 : decode cX10_reckon 84 = .ok (.getfield 46, 3) := by decide +kernel
theorem dX10_reckon_87 : decode cX10_reckon 87 = .ok (.aload_n 0, 1) := by decide +kernel
theorem dX10_reckon_88 : decode cX10_reckon 88 = .ok (.getfield 67, 3) := by decide +kernel
theorem tw_1157 : Cond.methodLink RX10 210 yX3_leaveIn ∈ wsL_law := List.mem_of_getElem? (i := 1157) (by decide +kernel)
theorem tw_1005 : Cond.instanceMethod yX3_leaveIn ∈ wsL_law := List.mem_of_getElem? (i := 1005) (by decide +kernel)
theorem tw_1006 : Cond.selects RX3 yX3_leaveIn yX3_leaveIn ∈ wsL_law := List.mem_of_getElem? (i := 1006) (by decide +kernel)
theorem tw_1007 : Cond.code yX3_leaveIn cX3_leaveIn 2 (some .int) ∈ wsL_law := List.mem_of_getElem? (i := 1007) (by decide +kernel)
theorem dX10_reckon_91 : decode cX10_reckon 91 = .ok (.invokevirtual 210, 3) := by decide +kernel
theorem dX10_reckon_94 : decode cX10_reckon 94 = .ok (.aload_n 0, 1) := by decide +kernel
theorem dX10_reckon_95 : decode cX10_reckon 95 = .ok (.getfield 15, 3) := by decide +kernel
theorem dX10_reckon_98 : decode cX10_reckon 98 = .ok (.imul, 1) := by decide +kernel
theorem dX10_reckon_99 : decode cX10_reckon 99 = .ok (.bipush 100, 2) := by decide +kernel
theorem dX10_reckon_101 : decode cX10_reckon 101 = .ok (.idiv, 1) := by decide +kernel
theorem dX10_reckon_102 : decode cX10_reckon 102 = .ok (.iadd, 1) := by decide +kernel
theorem dX10_reckon_103 : decode cX10_reckon 103 = .ok (.aload_n 0, 1) := by decide +kernel
theorem dX10_reckon_104 : decode cX10_reckon 104 = .ok (.getfield 25, 3) := by decide +kernel
theorem tw_1132 : Cond.fieldLink RX10 213 "RingsUnder$Seas" "cost" "I" ∈ wsL_law := List.mem_of_getElem? (i := 1132) (by decide +kernel)
theorem dX10_reckon_107 : decode cX10_reckon 107 = .ok (.getfield 213, 3) := by decide +kernel
theorem dX10_reckon_110 : decode cX10_reckon 110 = .ok (.aload_n 0, 1) := by decide +kernel
theorem dX10_reckon_111 : decode cX10_reckon 111 = .ok (.getfield 32, 3) := by decide +kernel
theorem tw_1158 : Cond.methodLink RX10 216 yX2_countWalls ∈ wsL_law := List.mem_of_getElem? (i := 1158) (by decide +kernel)
theorem tw_1159 : Cond.instanceMethod yX2_countWalls ∈ wsL_law := List.mem_of_getElem? (i := 1159) (by decide +kernel)
theorem tw_1160 : Cond.selects RX2 yX2_countWalls yX2_countWalls ∈ wsL_law := List.mem_of_getElem? (i := 1160) (by decide +kernel)
theorem tw_1161 : Cond.code yX2_countWalls cX2_countWalls 3 (some .int) ∈ wsL_law := List.mem_of_getElem? (i := 1161) (by decide +kernel)
theorem dX10_reckon_114 : decode cX10_reckon 114 = .ok (.invokevirtual 216, 3) := by decide +kernel
theorem dX10_reckon_117 : decode cX10_reckon 117 = .ok (.imul, 1) := by decide +kernel
theorem dX10_reckon_118 : decode cX10_reckon 118 = .ok (.isub, 1) := by decide +kernel
theorem dX10_reckon_119 : decode cX10_reckon 119 = .ok (.iadd, 1) := by decide +kernel
theorem dX10_reckon_120 : decode cX10_reckon 120 = .ok (.putfield 70, 3) := by decide +kernel
theorem dX10_reckon_123 : decode cX10_reckon 123 = .ok (.aload_n 0, 1) := by decide +kernel
theorem dX10_reckon_124 : decode cX10_reckon 124 = .ok (.getfield 70, 3) := by decide +kernel
theorem dX10_reckon_127 : decode cX10_reckon 127 = .ok (.ifCond .ge 19, 3) := by decide +kernel
theorem dX10_reckon_146 : decode cX10_reckon 146 = .ok (.return_, 1) := by decide +kernel
theorem dX10_reckon_130 : decode cX10_reckon 130 = .ok (.aload_n 0, 1) := by decide +kernel
theorem dX10_reckon_131 : decode cX10_reckon 131 = .ok (.getfield 9, 3) := by decide +kernel
theorem dX10_reckon_134 : decode cX10_reckon 134 = .ok (.iconst (-1), 1) := by decide +kernel
theorem dX10_reckon_135 : decode cX10_reckon 135 = .ok (.if_icmp .ne 11, 3) := by decide +kernel
theorem dX10_reckon_138 : decode cX10_reckon 138 = .ok (.aload_n 0, 1) := by decide +kernel
theorem dX10_reckon_139 : decode cX10_reckon 139 = .ok (.aload_n 0, 1) := by decide +kernel
theorem dX10_reckon_140 : decode cX10_reckon 140 = .ok (.getfield 67, 3) := by decide +kernel
theorem dX10_reckon_143 : decode cX10_reckon 143 = .ok (.putfield 9, 3) := by decide +kernel
theorem dX10_reckon_39 : decode cX10_reckon 39 = .ok (.aload_n 0, 1) := by decide +kernel
theorem dX10_reckon_40 : decode cX10_reckon 40 = .ok (.getfield 67, 3) := by decide +kernel
theorem dX10_reckon_24 : decode cX10_reckon 24 = .ok (.ifCond .lt 15, 3) := by decide +kernel
theorem dX10_reckon_27 : decode cX10_reckon 27 = .ok (.iload_n 1, 1) := by decide +kernel
theorem dX10_reckon_28 : decode cX10_reckon 28 = .ok (.aload_n 0, 1) := by decide +kernel
theorem dX10_reckon_29 : decode cX10_reckon 29 = .ok (.getfield 67, 3) := by decide +kernel
theorem dX10_reckon_32 : decode cX10_reckon 32 = .ok (.if_icmp .ge 7, 3) := by decide +kernel
theorem dX10_reckon_35 : decode cX10_reckon 35 = .ok (.iload_n 1, 1) := by decide +kernel
theorem dX10_reckon_36 : decode cX10_reckon 36 = .ok (.goto 7, 3) := by decide +kernel
theorem dX10_reckon_10 : decode cX10_reckon 10 = .ok (.return_, 1) := by decide +kernel
theorem dX3_line_0 : decode cX3_line 0 = .ok (.aload_n 3, 1) := by decide +kernel
theorem dX3_line_1 : decode cX3_line 1 = .ok (.getfield 60, 3) := by decide +kernel
theorem dX3_line_4 : decode cX3_line 4 = .ok (.aload 4, 2) := by decide +kernel
theorem dX3_line_6 : decode cX3_line 6 = .ok (.arraylength, 1) := by decide +kernel
theorem tw_466 : Cond.methodLink RX3 80 Lib.Math.min.name ∈ wsL_law := List.mem_of_getElem? (i := 466) (by decide +kernel)
theorem dX3_line_7 : decode cX3_line 7 = .ok (.invokestatic 80, 3) := by decide +kernel
theorem dX3_line_10 : decode cX3_line 10 = .ok (.istore 5, 2) := by decide +kernel
theorem dX3_line_12 : decode cX3_line 12 = .ok (.iconst 0, 1) := by decide +kernel
theorem dX3_line_13 : decode cX3_line 13 = .ok (.istore 6, 2) := by decide +kernel
theorem dX3_line_15 : decode cX3_line 15 = .ok (.iload 6, 2) := by decide +kernel
theorem dX3_line_17 : decode cX3_line 17 = .ok (.iload 5, 2) := by decide +kernel
theorem dX3_line_19 : decode cX3_line 19 = .ok (.if_icmp .ge 16, 3) := by decide +kernel
theorem dX3_line_35 : decode cX3_line 35 = .ok (.aload_n 0, 1) := by decide +kernel
theorem dX3_line_36 : decode cX3_line 36 = .ok (.iload_n 1, 1) := by decide +kernel
theorem dX3_line_37 : decode cX3_line 37 = .ok (.iload_n 2, 1) := by decide +kernel
theorem dX3_line_38 : decode cX3_line 38 = .ok (.invokevirtual 52, 3) := by decide +kernel
theorem dX3_line_41 : decode cX3_line 41 = .ok (.astore 6, 2) := by decide +kernel
theorem dX3_line_43 : decode cX3_line 43 = .ok (.aload 6, 2) := by decide +kernel
theorem dX3_line_45 : decode cX3_line 45 = .ok (.ifnonnull 4, 3) := by decide +kernel
theorem dX3_line_48 : decode cX3_line 48 = .ok (.return_, 1) := by decide +kernel
theorem dX3_line_49 : decode cX3_line 49 = .ok (.aload 6, 2) := by decide +kernel
theorem dX3_line_51 : decode cX3_line 51 = .ok (.iload_n 1, 1) := by decide +kernel
theorem dX3_line_52 : decode cX3_line 52 = .ok (.invokevirtual 44, 3) := by decide +kernel
theorem dX3_line_55 : decode cX3_line 55 = .ok (.istore 7, 2) := by decide +kernel
theorem dX3_line_57 : decode cX3_line 57 = .ok (.iconst 1, 1) := by decide +kernel
theorem dX3_line_58 : decode cX3_line 58 = .ok (.istore 8, 2) := by decide +kernel
theorem dX3_line_60 : decode cX3_line 60 = .ok (.iload 8, 2) := by decide +kernel
theorem dX3_line_62 : decode cX3_line 62 = .ok (.iload 5, 2) := by decide +kernel
theorem dX3_line_64 : decode cX3_line 64 = .ok (.if_icmp .ge 70, 3) := by decide +kernel
theorem dX3_line_134 : decode cX3_line 134 = .ok (.return_, 1) := by decide +kernel
theorem dX3_line_67 : decode cX3_line 67 = .ok (.aload 4, 2) := by decide +kernel
theorem dX3_line_69 : decode cX3_line 69 = .ok (.iload 8, 2) := by decide +kernel
theorem dX3_line_71 : decode cX3_line 71 = .ok (.iaload, 1) := by decide +kernel
theorem dX3_line_72 : decode cX3_line 72 = .ok (.istore 9, 2) := by decide +kernel
theorem dX3_line_74 : decode cX3_line 74 = .ok (.iload 8, 2) := by decide +kernel
theorem dX3_line_76 : decode cX3_line 76 = .ok (.istore 10, 2) := by decide +kernel
theorem dX3_line_78 : decode cX3_line 78 = .ok (.iload 10, 2) := by decide +kernel
theorem dX3_line_121 : decode cX3_line 121 = .ok (.aload 4, 2) := by decide +kernel
theorem dX3_line_123 : decode cX3_line 123 = .ok (.iload 10, 2) := by decide +kernel
theorem dX3_line_125 : decode cX3_line 125 = .ok (.iload 9, 2) := by decide +kernel
theorem dX3_line_127 : decode cX3_line 127 = .ok (.iastore, 1) := by decide +kernel
theorem dX3_line_128 : decode cX3_line 128 = .ok (.iinc 8 1, 3) := by decide +kernel
theorem dX3_line_131 : decode cX3_line 131 = .ok (.goto (-71), 3) := by decide +kernel
theorem dX3_line_80 : decode cX3_line 80 = .ok (.ifCond .le 41, 3) := by decide +kernel
theorem dX3_line_83 : decode cX3_line 83 = .ok (.aload 6, 2) := by decide +kernel
theorem dX3_line_85 : decode cX3_line 85 = .ok (.iload 7, 2) := by decide +kernel
theorem dX3_line_87 : decode cX3_line 87 = .ok (.aload_n 3, 1) := by decide +kernel
theorem dX3_line_88 : decode cX3_line 88 = .ok (.iload 9, 2) := by decide +kernel
theorem dX3_line_90 : decode cX3_line 90 = .ok (.aload 4, 2) := by decide +kernel
theorem dX3_line_92 : decode cX3_line 92 = .ok (.iload 10, 2) := by decide +kernel
theorem dX3_line_94 : decode cX3_line 94 = .ok (.iconst 1, 1) := by decide +kernel
theorem dX3_line_95 : decode cX3_line 95 = .ok (.isub, 1) := by decide +kernel
theorem dX3_line_96 : decode cX3_line 96 = .ok (.iaload, 1) := by decide +kernel
theorem tw_479 : Cond.methodLink RX3 85 yX8_isAhead ∈ wsL_law := List.mem_of_getElem? (i := 479) (by decide +kernel)
theorem tw_480 : Cond.instanceMethod yX8_isAhead ∈ wsL_law := List.mem_of_getElem? (i := 480) (by decide +kernel)
theorem tw_481 : Cond.selects RX8 yX8_isAhead yX8_isAhead ∈ wsL_law := List.mem_of_getElem? (i := 481) (by decide +kernel)
theorem tw_482 : Cond.code yX8_isAhead cX8_isAhead 8 (some .boolean) ∈ wsL_law := List.mem_of_getElem? (i := 482) (by decide +kernel)
theorem dX3_line_97 : decode cX3_line 97 = .ok (.invokevirtual 85, 3) := by decide +kernel
theorem dX3_line_100 : decode cX3_line 100 = .ok (.ifCond .eq 21, 3) := by decide +kernel
theorem dX3_line_103 : decode cX3_line 103 = .ok (.aload 4, 2) := by decide +kernel
theorem dX3_line_105 : decode cX3_line 105 = .ok (.iload 10, 2) := by decide +kernel
theorem dX3_line_107 : decode cX3_line 107 = .ok (.aload 4, 2) := by decide +kernel
theorem dX3_line_109 : decode cX3_line 109 = .ok (.iload 10, 2) := by decide +kernel
theorem dX3_line_111 : decode cX3_line 111 = .ok (.iconst 1, 1) := by decide +kernel
theorem dX3_line_112 : decode cX3_line 112 = .ok (.isub, 1) := by decide +kernel
theorem dX3_line_113 : decode cX3_line 113 = .ok (.iaload, 1) := by decide +kernel
theorem dX3_line_114 : decode cX3_line 114 = .ok (.iastore, 1) := by decide +kernel
theorem dX3_line_115 : decode cX3_line 115 = .ok (.iinc 10 (-1), 3) := by decide +kernel
theorem dX3_line_118 : decode cX3_line 118 = .ok (.goto (-40), 3) := by decide +kernel
theorem dX3_line_22 : decode cX3_line 22 = .ok (.aload 4, 2) := by decide +kernel
theorem dX3_line_24 : decode cX3_line 24 = .ok (.iload 6, 2) := by decide +kernel
theorem dX3_line_26 : decode cX3_line 26 = .ok (.iload 6, 2) := by decide +kernel
theorem dX3_line_28 : decode cX3_line 28 = .ok (.iastore, 1) := by decide +kernel
theorem dX3_line_29 : decode cX3_line 29 = .ok (.iinc 6 1, 3) := by decide +kernel
theorem dX3_line_32 : decode cX3_line 32 = .ok (.goto (-17), 3) := by decide +kernel
theorem dX10_goBy_0 : decode cX10_goBy 0 = .ok (.aload_n 0, 1) := by decide +kernel
theorem dX10_goBy_1 : decode cX10_goBy 1 = .ok (.getfield 67, 3) := by decide +kernel
theorem dX10_goBy_4 : decode cX10_goBy 4 = .ok (.sipush 600, 3) := by decide +kernel
theorem dX10_goBy_7 : decode cX10_goBy 7 = .ok (.if_icmp .lt 4, 3) := by decide +kernel
theorem dX10_goBy_11 : decode cX10_goBy 11 = .ok (.aload_n 0, 1) := by decide +kernel
theorem dX10_goBy_12 : decode cX10_goBy 12 = .ok (.iload_n 1, 1) := by decide +kernel
theorem tw_1047 : Cond.methodLink RX10 96 yX10_nature ∈ wsL_law := List.mem_of_getElem? (i := 1047) (by decide +kernel)
theorem dX10_goBy_13 : decode cX10_goBy 13 = .ok (.invokevirtual 96, 3) := by decide +kernel
theorem dX10_goBy_16 : decode cX10_goBy 16 = .ok (.aload_n 0, 1) := by decide +kernel
theorem dX10_goBy_17 : decode cX10_goBy 17 = .ok (.getfield 32, 3) := by decide +kernel
theorem tw_1043 : Cond.fieldLink RX10 100 "RingsUnder$Land" "wells" "LRingsUnder$Wells;" ∈ wsL_law := List.mem_of_getElem? (i := 1043) (by decide +kernel)
theorem dX10_goBy_20 : decode cX10_goBy 20 = .ok (.getfield 100, 3) := by decide +kernel
theorem dX10_goBy_23 : decode cX10_goBy 23 = .ok (.aload_n 0, 1) := by decide +kernel
theorem dX10_goBy_24 : decode cX10_goBy 24 = .ok (.getfield 32, 3) := by decide +kernel
theorem tw_498 : Cond.fieldLink RX10 104 "RingsUnder$Land" "cells" "I" ∈ wsL_law := List.mem_of_getElem? (i := 498) (by decide +kernel)
theorem dX10_goBy_27 : decode cX10_goBy 27 = .ok (.getfield 104, 3) := by decide +kernel
theorem dX10_goBy_30 : decode cX10_goBy 30 = .ok (.aload_n 0, 1) := by decide +kernel
theorem dX10_goBy_31 : decode cX10_goBy 31 = .ok (.getfield 32, 3) := by decide +kernel
theorem tw_1044 : Cond.fieldLink RX10 107 "RingsUnder$Land" "dry" "J" ∈ wsL_law := List.mem_of_getElem? (i := 1044) (by decide +kernel)
theorem dX10_goBy_34 : decode cX10_goBy 34 = .ok (.getfield 107, 3) := by decide +kernel
theorem dX10_goBy_37 : decode cX10_goBy 37 = .ok (.aload_n 0, 1) := by decide +kernel
theorem dX10_goBy_38 : decode cX10_goBy 38 = .ok (.getfield 25, 3) := by decide +kernel
theorem tw_1045 : Cond.fieldLink RX10 111 "RingsUnder$Seas" "rain" "[I" ∈ wsL_law := List.mem_of_getElem? (i := 1045) (by decide +kernel)
theorem dX10_goBy_41 : decode cX10_goBy 41 = .ok (.getfield 111, 3) := by decide +kernel
theorem dX10_goBy_44 : decode cX10_goBy 44 = .ok (.aload_n 0, 1) := by decide +kernel
theorem dX10_goBy_45 : decode cX10_goBy 45 = .ok (.getfield 67, 3) := by decide +kernel
theorem dX10_goBy_48 : decode cX10_goBy 48 = .ok (.bipush 12, 2) := by decide +kernel
theorem dX10_goBy_50 : decode cX10_goBy 50 = .ok (.irem, 1) := by decide +kernel
theorem dX10_goBy_51 : decode cX10_goBy 51 = .ok (.iaload, 1) := by decide +kernel
theorem tw_1083 : Cond.methodLink RX10 114 yX9_fillUp ∈ wsL_law := List.mem_of_getElem? (i := 1083) (by decide +kernel)
theorem dX10_goBy_52 : decode cX10_goBy 52 = .ok (.invokevirtual 114, 3) := by decide +kernel
theorem dX10_goBy_55 : decode cX10_goBy 55 = .ok (.aload_n 0, 1) := by decide +kernel
theorem dX10_goBy_56 : decode cX10_goBy 56 = .ok (.getfield 32, 3) := by decide +kernel
theorem dX10_goBy_59 : decode cX10_goBy 59 = .ok (.aload_n 0, 1) := by decide +kernel
theorem tw_56 : Cond.fieldLink RX10 60 "RingsUnder$World" "ringBeds" "[I" ∈ wsL_law := List.mem_of_getElem? (i := 56) (by decide +kernel)
theorem dX10_goBy_60 : decode cX10_goBy 60 = .ok (.getfield 60, 3) := by decide +kernel
theorem dX10_goBy_63 : decode cX10_goBy 63 = .ok (.iconst 0, 1) := by decide +kernel
theorem tw_1090 : Cond.methodLink RX10 120 yX2_countBeds ∈ wsL_law := List.mem_of_getElem? (i := 1090) (by decide +kernel)
theorem dX10_goBy_64 : decode cX10_goBy 64 = .ok (.invokevirtual 120, 3) := by decide +kernel
theorem dX10_goBy_67 : decode cX10_goBy 67 = .ok (.aload_n 0, 1) := by decide +kernel
theorem dX10_goBy_68 : decode cX10_goBy 68 = .ok (.getfield 39, 3) := by decide +kernel
theorem dX10_goBy_71 : decode cX10_goBy 71 = .ok (.aload_n 0, 1) := by decide +kernel
theorem dX10_goBy_72 : decode cX10_goBy 72 = .ok (.getfield 32, 3) := by decide +kernel
theorem tw_1094 : Cond.methodLink RX10 123 yX0_drink ∈ wsL_law := List.mem_of_getElem? (i := 1094) (by decide +kernel)
theorem dX10_goBy_75 : decode cX10_goBy 75 = .ok (.invokevirtual 123, 3) := by decide +kernel
theorem dX10_goBy_78 : decode cX10_goBy 78 = .ok (.pop, 1) := by decide +kernel
theorem dX10_goBy_79 : decode cX10_goBy 79 = .ok (.aload_n 0, 1) := by decide +kernel
theorem dX10_goBy_80 : decode cX10_goBy 80 = .ok (.getfield 39, 3) := by decide +kernel
theorem dX10_goBy_83 : decode cX10_goBy 83 = .ok (.aload_n 0, 1) := by decide +kernel
theorem dX10_goBy_84 : decode cX10_goBy 84 = .ok (.getfield 60, 3) := by decide +kernel
theorem dX10_goBy_87 : decode cX10_goBy 87 = .ok (.iconst 0, 1) := by decide +kernel
theorem tw_1120 : Cond.methodLink RX10 127 yX0_sleep ∈ wsL_law := List.mem_of_getElem? (i := 1120) (by decide +kernel)
theorem dX10_goBy_88 : decode cX10_goBy 88 = .ok (.invokevirtual 127, 3) := by decide +kernel
theorem dX10_goBy_91 : decode cX10_goBy 91 = .ok (.pop, 1) := by decide +kernel
theorem dX10_goBy_92 : decode cX10_goBy 92 = .ok (.aload_n 0, 1) := by decide +kernel
theorem tw_1125 : Cond.methodLink RX10 131 yX10_reckon ∈ wsL_law := List.mem_of_getElem? (i := 1125) (by decide +kernel)
theorem tw_1126 : Cond.instanceMethod yX10_reckon ∈ wsL_law := List.mem_of_getElem? (i := 1126) (by decide +kernel)
theorem tw_1127 : Cond.selects RX10 yX10_reckon yX10_reckon ∈ wsL_law := List.mem_of_getElem? (i := 1127) (by decide +kernel)
theorem tw_1128 : Cond.code yX10_reckon cX10_reckon 3 none ∈ wsL_law := List.mem_of_getElem? (i := 1128) (by decide +kernel)
theorem dX10_goBy_93 : decode cX10_goBy 93 = .ok (.invokevirtual 131, 3) := by decide +kernel
theorem dX10_goBy_96 : decode cX10_goBy 96 = .ok (.aload_n 0, 1) := by decide +kernel
theorem dX10_goBy_97 : decode cX10_goBy 97 = .ok (.getfield 73, 3) := by decide +kernel
theorem dX10_goBy_174 : decode cX10_goBy 174 = .ok (.aload_n 0, 1) := by decide +kernel
theorem dX10_goBy_175 : decode cX10_goBy 175 = .ok (.dup, 1) := by decide +kernel
theorem dX10_goBy_176 : decode cX10_goBy 176 = .ok (.getfield 67, 3) := by decide +kernel
theorem dX10_goBy_179 : decode cX10_goBy 179 = .ok (.iconst 1, 1) := by decide +kernel
theorem dX10_goBy_180 : decode cX10_goBy 180 = .ok (.iadd, 1) := by decide +kernel
theorem dX10_goBy_181 : decode cX10_goBy 181 = .ok (.putfield 67, 3) := by decide +kernel
theorem dX10_goBy_184 : decode cX10_goBy 184 = .ok (.return_, 1) := by decide +kernel
theorem dX10_goBy_100 : decode cX10_goBy 100 = .ok (.ifCond .le 74, 3) := by decide +kernel
theorem dX10_goBy_103 : decode cX10_goBy 103 = .ok (.aload_n 0, 1) := by decide +kernel
theorem dX10_goBy_104 : decode cX10_goBy 104 = .ok (.getfield 46, 3) := by decide +kernel
theorem dX10_goBy_107 : decode cX10_goBy 107 = .ok (.iconst 4, 1) := by decide +kernel
theorem dX10_goBy_108 : decode cX10_goBy 108 = .ok (.aload_n 0, 1) := by decide +kernel
theorem dX10_goBy_109 : decode cX10_goBy 109 = .ok (.getfield 67, 3) := by decide +kernel
theorem dX10_goBy_112 : decode cX10_goBy 112 = .ok (.aload_n 0, 1) := by decide +kernel
theorem dX10_goBy_113 : decode cX10_goBy 113 = .ok (.getfield 39, 3) := by decide +kernel
theorem dX10_goBy_116 : decode cX10_goBy 116 = .ok (.aload_n 0, 1) := by decide +kernel
theorem tw_55 : Cond.fieldLink RX10 57 "RingsUnder$World" "queue" "[I" ∈ wsL_law := List.mem_of_getElem? (i := 55) (by decide +kernel)
theorem dX10_goBy_117 : decode cX10_goBy 117 = .ok (.getfield 57, 3) := by decide +kernel
theorem tw_461 : Cond.methodLink RX10 134 yX3_line ∈ wsL_law := List.mem_of_getElem? (i := 461) (by decide +kernel)
theorem tw_462 : Cond.instanceMethod yX3_line ∈ wsL_law := List.mem_of_getElem? (i := 462) (by decide +kernel)
theorem tw_463 : Cond.selects RX3 yX3_line yX3_line ∈ wsL_law := List.mem_of_getElem? (i := 463) (by decide +kernel)
theorem tw_464 : Cond.code yX3_line cX3_line 11 none ∈ wsL_law := List.mem_of_getElem? (i := 464) (by decide +kernel)
theorem dX10_goBy_120 : decode cX10_goBy 120 = .ok (.invokevirtual 134, 3) := by decide +kernel
theorem dX10_goBy_123 : decode cX10_goBy 123 = .ok (.aload_n 0, 1) := by decide +kernel
theorem dX10_goBy_124 : decode cX10_goBy 124 = .ok (.getfield 46, 3) := by decide +kernel
theorem dX10_goBy_127 : decode cX10_goBy 127 = .ok (.iconst 2, 1) := by decide +kernel
theorem dX10_goBy_128 : decode cX10_goBy 128 = .ok (.aload_n 0, 1) := by decide +kernel
theorem dX10_goBy_129 : decode cX10_goBy 129 = .ok (.getfield 67, 3) := by decide +kernel
theorem dX10_goBy_132 : decode cX10_goBy 132 = .ok (.aload_n 0, 1) := by decide +kernel
theorem dX10_goBy_133 : decode cX10_goBy 133 = .ok (.getfield 39, 3) := by decide +kernel
theorem dX10_goBy_136 : decode cX10_goBy 136 = .ok (.aload_n 0, 1) := by decide +kernel
theorem dX10_goBy_137 : decode cX10_goBy 137 = .ok (.getfield 39, 3) := by decide +kernel
theorem tw_1162 : Cond.methodLink RX10 138 yX0_onRings ∈ wsL_law := List.mem_of_getElem? (i := 1162) (by decide +kernel)
theorem dX10_goBy_140 : decode cX10_goBy 140 = .ok (.invokevirtual 138, 3) := by decide +kernel
theorem tw_1166 : Cond.methodLink RX10 142 yX3_whoIsSo ∈ wsL_law := List.mem_of_getElem? (i := 1166) (by decide +kernel)
theorem dX10_goBy_143 : decode cX10_goBy 143 = .ok (.invokevirtual 142, 3) := by decide +kernel
theorem dX10_goBy_146 : decode cX10_goBy 146 = .ok (.lstore_n 2, 1) := by decide +kernel
theorem dX10_goBy_147 : decode cX10_goBy 147 = .ok (.aload_n 0, 1) := by decide +kernel
theorem dX10_goBy_148 : decode cX10_goBy 148 = .ok (.getfield 39, 3) := by decide +kernel
theorem dX10_goBy_151 : decode cX10_goBy 151 = .ok (.lload_n 2, 1) := by decide +kernel
theorem dX10_goBy_152 : decode cX10_goBy 152 = .ok (.aload_n 0, 1) := by decide +kernel
theorem dX10_goBy_153 : decode cX10_goBy 153 = .ok (.getfield 57, 3) := by decide +kernel
theorem dX10_goBy_156 : decode cX10_goBy 156 = .ok (.aload_n 0, 1) := by decide +kernel
theorem dX10_goBy_157 : decode cX10_goBy 157 = .ok (.getfield 39, 3) := by decide +kernel
theorem tw_458 : Cond.fieldLink RX10 146 "RingsUnder$Folk" "persons" "I" ∈ wsL_law := List.mem_of_getElem? (i := 458) (by decide +kernel)
theorem dX10_goBy_160 : decode cX10_goBy 160 = .ok (.getfield 146, 3) := by decide +kernel
theorem dX10_goBy_163 : decode cX10_goBy 163 = .ok (.aload_n 0, 1) := by decide +kernel
theorem dX10_goBy_164 : decode cX10_goBy 164 = .ok (.getfield 73, 3) := by decide +kernel
theorem dX10_goBy_167 : decode cX10_goBy 167 = .ok (.aload_n 0, 1) := by decide +kernel
theorem dX10_goBy_168 : decode cX10_goBy 168 = .ok (.getfield 67, 3) := by decide +kernel
theorem tw_1167 : Cond.methodLink RX10 149 yX0_board ∈ wsL_law := List.mem_of_getElem? (i := 1167) (by decide +kernel)
theorem dX10_goBy_171 : decode cX10_goBy 171 = .ok (.invokevirtual 149, 3) := by decide +kernel
theorem dX10_goBy_10 : decode cX10_goBy 10 = .ok (.return_, 1) := by decide +kernel
theorem dX10_sandBehind_0 : decode cX10_sandBehind 0 = .ok (.iconst 0, 1) := by decide +kernel
theorem dX10_sandBehind_1 : decode cX10_sandBehind 1 = .ok (.istore_n 3, 1) := by decide +kernel
theorem dX10_sandBehind_2 : decode cX10_sandBehind 2 = .ok (.iload_n 3, 1) := by decide +kernel
theorem dX10_sandBehind_3 : decode cX10_sandBehind 3 = .ok (.iload_n 1, 1) := by decide +kernel
theorem dX10_sandBehind_4 : decode cX10_sandBehind 4 = .ok (.if_icmp .ge 33, 3) := by decide +kernel
theorem dX10_sandBehind_37 : decode cX10_sandBehind 37 = .ok (.aload_n 0, 1) := by decide +kernel
theorem dX10_sandBehind_38 : decode cX10_sandBehind 38 = .ok (.getfield 32, 3) := by decide +kernel
theorem tw_1419 : Cond.fieldLink RX10 219 "RingsUnder$Land" "sand" "[I" ∈ wsL_law := List.mem_of_getElem? (i := 1419) (by decide +kernel)
theorem dX10_sandBehind_41 : decode cX10_sandBehind 41 = .ok (.getfield 219, 3) := by decide +kernel
theorem dX10_sandBehind_44 : decode cX10_sandBehind 44 = .ok (.iload_n 2, 1) := by decide +kernel
theorem dX10_sandBehind_45 : decode cX10_sandBehind 45 = .ok (.iaload, 1) := by decide +kernel
theorem dX10_sandBehind_46 : decode cX10_sandBehind 46 = .ok (.ireturn, 1) := by decide +kernel
theorem dX10_sandBehind_7 : decode cX10_sandBehind 7 = .ok (.aload_n 0, 1) := by decide +kernel
theorem dX10_sandBehind_8 : decode cX10_sandBehind 8 = .ok (.getfield 32, 3) := by decide +kernel
theorem dX10_sandBehind_11 : decode cX10_sandBehind 11 = .ok (.aload_n 0, 1) := by decide +kernel
theorem dX10_sandBehind_12 : decode cX10_sandBehind 12 = .ok (.getfield 25, 3) := by decide +kernel
theorem dX10_sandBehind_15 : decode cX10_sandBehind 15 = .ok (.getfield 172, 3) := by decide +kernel
theorem dX10_sandBehind_18 : decode cX10_sandBehind 18 = .ok (.aload_n 0, 1) := by decide +kernel
theorem dX10_sandBehind_19 : decode cX10_sandBehind 19 = .ok (.getfield 67, 3) := by decide +kernel
theorem dX10_sandBehind_22 : decode cX10_sandBehind 22 = .ok (.iload_n 3, 1) := by decide +kernel
theorem dX10_sandBehind_23 : decode cX10_sandBehind 23 = .ok (.iadd, 1) := by decide +kernel
theorem dX10_sandBehind_24 : decode cX10_sandBehind 24 = .ok (.bipush 12, 2) := by decide +kernel
theorem dX10_sandBehind_26 : decode cX10_sandBehind 26 = .ok (.irem, 1) := by decide +kernel
theorem dX10_sandBehind_27 : decode cX10_sandBehind 27 = .ok (.iaload, 1) := by decide +kernel
theorem dX10_sandBehind_28 : decode cX10_sandBehind 28 = .ok (.invokevirtual 175, 3) := by decide +kernel
theorem dX10_sandBehind_31 : decode cX10_sandBehind 31 = .ok (.iinc 3 1, 3) := by decide +kernel
theorem dX10_sandBehind_34 : decode cX10_sandBehind 34 = .ok (.goto (-32), 3) := by decide +kernel
set_option maxHeartbeats 4000000 in
set_option maxRecDepth 100000 in
theorem s_X2_countBeds_332 (l : Launch) (D : va_G) (t : pq_T) (σ : pq_S) (I : Nat → Nat → Int32) (J : Nat → Nat → Int64) (ri : Nat → Nat → Int32) (rj : Nat → Nat → Int64) (rq : Nat → Nat → Option Nat) (sz : Nat) (tg : Nat → Nat) (hSH : SH σ tg) (hG0 : GS tg σ I ri rq) (this : Nat) (a0 : Nat) (a1 : Int32) (hL_this : this ∈ σ.1) (hK_this : σ.2.1 this = 2) (hL_a0 : a0 ∈ σ.1) (hK_a0 : σ.2.1 a0 = 13) (hN_a0 : σ.2.2.2 a0 = 5) (hT_a0 : tg a0 = 332) (h_a1 : rg a1 0 0) : MetV l yX2_countBeds (wa yX2_countBeds cX2_countBeds 4 none) ({ frames := 0, cells := 0, slots := 0, locals := 0 }) [.ref this, .ref a0, .int a1] D t σ (I, J, ri, rj, rq) sz 0 0 (fun (u : pq_S × pq_M) => ∃ ri' : Nat → Nat → Int32, u = (σ, I, J, ri', rj, rq) ∧ GX [] tg σ I I ri' rq) := by
  refine Met.ofW (cc := cX2_countBeds) (maxL := 4) (ret := none) (by decide) rfl ?_
  intro p e s m args below meth c s₁ B hml hv
  obtain ⟨rfl, hsz, hP, hK, hD0, hN⟩ := hv
  have hx := B.exec
  have hb := B.bytes
  have hr := B.returns
  have hts := atoms_spec (ws := (wa yX2_countBeds cX2_countBeds 4 none)) B.pre
  have hown : s.vm.findClass RX2 = some m.cls := findClass_of_methodNamed B.named
  have hlocks := B.notSynchronized
  subst hsz
  have hD : va_D (pq_B t σ (I, J, ri, rj, rq) s.heap.size) (pq_P t σ (I, J, ri, rj, rq)) := hD0.self
  generalize hAe : pq_B t σ (I, J, ri, rj, rq) s.heap.size = A at hD ⊢
  have hA : ∀ q : Nat, s.heap.size ≤ q → A q := fun q h => by rw [← hAe]; exact Or.inr h
  have hS : va_S A s.heap s.heap [] := va_S.rf
  have hG : GX [] tg σ I I ri rq := ⟨hG0, fun _ _ _ => rfl⟩
  have hl := lv_entry ([.ref this, .ref a0, .int a1]) (n := 4) (Nat.le_of_ble_eq_true rfl)
  rw [lg_entry_eq]
  generalize (lg_sl ([.ref this, .ref a0, .int a1]) ++ List.replicate (4 - (lg_sl ([.ref this, .ref a0, .int a1])).length) Slot.unset).toArray = ls at hl ⊢
  have hl : lv_has ls 4 [(0, .ref this), (1, .ref a0), (2, .int a1)] := hl
  refine q_gen (fun Q hQ => ?_)
  have go : ∀ (H : Heap) (locs : List Loc) (ls : Array Slot), va_P D vwCl (pq_P t σ (I, J, ri, rj, rq)) H → va_D A (pq_P t σ (I, J, ri, rj, rq)) → va_S A s.heap H locs → lv_has ls 4 [(0, .ref this), (1, .ref a0), (2, .int a1)] → W p l e ({ frames := 0, cells := 0, slots := 0, locals := 0 } : Room) s m (List.toArray ([.ref this, .ref a0, .int a1] : List Value)) below meth c H locs 0 0 Q (F0 m 0 ls []) := by
    intro H locs ls hP hD hS hl
    refine lv_iload_n hx hb dX2_countBeds_0 rfl (lv_at hl 2 rfl) ?_
    refine lv_if_lt (tgt := 12) hx hb dX2_countBeds_1 (by decide) (fun c_1 => ?_) (fun c_1 => ?_)
    · exact (rg_empty (rg_lt1 c_1 h_a1 (rg_k (0 : Int32) 0 rfl) (lo := 0) (hi := (-1)) (by decide)) (by decide)).elim
    · refine lv_iload_n hx hb dX2_countBeds_4 rfl (lv_at hl 2 rfl) ?_
      refine lv_iconst (v := 5) hx hb dX2_countBeds_5 (by decide) ?_
      refine lv_iadd hx hb dX2_countBeds_6 ?_
      refine lv_topi (fun x_2 ex_2 => ?_)
      have h_3 : rg x_2 5 5 := rg_of_eq ex_2 (rg_add h_a1 (rg_k (5 : Int32) 5 rfl) (by decide))
      refine lv_aload_n hx hb dX2_countBeds_7 rfl (lv_at hl 1 rfl) ?_
      refine pn_i (v := 5) hx hb hK hP hL_a0 hK_a0 hN_a0 (by decide) dX2_countBeds_8 ?_
      refine lv_icmp_le (tgt := 13) hx hb dX2_countBeds_9 (by decide) (fun c_4 => ?_) (fun c_4 => ?_)
      · refine lv_iconst (v := 0) hx hb dX2_countBeds_13 (by decide) ?_
        refine lv_istore_n (lv' := [(3, .int 0), (0, .ref this), (1, .ref a0), (2, .int a1)]) hx hb dX2_countBeds_14 rfl hl (by decide) rfl (fun ls hl => ?_)
        have L_862 : ∀ (n_ : Nat) (x_590 : Int32) (ri_591 : Nat → Nat → Int32) (H : Heap) (locs : List Loc) (ls : Array Slot), rg x_590 0 5 → (5 - (x_590).toInt).toNat < n_ → GX [] tg σ I I ri_591 rq → va_P D vwCl (pq_P t σ (I, J, ri_591, rj, rq)) H → va_D A (pq_P t σ (I, J, ri_591, rj, rq)) → va_S A s.heap H locs → lv_has ls 4 [(0, .ref this), (1, .ref a0), (2, .int a1), (3, .int x_590)] → W p l e ({ frames := 0, cells := 0, slots := 0, locals := 0 } : Room) s m (List.toArray ([.ref this, .ref a0, .int a1] : List Value)) below meth c H locs 0 0 Q (F0 m 15 ls []) := by
          intro n_
          induction n_ with
          | zero => intro x_590 ri_591 H locs ls h_865 hm hG hP hD hS hl; exact absurd hm (Nat.not_lt_zero _)
          | succ n_ ih_863 =>
            intro x_590 ri_591 H locs ls h_865 hm hG hP hD hS hl
            refine lv_iload_n hx hb dX2_countBeds_15 rfl (lv_at hl 3 rfl) ?_
            refine lv_iconst (v := 5) hx hb dX2_countBeds_16 (by decide) ?_
            refine lv_icmp_ge (tgt := 32) hx hb dX2_countBeds_17 (by decide) (fun c_866 => ?_) (fun c_866 => ?_)
            · have h_867 : rg x_590 5 5 := rg_le2 c_866 (rg_k (5 : Int32) 5 rfl) h_865 (by decide)
              refine lv_iconst (v := 0) hx hb dX2_countBeds_32 (by decide) ?_
              refine lv_istore_n (lv' := [(3, .int 0), (0, .ref this), (1, .ref a0), (2, .int a1)]) hx hb dX2_countBeds_33 rfl hl (by decide) rfl (fun ls hl => ?_)
              have L_1112 : ∀ (n_ : Nat) (x_1093 : Int32) (ri_1094 : Nat → Nat → Int32) (H : Heap) (locs : List Loc) (ls : Array Slot), rg x_1093 0 40 → (40 - (x_1093).toInt).toNat < n_ → GX [] tg σ I I ri_1094 rq → va_P D vwCl (pq_P t σ (I, J, ri_1094, rj, rq)) H → va_D A (pq_P t σ (I, J, ri_1094, rj, rq)) → va_S A s.heap H locs → lv_has ls 4 [(0, .ref this), (1, .ref a0), (2, .int a1), (3, .int x_1093)] → W p l e ({ frames := 0, cells := 0, slots := 0, locals := 0 } : Room) s m (List.toArray ([.ref this, .ref a0, .int a1] : List Value)) below meth c H locs 0 0 Q (F0 m 34 ls []) := by
                intro n_
                induction n_ with
                | zero => intro x_1093 ri_1094 H locs ls h_1115 hm hG hP hD hS hl; exact absurd hm (Nat.not_lt_zero _)
                | succ n_ ih_1113 =>
                  intro x_1093 ri_1094 H locs ls h_1115 hm hG hP hD hS hl
                  refine lv_iload_n hx hb dX2_countBeds_34 rfl (lv_at hl 3 rfl) ?_
                  refine lv_aload_n hx hb dX2_countBeds_35 rfl (lv_at hl 0 rfl) ?_
                  refine pg_f (v := .int (I 65 this)) (C := RX2) (T := TX2) (N := 20) hx hb hts (tw_i inlX2) hown hK hP hL_this hK_this (by decide) rfl 1 (by decide) (hts _ (tw_c tw_222)) rfl dX2_countBeds_36 ?_
                  have h_1116 : rg (I 65 this) 0 40 := GX.rI hG 65 rfl
                  refine lv_icmp_ge (tgt := 67) hx hb dX2_countBeds_39 (by decide) (fun c_1117 => ?_) (fun c_1117 => ?_)
                  · subst hQ
                    exact W.vret hx hb hr (fun t1 ht hW => ⟨⟨(σ, I, J, ri_1094, rj, rq), rfl, ⟨ri_1094, rfl, hG⟩, by rw [ht]; exact hP, va_K.moved hW.alike hK, hD⟩, hS.F ht⟩) hS.2.2 dX2_countBeds_67
                  · have h_1118 : rg x_1093 0 39 := rg_lt1 (nle c_1117) h_1115 h_1116 (by decide)
                    have h_1119 : rg (I 65 this) 1 40 := rg_lt2 (nle c_1117) h_1115 h_1116 (by decide)
                    refine lv_aload_n hx hb dX2_countBeds_42 rfl (lv_at hl 1 rfl) ?_
                    refine lv_iload_n hx hb dX2_countBeds_43 rfl (lv_at hl 2 rfl) ?_
                    refine lv_aload_n hx hb dX2_countBeds_44 rfl (lv_at hl 0 rfl) ?_
                    obtain ⟨w_1120, hR_w_1120, hL_w_1120, hK_w_1120, hN_w_1120, hT_w_1120⟩ := sh_a hSH 69 (ci := 2) (kd := 13) (len := 40) rfl (by decide) hL_this hK_this
                    refine pg_f (v := .ref w_1120) (C := RX2) (T := TX2) (N := 20) hx hb hts (tw_i inlX2) hown hK hP hL_this hK_this (by decide) rfl 5 (by decide) (hts _ (tw_c tw_83)) (pq_hv rfl hR_w_1120) dX2_countBeds_45 ?_
                    refine lv_iload_n hx hb dX2_countBeds_48 rfl (lv_at hl 3 rfl) ?_
                    refine pl_i hx hb hK hP hL_w_1120 hK_w_1120 hN_w_1120 (rg_in h_1118 (by decide)) dX2_countBeds_49 ?_
                    refine lv_topi (fun x_1121 ex_1121 => ?_)
                    have h_1122 : rg x_1121 0 4 := rg_of_eq ex_1121 (GX.rR hG hT_w_1120 rfl)
                    refine lv_iadd hx hb dX2_countBeds_50 ?_
                    refine lv_topi (fun x_1123 ex_1123 => ?_)
                    have h_1124 : rg x_1123 0 4 := rg_of_eq ex_1123 (rg_add h_a1 h_1122 (by decide))
                    refine lv_dup2_11 hx hb dX2_countBeds_51 rfl rfl ?_
                    refine pl_i hx hb hK hP hL_a0 hK_a0 hN_a0 (rg_in h_1124 (by decide)) dX2_countBeds_52 ?_
                    refine lv_topi (fun x_1125 ex_1125 => ?_)
                    refine lv_aload_n hx hb dX2_countBeds_53 rfl (lv_at hl 0 rfl) ?_
                    obtain ⟨w_1126, hR_w_1126, hL_w_1126, hK_w_1126, hN_w_1126, hT_w_1126⟩ := sh_a hSH 76 (ci := 2) (kd := 13) (len := 40) rfl (by decide) hL_this hK_this
                    refine pg_f (v := .ref w_1126) (C := RX2) (T := TX2) (N := 20) hx hb hts (tw_i inlX2) hown hK hP hL_this hK_this (by decide) rfl 12 (by decide) (hts _ (tw_c tw_90)) (pq_hv rfl hR_w_1126) dX2_countBeds_54 ?_
                    refine lv_iload_n hx hb dX2_countBeds_57 rfl (lv_at hl 3 rfl) ?_
                    refine pl_i hx hb hK hP hL_w_1126 hK_w_1126 hN_w_1126 (rg_in h_1118 (by decide)) dX2_countBeds_58 ?_
                    refine lv_topi (fun x_1127 ex_1127 => ?_)
                    refine lv_iadd hx hb dX2_countBeds_59 ?_
                    refine lv_topi (fun x_1128 ex_1128 => ?_)
                    refine pt_i hx hb hK hP hD hS hL_a0 hK_a0 hN_a0 (rg_in h_1124 (by decide)) dX2_countBeds_60 (fun r_1129 H locs er_1129 hP hD hS => ?_)
                    have hG := GX.wR hG hSH hT_a0 rfl er_1129 (rg_w (rg_full _) (by decide)) (by decide)
                    obtain ⟨x_1130, ex_1130⟩ : ∃ y : Int32, y = x_1093 + Int32.ofInt 1 := ⟨_, rfl⟩
                    have h_1131 : rg x_1130 1 40 := rg_of_eq ex_1130 (rg_add h_1118 (rg_k (Int32.ofInt 1) 1 rfl) (by decide))
                    refine lv_iinc (v := x_1130) (lv' := [(3, .int x_1130), (0, .ref this), (1, .ref a0), (2, .int a1)]) hx hb dX2_countBeds_61 hl (k := 3) rfl ex_1130.symm (by decide) rfl (fun ls hl => ?_)
                    refine lv_goto (tgt := 34) hx hb dX2_countBeds_64 (by decide) ?_
                    exact ih_1113 x_1130 r_1129 _ _ _ (rg_w h_1131 (by decide)) (ms_up 1 hm ex_1130 rfl (by decide) h_1118 (by decide) (by decide)) hG hP hD hS (lv_sub hl [1, 2, 3, 0] rfl)
              exact L_1112 _ (0 : Int32) ri_591 _ _ _ (rg_w (rg_k (0 : Int32) 0 rfl) (by decide)) (Nat.lt_succ_self _) hG hP hD hS (lv_sub hl [1, 2, 3, 0] rfl)
            · have h_1132 : rg x_590 0 4 := rg_lt1 (nle c_866) h_865 (rg_k (5 : Int32) 5 rfl) (by decide)
              refine lv_aload_n hx hb dX2_countBeds_20 rfl (lv_at hl 1 rfl) ?_
              refine lv_iload_n hx hb dX2_countBeds_21 rfl (lv_at hl 2 rfl) ?_
              refine lv_iload_n hx hb dX2_countBeds_22 rfl (lv_at hl 3 rfl) ?_
              refine lv_iadd hx hb dX2_countBeds_23 ?_
              refine lv_topi (fun x_1133 ex_1133 => ?_)
              have h_1134 : rg x_1133 0 4 := rg_of_eq ex_1133 (rg_add h_a1 h_1132 (by decide))
              refine lv_iconst (v := 0) hx hb dX2_countBeds_24 (by decide) ?_
              refine pt_i hx hb hK hP hD hS hL_a0 hK_a0 hN_a0 (rg_in h_1134 (by decide)) dX2_countBeds_25 (fun r_1135 H locs er_1135 hP hD hS => ?_)
              have hG := GX.wR hG hSH hT_a0 rfl er_1135 (rg_w (rg_k (0 : Int32) 0 rfl) (by decide)) (by decide)
              obtain ⟨x_1136, ex_1136⟩ : ∃ y : Int32, y = x_590 + Int32.ofInt 1 := ⟨_, rfl⟩
              have h_1137 : rg x_1136 1 5 := rg_of_eq ex_1136 (rg_add h_1132 (rg_k (Int32.ofInt 1) 1 rfl) (by decide))
              refine lv_iinc (v := x_1136) (lv' := [(3, .int x_1136), (0, .ref this), (1, .ref a0), (2, .int a1)]) hx hb dX2_countBeds_26 hl (k := 3) rfl ex_1136.symm (by decide) rfl (fun ls hl => ?_)
              refine lv_goto (tgt := 15) hx hb dX2_countBeds_29 (by decide) ?_
              exact ih_863 x_1136 r_1135 _ _ _ (rg_w h_1137 (by decide)) (ms_up 1 hm ex_1136 rfl (by decide) h_1132 (by decide) (by decide)) hG hP hD hS (lv_sub hl [1, 2, 3, 0] rfl)
        exact L_862 _ (0 : Int32) ri _ _ _ (rg_w (rg_k (0 : Int32) 0 rfl) (by decide)) (Nat.lt_succ_self _) hG hP hD hS (lv_sub hl [1, 2, 3, 0] rfl)
      · exact (rg_empty (rg_lt2 (nle c_4) (rg_k (5 : Int32) 5 rfl) h_3 (lo := 6) (hi := 5) (by decide)) (by decide)).elim
  exact go _ _ _ hP hD hS hl

set_option maxHeartbeats 4000000 in
set_option maxRecDepth 100000 in
theorem s_X0_sleep_332 (l : Launch) (D : va_G) (t : pq_T) (σ : pq_S) (I : Nat → Nat → Int32) (J : Nat → Nat → Int64) (ri : Nat → Nat → Int32) (rj : Nat → Nat → Int64) (rq : Nat → Nat → Option Nat) (sz : Nat) (tg : Nat → Nat) (hSH : SH σ tg) (hG0 : GS tg σ I ri rq) (this : Nat) (a0 : Nat) (a1 : Int32) (hL_this : this ∈ σ.1) (hK_this : σ.2.1 this = 0) (hL_a0 : a0 ∈ σ.1) (hK_a0 : σ.2.1 a0 = 13) (hN_a0 : σ.2.2.2 a0 = 5) (hT_a0 : tg a0 = 332) (h_a1 : rg a1 0 0) : MetI l yX0_sleep (wa yX0_sleep cX0_sleep 5 (some .int)) ({ frames := 1, cells := 0, slots := 0, locals := 60 }) [.ref this, .ref a0, .int a1] D t σ (I, J, ri, rj, rq) sz 0 0 (fun (r : Int32) (u : pq_S × pq_M) => ∃ ri' : Nat → Nat → Int32, u = (σ, I, J, ri', rj, rq) ∧ GX [] tg σ I I ri' rq) := by
  refine Met.ofW (cc := cX0_sleep) (maxL := 5) (ret := (some .int)) (by decide) rfl ?_
  intro p e s m args below meth c s₁ B hml hv
  obtain ⟨rfl, hsz, hP, hK, hD0, hN⟩ := hv
  have hx := B.exec
  have hb := B.bytes
  have hr := B.returns
  have hts := atoms_spec (ws := (wa yX0_sleep cX0_sleep 5 (some .int))) B.pre
  have hown : s.vm.findClass RX0 = some m.cls := findClass_of_methodNamed B.named
  have hlocks := B.notSynchronized
  subst hsz
  have hD : va_D (pq_B t σ (I, J, ri, rj, rq) s.heap.size) (pq_P t σ (I, J, ri, rj, rq)) := hD0.self
  generalize hAe : pq_B t σ (I, J, ri, rj, rq) s.heap.size = A at hD ⊢
  have hA : ∀ q : Nat, s.heap.size ≤ q → A q := fun q h => by rw [← hAe]; exact Or.inr h
  have hS : va_S A s.heap s.heap [] := va_S.rf
  have hG : GX [] tg σ I I ri rq := ⟨hG0, fun _ _ _ => rfl⟩
  have hl := lv_entry ([.ref this, .ref a0, .int a1]) (n := 5) (Nat.le_of_ble_eq_true rfl)
  rw [lg_entry_eq]
  generalize (lg_sl ([.ref this, .ref a0, .int a1]) ++ List.replicate (5 - (lg_sl ([.ref this, .ref a0, .int a1])).length) Slot.unset).toArray = ls at hl ⊢
  have hl : lv_has ls 5 [(0, .ref this), (1, .ref a0), (2, .int a1)] := hl
  refine q_gen (fun Q hQ => ?_)
  have go : ∀ (H : Heap) (locs : List Loc) (ls : Array Slot), va_P D vwCl (pq_P t σ (I, J, ri, rj, rq)) H → va_D A (pq_P t σ (I, J, ri, rj, rq)) → va_S A s.heap H locs → lv_has ls 5 [(0, .ref this), (1, .ref a0), (2, .int a1)] → W p l e ({ frames := 1, cells := 0, slots := 0, locals := 60 } : Room) s m (List.toArray ([.ref this, .ref a0, .int a1] : List Value)) below meth c H locs 0 0 Q (F0 m 0 ls []) := by
    intro H locs ls hP hD hS hl
    refine lv_iload_n hx hb dX0_sleep_0 rfl (lv_at hl 2 rfl) ?_
    refine lv_if_lt (tgt := 12) hx hb dX0_sleep_1 (by decide) (fun c_1051 => ?_) (fun c_1051 => ?_)
    · exact (rg_empty (rg_lt1 c_1051 h_a1 (rg_k (0 : Int32) 0 rfl) (lo := 0) (hi := (-1)) (by decide)) (by decide)).elim
    · refine lv_iload_n hx hb dX0_sleep_4 rfl (lv_at hl 2 rfl) ?_
      refine lv_iconst (v := 5) hx hb dX0_sleep_5 (by decide) ?_
      refine lv_iadd hx hb dX0_sleep_6 ?_
      refine lv_topi (fun x_1052 ex_1052 => ?_)
      have h_1053 : rg x_1052 5 5 := rg_of_eq ex_1052 (rg_add h_a1 (rg_k (5 : Int32) 5 rfl) (by decide))
      refine lv_aload_n hx hb dX0_sleep_7 rfl (lv_at hl 1 rfl) ?_
      refine pn_i (v := 5) hx hb hK hP hL_a0 hK_a0 hN_a0 (by decide) dX0_sleep_8 ?_
      refine lv_icmp_le (tgt := 14) hx hb dX0_sleep_9 (by decide) (fun c_1054 => ?_) (fun c_1054 => ?_)
      · refine lv_aload_n hx hb dX0_sleep_14 rfl (lv_at hl 1 rfl) ?_
        refine lv_iload_n hx hb dX0_sleep_15 rfl (lv_at hl 2 rfl) ?_
        refine lv_aload_n hx hb dX0_sleep_16 rfl (lv_at hl 0 rfl) ?_
        obtain ⟨w_1055, hR_w_1055, hL_w_1055, hK_w_1055, hN_w_1055, hT_w_1055⟩ := sh_a hSH 12 (ci := 0) (kd := 13) (len := 5) rfl (by decide) hL_this hK_this
        refine pg_f (v := .ref w_1055) (C := RX0) (T := TX0) (N := 16) hx hb hts (tw_i inlX0) hown hK hP hL_this hK_this (by decide) rfl 12 (by decide) (hts _ (tw_c tw_120)) (pq_hv rfl hR_w_1055) dX0_sleep_17 ?_
        refine lv_iconst (v := 0) hx hb dX0_sleep_20 (by decide) ?_
        refine lv_iconst (v := 5) hx hb dX0_sleep_21 (by decide) ?_
        refine pc_i hx hb (hml.trans hl.1.symm) hown (hts _ (tw_c tw_1124)) (hts _ (tw_c tw_1105)) (hts _ (tw_c tw_1106)) (hts _ (tw_c tw_1107)) hK hP hD hS hL_a0 hK_a0 hN_a0 hL_w_1055 hK_w_1055 hN_w_1055 (rg_pos h_a1 (by decide)) (rg_pos (rg_k (5 : Int32) 5 rfl) (by decide)) (rg_cp h_a1 (rg_k (5 : Int32) 5 rfl) (by decide)) (rg_cl (rg_k (5 : Int32) 5 rfl) (by decide)) (Nat.le_of_ble_eq_true rfl) (Nat.le_of_ble_eq_true rfl) dX0_sleep_22 (fun r_1056 H locs er_1056 hP hD hS => ?_)
        have hG := GX.cR hG hSH hT_a0 rfl hT_w_1055 rfl er_1056 (by decide)
        refine lv_iconst (v := 0) hx hb dX0_sleep_25 (by decide) ?_
        refine lv_istore_n (lv' := [(3, .int 0), (0, .ref this), (1, .ref a0), (2, .int a1)]) hx hb dX0_sleep_26 rfl hl (by decide) rfl (fun ls hl => ?_)
        refine lv_iconst (v := 0) hx hb dX0_sleep_27 (by decide) ?_
        refine lv_istore (lv' := [(4, .int 0), (3, .int 0), (0, .ref this), (1, .ref a0), (2, .int a1)]) hx hb dX0_sleep_28 hl (by decide) rfl (fun ls hl => ?_)
        have L_2066 : ∀ (n_ : Nat) (x_2028 : Int32) (x_2029 : Int32) (ri_2030 : Nat → Nat → Int32) (H : Heap) (locs : List Loc) (ls : Array Slot), rg x_2029 0 40 → (40 - (x_2029).toInt).toNat < n_ → GX [] tg σ I I ri_2030 rq → va_P D vwCl (pq_P t σ (I, J, ri_2030, rj, rq)) H → va_D A (pq_P t σ (I, J, ri_2030, rj, rq)) → va_S A s.heap H locs → lv_has ls 5 [(0, .ref this), (3, .int x_2028), (4, .int x_2029)] → W p l e ({ frames := 1, cells := 0, slots := 0, locals := 60 } : Room) s m (List.toArray ([.ref this, .ref a0, .int a1] : List Value)) below meth c H locs 0 0 Q (F0 m 30 ls []) := by
          intro n_
          induction n_ with
          | zero => intro x_2028 x_2029 ri_2030 H locs ls h_2069 hm hG hP hD hS hl; exact absurd hm (Nat.not_lt_zero _)
          | succ n_ ih_2067 =>
            intro x_2028 x_2029 ri_2030 H locs ls h_2069 hm hG hP hD hS hl
            refine lv_iload hx hb dX0_sleep_30 (lv_at hl 2 rfl) ?_
            refine lv_aload_n hx hb dX0_sleep_32 rfl (lv_at hl 0 rfl) ?_
            refine pg_f (v := .int (I 0 this)) (C := RX0) (T := TX0) (N := 16) hx hb hts (tw_i inlX0) hown hK hP hL_this hK_this (by decide) rfl 0 (by decide) (hts _ (tw_c tw_395)) rfl dX0_sleep_33 ?_
            have h_2070 : rg (I 0 this) 0 40 := GX.rI hG 0 rfl
            refine lv_icmp_ge (tgt := 102) hx hb dX0_sleep_36 (by decide) (fun c_2071 => ?_) (fun c_2071 => ?_)
            · refine lv_iload_n hx hb dX0_sleep_102 rfl (lv_at hl 1 rfl) ?_
              subst hQ
              exact W.iret (v := x_2028) hx hb hr (fun t1 ht hW => ⟨⟨x_2028, (σ, I, J, ri_2030, rj, rq), rfl, ⟨ri_2030, rfl, hG⟩, by rw [ht]; exact hP, va_K.moved hW.alike hK, hD⟩, hS.F ht⟩) hS.2.2 dX0_sleep_103
            · have h_2072 : rg x_2029 0 39 := rg_lt1 (nle c_2071) h_2069 h_2070 (by decide)
              have h_2073 : rg (I 0 this) 1 40 := rg_lt2 (nle c_2071) h_2069 h_2070 (by decide)
              refine lv_aload_n hx hb dX0_sleep_39 rfl (lv_at hl 0 rfl) ?_
              refine lv_iload hx hb dX0_sleep_40 (lv_at hl 2 rfl) ?_
              obtain ⟨w_2074, hR_w_2074, hL_w_2074, hK_w_2074, hN_w_2074, hT_w_2074⟩ := sh_a hSH 5 (ci := 0) (kd := 13) (len := 40) rfl (by decide) hL_this hK_this
              refine pk_i (va_runV (As := [.int x_2029]) (rest := []) ⟨hx, hb, hml, hown, hts⟩ (s_X0_isOnRing l D t σ I J ri_2030 rj rq H.size tg hSH hG.1 this x_2029 hL_this hK_this (rg_w h_2072 (by decide)) w_2074 hR_w_2074 hL_w_2074 hK_w_2074 hN_w_2074 hT_w_2074) (cwV 1 hts (tw_V tw_1108 tw_1109 tw_1110 tw_45 tw_1111) rfl rfl rfl (by decide +kernel) ⟨Nat.le_of_ble_eq_true rfl, Nat.le_of_ble_eq_true rfl⟩) ⟨pq_blind, pq_recv hK hP hL_this hK_this (by decide) rfl, pq_pre hK hN hP hD⟩ rfl rfl hl.1 rfl (lv_room (Nat.le_of_ble_eq_true rfl)) dX0_sleep_42 ⟨Nat.le_of_ble_eq_true rfl, Nat.le_of_ble_eq_true rfl⟩) hD hS hA (fun x_2075 σ1 μ1 H locs hw_2076 hP hD hS => ?_)
              obtain ⟨hu_2077, hr_2079⟩ := hw_2076
              obtain ⟨hu_2077a, hu_2077b⟩ := Prod.mk.inj hu_2077
              rw [hu_2077a, hu_2077b] at hP hD
              have h_2080 : rg x_2075 0 1 := by rcases hr_2079 with ⟨q, -⟩ | ⟨q, -⟩ <;> rw [q] <;> exact ⟨by decide, by decide⟩
              have K_2104 : ∀  (x_2100 : Int32) (ri_2101 : Nat → Nat → Int32) (H : Heap) (locs : List Loc) (ls : Array Slot), GX [] tg σ I I ri_2101 rq → va_P D vwCl (pq_P t σ (I, J, ri_2101, rj, rq)) H → va_D A (pq_P t σ (I, J, ri_2101, rj, rq)) → va_S A s.heap H locs → lv_has ls 5 [(0, .ref this), (3, .int x_2100), (4, .int x_2029)] → W p l e ({ frames := 1, cells := 0, slots := 0, locals := 60 } : Room) s m (List.toArray ([.ref this, .ref a0, .int a1] : List Value)) below meth c H locs 0 0 Q (F0 m 96 ls []) := by
                intro x_2100 ri_2101 H locs ls hG hP hD hS hl
                obtain ⟨x_2105, ex_2105⟩ : ∃ y : Int32, y = x_2029 + Int32.ofInt 1 := ⟨_, rfl⟩
                have h_2106 : rg x_2105 1 40 := rg_of_eq ex_2105 (rg_add h_2072 (rg_k (Int32.ofInt 1) 1 rfl) (by decide))
                refine lv_iinc (v := x_2105) (lv' := [(4, .int x_2105), (0, .ref this), (3, .int x_2100)]) hx hb dX0_sleep_96 hl (k := 2) rfl ex_2105.symm (by decide) rfl (fun ls hl => ?_)
                refine lv_goto (tgt := 30) hx hb dX0_sleep_99 (by decide) ?_
                exact ih_2067 x_2100 x_2105 ri_2101 _ _ _ (rg_w h_2106 (by decide)) (ms_up 1 hm ex_2105 rfl (by decide) h_2072 (by decide) (by decide)) hG hP hD hS (lv_sub hl [1, 2, 0] rfl)
              refine lv_if_eq (tgt := 96) hx hb dX0_sleep_45 (by decide) (fun c_2107 => ?_) (fun c_2107 => ?_)
              · have f_2108 := (hr_2079.resolve_left (fun q => absurd (q.1.symm.trans c_2107) (by decide))).2
                have h_2109 : rg x_2075 0 0 := rg_and h_2080 (rg_of_eq c_2107 (rg_k (0 : Int32) 0 rfl)) (by decide)
                exact K_2104 x_2028 ri_2030 _ _ _ hG hP hD hS (lv_sub hl [0, 1, 2] rfl)
              · have f_2110 := (hr_2079.resolve_right (fun q => c_2107 q.1)).2
                have h_2111 : rg x_2075 1 1 := rg_ne c_2107 h_2080 0 rfl (by decide)
                refine lv_aload_n hx hb dX0_sleep_48 rfl (lv_at hl 0 rfl) ?_
                refine pg_f (v := .ref w_1055) (C := RX0) (T := TX0) (N := 16) hx hb hts (tw_i inlX0) hown hK hP hL_this hK_this (by decide) rfl 12 (by decide) (hts _ (tw_c tw_120)) (pq_hv rfl hR_w_1055) dX0_sleep_49 ?_
                refine lv_aload_n hx hb dX0_sleep_52 rfl (lv_at hl 0 rfl) ?_
                refine pg_f (v := .ref w_2074) (C := RX0) (T := TX0) (N := 16) hx hb hts (tw_i inlX0) hown hK hP hL_this hK_this (by decide) rfl 5 (by decide) (hts _ (tw_c tw_114)) (pq_hv rfl hR_w_2074) dX0_sleep_53 ?_
                refine lv_iload hx hb dX0_sleep_56 (lv_at hl 2 rfl) ?_
                refine pl_i hx hb hK hP hL_w_2074 hK_w_2074 hN_w_2074 (rg_in h_2072 (by decide)) dX0_sleep_58 ?_
                refine lv_topi (fun x_2112 ex_2112 => ?_)
                have h_2113 : rg x_2112 0 4 := rg_of_eq ex_2112 (f_2110)
                refine pl_i hx hb hK hP hL_w_1055 hK_w_1055 hN_w_1055 (rg_in h_2113 (by decide)) dX0_sleep_59 ?_
                refine lv_topi (fun x_2114 ex_2114 => ?_)
                refine lv_if_le (tgt := 82) hx hb dX0_sleep_60 (by decide) (fun c_2115 => ?_) (fun c_2115 => ?_)
                · have h_2116 : rg x_2114 (-2147483648) 0 := rg_le1 c_2115 (rg_full _) (rg_k (0 : Int32) 0 rfl) (by decide)
                  refine lv_aload_n hx hb dX0_sleep_82 rfl (lv_at hl 0 rfl) ?_
                  obtain ⟨w_2117, hR_w_2117, hL_w_2117, hK_w_2117, hN_w_2117, hT_w_2117⟩ := sh_a hSH 7 (ci := 0) (kd := 13) (len := 40) rfl (by decide) hL_this hK_this
                  refine pg_f (v := .ref w_2117) (C := RX0) (T := TX0) (N := 16) hx hb hts (tw_i inlX0) hown hK hP hL_this hK_this (by decide) rfl 7 (by decide) (hts _ (tw_c tw_116)) (pq_hv rfl hR_w_2117) dX0_sleep_83 ?_
                  refine lv_iload hx hb dX0_sleep_86 (lv_at hl 2 rfl) ?_
                  refine lv_dup2_11 hx hb dX0_sleep_88 rfl rfl ?_
                  refine pl_i hx hb hK hP hL_w_2117 hK_w_2117 hN_w_2117 (rg_in h_2072 (by decide)) dX0_sleep_89 ?_
                  refine lv_topi (fun x_2118 ex_2118 => ?_)
                  refine lv_iconst (v := 1) hx hb dX0_sleep_90 (by decide) ?_
                  refine lv_iadd hx hb dX0_sleep_91 ?_
                  refine lv_topi (fun x_2119 ex_2119 => ?_)
                  refine pt_i hx hb hK hP hD hS hL_w_2117 hK_w_2117 hN_w_2117 (rg_in h_2072 (by decide)) dX0_sleep_92 (fun r_2120 H locs er_2120 hP hD hS => ?_)
                  have hG := GX.wR hG hSH hT_w_2117 rfl er_2120 (rg_w (rg_full _) (by decide)) (by decide)
                  obtain ⟨x_2121, ex_2121⟩ : ∃ y : Int32, y = x_2028 + Int32.ofInt 1 := ⟨_, rfl⟩
                  refine lv_iinc (v := x_2121) (lv' := [(3, .int x_2121), (0, .ref this), (4, .int x_2029)]) hx hb dX0_sleep_93 hl (k := 1) rfl ex_2121.symm (by decide) rfl (fun ls hl => ?_)
                  exact K_2104 x_2121 r_2120 _ _ _ hG hP hD hS (lv_sub hl [1, 0, 2] rfl)
                · have h_2122 : rg x_2114 1 2147483647 := rg_lt2 (nle c_2115) (rg_k (0 : Int32) 0 rfl) (rg_full _) (by decide)
                  refine lv_aload_n hx hb dX0_sleep_63 rfl (lv_at hl 0 rfl) ?_
                  refine pg_f (v := .ref w_1055) (C := RX0) (T := TX0) (N := 16) hx hb hts (tw_i inlX0) hown hK hP hL_this hK_this (by decide) rfl 12 (by decide) (hts _ (tw_c tw_120)) (pq_hv rfl hR_w_1055) dX0_sleep_64 ?_
                  refine lv_aload_n hx hb dX0_sleep_67 rfl (lv_at hl 0 rfl) ?_
                  refine pg_f (v := .ref w_2074) (C := RX0) (T := TX0) (N := 16) hx hb hts (tw_i inlX0) hown hK hP hL_this hK_this (by decide) rfl 5 (by decide) (hts _ (tw_c tw_114)) (pq_hv rfl hR_w_2074) dX0_sleep_68 ?_
                  refine lv_iload hx hb dX0_sleep_71 (lv_at hl 2 rfl) ?_
                  refine pl_i hx hb hK hP hL_w_2074 hK_w_2074 hN_w_2074 (rg_in h_2072 (by decide)) dX0_sleep_73 ?_
                  refine lv_tov x_2112 ex_2112.symm ?_
                  refine lv_dup2_11 hx hb dX0_sleep_74 rfl rfl ?_
                  refine pl_i hx hb hK hP hL_w_1055 hK_w_1055 hN_w_1055 (rg_in h_2113 (by decide)) dX0_sleep_75 ?_
                  refine lv_tov x_2114 ex_2114.symm ?_
                  refine lv_iconst (v := 1) hx hb dX0_sleep_76 (by decide) ?_
                  refine lv_isub hx hb dX0_sleep_77 ?_
                  refine lv_topi (fun x_2123 ex_2123 => ?_)
                  have h_2124 : rg x_2123 0 2147483646 := rg_of_eq ex_2123 (rg_sub h_2122 (rg_k (1 : Int32) 1 rfl) (by decide))
                  refine pt_i hx hb hK hP hD hS hL_w_1055 hK_w_1055 hN_w_1055 (rg_in h_2113 (by decide)) dX0_sleep_78 (fun r_2125 H locs er_2125 hP hD hS => ?_)
                  have hG := GX.wR hG hSH hT_w_1055 rfl er_2125 (rg_w h_2124 (by decide)) (by decide)
                  refine lv_goto (tgt := 96) hx hb dX0_sleep_79 (by decide) ?_
                  exact K_2104 x_2028 r_2125 _ _ _ hG hP hD hS (lv_sub hl [0, 1, 2] rfl)
        exact L_2066 _ (0 : Int32) (0 : Int32) r_1056 _ _ _ (rg_w (rg_k (0 : Int32) 0 rfl) (by decide)) (Nat.lt_succ_self _) hG hP hD hS (lv_sub hl [2, 1, 0] rfl)
      · exact (rg_empty (rg_lt2 (nle c_1054) (rg_k (5 : Int32) 5 rfl) h_1053 (lo := 6) (hi := 5) (by decide)) (by decide)).elim
  exact go _ _ _ hP hD hS hl

set_option maxHeartbeats 4000000 in
set_option maxRecDepth 100000 in
theorem s_X10_reckon (l : Launch) (D : va_G) (t : pq_T) (σ : pq_S) (I : Nat → Nat → Int32) (J : Nat → Nat → Int64) (ri : Nat → Nat → Int32) (rj : Nat → Nat → Int64) (rq : Nat → Nat → Option Nat) (sz : Nat) (tg : Nat → Nat) (hSH : SH σ tg) (hG0 : GS tg σ I ri rq) (this : Nat) (hL_this : this ∈ σ.1) (hK_this : σ.2.1 this = 10) : MetV l yX10_reckon (wa yX10_reckon cX10_reckon 3 none) ({ frames := 4, cells := 0, slots := 0, locals := 94 }) [.ref this] D t σ (I, J, ri, rj, rq) sz 0 0 (fun (u : pq_S × pq_M) => ∃ I' : Nat → Nat → Int32, ∃ ri' : Nat → Nat → Int32, u = (σ, I', J, ri', rj, rq) ∧ GX [] tg σ I I' ri' rq) := by
  refine Met.ofW (cc := cX10_reckon) (maxL := 3) (ret := none) (by decide) rfl ?_
  intro p e s m args below meth c s₁ B hml hv
  obtain ⟨rfl, hsz, hP, hK, hD0, hN⟩ := hv
  have hx := B.exec
  have hb := B.bytes
  have hr := B.returns
  have hts := atoms_spec (ws := (wa yX10_reckon cX10_reckon 3 none)) B.pre
  have hown : s.vm.findClass RX10 = some m.cls := findClass_of_methodNamed B.named
  have hlocks := B.notSynchronized
  subst hsz
  have hD : va_D (pq_B t σ (I, J, ri, rj, rq) s.heap.size) (pq_P t σ (I, J, ri, rj, rq)) := hD0.self
  generalize hAe : pq_B t σ (I, J, ri, rj, rq) s.heap.size = A at hD ⊢
  have hA : ∀ q : Nat, s.heap.size ≤ q → A q := fun q h => by rw [← hAe]; exact Or.inr h
  have hS : va_S A s.heap s.heap [] := va_S.rf
  have hG : GX [] tg σ I I ri rq := ⟨hG0, fun _ _ _ => rfl⟩
  have hl := lv_entry ([.ref this]) (n := 3) (Nat.le_of_ble_eq_true rfl)
  rw [lg_entry_eq]
  generalize (lg_sl ([.ref this]) ++ List.replicate (3 - (lg_sl ([.ref this])).length) Slot.unset).toArray = ls at hl ⊢
  have hl : lv_has ls 3 [(0, .ref this)] := hl
  refine q_gen (fun Q hQ => ?_)
  have go : ∀ (H : Heap) (locs : List Loc) (ls : Array Slot), va_P D vwCl (pq_P t σ (I, J, ri, rj, rq)) H → va_D A (pq_P t σ (I, J, ri, rj, rq)) → va_S A s.heap H locs → lv_has ls 3 [(0, .ref this)] → W p l e ({ frames := 4, cells := 0, slots := 0, locals := 94 } : Room) s m (List.toArray ([.ref this] : List Value)) below meth c H locs 0 0 Q (F0 m 0 ls []) := by
    intro H locs ls hP hD hS hl
    refine lv_aload_n hx hb dX10_reckon_0 rfl (lv_at hl 0 rfl) ?_
    refine pg_f (v := .int (I 320 this)) (C := RX10) (T := TX10) (N := 13) hx hb hts (tw_i inlX10) hown hK hP hL_this hK_this (by decide) rfl 0 (by decide) (hts _ (tw_c tw_457)) rfl dX10_reckon_1 ?_
    have h_1 : rg (I 320 this) 0 600 := GX.rI hG 320 rfl
    refine lv_sipush (v := 600) hx hb dX10_reckon_4 (by decide) ?_
    refine lv_icmp_lt (tgt := 11) hx hb dX10_reckon_7 (by decide) (fun c_2 => ?_) (fun c_2 => ?_)
    · have h_3 : rg (I 320 this) 0 599 := rg_lt1 c_2 h_1 (rg_k (600 : Int32) 600 rfl) (by decide)
      refine lv_aload_n hx hb dX10_reckon_11 rfl (lv_at hl 0 rfl) ?_
      obtain ⟨w_4, hR_w_4, hL_w_4, hK_w_4⟩ := sh_o hSH 329 (ci := 10) (kd := 3) rfl hL_this hK_this
      refine pg_f (v := .ref w_4) (C := RX10) (T := TX10) (N := 13) hx hb hts (tw_i inlX10) hown hK hP hL_this hK_this (by decide) rfl 9 (by decide) (hts _ (tw_c tw_50)) (pq_hv rfl hR_w_4) dX10_reckon_12 ?_
      refine lv_aload_n hx hb dX10_reckon_15 rfl (lv_at hl 0 rfl) ?_
      refine pg_f (v := .int (I 320 this)) (C := RX10) (T := TX10) (N := 13) hx hb hts (tw_i inlX10) hown hK hP hL_this hK_this (by decide) rfl 0 (by decide) (hts _ (tw_c tw_457)) rfl dX10_reckon_16 ?_
      refine pk_i (va_runV (As := [.int (I 320 this)]) (rest := []) ⟨hx, hb, hml, hown, hts⟩ (s_X3_fixIn l D t σ I J ri rj rq H.size tg hSH hG.1 w_4 (I 320 this) hL_w_4 hK_w_4) (cwV 1 hts (tw_V tw_1133 tw_1009 tw_1010 tw_49 tw_1011) rfl rfl rfl (by decide +kernel) ⟨Nat.le_of_ble_eq_true rfl, Nat.le_of_ble_eq_true rfl⟩) ⟨pq_blind, pq_recv hK hP hL_w_4 hK_w_4 (by decide) rfl, pq_pre hK hN hP hD⟩ rfl rfl hl.1 rfl (lv_room (Nat.le_of_ble_eq_true rfl)) dX10_reckon_19 ⟨Nat.le_of_ble_eq_true rfl, Nat.le_of_ble_eq_true rfl⟩) hD hS hA (fun x_5 σ1 μ1 H locs hw_6 hP hD hS => ?_)
      have hu_7 := hw_6
      obtain ⟨hu_7a, hu_7b⟩ := Prod.mk.inj hu_7
      rw [hu_7a, hu_7b] at hP hD
      refine lv_istore_n (lv' := [(1, .int x_5), (0, .ref this)]) hx hb dX10_reckon_22 rfl hl (by decide) rfl (fun ls hl => ?_)
      refine lv_iload_n hx hb dX10_reckon_23 rfl (lv_at hl 0 rfl) ?_
      have K_61 : ∀  (x_16 : Int32) (H : Heap) (locs : List Loc) (ls : Array Slot), rg x_16 0 599 → GX [] tg σ I I ri rq → va_P D vwCl (pq_P t σ (I, J, ri, rj, rq)) H → va_D A (pq_P t σ (I, J, ri, rj, rq)) → va_S A s.heap H locs → lv_has ls 3 [(0, .ref this)] → W p l e ({ frames := 4, cells := 0, slots := 0, locals := 94 } : Room) s m (List.toArray ([.ref this] : List Value)) below meth c H locs 0 0 Q (F0 m 43 ls [.int x_16]) := by
        intro x_16 H locs ls h_63 hG hP hD hS hl
        refine lv_istore_n (lv' := [(2, .int x_16), (0, .ref this)]) hx hb dX10_reckon_43 rfl hl (by decide) rfl (fun ls hl => ?_)
        refine lv_aload_n hx hb dX10_reckon_44 rfl (lv_at hl 1 rfl) ?_
        refine lv_aload_n hx hb dX10_reckon_45 rfl (lv_at hl 1 rfl) ?_
        obtain ⟨w_64, hR_w_64, hL_w_64, hK_w_64⟩ := sh_o hSH 327 (ci := 10) (kd := 2) rfl hL_this hK_this
        refine pg_f (v := .ref w_64) (C := RX10) (T := TX10) (N := 13) hx hb hts (tw_i inlX10) hown hK hP hL_this hK_this (by decide) rfl 7 (by decide) (hts _ (tw_c tw_42)) (pq_hv rfl hR_w_64) dX10_reckon_46 ?_
        refine lv_aload_n hx hb dX10_reckon_49 rfl (lv_at hl 1 rfl) ?_
        refine pg_f (v := .ref w_64) (C := RX10) (T := TX10) (N := 13) hx hb hts (tw_i inlX10) hown hK hP hL_this hK_this (by decide) rfl 7 (by decide) (hts _ (tw_c tw_42)) (pq_hv rfl hR_w_64) dX10_reckon_50 ?_
        obtain ⟨w_65, hR_w_65, hL_w_65, hK_w_65, hN_w_65, hT_w_65⟩ := sh_a hSH 68 (ci := 2) (kd := 14) (len := 600) rfl (by decide) hL_w_64 hK_w_64
        refine pg_f (v := .ref w_65) (C := RX2) (T := TX2) (N := 20) hx hb hts (tw_i inlX2) hown hK hP hL_w_64 hK_w_64 (by decide) rfl 4 (by decide) (hts _ (tw_c tw_1129)) (pq_hv rfl hR_w_65) dX10_reckon_53 ?_
        refine lv_iload_n hx hb dX10_reckon_56 rfl (lv_at hl 0 rfl) ?_
        refine pl_l hx hb hK hP hL_w_65 hK_w_65 hN_w_65 (rg_in h_63 (by decide)) dX10_reckon_57 ?_
        refine lv_topl (fun x_66 ex_66 => ?_)
        refine lv_aload_n hx hb dX10_reckon_58 rfl (lv_at hl 1 rfl) ?_
        obtain ⟨w_67, hR_w_67, hL_w_67, hK_w_67⟩ := sh_o hSH 326 (ci := 10) (kd := 7) rfl hL_this hK_this
        refine pg_f (v := .ref w_67) (C := RX10) (T := TX10) (N := 13) hx hb hts (tw_i inlX10) hown hK hP hL_this hK_this (by decide) rfl 6 (by decide) (hts _ (tw_c tw_38)) (pq_hv rfl hR_w_67) dX10_reckon_59 ?_
        refine pg_f (v := .int (I 237 w_67)) (C := RX7) (T := TX7) (N := 15) hx hb hts (tw_i inlX7) hown hK hP hL_w_67 hK_w_67 (by decide) rfl 13 (by decide) (hts _ (tw_c tw_1130)) rfl dX10_reckon_62 ?_
        have h_68 : rg (I 237 w_67) 0 20 := GX.rI hG 237 rfl
        refine pk_i (va_runV (As := [.long x_66, .int (I 237 w_67)]) (rest := [.ref this]) ⟨hx, hb, hml, hown, hts⟩ (s_X2_countArea l D t σ I J ri rj rq H.size tg hSH hG.1 w_64 x_66 (I 237 w_67) hL_w_64 hK_w_64 (rg_w h_68 (by decide))) (cwV 2 hts (tw_V tw_1134 tw_1135 tw_1136 tw_41 tw_1137) rfl rfl rfl (by decide +kernel) ⟨Nat.le_of_ble_eq_true rfl, Nat.le_of_ble_eq_true rfl⟩) ⟨pq_blind, pq_recv hK hP hL_w_64 hK_w_64 (by decide) rfl, pq_pre hK hN hP hD⟩ rfl rfl hl.1 rfl (lv_room (Nat.le_of_ble_eq_true rfl)) dX10_reckon_65 ⟨Nat.le_of_ble_eq_true rfl, Nat.le_of_ble_eq_true rfl⟩) hD hS hA (fun x_69 σ1 μ1 H locs hw_70 hP hD hS => ?_)
        obtain ⟨ri_71, hu_72, hg_73⟩ := hw_70
        obtain ⟨hu_72a, hu_72b⟩ := Prod.mk.inj hu_72
        rw [hu_72a, hu_72b] at hP hD
        have hG := GX.tr hG hg_73 (by decide)
        refine pp_i (v := x_69) (ty := .int) (C := RX10) (T := TX10) (N := 13) hx hb hts (tw_i inlX10) tyX10 tyX10_ok nmX10 hown hK hP hD hS hL_this hK_this (by decide) rfl 4 324 (by decide) (hts _ (tw_c tw_32)) rfl (by decide +kernel) rfl rfl (Nat.le_of_ble_eq_true rfl) (ps_324 _ _ _ _ _) dX10_reckon_68 (fun I_75 H locs eI_75 hP hD hS => ?_)
        have hG := GX.wI hG 324 rfl eI_75 (rg_w (rg_full _) (by decide)) (by decide)
        refine lv_aload_n hx hb dX10_reckon_71 rfl (lv_at hl 1 rfl) ?_
        refine lv_dup hx hb dX10_reckon_72 rfl ?_
        refine pg_f (v := .int (I_75 321 this)) (C := RX10) (T := TX10) (N := 13) hx hb hts (tw_i inlX10) hown hK hP hL_this hK_this (by decide) rfl 1 (by decide) (hts _ (tw_c tw_1131)) rfl dX10_reckon_73 ?_
        refine lv_aload_n hx hb dX10_reckon_76 rfl (lv_at hl 1 rfl) ?_
        obtain ⟨w_76, hR_w_76, hL_w_76, hK_w_76⟩ := sh_o hSH 328 (ci := 10) (kd := 0) rfl hL_this hK_this
        refine pg_f (v := .ref w_76) (C := RX10) (T := TX10) (N := 13) hx hb hts (tw_i inlX10) hown hK hP hL_this hK_this (by decide) rfl 8 (by decide) (hts _ (tw_c tw_46)) (pq_hv rfl hR_w_76) dX10_reckon_77 ?_
        refine pk_i (va_runV (As := []) (rest := [.int (I_75 321 this), .ref this]) ⟨hx, hb, hml, hown, hts⟩ (s_X0_sendings l D t σ I_75 J ri_71 rj rq H.size tg hSH hG.1 w_76 hL_w_76 hK_w_76) (cwV 0 hts (tw_V tw_1153 tw_1154 tw_1155 tw_45 tw_1156) rfl rfl rfl (by decide +kernel) ⟨Nat.le_of_ble_eq_true rfl, Nat.le_of_ble_eq_true rfl⟩) ⟨pq_blind, pq_recv hK hP hL_w_76 hK_w_76 (by decide) rfl, pq_pre hK hN hP hD⟩ rfl rfl hl.1 rfl (lv_room (Nat.le_of_ble_eq_true rfl)) dX10_reckon_80 ⟨Nat.le_of_ble_eq_true rfl, Nat.le_of_ble_eq_true rfl⟩) hD hS hA (fun x_77 σ1 μ1 H locs hw_78 hP hD hS => ?_)
        have hu_79 := hw_78
        obtain ⟨hu_79a, hu_79b⟩ := Prod.mk.inj hu_79
        rw [hu_79a, hu_79b] at hP hD
        refine lv_aload_n hx hb dX10_reckon_83 rfl (lv_at hl 1 rfl) ?_
        refine pg_f (v := .ref w_4) (C := RX10) (T := TX10) (N := 13) hx hb hts (tw_i inlX10) hown hK hP hL_this hK_this (by decide) rfl 9 (by decide) (hts _ (tw_c tw_50)) (pq_hv rfl hR_w_4) dX10_reckon_84 ?_
        refine lv_aload_n hx hb dX10_reckon_87 rfl (lv_at hl 1 rfl) ?_
        refine pg_f (v := .int (I_75 320 this)) (C := RX10) (T := TX10) (N := 13) hx hb hts (tw_i inlX10) hown hK hP hL_this hK_this (by decide) rfl 0 (by decide) (hts _ (tw_c tw_457)) rfl dX10_reckon_88 ?_
        have h_82 : rg (I_75 320 this) 0 599 := (by rw [hG.2 320 (by decide) (by decide)]; exact h_3)
        refine pk_i (va_runV (As := [.int (I_75 320 this)]) (rest := [.int x_77, .int (I_75 321 this), .ref this]) ⟨hx, hb, hml, hown, hts⟩ (s_X3_leaveIn l D t σ I_75 J ri_71 rj rq H.size tg hSH hG.1 w_4 (I_75 320 this) hL_w_4 hK_w_4) (cwV 1 hts (tw_V tw_1157 tw_1005 tw_1006 tw_49 tw_1007) rfl rfl rfl (by decide +kernel) ⟨Nat.le_of_ble_eq_true rfl, Nat.le_of_ble_eq_true rfl⟩) ⟨pq_blind, pq_recv hK hP hL_w_4 hK_w_4 (by decide) rfl, pq_pre hK hN hP hD⟩ rfl rfl hl.1 rfl (lv_room (Nat.le_of_ble_eq_true rfl)) dX10_reckon_91 ⟨Nat.le_of_ble_eq_true rfl, Nat.le_of_ble_eq_true rfl⟩) hD hS hA (fun x_83 σ1 μ1 H locs hw_84 hP hD hS => ?_)
        have hu_85 := hw_84
        obtain ⟨hu_85a, hu_85b⟩ := Prod.mk.inj hu_85
        rw [hu_85a, hu_85b] at hP hD
        refine lv_aload_n hx hb dX10_reckon_94 rfl (lv_at hl 1 rfl) ?_
        refine pg_f (v := .int (I_75 324 this)) (C := RX10) (T := TX10) (N := 13) hx hb hts (tw_i inlX10) hown hK hP hL_this hK_this (by decide) rfl 4 (by decide) (hts _ (tw_c tw_32)) rfl dX10_reckon_95 ?_
        refine lv_imul hx hb dX10_reckon_98 ?_
        refine lv_topi (fun x_88 ex_88 => ?_)
        refine lv_bipush (v := 100) hx hb dX10_reckon_99 (by decide) ?_
        refine lv_idiv hx hb dX10_reckon_101 (by decide) ?_
        refine lv_topi (fun x_89 ex_89 => ?_)
        refine lv_iadd hx hb dX10_reckon_102 ?_
        refine lv_topi (fun x_90 ex_90 => ?_)
        refine lv_aload_n hx hb dX10_reckon_103 rfl (lv_at hl 1 rfl) ?_
        refine pg_f (v := .ref w_67) (C := RX10) (T := TX10) (N := 13) hx hb hts (tw_i inlX10) hown hK hP hL_this hK_this (by decide) rfl 6 (by decide) (hts _ (tw_c tw_38)) (pq_hv rfl hR_w_67) dX10_reckon_104 ?_
        refine pg_f (v := .int (I_75 238 w_67)) (C := RX7) (T := TX7) (N := 15) hx hb hts (tw_i inlX7) hown hK hP hL_w_67 hK_w_67 (by decide) rfl 14 (by decide) (hts _ (tw_c tw_1132)) rfl dX10_reckon_107 ?_
        refine lv_aload_n hx hb dX10_reckon_110 rfl (lv_at hl 1 rfl) ?_
        refine pg_f (v := .ref w_64) (C := RX10) (T := TX10) (N := 13) hx hb hts (tw_i inlX10) hown hK hP hL_this hK_this (by decide) rfl 7 (by decide) (hts _ (tw_c tw_42)) (pq_hv rfl hR_w_64) dX10_reckon_111 ?_
        refine pk_i (va_runV (As := []) (rest := [.int (I_75 238 w_67), .int x_90, .int (I_75 321 this), .ref this]) ⟨hx, hb, hml, hown, hts⟩ (s_X2_countWalls l D t σ I_75 J ri_71 rj rq H.size tg hSH hG.1 w_64 hL_w_64 hK_w_64) (cwV 0 hts (tw_V tw_1158 tw_1159 tw_1160 tw_41 tw_1161) rfl rfl rfl (by decide +kernel) ⟨Nat.le_of_ble_eq_true rfl, Nat.le_of_ble_eq_true rfl⟩) ⟨pq_blind, pq_recv hK hP hL_w_64 hK_w_64 (by decide) rfl, pq_pre hK hN hP hD⟩ rfl rfl hl.1 rfl (lv_room (Nat.le_of_ble_eq_true rfl)) dX10_reckon_114 ⟨Nat.le_of_ble_eq_true rfl, Nat.le_of_ble_eq_true rfl⟩) hD hS hA (fun x_91 σ1 μ1 H locs hw_92 hP hD hS => ?_)
        have hu_93 := hw_92
        obtain ⟨hu_93a, hu_93b⟩ := Prod.mk.inj hu_93
        rw [hu_93a, hu_93b] at hP hD
        refine lv_imul hx hb dX10_reckon_117 ?_
        refine lv_topi (fun x_96 ex_96 => ?_)
        refine lv_isub hx hb dX10_reckon_118 ?_
        refine lv_topi (fun x_97 ex_97 => ?_)
        refine lv_iadd hx hb dX10_reckon_119 ?_
        refine lv_topi (fun x_98 ex_98 => ?_)
        refine pp_i (v := x_98) (ty := .int) (C := RX10) (T := TX10) (N := 13) hx hb hts (tw_i inlX10) tyX10 tyX10_ok nmX10 hown hK hP hD hS hL_this hK_this (by decide) rfl 1 321 (by decide) (hts _ (tw_c tw_1131)) rfl (by decide +kernel) rfl rfl (Nat.le_of_ble_eq_true rfl) (ps_321 _ _ _ _ _) dX10_reckon_120 (fun I_99 H locs eI_99 hP hD hS => ?_)
        have hG := GX.wI hG 321 rfl eI_99 (rg_w (rg_full _) (by decide)) (by decide)
        refine lv_aload_n hx hb dX10_reckon_123 rfl (lv_at hl 1 rfl) ?_
        refine pg_f (v := .int (I_99 321 this)) (C := RX10) (T := TX10) (N := 13) hx hb hts (tw_i inlX10) hown hK hP hL_this hK_this (by decide) rfl 1 (by decide) (hts _ (tw_c tw_1131)) rfl dX10_reckon_124 ?_
        refine lv_if_ge (tgt := 146) hx hb dX10_reckon_127 (by decide) (fun c_100 => ?_) (fun c_100 => ?_)
        · have h_101 : rg (I_99 321 this) 0 2147483647 := rg_le2 c_100 (rg_k (0 : Int32) 0 rfl) (rg_full _) (by decide)
          subst hQ
          exact W.vret hx hb hr (fun t1 ht hW => ⟨⟨(σ, I_99, J, ri_71, rj, rq), rfl, ⟨I_99, ri_71, rfl, hG⟩, by rw [ht]; exact hP, va_K.moved hW.alike hK, hD⟩, hS.F ht⟩) hS.2.2 dX10_reckon_146
        · have h_102 : rg (I_99 321 this) (-2147483648) (-1) := rg_lt1 (nle c_100) (rg_full _) (rg_k (0 : Int32) 0 rfl) (by decide)
          refine lv_aload_n hx hb dX10_reckon_130 rfl (lv_at hl 1 rfl) ?_
          refine pg_f (v := .int (I_99 323 this)) (C := RX10) (T := TX10) (N := 13) hx hb hts (tw_i inlX10) hown hK hP hL_this hK_this (by decide) rfl 3 (by decide) (hts _ (tw_c tw_31)) rfl dX10_reckon_131 ?_
          refine lv_iconst (v := (-1)) hx hb dX10_reckon_134 (by decide) ?_
          refine lv_icmp_ne (tgt := 146) hx hb dX10_reckon_135 (by decide) (fun c_103 => ?_) (fun c_103 => ?_)
          · subst hQ
            exact W.vret hx hb hr (fun t1 ht hW => ⟨⟨(σ, I_99, J, ri_71, rj, rq), rfl, ⟨I_99, ri_71, rfl, hG⟩, by rw [ht]; exact hP, va_K.moved hW.alike hK, hD⟩, hS.F ht⟩) hS.2.2 dX10_reckon_146
          · have h_104 : rg (I_99 323 this) (-1) (-1) := rg_and (rg_full _) (rg_of_eq c_103 (rg_k (-1 : Int32) (-1) rfl)) (by decide)
            refine lv_aload_n hx hb dX10_reckon_138 rfl (lv_at hl 1 rfl) ?_
            refine lv_aload_n hx hb dX10_reckon_139 rfl (lv_at hl 1 rfl) ?_
            refine pg_f (v := .int (I_99 320 this)) (C := RX10) (T := TX10) (N := 13) hx hb hts (tw_i inlX10) hown hK hP hL_this hK_this (by decide) rfl 0 (by decide) (hts _ (tw_c tw_457)) rfl dX10_reckon_140 ?_
            have h_105 : rg (I_99 320 this) 0 599 := (by rw [hG.2 320 (by decide) (by decide)]; exact h_3)
            refine pp_i (v := (I_99 320 this)) (ty := .int) (C := RX10) (T := TX10) (N := 13) hx hb hts (tw_i inlX10) tyX10 tyX10_ok nmX10 hown hK hP hD hS hL_this hK_this (by decide) rfl 3 323 (by decide) (hts _ (tw_c tw_31)) rfl (by decide +kernel) rfl rfl (Nat.le_of_ble_eq_true rfl) (ps_323 _ _ _ _ _) dX10_reckon_143 (fun I_106 H locs eI_106 hP hD hS => ?_)
            have hG := GX.wI hG 323 rfl eI_106 (rg_w h_105 (by decide)) (by decide)
            subst hQ
            exact W.vret hx hb hr (fun t1 ht hW => ⟨⟨(σ, I_106, J, ri_71, rj, rq), rfl, ⟨I_106, ri_71, rfl, hG⟩, by rw [ht]; exact hP, va_K.moved hW.alike hK, hD⟩, hS.F ht⟩) hS.2.2 dX10_reckon_146
      have K_107 : ∀  (H : Heap) (locs : List Loc) (ls : Array Slot), GX [] tg σ I I ri rq → va_P D vwCl (pq_P t σ (I, J, ri, rj, rq)) H → va_D A (pq_P t σ (I, J, ri, rj, rq)) → va_S A s.heap H locs → lv_has ls 3 [(0, .ref this)] → W p l e ({ frames := 4, cells := 0, slots := 0, locals := 94 } : Room) s m (List.toArray ([.ref this] : List Value)) below meth c H locs 0 0 Q (F0 m 39 ls []) := by
        intro H locs ls hG hP hD hS hl
        refine lv_aload_n hx hb dX10_reckon_39 rfl (lv_at hl 0 rfl) ?_
        refine pg_f (v := .int (I 320 this)) (C := RX10) (T := TX10) (N := 13) hx hb hts (tw_i inlX10) hown hK hP hL_this hK_this (by decide) rfl 0 (by decide) (hts _ (tw_c tw_457)) rfl dX10_reckon_40 ?_
        exact K_61 (I 320 this) _ _ _ (rg_w h_3 (by decide)) hG hP hD hS (lv_sub hl [0] rfl)
      refine lv_if_lt (tgt := 39) hx hb dX10_reckon_24 (by decide) (fun c_108 => ?_) (fun c_108 => ?_)
      · have h_109 : rg x_5 (-2147483648) (-1) := rg_lt1 c_108 (rg_full _) (rg_k (0 : Int32) 0 rfl) (by decide)
        exact K_107 _ _ _ hG hP hD hS (lv_sub hl [1] rfl)
      · have h_110 : rg x_5 0 2147483647 := rg_le2 (nlt c_108) (rg_k (0 : Int32) 0 rfl) (rg_full _) (by decide)
        refine lv_iload_n hx hb dX10_reckon_27 rfl (lv_at hl 0 rfl) ?_
        refine lv_aload_n hx hb dX10_reckon_28 rfl (lv_at hl 1 rfl) ?_
        refine pg_f (v := .int (I 320 this)) (C := RX10) (T := TX10) (N := 13) hx hb hts (tw_i inlX10) hown hK hP hL_this hK_this (by decide) rfl 0 (by decide) (hts _ (tw_c tw_457)) rfl dX10_reckon_29 ?_
        refine lv_icmp_ge (tgt := 39) hx hb dX10_reckon_32 (by decide) (fun c_111 => ?_) (fun c_111 => ?_)
        · exact K_107 _ _ _ hG hP hD hS (lv_sub hl [1] rfl)
        · have h_112 : rg x_5 0 598 := rg_lt1 (nle c_111) h_110 h_3 (by decide)
          have h_113 : rg (I 320 this) 1 599 := rg_lt2 (nle c_111) h_110 h_3 (by decide)
          refine lv_iload_n hx hb dX10_reckon_35 rfl (lv_at hl 0 rfl) ?_
          refine lv_goto (tgt := 43) hx hb dX10_reckon_36 (by decide) ?_
          exact K_61 x_5 _ _ _ (rg_w h_112 (by decide)) hG hP hD hS (lv_sub hl [1] rfl)
    · have h_114 : rg (I 320 this) 600 600 := rg_le2 (nlt c_2) (rg_k (600 : Int32) 600 rfl) h_1 (by decide)
      subst hQ
      exact W.vret hx hb hr (fun t1 ht hW => ⟨⟨(σ, I, J, ri, rj, rq), rfl, ⟨I, ri, rfl, hG⟩, by rw [ht]; exact hP, va_K.moved hW.alike hK, hD⟩, hS.F ht⟩) hS.2.2 dX10_reckon_10
  exact go _ _ _ hP hD hS hl

set_option maxHeartbeats 4000000 in
set_option maxRecDepth 100000 in
theorem s_X3_line_331 (l : Launch) (D : va_G) (t : pq_T) (σ : pq_S) (I : Nat → Nat → Int32) (J : Nat → Nat → Int64) (ri : Nat → Nat → Int32) (rj : Nat → Nat → Int64) (rq : Nat → Nat → Option Nat) (sz : Nat) (tg : Nat → Nat) (hSH : SH σ tg) (hG0 : GS tg σ I ri rq) (this : Nat) (a0 : Int32) (a1 : Int32) (a2 : Nat) (a3 : Nat) (hL_this : this ∈ σ.1) (hK_this : σ.2.1 this = 3) (hL_a2 : a2 ∈ σ.1) (hK_a2 : σ.2.1 a2 = 0) (hL_a3 : a3 ∈ σ.1) (hK_a3 : σ.2.1 a3 = 13) (hN_a3 : σ.2.2.2 a3 = 40) (hT_a3 : tg a3 = 331) : MetV l yX3_line (wa yX3_line cX3_line 11 none) ({ frames := 2, cells := 0, slots := 0, locals := 67 }) [.ref this, .int a0, .int a1, .ref a2, .ref a3] D t σ (I, J, ri, rj, rq) sz 0 0 (fun (u : pq_S × pq_M) => ∃ ri' : Nat → Nat → Int32, u = (σ, I, J, ri', rj, rq) ∧ GX [] tg σ I I ri' rq) := by
  refine Met.ofW (cc := cX3_line) (maxL := 11) (ret := none) (by decide) rfl ?_
  intro p e s m args below meth c s₁ B hml hv
  obtain ⟨rfl, hsz, hP, hK, hD0, hN⟩ := hv
  have hx := B.exec
  have hb := B.bytes
  have hr := B.returns
  have hts := atoms_spec (ws := (wa yX3_line cX3_line 11 none)) B.pre
  have hown : s.vm.findClass RX3 = some m.cls := findClass_of_methodNamed B.named
  have hlocks := B.notSynchronized
  subst hsz
  have hD : va_D (pq_B t σ (I, J, ri, rj, rq) s.heap.size) (pq_P t σ (I, J, ri, rj, rq)) := hD0.self
  generalize hAe : pq_B t σ (I, J, ri, rj, rq) s.heap.size = A at hD ⊢
  have hA : ∀ q : Nat, s.heap.size ≤ q → A q := fun q h => by rw [← hAe]; exact Or.inr h
  have hS : va_S A s.heap s.heap [] := va_S.rf
  have hG : GX [] tg σ I I ri rq := ⟨hG0, fun _ _ _ => rfl⟩
  have hl := lv_entry ([.ref this, .int a0, .int a1, .ref a2, .ref a3]) (n := 11) (Nat.le_of_ble_eq_true rfl)
  rw [lg_entry_eq]
  generalize (lg_sl ([.ref this, .int a0, .int a1, .ref a2, .ref a3]) ++ List.replicate (11 - (lg_sl ([.ref this, .int a0, .int a1, .ref a2, .ref a3])).length) Slot.unset).toArray = ls at hl ⊢
  have hl : lv_has ls 11 [(0, .ref this), (1, .int a0), (2, .int a1), (3, .ref a2), (4, .ref a3)] := hl
  refine q_gen (fun Q hQ => ?_)
  have go : ∀ (H : Heap) (locs : List Loc) (ls : Array Slot), va_P D vwCl (pq_P t σ (I, J, ri, rj, rq)) H → va_D A (pq_P t σ (I, J, ri, rj, rq)) → va_S A s.heap H locs → lv_has ls 11 [(0, .ref this), (1, .int a0), (2, .int a1), (3, .ref a2), (4, .ref a3)] → W p l e ({ frames := 2, cells := 0, slots := 0, locals := 67 } : Room) s m (List.toArray ([.ref this, .int a0, .int a1, .ref a2, .ref a3] : List Value)) below meth c H locs 0 0 Q (F0 m 0 ls []) := by
    intro H locs ls hP hD hS hl
    refine lv_aload_n hx hb dX3_line_0 rfl (lv_at hl 3 rfl) ?_
    refine pg_f (v := .int (I 0 a2)) (C := RX0) (T := TX0) (N := 16) hx hb hts (tw_i inlX0) hown hK hP hL_a2 hK_a2 (by decide) rfl 0 (by decide) (hts _ (tw_c tw_465)) rfl dX3_line_1 ?_
    have h_1 : rg (I 0 a2) 0 40 := GX.rI hG 0 rfl
    refine lv_aload hx hb dX3_line_4 (lv_at hl 4 rfl) ?_
    refine pn_i (v := 40) hx hb hK hP hL_a3 hK_a3 hN_a3 (by decide) dX3_line_6 ?_
    refine va_mmin hx hb (hml.trans hl.1.symm) hown (hts _ (tw_c tw_466)) (hts _ (tw_c tw_467)) (hts _ (tw_c tw_276)) (hts _ (tw_c tw_468)) (Nat.le_of_ble_eq_true rfl) (Nat.le_of_ble_eq_true rfl) (Nat.zero_le _) (Nat.zero_le _) dX3_line_7 ?_
    refine lv_topi (fun x_2 ex_2 => ?_)
    have h_3 : rg x_2 0 40 := rg_of_eq ex_2 (rg_min2 h_1 (rg_k (40 : Int32) 40 rfl) (by decide))
    refine lv_istore (lv' := [(5, .int x_2), (0, .ref this), (1, .int a0), (2, .int a1), (3, .ref a2), (4, .ref a3)]) hx hb dX3_line_10 hl (by decide) rfl (fun ls hl => ?_)
    refine lv_iconst (v := 0) hx hb dX3_line_12 (by decide) ?_
    refine lv_istore (lv' := [(6, .int 0), (5, .int x_2), (0, .ref this), (1, .int a0), (2, .int a1), (3, .ref a2), (4, .ref a3)]) hx hb dX3_line_13 hl (by decide) rfl (fun ls hl => ?_)
    have L_19033 : ∀ (n_ : Nat) (x_16619 : Int32) (ri_16620 : Nat → Nat → Int32) (H : Heap) (locs : List Loc) (ls : Array Slot), rg x_16619 0 40 → (40 - (x_16619).toInt).toNat < n_ → GX [] tg σ I I ri_16620 rq → va_P D vwCl (pq_P t σ (I, J, ri_16620, rj, rq)) H → va_D A (pq_P t σ (I, J, ri_16620, rj, rq)) → va_S A s.heap H locs → lv_has ls 11 [(0, .ref this), (1, .int a0), (2, .int a1), (3, .ref a2), (4, .ref a3), (5, .int x_2), (6, .int x_16619)] → W p l e ({ frames := 2, cells := 0, slots := 0, locals := 67 } : Room) s m (List.toArray ([.ref this, .int a0, .int a1, .ref a2, .ref a3] : List Value)) below meth c H locs 0 0 Q (F0 m 15 ls []) := by
      intro n_
      induction n_ with
      | zero => intro x_16619 ri_16620 H locs ls h_19036 hm hG hP hD hS hl; exact absurd hm (Nat.not_lt_zero _)
      | succ n_ ih_19034 =>
        intro x_16619 ri_16620 H locs ls h_19036 hm hG hP hD hS hl
        refine lv_iload hx hb dX3_line_15 (lv_at hl 6 rfl) ?_
        refine lv_iload hx hb dX3_line_17 (lv_at hl 5 rfl) ?_
        refine lv_icmp_ge (tgt := 35) hx hb dX3_line_19 (by decide) (fun c_19037 => ?_) (fun c_19037 => ?_)
        · refine lv_aload_n hx hb dX3_line_35 rfl (lv_at hl 0 rfl) ?_
          refine lv_iload_n hx hb dX3_line_36 rfl (lv_at hl 1 rfl) ?_
          refine lv_iload_n hx hb dX3_line_37 rfl (lv_at hl 2 rfl) ?_
          refine pk_q (va_runV (As := [.int a0, .int a1]) (rest := []) ⟨hx, hb, hml, hown, hts⟩ (s_X3_textFor l D t σ I J ri_16620 rj rq H.size tg hSH hG.1 this a0 a1 hL_this hK_this) (cwV 2 hts (tw_V tw_469 tw_470 tw_471 tw_49 tw_472) rfl rfl rfl (by decide +kernel) ⟨Nat.le_of_ble_eq_true rfl, Nat.le_of_ble_eq_true rfl⟩) ⟨pq_blind, pq_recv hK hP hL_this hK_this (by decide) rfl, pq_pre hK hN hP hD⟩ rfl rfl hl.1 rfl (lv_room (Nat.le_of_ble_eq_true rfl)) dX3_line_38 ⟨Nat.le_of_ble_eq_true rfl, Nat.le_of_ble_eq_true rfl⟩) hD hS hA (fun x_19038 σ1 μ1 H locs hw_19039 hP hD hS => ?_)
          obtain ⟨hu_19040, hr_19042⟩ := hw_19039
          obtain ⟨hu_19040a, hu_19040b⟩ := Prod.mk.inj hu_19040
          rw [hu_19040a, hu_19040b] at hP hD
          rcases hr_19042 with rfl | ⟨w_x_19038, rfl, hL_w_x_19038, hK_w_x_19038⟩
          · refine lv_astoreN (lv' := [(6, .null), (0, .ref this), (1, .int a0), (2, .int a1), (3, .ref a2), (4, .ref a3), (5, .int x_2)]) hx hb dX3_line_41 hl (by decide) rfl (fun ls hl => ?_)
            refine lv_aloadN hx hb dX3_line_43 (lv_at hl 0 rfl) ?_
            refine lv_ifnonnullN hx hb dX3_line_45 ?_
            subst hQ
            exact W.vret hx hb hr (fun t1 ht hW => ⟨⟨(σ, I, J, ri_16620, rj, rq), rfl, ⟨ri_16620, rfl, hG⟩, by rw [ht]; exact hP, va_K.moved hW.alike hK, hD⟩, hS.F ht⟩) hS.2.2 dX3_line_48
          · refine lv_astore (lv' := [(6, .ref w_x_19038), (0, .ref this), (1, .int a0), (2, .int a1), (3, .ref a2), (4, .ref a3), (5, .int x_2)]) hx hb dX3_line_41 hl (by decide) rfl (fun ls hl => ?_)
            refine lv_aload hx hb dX3_line_43 (lv_at hl 0 rfl) ?_
            refine lv_ifnonnull (tgt := 49) hx hb dX3_line_45 (by decide) ?_
            refine lv_aload hx hb dX3_line_49 (lv_at hl 0 rfl) ?_
            refine lv_iload_n hx hb dX3_line_51 rfl (lv_at hl 2 rfl) ?_
            refine pk_i (va_runV (As := [.int a0]) (rest := []) ⟨hx, hb, hml, hown, hts⟩ (s_X8_firstOf l D t σ I J ri_16620 rj rq H.size tg hSH hG.1 w_x_19038 a0 hL_w_x_19038 hK_w_x_19038) (cwV 1 hts (tw_V tw_474 tw_475 tw_476 tw_159 tw_477) rfl rfl rfl (by decide +kernel) ⟨Nat.le_of_ble_eq_true rfl, Nat.le_of_ble_eq_true rfl⟩) ⟨pq_blind, pq_recv hK hP hL_w_x_19038 hK_w_x_19038 (by decide) rfl, pq_pre hK hN hP hD⟩ rfl rfl hl.1 rfl (lv_room (Nat.le_of_ble_eq_true rfl)) dX3_line_52 ⟨Nat.le_of_ble_eq_true rfl, Nat.le_of_ble_eq_true rfl⟩) hD hS hA (fun x_19043 σ1 μ1 H locs hw_19044 hP hD hS => ?_)
            obtain ⟨hu_19045, hp_19048, hr_19047⟩ := hw_19044
            obtain ⟨hu_19045a, hu_19045b⟩ := Prod.mk.inj hu_19045
            rw [hu_19045a, hu_19045b] at hP hD
            refine lv_istore (lv' := [(7, .int x_19043), (6, .ref w_x_19038), (0, .ref this), (1, .int a0), (2, .int a1), (3, .ref a2), (4, .ref a3), (5, .int x_2)]) hx hb dX3_line_55 hl (by decide) rfl (fun ls hl => ?_)
            refine lv_iconst (v := 1) hx hb dX3_line_57 (by decide) ?_
            refine lv_istore (lv' := [(8, .int 1), (7, .int x_19043), (6, .ref w_x_19038), (0, .ref this), (1, .int a0), (2, .int a1), (3, .ref a2), (4, .ref a3), (5, .int x_2)]) hx hb dX3_line_58 hl (by decide) rfl (fun ls hl => ?_)
            have L_21260 : ∀ (n_ : Nat) (x_21075 : Int32) (ri_21076 : Nat → Nat → Int32) (H : Heap) (locs : List Loc) (ls : Array Slot), rg x_21075 1 40 → (40 - (x_21075).toInt).toNat < n_ → GX [] tg σ I I ri_21076 rq → va_P D vwCl (pq_P t σ (I, J, ri_21076, rj, rq)) H → va_D A (pq_P t σ (I, J, ri_21076, rj, rq)) → va_S A s.heap H locs → lv_has ls 11 [(3, .ref a2), (4, .ref a3), (5, .int x_2), (6, .ref w_x_19038), (7, .int x_19043), (8, .int x_21075)] → W p l e ({ frames := 2, cells := 0, slots := 0, locals := 67 } : Room) s m (List.toArray ([.ref this, .int a0, .int a1, .ref a2, .ref a3] : List Value)) below meth c H locs 0 0 Q (F0 m 60 ls []) := by
              intro n_
              induction n_ with
              | zero => intro x_21075 ri_21076 H locs ls h_21263 hm hG hP hD hS hl; exact absurd hm (Nat.not_lt_zero _)
              | succ n_ ih_21261 =>
                intro x_21075 ri_21076 H locs ls h_21263 hm hG hP hD hS hl
                refine lv_iload hx hb dX3_line_60 (lv_at hl 5 rfl) ?_
                refine lv_iload hx hb dX3_line_62 (lv_at hl 2 rfl) ?_
                refine lv_icmp_ge (tgt := 134) hx hb dX3_line_64 (by decide) (fun c_21264 => ?_) (fun c_21264 => ?_)
                · subst hQ
                  exact W.vret hx hb hr (fun t1 ht hW => ⟨⟨(σ, I, J, ri_21076, rj, rq), rfl, ⟨ri_21076, rfl, hG⟩, by rw [ht]; exact hP, va_K.moved hW.alike hK, hD⟩, hS.F ht⟩) hS.2.2 dX3_line_134
                · have h_21265 : rg x_21075 1 39 := rg_lt1 (nle c_21264) h_21263 h_3 (by decide)
                  have h_21266 : rg x_2 2 40 := rg_lt2 (nle c_21264) h_21263 h_3 (by decide)
                  refine lv_aload hx hb dX3_line_67 (lv_at hl 1 rfl) ?_
                  refine lv_iload hx hb dX3_line_69 (lv_at hl 5 rfl) ?_
                  refine pl_i hx hb hK hP hL_a3 hK_a3 hN_a3 (rg_in h_21265 (by decide)) dX3_line_71 ?_
                  refine lv_topi (fun x_21267 ex_21267 => ?_)
                  have h_21268 : rg x_21267 0 39 := rg_of_eq ex_21267 (GX.rR hG hT_a3 rfl)
                  refine lv_istore (lv' := [(9, .int x_21267), (3, .ref a2), (4, .ref a3), (5, .int x_2), (6, .ref w_x_19038), (7, .int x_19043), (8, .int x_21075)]) hx hb dX3_line_72 hl (by decide) rfl (fun ls hl => ?_)
                  refine lv_iload hx hb dX3_line_74 (lv_at hl 6 rfl) ?_
                  refine lv_istore (lv' := [(10, .int x_21075), (9, .int x_21267), (3, .ref a2), (4, .ref a3), (5, .int x_2), (6, .ref w_x_19038), (7, .int x_19043), (8, .int x_21075)]) hx hb dX3_line_76 hl (by decide) rfl (fun ls hl => ?_)
                  have L_21417 : ∀ (n_ : Nat) (x_21386 : Int32) (ri_21387 : Nat → Nat → Int32) (H : Heap) (locs : List Loc) (ls : Array Slot), rg x_21386 0 39 → ((x_21386).toInt - 0).toNat < n_ → GX [] tg σ I I ri_21387 rq → va_P D vwCl (pq_P t σ (I, J, ri_21387, rj, rq)) H → va_D A (pq_P t σ (I, J, ri_21387, rj, rq)) → va_S A s.heap H locs → lv_has ls 11 [(3, .ref a2), (4, .ref a3), (5, .int x_2), (6, .ref w_x_19038), (7, .int x_19043), (8, .int x_21075), (9, .int x_21267), (10, .int x_21386)] → W p l e ({ frames := 2, cells := 0, slots := 0, locals := 67 } : Room) s m (List.toArray ([.ref this, .int a0, .int a1, .ref a2, .ref a3] : List Value)) below meth c H locs 0 0 Q (F0 m 78 ls []) := by
                    intro n_
                    induction n_ with
                    | zero => intro x_21386 ri_21387 H locs ls h_21420 hm hG hP hD hS hl; exact absurd hm (Nat.not_lt_zero _)
                    | succ n_ ih_21418 =>
                      intro x_21386 ri_21387 H locs ls h_21420 hm hG hP hD hS hl
                      refine lv_iload hx hb dX3_line_78 (lv_at hl 7 rfl) ?_
                      have K_21449 : ∀  (H : Heap) (locs : List Loc) (ls : Array Slot), GX [] tg σ I I ri_21387 rq → va_P D vwCl (pq_P t σ (I, J, ri_21387, rj, rq)) H → va_D A (pq_P t σ (I, J, ri_21387, rj, rq)) → va_S A s.heap H locs → lv_has ls 11 [(3, .ref a2), (4, .ref a3), (5, .int x_2), (6, .ref w_x_19038), (7, .int x_19043), (8, .int x_21075), (9, .int x_21267), (10, .int x_21386)] → W p l e ({ frames := 2, cells := 0, slots := 0, locals := 67 } : Room) s m (List.toArray ([.ref this, .int a0, .int a1, .ref a2, .ref a3] : List Value)) below meth c H locs 0 0 Q (F0 m 121 ls []) := by
                        intro H locs ls hG hP hD hS hl
                        refine lv_aload hx hb dX3_line_121 (lv_at hl 1 rfl) ?_
                        refine lv_iload hx hb dX3_line_123 (lv_at hl 7 rfl) ?_
                        refine lv_iload hx hb dX3_line_125 (lv_at hl 6 rfl) ?_
                        refine pt_i hx hb hK hP hD hS hL_a3 hK_a3 hN_a3 (rg_in h_21420 (by decide)) dX3_line_127 (fun r_21450 H locs er_21450 hP hD hS => ?_)
                        have hG := GX.wR hG hSH hT_a3 rfl er_21450 (rg_w h_21268 (by decide)) (by decide)
                        obtain ⟨x_21451, ex_21451⟩ : ∃ y : Int32, y = x_21075 + Int32.ofInt 1 := ⟨_, rfl⟩
                        have h_21452 : rg x_21451 2 40 := rg_of_eq ex_21451 (rg_add h_21265 (rg_k (Int32.ofInt 1) 1 rfl) (by decide))
                        refine lv_iinc (v := x_21451) (lv' := [(8, .int x_21451), (3, .ref a2), (4, .ref a3), (5, .int x_2), (6, .ref w_x_19038), (7, .int x_19043), (9, .int x_21267), (10, .int x_21386)]) hx hb dX3_line_128 hl (k := 5) rfl ex_21451.symm (by decide) rfl (fun ls hl => ?_)
                        refine lv_goto (tgt := 60) hx hb dX3_line_131 (by decide) ?_
                        exact ih_21261 x_21451 r_21450 _ _ _ (rg_w h_21452 (by decide)) (ms_up 1 hm ex_21451 rfl (by decide) h_21265 (by decide) (by decide)) hG hP hD hS (lv_sub hl [1, 2, 3, 4, 5, 0] rfl)
                      refine lv_if_le (tgt := 121) hx hb dX3_line_80 (by decide) (fun c_21453 => ?_) (fun c_21453 => ?_)
                      · have h_21454 : rg x_21386 0 0 := rg_le1 c_21453 h_21420 (rg_k (0 : Int32) 0 rfl) (by decide)
                        exact K_21449 _ _ _ hG hP hD hS (lv_sub hl [0, 1, 2, 3, 4, 5, 6, 7] rfl)
                      · have h_21455 : rg x_21386 1 39 := rg_lt2 (nle c_21453) (rg_k (0 : Int32) 0 rfl) h_21420 (by decide)
                        refine lv_aload hx hb dX3_line_83 (lv_at hl 3 rfl) ?_
                        refine lv_iload hx hb dX3_line_85 (lv_at hl 4 rfl) ?_
                        refine lv_aload_n hx hb dX3_line_87 rfl (lv_at hl 0 rfl) ?_
                        refine lv_iload hx hb dX3_line_88 (lv_at hl 6 rfl) ?_
                        refine lv_aload hx hb dX3_line_90 (lv_at hl 1 rfl) ?_
                        refine lv_iload hx hb dX3_line_92 (lv_at hl 7 rfl) ?_
                        refine lv_iconst (v := 1) hx hb dX3_line_94 (by decide) ?_
                        refine lv_isub hx hb dX3_line_95 ?_
                        refine lv_topi (fun x_21456 ex_21456 => ?_)
                        have h_21457 : rg x_21456 0 38 := rg_of_eq ex_21456 (rg_sub h_21455 (rg_k (1 : Int32) 1 rfl) (by decide))
                        refine pl_i hx hb hK hP hL_a3 hK_a3 hN_a3 (rg_in h_21457 (by decide)) dX3_line_96 ?_
                        refine lv_topi (fun x_21458 ex_21458 => ?_)
                        have h_21459 : rg x_21458 0 39 := rg_of_eq ex_21458 (GX.rR hG hT_a3 rfl)
                        refine pk_i (va_runV (As := [.int x_19043, .ref a2, .int x_21267, .int x_21458]) (rest := []) ⟨hx, hb, hml, hown, hts⟩ (s_X8_isAhead l D t σ I J ri_21387 rj rq H.size tg hSH hG.1 w_x_19038 x_19043 a2 x_21267 x_21458 hL_w_x_19038 hK_w_x_19038 hL_a2 hK_a2 (rg_w h_21268 (by decide)) (rg_w h_21459 (by decide))) (cwV 4 hts (tw_V tw_479 tw_480 tw_481 tw_159 tw_482) rfl rfl rfl (by decide +kernel) ⟨Nat.le_of_ble_eq_true rfl, Nat.le_of_ble_eq_true rfl⟩) ⟨pq_blind, pq_recv hK hP hL_w_x_19038 hK_w_x_19038 (by decide) rfl, pq_pre hK hN hP hD⟩ rfl rfl hl.1 rfl (lv_room (Nat.le_of_ble_eq_true rfl)) dX3_line_97 ⟨Nat.le_of_ble_eq_true rfl, Nat.le_of_ble_eq_true rfl⟩) hD hS hA (fun x_21460 σ1 μ1 H locs hw_21461 hP hD hS => ?_)
                        obtain ⟨hu_21462, hr_21464⟩ := hw_21461
                        obtain ⟨hu_21462a, hu_21462b⟩ := Prod.mk.inj hu_21462
                        rw [hu_21462a, hu_21462b] at hP hD
                        have h_21465 : rg x_21460 0 1 := by rcases hr_21464 with ⟨q, -⟩ | ⟨q, -⟩ <;> rw [q] <;> exact ⟨by decide, by decide⟩
                        refine lv_if_eq (tgt := 121) hx hb dX3_line_100 (by decide) (fun c_21466 => ?_) (fun c_21466 => ?_)
                        · have f_21467 := (hr_21464.resolve_left (fun q => absurd (q.1.symm.trans c_21466) (by decide))).2
                          have h_21468 : rg x_21460 0 0 := rg_and h_21465 (rg_of_eq c_21466 (rg_k (0 : Int32) 0 rfl)) (by decide)
                          exact K_21449 _ _ _ hG hP hD hS (lv_sub hl [0, 1, 2, 3, 4, 5, 6, 7] rfl)
                        · have f_21469 := (hr_21464.resolve_right (fun q => c_21466 q.1)).2
                          have h_21470 : rg x_21460 1 1 := rg_ne c_21466 h_21465 0 rfl (by decide)
                          refine lv_aload hx hb dX3_line_103 (lv_at hl 1 rfl) ?_
                          refine lv_iload hx hb dX3_line_105 (lv_at hl 7 rfl) ?_
                          refine lv_aload hx hb dX3_line_107 (lv_at hl 1 rfl) ?_
                          refine lv_iload hx hb dX3_line_109 (lv_at hl 7 rfl) ?_
                          refine lv_iconst (v := 1) hx hb dX3_line_111 (by decide) ?_
                          refine lv_isub hx hb dX3_line_112 ?_
                          refine lv_topi (fun x_21471 ex_21471 => ?_)
                          have h_21472 : rg x_21471 0 38 := rg_of_eq ex_21471 (rg_sub h_21455 (rg_k (1 : Int32) 1 rfl) (by decide))
                          refine pl_i hx hb hK hP hL_a3 hK_a3 hN_a3 (rg_in h_21472 (by decide)) dX3_line_113 ?_
                          refine lv_topi (fun x_21473 ex_21473 => ?_)
                          have h_21474 : rg x_21473 0 39 := rg_of_eq ex_21473 (GX.rR hG hT_a3 rfl)
                          refine pt_i hx hb hK hP hD hS hL_a3 hK_a3 hN_a3 (rg_in h_21455 (by decide)) dX3_line_114 (fun r_21475 H locs er_21475 hP hD hS => ?_)
                          have hG := GX.wR hG hSH hT_a3 rfl er_21475 (rg_w h_21474 (by decide)) (by decide)
                          obtain ⟨x_21476, ex_21476⟩ : ∃ y : Int32, y = x_21386 + Int32.ofInt (-1) := ⟨_, rfl⟩
                          have h_21477 : rg x_21476 0 38 := rg_of_eq ex_21476 (rg_add h_21455 (rg_k (Int32.ofInt (-1)) (-1) rfl) (by decide))
                          refine lv_iinc (v := x_21476) (lv' := [(10, .int x_21476), (3, .ref a2), (4, .ref a3), (5, .int x_2), (6, .ref w_x_19038), (7, .int x_19043), (8, .int x_21075), (9, .int x_21267)]) hx hb dX3_line_115 hl (k := 7) rfl ex_21476.symm (by decide) rfl (fun ls hl => ?_)
                          refine lv_goto (tgt := 78) hx hb dX3_line_118 (by decide) ?_
                          exact ih_21418 x_21476 r_21475 _ _ _ (rg_w h_21477 (by decide)) (ms_dn 1 hm ex_21476 rfl (by decide) h_21455 (by decide) (by decide)) hG hP hD hS (lv_sub hl [1, 2, 3, 4, 5, 6, 7, 0] rfl)
                  exact L_21417 _ x_21075 ri_21076 _ _ _ (rg_w h_21265 (by decide)) (Nat.lt_succ_self _) hG hP hD hS (lv_sub hl [2, 3, 4, 5, 6, 7, 1, 0] rfl)
            exact L_21260 _ (1 : Int32) ri_16620 _ _ _ (rg_w (rg_k (1 : Int32) 1 rfl) (by decide)) (Nat.lt_succ_self _) hG hP hD hS (lv_sub hl [6, 7, 8, 2, 1, 0] rfl)
        · have h_21478 : rg x_16619 0 39 := rg_lt1 (nle c_19037) h_19036 h_3 (by decide)
          have h_21479 : rg x_2 1 40 := rg_lt2 (nle c_19037) h_19036 h_3 (by decide)
          refine lv_aload hx hb dX3_line_22 (lv_at hl 4 rfl) ?_
          refine lv_iload hx hb dX3_line_24 (lv_at hl 6 rfl) ?_
          refine lv_iload hx hb dX3_line_26 (lv_at hl 6 rfl) ?_
          refine pt_i hx hb hK hP hD hS hL_a3 hK_a3 hN_a3 (rg_in h_21478 (by decide)) dX3_line_28 (fun r_21480 H locs er_21480 hP hD hS => ?_)
          have hG := GX.wR hG hSH hT_a3 rfl er_21480 (rg_w h_21478 (by decide)) (by decide)
          obtain ⟨x_21481, ex_21481⟩ : ∃ y : Int32, y = x_16619 + Int32.ofInt 1 := ⟨_, rfl⟩
          have h_21482 : rg x_21481 1 40 := rg_of_eq ex_21481 (rg_add h_21478 (rg_k (Int32.ofInt 1) 1 rfl) (by decide))
          refine lv_iinc (v := x_21481) (lv' := [(6, .int x_21481), (0, .ref this), (1, .int a0), (2, .int a1), (3, .ref a2), (4, .ref a3), (5, .int x_2)]) hx hb dX3_line_29 hl (k := 6) rfl ex_21481.symm (by decide) rfl (fun ls hl => ?_)
          refine lv_goto (tgt := 15) hx hb dX3_line_32 (by decide) ?_
          exact ih_19034 x_21481 r_21480 _ _ _ (rg_w h_21482 (by decide)) (ms_up 1 hm ex_21481 rfl (by decide) h_21478 (by decide) (by decide)) hG hP hD hS (lv_sub hl [1, 2, 3, 4, 5, 6, 0] rfl)
    exact L_19033 _ (0 : Int32) ri _ _ _ (rg_w (rg_k (0 : Int32) 0 rfl) (by decide)) (Nat.lt_succ_self _) hG hP hD hS (lv_sub hl [2, 3, 4, 5, 6, 1, 0] rfl)
  exact go _ _ _ hP hD hS hl

set_option maxHeartbeats 4000000 in
set_option maxRecDepth 100000 in
theorem s_X0_board_331 (l : Launch) (D : va_G) (t : pq_T) (σ : pq_S) (I : Nat → Nat → Int32) (J : Nat → Nat → Int64) (ri : Nat → Nat → Int32) (rj : Nat → Nat → Int64) (rq : Nat → Nat → Option Nat) (sz : Nat) (tg : Nat → Nat) (hSH : SH σ tg) (hG0 : GS tg σ I ri rq) (this : Nat) (a0 : Int64) (a1 : Nat) (a2 : Int32) (a3 : Int32) (a4 : Int32) (hL_this : this ∈ σ.1) (hK_this : σ.2.1 this = 0) (hL_a1 : a1 ∈ σ.1) (hK_a1 : σ.2.1 a1 = 13) (hN_a1 : σ.2.2.2 a1 = 40) (hT_a1 : tg a1 = 331) : MetV l yX0_board (wa yX0_board cX0_board 11 none) ({ frames := 2, cells := 0, slots := 0, locals := 45 }) [.ref this, .long a0, .ref a1, .int a2, .int a3, .int a4] D t σ (I, J, ri, rj, rq) sz 0 0 (fun (u : pq_S × pq_M) => ∃ ri' : Nat → Nat → Int32, u = (σ, I, J, ri', rj, rq) ∧ GX [] tg σ I I ri' rq) := by
  refine Met.ofW (cc := cX0_board) (maxL := 11) (ret := none) (by decide) rfl ?_
  intro p e s m args below meth c s₁ B hml hv
  obtain ⟨rfl, hsz, hP, hK, hD0, hN⟩ := hv
  have hx := B.exec
  have hb := B.bytes
  have hr := B.returns
  have hts := atoms_spec (ws := (wa yX0_board cX0_board 11 none)) B.pre
  have hown : s.vm.findClass RX0 = some m.cls := findClass_of_methodNamed B.named
  have hlocks := B.notSynchronized
  subst hsz
  have hD : va_D (pq_B t σ (I, J, ri, rj, rq) s.heap.size) (pq_P t σ (I, J, ri, rj, rq)) := hD0.self
  generalize hAe : pq_B t σ (I, J, ri, rj, rq) s.heap.size = A at hD ⊢
  have hA : ∀ q : Nat, s.heap.size ≤ q → A q := fun q h => by rw [← hAe]; exact Or.inr h
  have hS : va_S A s.heap s.heap [] := va_S.rf
  have hG : GX [] tg σ I I ri rq := ⟨hG0, fun _ _ _ => rfl⟩
  have hl := lv_entry ([.ref this, .long a0, .ref a1, .int a2, .int a3, .int a4]) (n := 11) (Nat.le_of_ble_eq_true rfl)
  rw [lg_entry_eq]
  generalize (lg_sl ([.ref this, .long a0, .ref a1, .int a2, .int a3, .int a4]) ++ List.replicate (11 - (lg_sl ([.ref this, .long a0, .ref a1, .int a2, .int a3, .int a4])).length) Slot.unset).toArray = ls at hl ⊢
  have hl : lv_has ls 11 [(0, .ref this), (1, .long a0), (3, .ref a1), (4, .int a2), (5, .int a3), (6, .int a4)] := hl
  refine q_gen (fun Q hQ => ?_)
  have go : ∀ (H : Heap) (locs : List Loc) (ls : Array Slot), va_P D vwCl (pq_P t σ (I, J, ri, rj, rq)) H → va_D A (pq_P t σ (I, J, ri, rj, rq)) → va_S A s.heap H locs → lv_has ls 11 [(0, .ref this), (1, .long a0), (3, .ref a1), (4, .int a2), (5, .int a3), (6, .int a4)] → W p l e ({ frames := 2, cells := 0, slots := 0, locals := 45 } : Room) s m (List.toArray ([.ref this, .long a0, .ref a1, .int a2, .int a3, .int a4] : List Value)) below meth c H locs 0 0 Q (F0 m 0 ls []) := by
    intro H locs ls hP hD hS hl
    refine lv_aload_n hx hb dX0_board_0 rfl (lv_at hl 0 rfl) ?_
    refine lv_lload_n hx hb dX0_board_1 rfl (lv_at hl 1 rfl) ?_
    refine pk_v (va_runV (As := [.long a0]) (rest := []) ⟨hx, hb, hml, hown, hts⟩ (s_X0_countGroups l D t σ I J ri rj rq H.size tg hSH hG.1 this a0 hL_this hK_this) (cwV 1 hts (tw_V tw_1172 tw_1173 tw_1174 tw_45 tw_1175) rfl rfl rfl (by decide +kernel) ⟨Nat.le_of_ble_eq_true rfl, Nat.le_of_ble_eq_true rfl⟩) ⟨pq_blind, pq_recv hK hP hL_this hK_this (by decide) rfl, pq_pre hK hN hP hD⟩ rfl rfl hl.1 rfl (lv_room (Nat.le_of_ble_eq_true rfl)) dX0_board_2 ⟨Nat.le_of_ble_eq_true rfl, Nat.le_of_ble_eq_true rfl⟩) hD hS hA (fun σ1 μ1 H locs hw_2 hP hD hS => ?_)
    obtain ⟨ri_3, hu_4, hg_5⟩ := hw_2
    obtain ⟨hu_4a, hu_4b⟩ := Prod.mk.inj hu_4
    rw [hu_4a, hu_4b] at hP hD
    have hG := GX.tr hG hg_5 (by decide)
    refine lv_iconst (v := 0) hx hb dX0_board_5 (by decide) ?_
    refine lv_istore (lv' := [(7, .int 0), (0, .ref this), (1, .long a0), (3, .ref a1), (4, .int a2), (5, .int a3), (6, .int a4)]) hx hb dX0_board_6 hl (by decide) rfl (fun ls hl => ?_)
    have L_7865 : ∀ (n_ : Nat) (x_6742 : Int32) (ri_6743 : Nat → Nat → Int32) (H : Heap) (locs : List Loc) (ls : Array Slot), rg x_6742 0 5 → (5 - (x_6742).toInt).toNat < n_ → GX [] tg σ I I ri_6743 rq → va_P D vwCl (pq_P t σ (I, J, ri_6743, rj, rq)) H → va_D A (pq_P t σ (I, J, ri_6743, rj, rq)) → va_S A s.heap H locs → lv_has ls 11 [(0, .ref this), (1, .long a0), (3, .ref a1), (4, .int a2), (5, .int a3), (6, .int a4), (7, .int x_6742)] → W p l e ({ frames := 2, cells := 0, slots := 0, locals := 45 } : Room) s m (List.toArray ([.ref this, .long a0, .ref a1, .int a2, .int a3, .int a4] : List Value)) below meth c H locs 0 0 Q (F0 m 8 ls []) := by
      intro n_
      induction n_ with
      | zero => intro x_6742 ri_6743 H locs ls h_7868 hm hG hP hD hS hl; exact absurd hm (Nat.not_lt_zero _)
      | succ n_ ih_7866 =>
        intro x_6742 ri_6743 H locs ls h_7868 hm hG hP hD hS hl
        refine lv_iload hx hb dX0_board_8 (lv_at hl 6 rfl) ?_
        refine lv_aload_n hx hb dX0_board_10 rfl (lv_at hl 0 rfl) ?_
        refine pg_f (v := .int (I 10 this)) (C := RX0) (T := TX0) (N := 16) hx hb hts (tw_i inlX0) hown hK hP hL_this hK_this (by decide) rfl 10 (by decide) (hts _ (tw_c tw_1171)) rfl dX0_board_11 ?_
        have h_7869 : rg (I 10 this) 0 5 := GX.rI hG 10 rfl
        refine lv_icmp_ge (tgt := 36) hx hb dX0_board_14 (by decide) (fun c_7870 => ?_) (fun c_7870 => ?_)
        · refine lv_iload hx hb dX0_board_36 (lv_at hl 4 rfl) ?_
          refine lv_istore (lv' := [(7, .int a3), (0, .ref this), (1, .long a0), (3, .ref a1), (4, .int a2), (5, .int a3), (6, .int a4)]) hx hb dX0_board_38 hl (by decide) rfl (fun ls hl => ?_)
          refine lv_iconst (v := 0) hx hb dX0_board_40 (by decide) ?_
          refine lv_istore (lv' := [(8, .int 0), (7, .int a3), (0, .ref this), (1, .long a0), (3, .ref a1), (4, .int a2), (5, .int a3), (6, .int a4)]) hx hb dX0_board_41 hl (by decide) rfl (fun ls hl => ?_)
          have L_8900 : ∀ (n_ : Nat) (x_8819 : Int32) (x_8820 : Int32) (ri_8821 : Nat → Nat → Int32) (H : Heap) (locs : List Loc) (ls : Array Slot), rg x_8820 0 40 → (40 - (x_8820).toInt).toNat < n_ → GX [] tg σ I I ri_8821 rq → va_P D vwCl (pq_P t σ (I, J, ri_8821, rj, rq)) H → va_D A (pq_P t σ (I, J, ri_8821, rj, rq)) → va_S A s.heap H locs → lv_has ls 11 [(0, .ref this), (1, .long a0), (3, .ref a1), (4, .int a2), (6, .int a4), (7, .int x_8819), (8, .int x_8820)] → W p l e ({ frames := 2, cells := 0, slots := 0, locals := 45 } : Room) s m (List.toArray ([.ref this, .long a0, .ref a1, .int a2, .int a3, .int a4] : List Value)) below meth c H locs 0 0 Q (F0 m 43 ls []) := by
            intro n_
            induction n_ with
            | zero => intro x_8819 x_8820 ri_8821 H locs ls h_8903 hm hG hP hD hS hl; exact absurd hm (Nat.not_lt_zero _)
            | succ n_ ih_8901 =>
              intro x_8819 x_8820 ri_8821 H locs ls h_8903 hm hG hP hD hS hl
              refine lv_iload hx hb dX0_board_43 (lv_at hl 6 rfl) ?_
              refine lv_iload hx hb dX0_board_45 (lv_at hl 3 rfl) ?_
              refine lv_icmp_ge (tgt := 208) hx hb dX0_board_47 (by decide) (fun c_8904 => ?_) (fun c_8904 => ?_)
              · have h_8905 : rg a2 (-2147483648) 40 := rg_le1 c_8904 (rg_full _) h_8903 (by decide)
                subst hQ
                exact W.vret hx hb hr (fun t1 ht hW => ⟨⟨(σ, I, J, ri_8821, rj, rq), rfl, ⟨ri_8821, rfl, hG⟩, by rw [ht]; exact hP, va_K.moved hW.alike hK, hD⟩, hS.F ht⟩) hS.2.2 dX0_board_208
              · have h_8906 : rg a2 1 2147483647 := rg_lt2 (nle c_8904) h_8903 (rg_full _) (by decide)
                refine lv_iload hx hb dX0_board_50 (lv_at hl 6 rfl) ?_
                refine lv_aload_n hx hb dX0_board_52 rfl (lv_at hl 2 rfl) ?_
                refine pn_i (v := 40) hx hb hK hP hL_a1 hK_a1 hN_a1 (by decide) dX0_board_53 ?_
                refine lv_icmp_ge (tgt := 208) hx hb dX0_board_54 (by decide) (fun c_8907 => ?_) (fun c_8907 => ?_)
                · have h_8908 : rg x_8820 40 40 := rg_le2 c_8907 (rg_k (40 : Int32) 40 rfl) h_8903 (by decide)
                  subst hQ
                  exact W.vret hx hb hr (fun t1 ht hW => ⟨⟨(σ, I, J, ri_8821, rj, rq), rfl, ⟨ri_8821, rfl, hG⟩, by rw [ht]; exact hP, va_K.moved hW.alike hK, hD⟩, hS.F ht⟩) hS.2.2 dX0_board_208
                · have h_8909 : rg x_8820 0 39 := rg_lt1 (nle c_8907) h_8903 (rg_k (40 : Int32) 40 rfl) (by decide)
                  refine lv_aload_n hx hb dX0_board_57 rfl (lv_at hl 2 rfl) ?_
                  refine lv_iload hx hb dX0_board_58 (lv_at hl 6 rfl) ?_
                  refine pl_i hx hb hK hP hL_a1 hK_a1 hN_a1 (rg_in h_8909 (by decide)) dX0_board_60 ?_
                  refine lv_topi (fun x_8910 ex_8910 => ?_)
                  have h_8911 : rg x_8910 0 39 := rg_of_eq ex_8910 (GX.rR hG hT_a1 rfl)
                  refine lv_istore (lv' := [(9, .int x_8910), (0, .ref this), (1, .long a0), (3, .ref a1), (4, .int a2), (6, .int a4), (7, .int x_8819), (8, .int x_8820)]) hx hb dX0_board_61 hl (by decide) rfl (fun ls hl => ?_)
                  refine lv_lload_n hx hb dX0_board_63 rfl (lv_at hl 2 rfl) ?_
                  refine lv_iload hx hb dX0_board_64 (lv_at hl 0 rfl) ?_
                  refine pk_i (va_runSN (As := [.long a0, .int x_8910]) (rest := []) ⟨hx, hb, hml, hown, hts⟩ (s_X11_hasBit l D t σ I J ri_8821 rj rq H.size tg hSH hG.1 a0 x_8910) ⟨va_cnB (host := "RingsUnder") 2 hts (tw_W tw_560) rfl rfl rfl (nl_13 hN) (hts _ (tw_c tw_2)) (by decide +kernel) ⟨Nat.le_of_ble_eq_true rfl, Nat.le_of_ble_eq_true rfl⟩, hts (.static yX11_hasBit) (by decide +kernel), trivial⟩ ⟨pq_blind, pq_pre hK hN hP hD⟩ rfl rfl hl.1 rfl (lv_room (Nat.le_of_ble_eq_true rfl)) dX0_board_66 ⟨Nat.le_of_ble_eq_true rfl, Nat.le_of_ble_eq_true rfl⟩) hD hS hA (fun x_8912 σ1 μ1 H locs hw_8913 hP hD hS => ?_)
                  obtain ⟨hu_8914, hr_8916⟩ := hw_8913
                  obtain ⟨hu_8914a, hu_8914b⟩ := Prod.mk.inj hu_8914
                  rw [hu_8914a, hu_8914b] at hP hD
                  have h_8917 : rg x_8912 0 1 := by rcases hr_8916 with ⟨q, -⟩ | ⟨q, -⟩ <;> rw [q] <;> exact ⟨by decide, by decide⟩
                  have K_8981 : ∀  (x_8977 : Int32) (ri_8978 : Nat → Nat → Int32) (H : Heap) (locs : List Loc) (ls : Array Slot), GX [] tg σ I I ri_8978 rq → va_P D vwCl (pq_P t σ (I, J, ri_8978, rj, rq)) H → va_D A (pq_P t σ (I, J, ri_8978, rj, rq)) → va_S A s.heap H locs → lv_has ls 11 [(0, .ref this), (1, .long a0), (3, .ref a1), (4, .int a2), (6, .int a4), (7, .int x_8977), (8, .int x_8820)] → W p l e ({ frames := 2, cells := 0, slots := 0, locals := 45 } : Room) s m (List.toArray ([.ref this, .long a0, .ref a1, .int a2, .int a3, .int a4] : List Value)) below meth c H locs 0 0 Q (F0 m 202 ls []) := by
                    intro x_8977 ri_8978 H locs ls hG hP hD hS hl
                    obtain ⟨x_8982, ex_8982⟩ : ∃ y : Int32, y = x_8820 + Int32.ofInt 1 := ⟨_, rfl⟩
                    have h_8983 : rg x_8982 1 40 := rg_of_eq ex_8982 (rg_add h_8909 (rg_k (Int32.ofInt 1) 1 rfl) (by decide))
                    refine lv_iinc (v := x_8982) (lv' := [(8, .int x_8982), (0, .ref this), (1, .long a0), (3, .ref a1), (4, .int a2), (6, .int a4), (7, .int x_8977)]) hx hb dX0_board_202 hl (k := 6) rfl ex_8982.symm (by decide) rfl (fun ls hl => ?_)
                    refine lv_goto (tgt := 43) hx hb dX0_board_205 (by decide) ?_
                    exact ih_8901 x_8977 x_8982 ri_8978 _ _ _ (rg_w h_8983 (by decide)) (ms_up 1 hm ex_8982 rfl (by decide) h_8909 (by decide) (by decide)) hG hP hD hS (lv_sub hl [1, 2, 3, 4, 5, 6, 0] rfl)
                  refine lv_if_eq (tgt := 202) hx hb dX0_board_69 (by decide) (fun c_8984 => ?_) (fun c_8984 => ?_)
                  · have h_8985 : rg x_8912 0 0 := rg_and h_8917 (rg_of_eq c_8984 (rg_k (0 : Int32) 0 rfl)) (by decide)
                    exact K_8981 x_8819 ri_8821 _ _ _ hG hP hD hS (lv_sub hl [1, 2, 3, 4, 5, 6, 7] rfl)
                  · have h_8986 : rg x_8912 1 1 := rg_ne c_8984 h_8917 0 rfl (by decide)
                    refine lv_aload_n hx hb dX0_board_72 rfl (lv_at hl 1 rfl) ?_
                    refine lv_iload hx hb dX0_board_73 (lv_at hl 0 rfl) ?_
                    obtain ⟨w_8987, hR_w_8987, hL_w_8987, hK_w_8987, hN_w_8987, hT_w_8987⟩ := sh_a hSH 5 (ci := 0) (kd := 13) (len := 40) rfl (by decide) hL_this hK_this
                    refine pk_i (va_runV (As := [.int x_8910]) (rest := []) ⟨hx, hb, hml, hown, hts⟩ (s_X0_isOnRing l D t σ I J ri_8821 rj rq H.size tg hSH hG.1 this x_8910 hL_this hK_this (rg_w h_8911 (by decide)) w_8987 hR_w_8987 hL_w_8987 hK_w_8987 hN_w_8987 hT_w_8987) (cwV 1 hts (tw_V tw_1108 tw_1109 tw_1110 tw_45 tw_1111) rfl rfl rfl (by decide +kernel) ⟨Nat.le_of_ble_eq_true rfl, Nat.le_of_ble_eq_true rfl⟩) ⟨pq_blind, pq_recv hK hP hL_this hK_this (by decide) rfl, pq_pre hK hN hP hD⟩ rfl rfl hl.1 rfl (lv_room (Nat.le_of_ble_eq_true rfl)) dX0_board_75 ⟨Nat.le_of_ble_eq_true rfl, Nat.le_of_ble_eq_true rfl⟩) hD hS hA (fun x_8988 σ1 μ1 H locs hw_8989 hP hD hS => ?_)
                    obtain ⟨hu_8990, hr_8992⟩ := hw_8989
                    obtain ⟨hu_8990a, hu_8990b⟩ := Prod.mk.inj hu_8990
                    rw [hu_8990a, hu_8990b] at hP hD
                    have h_8993 : rg x_8988 0 1 := by rcases hr_8992 with ⟨q, -⟩ | ⟨q, -⟩ <;> rw [q] <;> exact ⟨by decide, by decide⟩
                    refine lv_if_ne (tgt := 84) hx hb dX0_board_78 (by decide) (fun c_8994 => ?_) (fun c_8994 => ?_)
                    · have f_8995 := (hr_8992.resolve_right (fun q => c_8994 q.1)).2
                      have h_8996 : rg x_8988 1 1 := rg_ne c_8994 h_8993 0 rfl (by decide)
                      refine lv_aload_n hx hb dX0_board_84 rfl (lv_at hl 1 rfl) ?_
                      refine lv_iload hx hb dX0_board_85 (lv_at hl 0 rfl) ?_
                      refine pk_i (va_runV (As := [.int x_8910]) (rest := []) ⟨hx, hb, hml, hown, hts⟩ (s_X0_groupOf l D t σ I J ri_8821 rj rq H.size tg hSH hG.1 this x_8910 hL_this hK_this (rg_w h_8911 (by decide)) w_8987 hR_w_8987 hL_w_8987 hK_w_8987 hN_w_8987 hT_w_8987 (rg_w f_8995 (by decide))) (cwV 1 hts (tw_V tw_1176 tw_1177 tw_1178 tw_45 tw_1179) rfl rfl rfl (by decide +kernel) ⟨Nat.le_of_ble_eq_true rfl, Nat.le_of_ble_eq_true rfl⟩) ⟨pq_blind, pq_recv hK hP hL_this hK_this (by decide) rfl, pq_pre hK hN hP hD⟩ rfl rfl hl.1 rfl (lv_room (Nat.le_of_ble_eq_true rfl)) dX0_board_87 ⟨Nat.le_of_ble_eq_true rfl, Nat.le_of_ble_eq_true rfl⟩) hD hS hA (fun x_8997 σ1 μ1 H locs hw_8998 hP hD hS => ?_)
                      obtain ⟨hu_8999, hr_9001⟩ := hw_8998
                      obtain ⟨hu_8999a, hu_8999b⟩ := Prod.mk.inj hu_8999
                      rw [hu_8999a, hu_8999b] at hP hD
                      refine lv_istore (lv' := [(10, .int x_8997), (9, .int x_8910), (0, .ref this), (1, .long a0), (3, .ref a1), (4, .int a2), (6, .int a4), (7, .int x_8819), (8, .int x_8820)]) hx hb dX0_board_90 hl (by decide) rfl (fun ls hl => ?_)
                      refine lv_aload_n hx hb dX0_board_92 rfl (lv_at hl 2 rfl) ?_
                      obtain ⟨w_9002, hR_w_9002, hL_w_9002, hK_w_9002, hN_w_9002, hT_w_9002⟩ := sh_a hSH 15 (ci := 0) (kd := 13) (len := 50) rfl (by decide) hL_this hK_this
                      refine pg_f (v := .ref w_9002) (C := RX0) (T := TX0) (N := 16) hx hb hts (tw_i inlX0) hown hK hP hL_this hK_this (by decide) rfl 15 (by decide) (hts _ (tw_c tw_123)) (pq_hv rfl hR_w_9002) dX0_board_93 ?_
                      refine lv_iload hx hb dX0_board_96 (lv_at hl 0 rfl) ?_
                      refine pl_i hx hb hK hP hL_w_9002 hK_w_9002 hN_w_9002 (rg_in hr_9001 (by decide)) dX0_board_98 ?_
                      refine lv_topi (fun x_9003 ex_9003 => ?_)
                      have h_9004 : rg x_9003 (-2) 4 := rg_of_eq ex_9003 (GX.rR hG hT_w_9002 rfl)
                      refine lv_bipush (v := (-2)) hx hb dX0_board_99 (by decide) ?_
                      have K_9041 : ∀  (x_9030 : Int32) (ri_9031 : Nat → Nat → Int32) (H : Heap) (locs : List Loc) (ls : Array Slot), GX [] tg σ I I ri_9031 rq → va_P D vwCl (pq_P t σ (I, J, ri_9031, rj, rq)) H → va_D A (pq_P t σ (I, J, ri_9031, rj, rq)) → va_S A s.heap H locs → lv_has ls 11 [(0, .ref this), (1, .long a0), (3, .ref a1), (4, .int a2), (6, .int a4), (7, .int x_9030), (8, .int x_8820), (9, .int x_8910), (10, .int x_8997)] → W p l e ({ frames := 2, cells := 0, slots := 0, locals := 45 } : Room) s m (List.toArray ([.ref this, .long a0, .ref a1, .int a2, .int a3, .int a4] : List Value)) below meth c H locs 0 0 Q (F0 m 165 ls []) := by
                        intro x_9030 ri_9031 H locs ls hG hP hD hS hl
                        refine lv_aload_n hx hb dX0_board_165 rfl (lv_at hl 0 rfl) ?_
                        refine pg_f (v := .ref w_9002) (C := RX0) (T := TX0) (N := 16) hx hb hts (tw_i inlX0) hown hK hP hL_this hK_this (by decide) rfl 15 (by decide) (hts _ (tw_c tw_123)) (pq_hv rfl hR_w_9002) dX0_board_166 ?_
                        refine lv_iload hx hb dX0_board_169 (lv_at hl 8 rfl) ?_
                        refine pl_i hx hb hK hP hL_w_9002 hK_w_9002 hN_w_9002 (rg_in hr_9001 (by decide)) dX0_board_171 ?_
                        refine lv_topi (fun x_9042 ex_9042 => ?_)
                        have h_9043 : rg x_9042 (-2) 4 := rg_of_eq ex_9042 (GX.rR hG hT_w_9002 rfl)
                        refine lv_iconst (v := (-1)) hx hb dX0_board_172 (by decide) ?_
                        refine lv_icmp_eq (tgt := 202) hx hb dX0_board_173 (by decide) (fun c_9044 => ?_) (fun c_9044 => ?_)
                        · have h_9045 : rg x_9042 (-1) (-1) := rg_and h_9043 (rg_of_eq c_9044 (rg_k (-1 : Int32) (-1) rfl)) (by decide)
                          exact K_8981 x_9030 ri_9031 _ _ _ hG hP hD hS (lv_sub hl [0, 1, 2, 3, 4, 5, 6] rfl)
                        · refine lv_aload_n hx hb dX0_board_176 rfl (lv_at hl 0 rfl) ?_
                          refine pg_f (v := .ref w_8987) (C := RX0) (T := TX0) (N := 16) hx hb hts (tw_i inlX0) hown hK hP hL_this hK_this (by decide) rfl 5 (by decide) (hts _ (tw_c tw_114)) (pq_hv rfl hR_w_8987) dX0_board_177 ?_
                          refine lv_iload hx hb dX0_board_180 (lv_at hl 7 rfl) ?_
                          refine lv_bipush (v := 100) hx hb dX0_board_182 (by decide) ?_
                          refine lv_aload_n hx hb dX0_board_184 rfl (lv_at hl 0 rfl) ?_
                          refine pg_f (v := .ref w_9002) (C := RX0) (T := TX0) (N := 16) hx hb hts (tw_i inlX0) hown hK hP hL_this hK_this (by decide) rfl 15 (by decide) (hts _ (tw_c tw_123)) (pq_hv rfl hR_w_9002) dX0_board_185 ?_
                          refine lv_iload hx hb dX0_board_188 (lv_at hl 8 rfl) ?_
                          refine pl_i hx hb hK hP hL_w_9002 hK_w_9002 hN_w_9002 (rg_in hr_9001 (by decide)) dX0_board_190 ?_
                          refine lv_tov x_9042 ex_9042.symm ?_
                          refine lv_iadd hx hb dX0_board_191 ?_
                          refine lv_topi (fun x_9046 ex_9046 => ?_)
                          have h_9047 : rg x_9046 98 104 := rg_of_eq ex_9046 (rg_add (rg_k (100 : Int32) 100 rfl) h_9043 (by decide))
                          refine pt_i hx hb hK hP hD hS hL_w_8987 hK_w_8987 hN_w_8987 (rg_in h_8911 (by decide)) dX0_board_192 (fun r_9048 H locs er_9048 hP hD hS => ?_)
                          have hG := GX.wR hG hSH hT_w_8987 rfl er_9048 (rg_w h_9047 (by decide)) (by decide)
                          refine lv_aload_n hx hb dX0_board_193 rfl (lv_at hl 0 rfl) ?_
                          obtain ⟨w_9049, hR_w_9049, hL_w_9049, hK_w_9049, hN_w_9049, hT_w_9049⟩ := sh_a hSH 8 (ci := 0) (kd := 13) (len := 40) rfl (by decide) hL_this hK_this
                          refine pg_f (v := .ref w_9049) (C := RX0) (T := TX0) (N := 16) hx hb hts (tw_i inlX0) hown hK hP hL_this hK_this (by decide) rfl 8 (by decide) (hts _ (tw_c tw_117)) (pq_hv rfl hR_w_9049) dX0_board_194 ?_
                          refine lv_iload hx hb dX0_board_197 (lv_at hl 7 rfl) ?_
                          refine lv_iload hx hb dX0_board_199 (lv_at hl 4 rfl) ?_
                          refine pt_i hx hb hK hP hD hS hL_w_9049 hK_w_9049 hN_w_9049 (rg_in h_8911 (by decide)) dX0_board_201 (fun r_9050 H locs er_9050 hP hD hS => ?_)
                          have hG := GX.wR hG hSH hT_w_9049 rfl er_9050 (rg_w (rg_full _) (by decide)) (by decide)
                          exact K_8981 x_9030 r_9050 _ _ _ hG hP hD hS (lv_sub hl [0, 1, 2, 3, 4, 5, 6] rfl)
                      refine lv_icmp_ne (tgt := 165) hx hb dX0_board_101 (by decide) (fun c_9051 => ?_) (fun c_9051 => ?_)
                      · have h_9052 : rg x_9003 (-1) 4 := rg_ne c_9051 h_9004 (-2) rfl (by decide)
                        exact K_9041 x_8819 ri_8821 _ _ _ hG hP hD hS (lv_sub hl [2, 3, 4, 5, 6, 7, 8, 1, 0] rfl)
                      · have h_9053 : rg x_9003 (-2) (-2) := rg_and h_9004 (rg_of_eq c_9051 (rg_k (-2 : Int32) (-2) rfl)) (by decide)
                        refine lv_aload_n hx hb dX0_board_104 rfl (lv_at hl 2 rfl) ?_
                        refine pg_f (v := .ref w_9002) (C := RX0) (T := TX0) (N := 16) hx hb hts (tw_i inlX0) hown hK hP hL_this hK_this (by decide) rfl 15 (by decide) (hts _ (tw_c tw_123)) (pq_hv rfl hR_w_9002) dX0_board_105 ?_
                        refine lv_iload hx hb dX0_board_108 (lv_at hl 0 rfl) ?_
                        refine lv_aload_n hx hb dX0_board_110 rfl (lv_at hl 2 rfl) ?_
                        obtain ⟨w_9054, hR_w_9054, hL_w_9054, hK_w_9054, hN_w_9054, hT_w_9054⟩ := sh_a hSH 14 (ci := 0) (kd := 13) (len := 50) rfl (by decide) hL_this hK_this
                        refine pg_f (v := .ref w_9054) (C := RX0) (T := TX0) (N := 16) hx hb hts (tw_i inlX0) hown hK hP hL_this hK_this (by decide) rfl 14 (by decide) (hts _ (tw_c tw_122)) (pq_hv rfl hR_w_9054) dX0_board_111 ?_
                        refine lv_iload hx hb dX0_board_114 (lv_at hl 0 rfl) ?_
                        refine pl_i hx hb hK hP hL_w_9054 hK_w_9054 hN_w_9054 (rg_in hr_9001 (by decide)) dX0_board_116 ?_
                        refine lv_topi (fun x_9055 ex_9055 => ?_)
                        refine lv_iload hx hb dX0_board_117 (lv_at hl 7 rfl) ?_
                        have K_9076 : ∀  (x_9065 : Int32) (ri_9066 : Nat → Nat → Int32) (H : Heap) (locs : List Loc) (ls : Array Slot), rg x_9065 (-1) 4 → GX [] tg σ I I ri_9066 rq → va_P D vwCl (pq_P t σ (I, J, ri_9066, rj, rq)) H → va_D A (pq_P t σ (I, J, ri_9066, rj, rq)) → va_S A s.heap H locs → lv_has ls 11 [(0, .ref this), (1, .long a0), (3, .ref a1), (4, .int a2), (6, .int a4), (7, .int x_8819), (8, .int x_8820), (9, .int x_8910), (10, .int x_8997)] → W p l e ({ frames := 2, cells := 0, slots := 0, locals := 45 } : Room) s m (List.toArray ([.ref this, .long a0, .ref a1, .int a2, .int a3, .int a4] : List Value)) below meth c H locs 0 0 Q (F0 m 137 ls [.int x_9065, .int x_8997, .ref w_9002]) := by
                          intro x_9065 ri_9066 H locs ls h_9078 hG hP hD hS hl
                          refine pt_i hx hb hK hP hD hS hL_w_9002 hK_w_9002 hN_w_9002 (rg_in hr_9001 (by decide)) dX0_board_137 (fun r_9079 H locs er_9079 hP hD hS => ?_)
                          have hG := GX.wR hG hSH hT_w_9002 rfl er_9079 (rg_w h_9078 (by decide)) (by decide)
                          refine lv_iload hx hb dX0_board_138 (lv_at hl 5 rfl) ?_
                          refine lv_aload_n hx hb dX0_board_140 rfl (lv_at hl 0 rfl) ?_
                          refine pg_f (v := .ref w_9002) (C := RX0) (T := TX0) (N := 16) hx hb hts (tw_i inlX0) hown hK hP hL_this hK_this (by decide) rfl 15 (by decide) (hts _ (tw_c tw_123)) (pq_hv rfl hR_w_9002) dX0_board_141 ?_
                          refine lv_iload hx hb dX0_board_144 (lv_at hl 8 rfl) ?_
                          refine pl_i hx hb hK hP hL_w_9002 hK_w_9002 hN_w_9002 (rg_in hr_9001 (by decide)) dX0_board_146 ?_
                          refine lv_topi (fun x_9080 ex_9080 => ?_)
                          have h_9081 : rg x_9080 (-2) 4 := rg_of_eq ex_9080 (GX.rR hG hT_w_9002 rfl)
                          refine lv_iconst (v := (-1)) hx hb dX0_board_147 (by decide) ?_
                          have K_9087 : ∀  (x_9085 : Int32) (H : Heap) (locs : List Loc) (ls : Array Slot), GX [] tg σ I I r_9079 rq → va_P D vwCl (pq_P t σ (I, J, r_9079, rj, rq)) H → va_D A (pq_P t σ (I, J, r_9079, rj, rq)) → va_S A s.heap H locs → lv_has ls 11 [(0, .ref this), (1, .long a0), (3, .ref a1), (4, .int a2), (6, .int a4), (8, .int x_8820), (9, .int x_8910), (10, .int x_8997)] → W p l e ({ frames := 2, cells := 0, slots := 0, locals := 45 } : Room) s m (List.toArray ([.ref this, .long a0, .ref a1, .int a2, .int a3, .int a4] : List Value)) below meth c H locs 0 0 Q (F0 m 162 ls [.int x_9085, .int x_8819]) := by
                            intro x_9085 H locs ls hG hP hD hS hl
                            refine lv_isub hx hb dX0_board_162 ?_
                            refine lv_topi (fun x_9088 ex_9088 => ?_)
                            refine lv_istore (lv' := [(7, .int x_9088), (0, .ref this), (1, .long a0), (3, .ref a1), (4, .int a2), (6, .int a4), (8, .int x_8820), (9, .int x_8910), (10, .int x_8997)]) hx hb dX0_board_163 hl (by decide) rfl (fun ls hl => ?_)
                            exact K_9041 x_9088 r_9079 _ _ _ hG hP hD hS (lv_sub hl [1, 2, 3, 4, 5, 0, 6, 7, 8] rfl)
                          refine lv_icmp_ne (tgt := 155) hx hb dX0_board_148 (by decide) (fun c_9089 => ?_) (fun c_9089 => ?_)
                          · refine lv_aload_n hx hb dX0_board_155 rfl (lv_at hl 0 rfl) ?_
                            refine pg_f (v := .ref w_9054) (C := RX0) (T := TX0) (N := 16) hx hb hts (tw_i inlX0) hown hK hP hL_this hK_this (by decide) rfl 14 (by decide) (hts _ (tw_c tw_122)) (pq_hv rfl hR_w_9054) dX0_board_156 ?_
                            refine lv_iload hx hb dX0_board_159 (lv_at hl 8 rfl) ?_
                            refine pl_i hx hb hK hP hL_w_9054 hK_w_9054 hN_w_9054 (rg_in hr_9001 (by decide)) dX0_board_161 ?_
                            refine lv_topi (fun x_9090 ex_9090 => ?_)
                            exact K_9087 x_9090 _ _ _ hG hP hD hS (lv_sub hl [0, 1, 2, 3, 4, 6, 7, 8] rfl)
                          · have h_9091 : rg x_9080 (-1) (-1) := rg_and h_9081 (rg_of_eq c_9089 (rg_k (-1 : Int32) (-1) rfl)) (by decide)
                            refine lv_iconst (v := 0) hx hb dX0_board_151 (by decide) ?_
                            refine lv_goto (tgt := 162) hx hb dX0_board_152 (by decide) ?_
                            exact K_9087 (0 : Int32) _ _ _ hG hP hD hS (lv_sub hl [0, 1, 2, 3, 4, 6, 7, 8] rfl)
                        refine lv_icmp_gt (tgt := 136) hx hb dX0_board_119 (by decide) (fun c_9092 => ?_) (fun c_9092 => ?_)
                        · have h_9093 : rg x_8819 (-2147483648) 2147483646 := rg_lt1 c_9092 (rg_full _) (rg_full _) (by decide)
                          have h_9094 : rg x_9055 (-2147483647) 2147483647 := rg_lt2 c_9092 (rg_full _) (rg_full _) (by decide)
                          refine lv_iconst (v := (-1)) hx hb dX0_board_136 (by decide) ?_
                          exact K_9076 (-1 : Int32) ri_8821 _ _ _ (rg_w (rg_k (-1 : Int32) (-1) rfl) (by decide)) hG hP hD hS (lv_sub hl [2, 3, 4, 5, 6, 7, 8, 1, 0] rfl)
                        · refine lv_aload_n hx hb dX0_board_122 rfl (lv_at hl 2 rfl) ?_
                          refine lv_aload_n hx hb dX0_board_123 rfl (lv_at hl 2 rfl) ?_
                          refine pg_f (v := .ref w_9054) (C := RX0) (T := TX0) (N := 16) hx hb hts (tw_i inlX0) hown hK hP hL_this hK_this (by decide) rfl 14 (by decide) (hts _ (tw_c tw_122)) (pq_hv rfl hR_w_9054) dX0_board_124 ?_
                          refine lv_iload hx hb dX0_board_127 (lv_at hl 0 rfl) ?_
                          refine pl_i hx hb hK hP hL_w_9054 hK_w_9054 hN_w_9054 (rg_in hr_9001 (by decide)) dX0_board_129 ?_
                          refine lv_tov x_9055 ex_9055.symm ?_
                          refine pk_i (va_runV (As := [.int x_9055]) (rest := [.int x_8997, .ref w_9002]) ⟨hx, hb, hml, hown, hts⟩ (s_X0_takeLot l D t σ I J ri_8821 rj rq H.size tg hSH hG.1 this x_9055 hL_this hK_this) (cwV 1 hts (tw_V tw_1181 tw_1182 tw_1183 tw_45 tw_1184) rfl rfl rfl (by decide +kernel) ⟨Nat.le_of_ble_eq_true rfl, Nat.le_of_ble_eq_true rfl⟩) ⟨pq_blind, pq_recv hK hP hL_this hK_this (by decide) rfl, pq_pre hK hN hP hD⟩ rfl rfl hl.1 rfl (lv_room (Nat.le_of_ble_eq_true rfl)) dX0_board_130 ⟨Nat.le_of_ble_eq_true rfl, Nat.le_of_ble_eq_true rfl⟩) hD hS hA (fun x_9095 σ1 μ1 H locs hw_9096 hP hD hS => ?_)
                          obtain ⟨ri_9097, hu_9098, hg_9099, hr_9100⟩ := hw_9096
                          obtain ⟨hu_9098a, hu_9098b⟩ := Prod.mk.inj hu_9098
                          rw [hu_9098a, hu_9098b] at hP hD
                          have hG := GX.tr hG hg_9099 (by decide)
                          refine lv_goto (tgt := 137) hx hb dX0_board_133 (by decide) ?_
                          exact K_9076 x_9095 ri_9097 _ _ _ (rg_w hr_9100 (by decide)) hG hP hD hS (lv_sub hl [2, 3, 4, 5, 6, 7, 8, 1, 0] rfl)
                    · have f_9101 := (hr_8992.resolve_left (fun q => absurd (q.1.symm.trans c_8994) (by decide))).2
                      have h_9102 : rg x_8988 0 0 := rg_and h_8993 (rg_of_eq c_8994 (rg_k (0 : Int32) 0 rfl)) (by decide)
                      refine lv_goto (tgt := 202) hx hb dX0_board_81 (by decide) ?_
                      exact K_8981 x_8819 ri_8821 _ _ _ hG hP hD hS (lv_sub hl [1, 2, 3, 4, 5, 6, 7] rfl)
          exact L_8900 _ a3 (0 : Int32) ri_6743 _ _ _ (rg_w (rg_k (0 : Int32) 0 rfl) (by decide)) (Nat.lt_succ_self _) hG hP hD hS (lv_sub hl [2, 3, 4, 5, 7, 1, 0] rfl)
        · have h_9103 : rg x_6742 0 4 := rg_lt1 (nle c_7870) h_7868 h_7869 (by decide)
          have h_9104 : rg (I 10 this) 1 5 := rg_lt2 (nle c_7870) h_7868 h_7869 (by decide)
          refine lv_aload_n hx hb dX0_board_17 rfl (lv_at hl 0 rfl) ?_
          obtain ⟨w_9105, hR_w_9105, hL_w_9105, hK_w_9105, hN_w_9105, hT_w_9105⟩ := sh_a hSH 13 (ci := 0) (kd := 13) (len := 5) rfl (by decide) hL_this hK_this
          refine pg_f (v := .ref w_9105) (C := RX0) (T := TX0) (N := 16) hx hb hts (tw_i inlX0) hown hK hP hL_this hK_this (by decide) rfl 13 (by decide) (hts _ (tw_c tw_121)) (pq_hv rfl hR_w_9105) dX0_board_18 ?_
          refine lv_iload hx hb dX0_board_21 (lv_at hl 6 rfl) ?_
          refine lv_aload_n hx hb dX0_board_23 rfl (lv_at hl 0 rfl) ?_
          refine lv_iload hx hb dX0_board_24 (lv_at hl 6 rfl) ?_
          refine pk_i (va_runV (As := [.int x_6742]) (rest := [.int x_6742, .ref w_9105]) ⟨hx, hb, hml, hown, hts⟩ (s_X0_freeBeds l D t σ I J ri_6743 rj rq H.size tg hSH hG.1 this x_6742 hL_this hK_this (rg_w h_9103 (by decide))) (cwV 1 hts (tw_V tw_1180 tw_414 tw_415 tw_45 tw_416) rfl rfl rfl (by decide +kernel) ⟨Nat.le_of_ble_eq_true rfl, Nat.le_of_ble_eq_true rfl⟩) ⟨pq_blind, pq_recv hK hP hL_this hK_this (by decide) rfl, pq_pre hK hN hP hD⟩ rfl rfl hl.1 rfl (lv_room (Nat.le_of_ble_eq_true rfl)) dX0_board_26 ⟨Nat.le_of_ble_eq_true rfl, Nat.le_of_ble_eq_true rfl⟩) hD hS hA (fun x_9106 σ1 μ1 H locs hw_9107 hP hD hS => ?_)
          have hu_9108 := hw_9107
          obtain ⟨hu_9108a, hu_9108b⟩ := Prod.mk.inj hu_9108
          rw [hu_9108a, hu_9108b] at hP hD
          refine pt_i hx hb hK hP hD hS hL_w_9105 hK_w_9105 hN_w_9105 (rg_in h_9103 (by decide)) dX0_board_29 (fun r_9111 H locs er_9111 hP hD hS => ?_)
          have hG := GX.wR hG hSH hT_w_9105 rfl er_9111 (rg_w (rg_full _) (by decide)) (by decide)
          obtain ⟨x_9112, ex_9112⟩ : ∃ y : Int32, y = x_6742 + Int32.ofInt 1 := ⟨_, rfl⟩
          have h_9113 : rg x_9112 1 5 := rg_of_eq ex_9112 (rg_add h_9103 (rg_k (Int32.ofInt 1) 1 rfl) (by decide))
          refine lv_iinc (v := x_9112) (lv' := [(7, .int x_9112), (0, .ref this), (1, .long a0), (3, .ref a1), (4, .int a2), (5, .int a3), (6, .int a4)]) hx hb dX0_board_30 hl (k := 6) rfl ex_9112.symm (by decide) rfl (fun ls hl => ?_)
          refine lv_goto (tgt := 8) hx hb dX0_board_33 (by decide) ?_
          exact ih_7866 x_9112 r_9111 _ _ _ (rg_w h_9113 (by decide)) (ms_up 1 hm ex_9112 rfl (by decide) h_9103 (by decide) (by decide)) hG hP hD hS (lv_sub hl [1, 2, 3, 4, 5, 6, 0] rfl)
    exact L_7865 _ (0 : Int32) ri_3 _ _ _ (rg_w (rg_k (0 : Int32) 0 rfl) (by decide)) (Nat.lt_succ_self _) hG hP hD hS (lv_sub hl [1, 2, 3, 4, 5, 6, 0] rfl)
  exact go _ _ _ hP hD hS hl

set_option maxHeartbeats 4000000 in
set_option maxRecDepth 100000 in
theorem s_X10_goBy (l : Launch) (D : va_G) (t : pq_T) (σ : pq_S) (I : Nat → Nat → Int32) (J : Nat → Nat → Int64) (ri : Nat → Nat → Int32) (rj : Nat → Nat → Int64) (rq : Nat → Nat → Option Nat) (sz : Nat) (tg : Nat → Nat) (hSH : SH σ tg) (hG0 : GS tg σ I ri rq) (this : Nat) (a0 : Int32) (hL_this : this ∈ σ.1) (hK_this : σ.2.1 this = 10) : MetV l yX10_goBy (wa yX10_goBy cX10_goBy 4 none) ({ frames := 5, cells := 0, slots := 0, locals := 143 }) [.ref this, .int a0] D t σ (I, J, ri, rj, rq) sz 0 0 (fun (u : pq_S × pq_M) => ∃ I' : Nat → Nat → Int32, ∃ J' : Nat → Nat → Int64, ∃ ri' : Nat → Nat → Int32, ∃ rj' : Nat → Nat → Int64, u = (σ, I', J', ri', rj', rq) ∧ GX [320] tg σ I I' ri' rq) := by
  refine Met.ofW (cc := cX10_goBy) (maxL := 4) (ret := none) (by decide) rfl ?_
  intro p e s m args below meth c s₁ B hml hv
  obtain ⟨rfl, hsz, hP, hK, hD0, hN⟩ := hv
  have hx := B.exec
  have hb := B.bytes
  have hr := B.returns
  have hts := atoms_spec (ws := (wa yX10_goBy cX10_goBy 4 none)) B.pre
  have hown : s.vm.findClass RX10 = some m.cls := findClass_of_methodNamed B.named
  have hlocks := B.notSynchronized
  subst hsz
  have hD : va_D (pq_B t σ (I, J, ri, rj, rq) s.heap.size) (pq_P t σ (I, J, ri, rj, rq)) := hD0.self
  generalize hAe : pq_B t σ (I, J, ri, rj, rq) s.heap.size = A at hD ⊢
  have hA : ∀ q : Nat, s.heap.size ≤ q → A q := fun q h => by rw [← hAe]; exact Or.inr h
  have hS : va_S A s.heap s.heap [] := va_S.rf
  have hG : GX [320] tg σ I I ri rq := ⟨hG0, fun _ _ _ => rfl⟩
  have hl := lv_entry ([.ref this, .int a0]) (n := 4) (Nat.le_of_ble_eq_true rfl)
  rw [lg_entry_eq]
  generalize (lg_sl ([.ref this, .int a0]) ++ List.replicate (4 - (lg_sl ([.ref this, .int a0])).length) Slot.unset).toArray = ls at hl ⊢
  have hl : lv_has ls 4 [(0, .ref this), (1, .int a0)] := hl
  refine q_gen (fun Q hQ => ?_)
  have go : ∀ (H : Heap) (locs : List Loc) (ls : Array Slot), va_P D vwCl (pq_P t σ (I, J, ri, rj, rq)) H → va_D A (pq_P t σ (I, J, ri, rj, rq)) → va_S A s.heap H locs → lv_has ls 4 [(0, .ref this), (1, .int a0)] → W p l e ({ frames := 5, cells := 0, slots := 0, locals := 143 } : Room) s m (List.toArray ([.ref this, .int a0] : List Value)) below meth c H locs 0 0 Q (F0 m 0 ls []) := by
    intro H locs ls hP hD hS hl
    refine lv_aload_n hx hb dX10_goBy_0 rfl (lv_at hl 0 rfl) ?_
    refine pg_f (v := .int (I 320 this)) (C := RX10) (T := TX10) (N := 13) hx hb hts (tw_i inlX10) hown hK hP hL_this hK_this (by decide) rfl 0 (by decide) (hts _ (tw_c tw_457)) rfl dX10_goBy_1 ?_
    have h_1 : rg (I 320 this) 0 600 := GX.rI hG 320 rfl
    refine lv_sipush (v := 600) hx hb dX10_goBy_4 (by decide) ?_
    refine lv_icmp_lt (tgt := 11) hx hb dX10_goBy_7 (by decide) (fun c_2 => ?_) (fun c_2 => ?_)
    · have h_3 : rg (I 320 this) 0 599 := rg_lt1 c_2 h_1 (rg_k (600 : Int32) 600 rfl) (by decide)
      refine lv_aload_n hx hb dX10_goBy_11 rfl (lv_at hl 0 rfl) ?_
      refine lv_iload_n hx hb dX10_goBy_12 rfl (lv_at hl 1 rfl) ?_
      refine pk_v (va_runV (As := [.int a0]) (rest := []) ⟨hx, hb, hml, hown, hts⟩ (s_X10_nature l D t σ I J ri rj rq H.size tg hSH hG.1 this a0 hL_this hK_this) (cwV 1 hts (tw_V tw_1047 tw_1048 tw_1049 tw_15 tw_1050) rfl rfl rfl (by decide +kernel) ⟨Nat.le_of_ble_eq_true rfl, Nat.le_of_ble_eq_true rfl⟩) ⟨pq_blind, pq_recv hK hP hL_this hK_this (by decide) rfl, pq_pre hK hN hP hD⟩ rfl rfl hl.1 rfl (lv_room (Nat.le_of_ble_eq_true rfl)) dX10_goBy_13 ⟨Nat.le_of_ble_eq_true rfl, Nat.le_of_ble_eq_true rfl⟩) hD hS hA (fun σ1 μ1 H locs hw_5 hP hD hS => ?_)
      obtain ⟨I_6, J_7, ri_8, rj_9, hu_10, hg_11⟩ := hw_5
      obtain ⟨hu_10a, hu_10b⟩ := Prod.mk.inj hu_10
      rw [hu_10a, hu_10b] at hP hD
      have hG := GX.tr hG hg_11 (by decide)
      refine lv_aload_n hx hb dX10_goBy_16 rfl (lv_at hl 0 rfl) ?_
      obtain ⟨w_13, hR_w_13, hL_w_13, hK_w_13⟩ := sh_o hSH 327 (ci := 10) (kd := 2) rfl hL_this hK_this
      refine pg_f (v := .ref w_13) (C := RX10) (T := TX10) (N := 13) hx hb hts (tw_i inlX10) hown hK hP hL_this hK_this (by decide) rfl 7 (by decide) (hts _ (tw_c tw_42)) (pq_hv rfl hR_w_13) dX10_goBy_17 ?_
      obtain ⟨w_14, hR_w_14, hL_w_14, hK_w_14⟩ := sh_o hSH 78 (ci := 2) (kd := 9) rfl hL_w_13 hK_w_13
      refine pg_f (v := .ref w_14) (C := RX2) (T := TX2) (N := 20) hx hb hts (tw_i inlX2) hown hK hP hL_w_13 hK_w_13 (by decide) rfl 14 (by decide) (hts _ (tw_c tw_1043)) (pq_hv rfl hR_w_14) dX10_goBy_20 ?_
      refine lv_aload_n hx hb dX10_goBy_23 rfl (lv_at hl 0 rfl) ?_
      refine pg_f (v := .ref w_13) (C := RX10) (T := TX10) (N := 13) hx hb hts (tw_i inlX10) hown hK hP hL_this hK_this (by decide) rfl 7 (by decide) (hts _ (tw_c tw_42)) (pq_hv rfl hR_w_13) dX10_goBy_24 ?_
      refine pg_f (v := .int (I_6 65 w_13)) (C := RX2) (T := TX2) (N := 20) hx hb hts (tw_i inlX2) hown hK hP hL_w_13 hK_w_13 (by decide) rfl 1 (by decide) (hts _ (tw_c tw_498)) rfl dX10_goBy_27 ?_
      have h_15 : rg (I_6 65 w_13) 0 40 := GX.rI hG 65 rfl
      refine lv_aload_n hx hb dX10_goBy_30 rfl (lv_at hl 0 rfl) ?_
      refine pg_f (v := .ref w_13) (C := RX10) (T := TX10) (N := 13) hx hb hts (tw_i inlX10) hown hK hP hL_this hK_this (by decide) rfl 7 (by decide) (hts _ (tw_c tw_42)) (pq_hv rfl hR_w_13) dX10_goBy_31 ?_
      refine pg_f (v := .long (J_7 67 w_13)) (C := RX2) (T := TX2) (N := 20) hx hb hts (tw_i inlX2) hown hK hP hL_w_13 hK_w_13 (by decide) rfl 3 (by decide) (hts _ (tw_c tw_1044)) rfl dX10_goBy_34 ?_
      refine lv_aload_n hx hb dX10_goBy_37 rfl (lv_at hl 0 rfl) ?_
      obtain ⟨w_16, hR_w_16, hL_w_16, hK_w_16⟩ := sh_o hSH 326 (ci := 10) (kd := 7) rfl hL_this hK_this
      refine pg_f (v := .ref w_16) (C := RX10) (T := TX10) (N := 13) hx hb hts (tw_i inlX10) hown hK hP hL_this hK_this (by decide) rfl 6 (by decide) (hts _ (tw_c tw_38)) (pq_hv rfl hR_w_16) dX10_goBy_38 ?_
      obtain ⟨w_17, hR_w_17, hL_w_17, hK_w_17, hN_w_17, hT_w_17⟩ := sh_a hSH 233 (ci := 7) (kd := 13) (len := 12) rfl (by decide) hL_w_16 hK_w_16
      refine pg_f (v := .ref w_17) (C := RX7) (T := TX7) (N := 15) hx hb hts (tw_i inlX7) hown hK hP hL_w_16 hK_w_16 (by decide) rfl 9 (by decide) (hts _ (tw_c tw_1045)) (pq_hv rfl hR_w_17) dX10_goBy_41 ?_
      refine lv_aload_n hx hb dX10_goBy_44 rfl (lv_at hl 0 rfl) ?_
      refine pg_f (v := .int (I_6 320 this)) (C := RX10) (T := TX10) (N := 13) hx hb hts (tw_i inlX10) hown hK hP hL_this hK_this (by decide) rfl 0 (by decide) (hts _ (tw_c tw_457)) rfl dX10_goBy_45 ?_
      have h_18 : rg (I_6 320 this) 0 599 := (by rw [hg_11.2 320 (by decide) (by decide)]; exact h_3)
      refine lv_bipush (v := 12) hx hb dX10_goBy_48 (by decide) ?_
      refine lv_irem hx hb dX10_goBy_50 (by decide) ?_
      refine lv_topi (fun x_19 ex_19 => ?_)
      have h_20 : rg x_19 0 11 := rg_of_eq ex_19 (rg_rem h_18 rfl (by decide))
      refine pl_i hx hb hK hP hL_w_17 hK_w_17 hN_w_17 (rg_in h_20 (by decide)) dX10_goBy_51 ?_
      refine lv_topi (fun x_21 ex_21 => ?_)
      refine pk_v (va_runV (As := [.int (I_6 65 w_13), .long (J_7 67 w_13), .int x_21]) (rest := []) ⟨hx, hb, hml, hown, hts⟩ (s_X9_fillUp l D t σ I_6 J_7 ri_8 rj_9 rq H.size tg hSH hG.1 w_14 (I_6 65 w_13) (J_7 67 w_13) x_21 hL_w_14 hK_w_14 (rg_w h_15 (by decide))) (cwV 3 hts (tw_V tw_1083 tw_1084 tw_1085 tw_94 tw_1086) rfl rfl rfl (by decide +kernel) ⟨Nat.le_of_ble_eq_true rfl, Nat.le_of_ble_eq_true rfl⟩) ⟨pq_blind, pq_recv hK hP hL_w_14 hK_w_14 (by decide) rfl, pq_pre hK hN hP hD⟩ rfl rfl hl.1 rfl (lv_room (Nat.le_of_ble_eq_true rfl)) dX10_goBy_52 ⟨Nat.le_of_ble_eq_true rfl, Nat.le_of_ble_eq_true rfl⟩) hD hS hA (fun σ1 μ1 H locs hw_23 hP hD hS => ?_)
      obtain ⟨ri_24, hu_25, hg_26⟩ := hw_23
      obtain ⟨hu_25a, hu_25b⟩ := Prod.mk.inj hu_25
      rw [hu_25a, hu_25b] at hP hD
      have hG := GX.tr hG hg_26 (by decide)
      refine lv_aload_n hx hb dX10_goBy_55 rfl (lv_at hl 0 rfl) ?_
      refine pg_f (v := .ref w_13) (C := RX10) (T := TX10) (N := 13) hx hb hts (tw_i inlX10) hown hK hP hL_this hK_this (by decide) rfl 7 (by decide) (hts _ (tw_c tw_42)) (pq_hv rfl hR_w_13) dX10_goBy_56 ?_
      refine lv_aload_n hx hb dX10_goBy_59 rfl (lv_at hl 0 rfl) ?_
      obtain ⟨w_28, hR_w_28, hL_w_28, hK_w_28, hN_w_28, hT_w_28⟩ := sh_a hSH 332 (ci := 10) (kd := 13) (len := 5) rfl (by decide) hL_this hK_this
      refine pg_f (v := .ref w_28) (C := RX10) (T := TX10) (N := 13) hx hb hts (tw_i inlX10) hown hK hP hL_this hK_this (by decide) rfl 12 (by decide) (hts _ (tw_c tw_56)) (pq_hv rfl hR_w_28) dX10_goBy_60 ?_
      refine lv_iconst (v := 0) hx hb dX10_goBy_63 (by decide) ?_
      refine pk_v (va_runV (As := [.ref w_28, .int 0]) (rest := []) ⟨hx, hb, hml, hown, hts⟩ (s_X2_countBeds_332 l D t σ I_6 J_7 ri_24 rj_9 rq H.size tg hSH hG.1 w_13 w_28 (0 : Int32) hL_w_13 hK_w_13 hL_w_28 hK_w_28 hN_w_28 hT_w_28 (rg_w (rg_k (0 : Int32) 0 rfl) (by decide))) (cwV 2 hts (tw_V tw_1090 tw_1091 tw_1092 tw_41 tw_1093) rfl rfl rfl (by decide +kernel) ⟨Nat.le_of_ble_eq_true rfl, Nat.le_of_ble_eq_true rfl⟩) ⟨pq_blind, pq_recv hK hP hL_w_13 hK_w_13 (by decide) rfl, pq_pre hK hN hP hD⟩ rfl rfl hl.1 rfl (lv_room (Nat.le_of_ble_eq_true rfl)) dX10_goBy_64 ⟨Nat.le_of_ble_eq_true rfl, Nat.le_of_ble_eq_true rfl⟩) hD hS hA (fun σ1 μ1 H locs hw_30 hP hD hS => ?_)
      obtain ⟨ri_31, hu_32, hg_33⟩ := hw_30
      obtain ⟨hu_32a, hu_32b⟩ := Prod.mk.inj hu_32
      rw [hu_32a, hu_32b] at hP hD
      have hG := GX.tr hG hg_33 (by decide)
      refine lv_aload_n hx hb dX10_goBy_67 rfl (lv_at hl 0 rfl) ?_
      obtain ⟨w_35, hR_w_35, hL_w_35, hK_w_35⟩ := sh_o hSH 328 (ci := 10) (kd := 0) rfl hL_this hK_this
      refine pg_f (v := .ref w_35) (C := RX10) (T := TX10) (N := 13) hx hb hts (tw_i inlX10) hown hK hP hL_this hK_this (by decide) rfl 8 (by decide) (hts _ (tw_c tw_46)) (pq_hv rfl hR_w_35) dX10_goBy_68 ?_
      refine lv_aload_n hx hb dX10_goBy_71 rfl (lv_at hl 0 rfl) ?_
      refine pg_f (v := .ref w_13) (C := RX10) (T := TX10) (N := 13) hx hb hts (tw_i inlX10) hown hK hP hL_this hK_this (by decide) rfl 7 (by decide) (hts _ (tw_c tw_42)) (pq_hv rfl hR_w_13) dX10_goBy_72 ?_
      refine pk_i (va_runV (As := [.ref w_13]) (rest := []) ⟨hx, hb, hml, hown, hts⟩ (s_X0_drink l D t σ I_6 J_7 ri_31 rj_9 rq H.size tg hSH hG.1 w_35 w_13 hL_w_35 hK_w_35 hL_w_13 hK_w_13) (cwV 1 hts (tw_V tw_1094 tw_1095 tw_1096 tw_45 tw_1097) rfl rfl rfl (by decide +kernel) ⟨Nat.le_of_ble_eq_true rfl, Nat.le_of_ble_eq_true rfl⟩) ⟨pq_blind, pq_recv hK hP hL_w_35 hK_w_35 (by decide) rfl, pq_pre hK hN hP hD⟩ rfl rfl hl.1 rfl (lv_room (Nat.le_of_ble_eq_true rfl)) dX10_goBy_75 ⟨Nat.le_of_ble_eq_true rfl, Nat.le_of_ble_eq_true rfl⟩) hD hS hA (fun x_36 σ1 μ1 H locs hw_37 hP hD hS => ?_)
      obtain ⟨ri_38, hu_39, hg_40⟩ := hw_37
      obtain ⟨hu_39a, hu_39b⟩ := Prod.mk.inj hu_39
      rw [hu_39a, hu_39b] at hP hD
      have hG := GX.tr hG hg_40 (by decide)
      refine lv_pop hx hb dX10_goBy_78 rfl ?_
      refine lv_aload_n hx hb dX10_goBy_79 rfl (lv_at hl 0 rfl) ?_
      refine pg_f (v := .ref w_35) (C := RX10) (T := TX10) (N := 13) hx hb hts (tw_i inlX10) hown hK hP hL_this hK_this (by decide) rfl 8 (by decide) (hts _ (tw_c tw_46)) (pq_hv rfl hR_w_35) dX10_goBy_80 ?_
      refine lv_aload_n hx hb dX10_goBy_83 rfl (lv_at hl 0 rfl) ?_
      refine pg_f (v := .ref w_28) (C := RX10) (T := TX10) (N := 13) hx hb hts (tw_i inlX10) hown hK hP hL_this hK_this (by decide) rfl 12 (by decide) (hts _ (tw_c tw_56)) (pq_hv rfl hR_w_28) dX10_goBy_84 ?_
      refine lv_iconst (v := 0) hx hb dX10_goBy_87 (by decide) ?_
      refine pk_i (va_runV (As := [.ref w_28, .int 0]) (rest := []) ⟨hx, hb, hml, hown, hts⟩ (s_X0_sleep_332 l D t σ I_6 J_7 ri_38 rj_9 rq H.size tg hSH hG.1 w_35 w_28 (0 : Int32) hL_w_35 hK_w_35 hL_w_28 hK_w_28 hN_w_28 hT_w_28 (rg_w (rg_k (0 : Int32) 0 rfl) (by decide))) (cwV 2 hts (tw_V tw_1120 tw_1121 tw_1122 tw_45 tw_1123) rfl rfl rfl (by decide +kernel) ⟨Nat.le_of_ble_eq_true rfl, Nat.le_of_ble_eq_true rfl⟩) ⟨pq_blind, pq_recv hK hP hL_w_35 hK_w_35 (by decide) rfl, pq_pre hK hN hP hD⟩ rfl rfl hl.1 rfl (lv_room (Nat.le_of_ble_eq_true rfl)) dX10_goBy_88 ⟨Nat.le_of_ble_eq_true rfl, Nat.le_of_ble_eq_true rfl⟩) hD hS hA (fun x_42 σ1 μ1 H locs hw_43 hP hD hS => ?_)
      obtain ⟨ri_44, hu_45, hg_46⟩ := hw_43
      obtain ⟨hu_45a, hu_45b⟩ := Prod.mk.inj hu_45
      rw [hu_45a, hu_45b] at hP hD
      have hG := GX.tr hG hg_46 (by decide)
      refine lv_pop hx hb dX10_goBy_91 rfl ?_
      refine lv_aload_n hx hb dX10_goBy_92 rfl (lv_at hl 0 rfl) ?_
      refine pk_v (va_runV (As := []) (rest := []) ⟨hx, hb, hml, hown, hts⟩ (s_X10_reckon l D t σ I_6 J_7 ri_44 rj_9 rq H.size tg hSH hG.1 this hL_this hK_this) (cwV 0 hts (tw_V tw_1125 tw_1126 tw_1127 tw_15 tw_1128) rfl rfl rfl (by decide +kernel) ⟨Nat.le_of_ble_eq_true rfl, Nat.le_of_ble_eq_true rfl⟩) ⟨pq_blind, pq_recv hK hP hL_this hK_this (by decide) rfl, pq_pre hK hN hP hD⟩ rfl rfl hl.1 rfl (lv_room (Nat.le_of_ble_eq_true rfl)) dX10_goBy_93 ⟨Nat.le_of_ble_eq_true rfl, Nat.le_of_ble_eq_true rfl⟩) hD hS hA (fun σ1 μ1 H locs hw_49 hP hD hS => ?_)
      obtain ⟨I_50, ri_51, hu_52, hg_53⟩ := hw_49
      obtain ⟨hu_52a, hu_52b⟩ := Prod.mk.inj hu_52
      rw [hu_52a, hu_52b] at hP hD
      have hG := GX.tr hG hg_53 (by decide)
      refine lv_aload_n hx hb dX10_goBy_96 rfl (lv_at hl 0 rfl) ?_
      refine pg_f (v := .int (I_50 322 this)) (C := RX10) (T := TX10) (N := 13) hx hb hts (tw_i inlX10) hown hK hP hL_this hK_this (by decide) rfl 2 (by decide) (hts _ (tw_c tw_1046)) rfl dX10_goBy_97 ?_
      have K_90 : ∀  (ri_85 : Nat → Nat → Int32) (H : Heap) (locs : List Loc) (ls : Array Slot), GX [320] tg σ I I_50 ri_85 rq → va_P D vwCl (pq_P t σ (I_50, J_7, ri_85, rj_9, rq)) H → va_D A (pq_P t σ (I_50, J_7, ri_85, rj_9, rq)) → va_S A s.heap H locs → lv_has ls 4 [(0, .ref this)] → W p l e ({ frames := 5, cells := 0, slots := 0, locals := 143 } : Room) s m (List.toArray ([.ref this, .int a0] : List Value)) below meth c H locs 0 0 Q (F0 m 174 ls []) := by
        intro ri_85 H locs ls hG hP hD hS hl
        refine lv_aload_n hx hb dX10_goBy_174 rfl (lv_at hl 0 rfl) ?_
        refine lv_dup hx hb dX10_goBy_175 rfl ?_
        refine pg_f (v := .int (I_50 320 this)) (C := RX10) (T := TX10) (N := 13) hx hb hts (tw_i inlX10) hown hK hP hL_this hK_this (by decide) rfl 0 (by decide) (hts _ (tw_c tw_457)) rfl dX10_goBy_176 ?_
        have h_91 : rg (I_50 320 this) 0 599 := (by rw [hg_53.2 320 (by decide) (by decide)]; exact h_18)
        refine lv_iconst (v := 1) hx hb dX10_goBy_179 (by decide) ?_
        refine lv_iadd hx hb dX10_goBy_180 ?_
        refine lv_topi (fun x_92 ex_92 => ?_)
        have h_93 : rg x_92 1 600 := rg_of_eq ex_92 (rg_add h_91 (rg_k (1 : Int32) 1 rfl) (by decide))
        refine pp_i (v := x_92) (ty := .int) (C := RX10) (T := TX10) (N := 13) hx hb hts (tw_i inlX10) tyX10 tyX10_ok nmX10 hown hK hP hD hS hL_this hK_this (by decide) rfl 0 320 (by decide) (hts _ (tw_c tw_457)) rfl (by decide +kernel) rfl rfl (Nat.le_of_ble_eq_true rfl) (ps_320 _ _ _ _ _) dX10_goBy_181 (fun I_94 H locs eI_94 hP hD hS => ?_)
        have hG := GX.wI hG 320 rfl eI_94 (rg_w h_93 (by decide)) (by decide)
        subst hQ
        exact W.vret hx hb hr (fun t1 ht hW => ⟨⟨(σ, I_94, J_7, ri_85, rj_9, rq), rfl, ⟨I_94, J_7, ri_85, rj_9, rfl, hG⟩, by rw [ht]; exact hP, va_K.moved hW.alike hK, hD⟩, hS.F ht⟩) hS.2.2 dX10_goBy_184
      refine lv_if_le (tgt := 174) hx hb dX10_goBy_100 (by decide) (fun c_95 => ?_) (fun c_95 => ?_)
      · have h_96 : rg (I_50 322 this) (-2147483648) 0 := rg_le1 c_95 (rg_full _) (rg_k (0 : Int32) 0 rfl) (by decide)
        exact K_90 ri_51 _ _ _ hG hP hD hS (lv_sub hl [0] rfl)
      · have h_97 : rg (I_50 322 this) 1 2147483647 := rg_lt2 (nle c_95) (rg_k (0 : Int32) 0 rfl) (rg_full _) (by decide)
        refine lv_aload_n hx hb dX10_goBy_103 rfl (lv_at hl 0 rfl) ?_
        obtain ⟨w_98, hR_w_98, hL_w_98, hK_w_98⟩ := sh_o hSH 329 (ci := 10) (kd := 3) rfl hL_this hK_this
        refine pg_f (v := .ref w_98) (C := RX10) (T := TX10) (N := 13) hx hb hts (tw_i inlX10) hown hK hP hL_this hK_this (by decide) rfl 9 (by decide) (hts _ (tw_c tw_50)) (pq_hv rfl hR_w_98) dX10_goBy_104 ?_
        refine lv_iconst (v := 4) hx hb dX10_goBy_107 (by decide) ?_
        refine lv_aload_n hx hb dX10_goBy_108 rfl (lv_at hl 0 rfl) ?_
        refine pg_f (v := .int (I_50 320 this)) (C := RX10) (T := TX10) (N := 13) hx hb hts (tw_i inlX10) hown hK hP hL_this hK_this (by decide) rfl 0 (by decide) (hts _ (tw_c tw_457)) rfl dX10_goBy_109 ?_
        have h_99 : rg (I_50 320 this) 0 599 := (by rw [hg_53.2 320 (by decide) (by decide)]; exact h_18)
        refine lv_aload_n hx hb dX10_goBy_112 rfl (lv_at hl 0 rfl) ?_
        refine pg_f (v := .ref w_35) (C := RX10) (T := TX10) (N := 13) hx hb hts (tw_i inlX10) hown hK hP hL_this hK_this (by decide) rfl 8 (by decide) (hts _ (tw_c tw_46)) (pq_hv rfl hR_w_35) dX10_goBy_113 ?_
        refine lv_aload_n hx hb dX10_goBy_116 rfl (lv_at hl 0 rfl) ?_
        obtain ⟨w_100, hR_w_100, hL_w_100, hK_w_100, hN_w_100, hT_w_100⟩ := sh_a hSH 331 (ci := 10) (kd := 13) (len := 40) rfl (by decide) hL_this hK_this
        refine pg_f (v := .ref w_100) (C := RX10) (T := TX10) (N := 13) hx hb hts (tw_i inlX10) hown hK hP hL_this hK_this (by decide) rfl 11 (by decide) (hts _ (tw_c tw_55)) (pq_hv rfl hR_w_100) dX10_goBy_117 ?_
        refine pk_v (va_runV (As := [.int 4, .int (I_50 320 this), .ref w_35, .ref w_100]) (rest := []) ⟨hx, hb, hml, hown, hts⟩ (s_X3_line_331 l D t σ I_50 J_7 ri_51 rj_9 rq H.size tg hSH hG.1 w_98 (4 : Int32) (I_50 320 this) w_35 w_100 hL_w_98 hK_w_98 hL_w_35 hK_w_35 hL_w_100 hK_w_100 hN_w_100 hT_w_100) (cwV 4 hts (tw_V tw_461 tw_462 tw_463 tw_49 tw_464) rfl rfl rfl (by decide +kernel) ⟨Nat.le_of_ble_eq_true rfl, Nat.le_of_ble_eq_true rfl⟩) ⟨pq_blind, pq_recv hK hP hL_w_98 hK_w_98 (by decide) rfl, pq_pre hK hN hP hD⟩ rfl rfl hl.1 rfl (lv_room (Nat.le_of_ble_eq_true rfl)) dX10_goBy_120 ⟨Nat.le_of_ble_eq_true rfl, Nat.le_of_ble_eq_true rfl⟩) hD hS hA (fun σ1 μ1 H locs hw_102 hP hD hS => ?_)
        obtain ⟨ri_103, hu_104, hg_105⟩ := hw_102
        obtain ⟨hu_104a, hu_104b⟩ := Prod.mk.inj hu_104
        rw [hu_104a, hu_104b] at hP hD
        have hG := GX.tr hG hg_105 (by decide)
        refine lv_aload_n hx hb dX10_goBy_123 rfl (lv_at hl 0 rfl) ?_
        refine pg_f (v := .ref w_98) (C := RX10) (T := TX10) (N := 13) hx hb hts (tw_i inlX10) hown hK hP hL_this hK_this (by decide) rfl 9 (by decide) (hts _ (tw_c tw_50)) (pq_hv rfl hR_w_98) dX10_goBy_124 ?_
        refine lv_iconst (v := 2) hx hb dX10_goBy_127 (by decide) ?_
        refine lv_aload_n hx hb dX10_goBy_128 rfl (lv_at hl 0 rfl) ?_
        refine pg_f (v := .int (I_50 320 this)) (C := RX10) (T := TX10) (N := 13) hx hb hts (tw_i inlX10) hown hK hP hL_this hK_this (by decide) rfl 0 (by decide) (hts _ (tw_c tw_457)) rfl dX10_goBy_129 ?_
        refine lv_aload_n hx hb dX10_goBy_132 rfl (lv_at hl 0 rfl) ?_
        refine pg_f (v := .ref w_35) (C := RX10) (T := TX10) (N := 13) hx hb hts (tw_i inlX10) hown hK hP hL_this hK_this (by decide) rfl 8 (by decide) (hts _ (tw_c tw_46)) (pq_hv rfl hR_w_35) dX10_goBy_133 ?_
        refine lv_aload_n hx hb dX10_goBy_136 rfl (lv_at hl 0 rfl) ?_
        refine pg_f (v := .ref w_35) (C := RX10) (T := TX10) (N := 13) hx hb hts (tw_i inlX10) hown hK hP hL_this hK_this (by decide) rfl 8 (by decide) (hts _ (tw_c tw_46)) (pq_hv rfl hR_w_35) dX10_goBy_137 ?_
        refine pk_l (va_runV (As := []) (rest := [.ref w_35, .int (I_50 320 this), .int 2, .ref w_98]) ⟨hx, hb, hml, hown, hts⟩ (s_X0_onRings l D t σ I_50 J_7 ri_103 rj_9 rq H.size tg hSH hG.1 w_35 hL_w_35 hK_w_35) (cwV 0 hts (tw_V tw_1162 tw_1163 tw_1164 tw_45 tw_1165) rfl rfl rfl (by decide +kernel) ⟨Nat.le_of_ble_eq_true rfl, Nat.le_of_ble_eq_true rfl⟩) ⟨pq_blind, pq_recv hK hP hL_w_35 hK_w_35 (by decide) rfl, pq_pre hK hN hP hD⟩ rfl rfl hl.1 rfl (lv_room (Nat.le_of_ble_eq_true rfl)) dX10_goBy_140 ⟨Nat.le_of_ble_eq_true rfl, Nat.le_of_ble_eq_true rfl⟩) hD hS hA (fun x_107 σ1 μ1 H locs hw_108 hP hD hS => ?_)
        have hu_109 := hw_108
        obtain ⟨hu_109a, hu_109b⟩ := Prod.mk.inj hu_109
        rw [hu_109a, hu_109b] at hP hD
        refine pk_l (va_runV (As := [.int 2, .int (I_50 320 this), .ref w_35, .long x_107]) (rest := []) ⟨hx, hb, hml, hown, hts⟩ (s_X3_whoIsSo l D t σ I_50 J_7 ri_103 rj_9 rq H.size tg hSH hG.1 w_98 (2 : Int32) (I_50 320 this) w_35 x_107 hL_w_98 hK_w_98 hL_w_35 hK_w_35) (cwV 4 hts (tw_V tw_1166 tw_964 tw_965 tw_49 tw_966) rfl rfl rfl (by decide +kernel) ⟨Nat.le_of_ble_eq_true rfl, Nat.le_of_ble_eq_true rfl⟩) ⟨pq_blind, pq_recv hK hP hL_w_98 hK_w_98 (by decide) rfl, pq_pre hK hN hP hD⟩ rfl rfl hl.1 rfl (lv_room (Nat.le_of_ble_eq_true rfl)) dX10_goBy_143 ⟨Nat.le_of_ble_eq_true rfl, Nat.le_of_ble_eq_true rfl⟩) hD hS hA (fun x_112 σ1 μ1 H locs hw_113 hP hD hS => ?_)
        obtain ⟨ri_114, hu_115, hg_116⟩ := hw_113
        obtain ⟨hu_115a, hu_115b⟩ := Prod.mk.inj hu_115
        rw [hu_115a, hu_115b] at hP hD
        have hG := GX.tr hG hg_116 (by decide)
        refine lv_lstore_n (lv' := [(2, .long x_112), (0, .ref this), (1, .int a0)]) hx hb dX10_goBy_146 rfl hl (by decide) rfl (fun ls hl => ?_)
        refine lv_aload_n hx hb dX10_goBy_147 rfl (lv_at hl 1 rfl) ?_
        refine pg_f (v := .ref w_35) (C := RX10) (T := TX10) (N := 13) hx hb hts (tw_i inlX10) hown hK hP hL_this hK_this (by decide) rfl 8 (by decide) (hts _ (tw_c tw_46)) (pq_hv rfl hR_w_35) dX10_goBy_148 ?_
        refine lv_lload_n hx hb dX10_goBy_151 rfl (lv_at hl 0 rfl) ?_
        refine lv_aload_n hx hb dX10_goBy_152 rfl (lv_at hl 1 rfl) ?_
        refine pg_f (v := .ref w_100) (C := RX10) (T := TX10) (N := 13) hx hb hts (tw_i inlX10) hown hK hP hL_this hK_this (by decide) rfl 11 (by decide) (hts _ (tw_c tw_55)) (pq_hv rfl hR_w_100) dX10_goBy_153 ?_
        refine lv_aload_n hx hb dX10_goBy_156 rfl (lv_at hl 1 rfl) ?_
        refine pg_f (v := .ref w_35) (C := RX10) (T := TX10) (N := 13) hx hb hts (tw_i inlX10) hown hK hP hL_this hK_this (by decide) rfl 8 (by decide) (hts _ (tw_c tw_46)) (pq_hv rfl hR_w_35) dX10_goBy_157 ?_
        refine pg_f (v := .int (I_50 0 w_35)) (C := RX0) (T := TX0) (N := 16) hx hb hts (tw_i inlX0) hown hK hP hL_w_35 hK_w_35 (by decide) rfl 0 (by decide) (hts _ (tw_c tw_458)) rfl dX10_goBy_160 ?_
        have h_118 : rg (I_50 0 w_35) 0 40 := GX.rI hG 0 rfl
        refine lv_aload_n hx hb dX10_goBy_163 rfl (lv_at hl 1 rfl) ?_
        refine pg_f (v := .int (I_50 322 this)) (C := RX10) (T := TX10) (N := 13) hx hb hts (tw_i inlX10) hown hK hP hL_this hK_this (by decide) rfl 2 (by decide) (hts _ (tw_c tw_1046)) rfl dX10_goBy_164 ?_
        refine lv_aload_n hx hb dX10_goBy_167 rfl (lv_at hl 1 rfl) ?_
        refine pg_f (v := .int (I_50 320 this)) (C := RX10) (T := TX10) (N := 13) hx hb hts (tw_i inlX10) hown hK hP hL_this hK_this (by decide) rfl 0 (by decide) (hts _ (tw_c tw_457)) rfl dX10_goBy_168 ?_
        refine pk_v (va_runV (As := [.long x_112, .ref w_100, .int (I_50 0 w_35), .int (I_50 322 this), .int (I_50 320 this)]) (rest := []) ⟨hx, hb, hml, hown, hts⟩ (s_X0_board_331 l D t σ I_50 J_7 ri_114 rj_9 rq H.size tg hSH hG.1 w_35 x_112 w_100 (I_50 0 w_35) (I_50 322 this) (I_50 320 this) hL_w_35 hK_w_35 hL_w_100 hK_w_100 hN_w_100 hT_w_100) (cwV 5 hts (tw_V tw_1167 tw_1168 tw_1169 tw_45 tw_1170) rfl rfl rfl (by decide +kernel) ⟨Nat.le_of_ble_eq_true rfl, Nat.le_of_ble_eq_true rfl⟩) ⟨pq_blind, pq_recv hK hP hL_w_35 hK_w_35 (by decide) rfl, pq_pre hK hN hP hD⟩ rfl rfl hl.1 rfl (lv_room (Nat.le_of_ble_eq_true rfl)) dX10_goBy_171 ⟨Nat.le_of_ble_eq_true rfl, Nat.le_of_ble_eq_true rfl⟩) hD hS hA (fun σ1 μ1 H locs hw_120 hP hD hS => ?_)
        obtain ⟨ri_121, hu_122, hg_123⟩ := hw_120
        obtain ⟨hu_122a, hu_122b⟩ := Prod.mk.inj hu_122
        rw [hu_122a, hu_122b] at hP hD
        have hG := GX.tr hG hg_123 (by decide)
        exact K_90 ri_121 _ _ _ hG hP hD hS (lv_sub hl [1] rfl)
    · have h_125 : rg (I 320 this) 600 600 := rg_le2 (nlt c_2) (rg_k (600 : Int32) 600 rfl) h_1 (by decide)
      subst hQ
      exact W.vret hx hb hr (fun t1 ht hW => ⟨⟨(σ, I, J, ri, rj, rq), rfl, ⟨I, J, ri, rj, rfl, hG⟩, by rw [ht]; exact hP, va_K.moved hW.alike hK, hD⟩, hS.F ht⟩) hS.2.2 dX10_goBy_10
  exact go _ _ _ hP hD hS hl

set_option maxHeartbeats 4000000 in
set_option maxRecDepth 100000 in
theorem s_X10_sandBehind (l : Launch) (D : va_G) (t : pq_T) (σ : pq_S) (I : Nat → Nat → Int32) (J : Nat → Nat → Int64) (ri : Nat → Nat → Int32) (rj : Nat → Nat → Int64) (rq : Nat → Nat → Option Nat) (sz : Nat) (tg : Nat → Nat) (hSH : SH σ tg) (hG0 : GS tg σ I ri rq) (this : Nat) (a0 : Int32) (a1 : Int32) (hL_this : this ∈ σ.1) (hK_this : σ.2.1 this = 10) (h_a0 : rg a0 0 60) (h_a1 : rg a1 0 39) : MetI l yX10_sandBehind (wa yX10_sandBehind cX10_sandBehind 4 (some .int)) ({ frames := 2, cells := 0, slots := 0, locals := 62 }) [.ref this, .int a0, .int a1] D t σ (I, J, ri, rj, rq) sz 0 0 (fun (r : Int32) (u : pq_S × pq_M) => ∃ I' : Nat → Nat → Int32, ∃ ri' : Nat → Nat → Int32, u = (σ, I', J, ri', rj, rq) ∧ GX [] tg σ I I' ri' rq) := by
  refine Met.ofW (cc := cX10_sandBehind) (maxL := 4) (ret := (some .int)) (by decide) rfl ?_
  intro p e s m args below meth c s₁ B hml hv
  obtain ⟨rfl, hsz, hP, hK, hD0, hN⟩ := hv
  have hx := B.exec
  have hb := B.bytes
  have hr := B.returns
  have hts := atoms_spec (ws := (wa yX10_sandBehind cX10_sandBehind 4 (some .int))) B.pre
  have hown : s.vm.findClass RX10 = some m.cls := findClass_of_methodNamed B.named
  have hlocks := B.notSynchronized
  subst hsz
  have hD : va_D (pq_B t σ (I, J, ri, rj, rq) s.heap.size) (pq_P t σ (I, J, ri, rj, rq)) := hD0.self
  generalize hAe : pq_B t σ (I, J, ri, rj, rq) s.heap.size = A at hD ⊢
  have hA : ∀ q : Nat, s.heap.size ≤ q → A q := fun q h => by rw [← hAe]; exact Or.inr h
  have hS : va_S A s.heap s.heap [] := va_S.rf
  have hG : GX [] tg σ I I ri rq := ⟨hG0, fun _ _ _ => rfl⟩
  have hl := lv_entry ([.ref this, .int a0, .int a1]) (n := 4) (Nat.le_of_ble_eq_true rfl)
  rw [lg_entry_eq]
  generalize (lg_sl ([.ref this, .int a0, .int a1]) ++ List.replicate (4 - (lg_sl ([.ref this, .int a0, .int a1])).length) Slot.unset).toArray = ls at hl ⊢
  have hl : lv_has ls 4 [(0, .ref this), (1, .int a0), (2, .int a1)] := hl
  refine q_gen (fun Q hQ => ?_)
  have go : ∀ (H : Heap) (locs : List Loc) (ls : Array Slot), va_P D vwCl (pq_P t σ (I, J, ri, rj, rq)) H → va_D A (pq_P t σ (I, J, ri, rj, rq)) → va_S A s.heap H locs → lv_has ls 4 [(0, .ref this), (1, .int a0), (2, .int a1)] → W p l e ({ frames := 2, cells := 0, slots := 0, locals := 62 } : Room) s m (List.toArray ([.ref this, .int a0, .int a1] : List Value)) below meth c H locs 0 0 Q (F0 m 0 ls []) := by
    intro H locs ls hP hD hS hl
    refine lv_iconst (v := 0) hx hb dX10_sandBehind_0 (by decide) ?_
    refine lv_istore_n (lv' := [(3, .int 0), (0, .ref this), (1, .int a0), (2, .int a1)]) hx hb dX10_sandBehind_1 rfl hl (by decide) rfl (fun ls hl => ?_)
    have L_417 : ∀ (n_ : Nat) (x_389 : Int32) (I_390 : Nat → Nat → Int32) (ri_391 : Nat → Nat → Int32) (H : Heap) (locs : List Loc) (ls : Array Slot), rg x_389 0 60 → (60 - (x_389).toInt).toNat < n_ → GX [] tg σ I I_390 ri_391 rq → va_P D vwCl (pq_P t σ (I_390, J, ri_391, rj, rq)) H → va_D A (pq_P t σ (I_390, J, ri_391, rj, rq)) → va_S A s.heap H locs → lv_has ls 4 [(0, .ref this), (1, .int a0), (2, .int a1), (3, .int x_389)] → W p l e ({ frames := 2, cells := 0, slots := 0, locals := 62 } : Room) s m (List.toArray ([.ref this, .int a0, .int a1] : List Value)) below meth c H locs 0 0 Q (F0 m 2 ls []) := by
      intro n_
      induction n_ with
      | zero => intro x_389 I_390 ri_391 H locs ls h_420 hm hG hP hD hS hl; exact absurd hm (Nat.not_lt_zero _)
      | succ n_ ih_418 =>
        intro x_389 I_390 ri_391 H locs ls h_420 hm hG hP hD hS hl
        refine lv_iload_n hx hb dX10_sandBehind_2 rfl (lv_at hl 3 rfl) ?_
        refine lv_iload_n hx hb dX10_sandBehind_3 rfl (lv_at hl 1 rfl) ?_
        refine lv_icmp_ge (tgt := 37) hx hb dX10_sandBehind_4 (by decide) (fun c_421 => ?_) (fun c_421 => ?_)
        · refine lv_aload_n hx hb dX10_sandBehind_37 rfl (lv_at hl 0 rfl) ?_
          obtain ⟨w_422, hR_w_422, hL_w_422, hK_w_422⟩ := sh_o hSH 327 (ci := 10) (kd := 2) rfl hL_this hK_this
          refine pg_f (v := .ref w_422) (C := RX10) (T := TX10) (N := 13) hx hb hts (tw_i inlX10) hown hK hP hL_this hK_this (by decide) rfl 7 (by decide) (hts _ (tw_c tw_42)) (pq_hv rfl hR_w_422) dX10_sandBehind_38 ?_
          obtain ⟨w_423, hR_w_423, hL_w_423, hK_w_423, hN_w_423, hT_w_423⟩ := sh_a hSH 73 (ci := 2) (kd := 13) (len := 40) rfl (by decide) hL_w_422 hK_w_422
          refine pg_f (v := .ref w_423) (C := RX2) (T := TX2) (N := 20) hx hb hts (tw_i inlX2) hown hK hP hL_w_422 hK_w_422 (by decide) rfl 9 (by decide) (hts _ (tw_c tw_1419)) (pq_hv rfl hR_w_423) dX10_sandBehind_41 ?_
          refine lv_iload_n hx hb dX10_sandBehind_44 rfl (lv_at hl 2 rfl) ?_
          refine pl_i hx hb hK hP hL_w_423 hK_w_423 hN_w_423 (rg_in h_a1 (by decide)) dX10_sandBehind_45 ?_
          refine lv_topi (fun x_424 ex_424 => ?_)
          subst hQ
          exact W.iret (v := x_424) hx hb hr (fun t1 ht hW => ⟨⟨x_424, (σ, I_390, J, ri_391, rj, rq), rfl, ⟨I_390, ri_391, rfl, hG⟩, by rw [ht]; exact hP, va_K.moved hW.alike hK, hD⟩, hS.F ht⟩) hS.2.2 dX10_sandBehind_46
        · have h_425 : rg x_389 0 59 := rg_lt1 (nle c_421) h_420 h_a0 (by decide)
          have h_426 : rg a0 1 60 := rg_lt2 (nle c_421) h_420 h_a0 (by decide)
          refine lv_aload_n hx hb dX10_sandBehind_7 rfl (lv_at hl 0 rfl) ?_
          obtain ⟨w_427, hR_w_427, hL_w_427, hK_w_427⟩ := sh_o hSH 327 (ci := 10) (kd := 2) rfl hL_this hK_this
          refine pg_f (v := .ref w_427) (C := RX10) (T := TX10) (N := 13) hx hb hts (tw_i inlX10) hown hK hP hL_this hK_this (by decide) rfl 7 (by decide) (hts _ (tw_c tw_42)) (pq_hv rfl hR_w_427) dX10_sandBehind_8 ?_
          refine lv_aload_n hx hb dX10_sandBehind_11 rfl (lv_at hl 0 rfl) ?_
          obtain ⟨w_428, hR_w_428, hL_w_428, hK_w_428⟩ := sh_o hSH 326 (ci := 10) (kd := 7) rfl hL_this hK_this
          refine pg_f (v := .ref w_428) (C := RX10) (T := TX10) (N := 13) hx hb hts (tw_i inlX10) hown hK hP hL_this hK_this (by decide) rfl 6 (by decide) (hts _ (tw_c tw_38)) (pq_hv rfl hR_w_428) dX10_sandBehind_12 ?_
          obtain ⟨w_429, hR_w_429, hL_w_429, hK_w_429, hN_w_429, hT_w_429⟩ := sh_a hSH 232 (ci := 7) (kd := 13) (len := 12) rfl (by decide) hL_w_428 hK_w_428
          refine pg_f (v := .ref w_429) (C := RX7) (T := TX7) (N := 15) hx hb hts (tw_i inlX7) hown hK hP hL_w_428 hK_w_428 (by decide) rfl 8 (by decide) (hts _ (tw_c tw_1055)) (pq_hv rfl hR_w_429) dX10_sandBehind_15 ?_
          refine lv_aload_n hx hb dX10_sandBehind_18 rfl (lv_at hl 0 rfl) ?_
          refine pg_f (v := .int (I_390 320 this)) (C := RX10) (T := TX10) (N := 13) hx hb hts (tw_i inlX10) hown hK hP hL_this hK_this (by decide) rfl 0 (by decide) (hts _ (tw_c tw_457)) rfl dX10_sandBehind_19 ?_
          have h_430 : rg (I_390 320 this) 0 600 := GX.rI hG 320 rfl
          refine lv_iload_n hx hb dX10_sandBehind_22 rfl (lv_at hl 3 rfl) ?_
          refine lv_iadd hx hb dX10_sandBehind_23 ?_
          refine lv_topi (fun x_431 ex_431 => ?_)
          have h_432 : rg x_431 0 659 := rg_of_eq ex_431 (rg_add h_430 h_425 (by decide))
          refine lv_bipush (v := 12) hx hb dX10_sandBehind_24 (by decide) ?_
          refine lv_irem hx hb dX10_sandBehind_26 (by decide) ?_
          refine lv_topi (fun x_433 ex_433 => ?_)
          have h_434 : rg x_433 0 11 := rg_of_eq ex_433 (rg_rem h_432 rfl (by decide))
          refine pl_i hx hb hK hP hL_w_429 hK_w_429 hN_w_429 (rg_in h_434 (by decide)) dX10_sandBehind_27 ?_
          refine lv_topi (fun x_435 ex_435 => ?_)
          refine pk_v (va_runV (As := [.int x_435]) (rest := []) ⟨hx, hb, hml, hown, hts⟩ (s_X2_walk l D t σ I_390 J ri_391 rj rq H.size tg hSH hG.1 w_427 x_435 hL_w_427 hK_w_427) (cwV 1 hts (tw_V tw_1065 tw_1066 tw_1067 tw_41 tw_1068) rfl rfl rfl (by decide +kernel) ⟨Nat.le_of_ble_eq_true rfl, Nat.le_of_ble_eq_true rfl⟩) ⟨pq_blind, pq_recv hK hP hL_w_427 hK_w_427 (by decide) rfl, pq_pre hK hN hP hD⟩ rfl rfl hl.1 rfl (lv_room (Nat.le_of_ble_eq_true rfl)) dX10_sandBehind_28 ⟨Nat.le_of_ble_eq_true rfl, Nat.le_of_ble_eq_true rfl⟩) hD hS hA (fun σ1 μ1 H locs hw_437 hP hD hS => ?_)
          obtain ⟨I_438, ri_439, hu_440, hg_441⟩ := hw_437
          obtain ⟨hu_440a, hu_440b⟩ := Prod.mk.inj hu_440
          rw [hu_440a, hu_440b] at hP hD
          have hG := GX.tr hG hg_441 (by decide)
          obtain ⟨x_443, ex_443⟩ : ∃ y : Int32, y = x_389 + Int32.ofInt 1 := ⟨_, rfl⟩
          have h_444 : rg x_443 1 60 := rg_of_eq ex_443 (rg_add h_425 (rg_k (Int32.ofInt 1) 1 rfl) (by decide))
          refine lv_iinc (v := x_443) (lv' := [(3, .int x_443), (0, .ref this), (1, .int a0), (2, .int a1)]) hx hb dX10_sandBehind_31 hl (k := 3) rfl ex_443.symm (by decide) rfl (fun ls hl => ?_)
          refine lv_goto (tgt := 2) hx hb dX10_sandBehind_34 (by decide) ?_
          exact ih_418 x_443 I_438 ri_439 _ _ _ (rg_w h_444 (by decide)) (ms_up 1 hm ex_443 rfl (by decide) h_425 (by decide) (by decide)) hG hP hD hS (lv_sub hl [1, 2, 3, 0] rfl)
    exact L_417 _ (0 : Int32) I ri _ _ _ (rg_w (rg_k (0 : Int32) 0 rfl) (by decide)) (Nat.lt_succ_self _) hG hP hD hS (lv_sub hl [1, 2, 3, 0] rfl)
  exact go _ _ _ hP hD hS hl
