theorem dX10_reckon_0 : decode cX10_reckon 0 = .ok (.aload_n 0, 1) := by decide +kernel
theorem dX10_reckon_1 : decode cX10_reckon 1 = .ok (.getfield 67, 3) := by decide +kernel
theorem dX10_reckon_4 : decode cX10_reckon 4 = .ok (.sipush 600, 3) := by decide +kernel
theorem dX10_reckon_7 : decode cX10_reckon 7 = .ok (.if_icmp .lt 4, 3) := by decide +kernel
theorem dX10_reckon_11 : decode cX10_reckon 11 = .ok (.aload_n 0, 1) := by decide +kernel
theorem tw_50 : Cond.fieldLink RX10 46 "RingsUnder$World" "law" "LRingsUnder$Law;" ∈ wsL_law := List.mem_of_getElem? (i := 50) (by decide +kernel)
theorem dX10_reckon_12 : decode cX10_reckon 12 = .ok (.getfield 46, 3) := by decide +kernel
theorem dX10_reckon_15 : decode cX10_reckon 15 = .ok (.aload_n 0, 1) := by decide +kernel
theorem dX10_reckon_16 : decode cX10_reckon 16 = .ok (.getfield 67, 3) := by decide +kernel
theorem tw_1133 : Cond.methodLink RX10 191 yX3_fixIn ∈ wsL_law := List.mem_of_getElem? (i := 1133) (by decide +kernel)
theorem tw_1009 : Cond.instanceMethod yX3_fixIn ∈ wsL_law := List.mem_of_getElem? (i := 1009) (by decide +kernel)
theorem tw_1010 : Cond.selects RX3 yX3_fixIn yX3_fixIn ∈ wsL_law := List.mem_of_getElem? (i := 1010) (by decide +kernel)
theorem tw_1011 : Cond.code yX3_fixIn cX3_fixIn 2 (some .int) ∈ wsL_law := List.mem_of_getElem? (i := 1011) (by decide +kernel)
theorem dX10_reckon_19 : decode cX10_reckon 19 = .ok (.invokevirtual 191, 3) := by decide +kernel
theorem dX10_reckon_22 : decode cX10_reckon 22 = .ok (.istore_n 1, 1) := by decide +kernel
theorem dX10_reckon_23 : decode cX10_reckon 23 = .ok (.iload_n 1, 1) := by decide +kernel
theorem dX10_reckon_24 : decode cX10_reckon 24 = .ok (.ifCond .lt 15, 3) := by decide +kernel
theorem dX10_reckon_39 : decode cX10_reckon 39 = .ok (.aload_n 0, 1) := by decide +kernel
theorem dX10_reckon_40 : decode cX10_reckon 40 = .ok (.getfield 67, 3) := by decide +kernel
theorem dX10_reckon_43 : decode cX10_reckon 43 = .ok (.istore_n 2, 1) := by decide +kernel
theorem dX10_reckon_44 : decode cX10_reckon 44 = .ok (.aload_n 0, 1) := by decide +kernel
theorem dX10_reckon_45 : decode cX10_reckon 45 = .ok (.aload_n 0, 1) := by decide +kernel
theorem dX10_reckon_46 : decode cX10_reckon 46 = .ok (.getfield 32, 3) := by decide +kernel
theorem dX10_reckon_49 : decode cX10_reckon 49 = .ok (.aload_n 0, 1) := by decide +kernel
theorem dX10_reckon_50 : decode cX10_reckon 50 = .ok (.getfield 32, 3) := by decide +kernel
theorem tw_1129 : Cond.fieldLink RX10 195 "RingsUnder$Land" "rocks" "[J" ∈ wsL_law := List.mem_of_getElem? (i := 1129) (by decide +kernel)
theorem dX10_reckon_53 : decode cX10_reckon 53 = .ok (.getfield 195, 3) := by decide +kernel
theorem dX10_reckon_56 : decode cX10_reckon 56 = .ok (.iload_n 2, 1) := by decide +kernel
theorem dX10_reckon_57 : decode cX10_reckon 57 = .ok (.laload, 1) := by decide +kernel
theorem dX10_reckon_58 : decode cX10_reckon 58 = .ok (.aload_n 0, 1) := by decide +kernel
theorem dX10_reckon_59 : decode cX10_reckon 59 = .ok (.getfield 25, 3) := by decide +kernel
theorem tw_1130 : Cond.fieldLink RX10 199 "RingsUnder$Seas" "reach" "I" ∈ wsL_law := List.mem_of_getElem? (i := 1130) (by decide +kernel)
theorem dX10_reckon_62 : decode cX10_reckon 62 = .ok (.getfield 199, 3) := by decide +kernel
theorem tw_1134 : Cond.methodLink RX10 202 yX2_countArea ∈ wsL_law := List.mem_of_getElem? (i := 1134) (by decide +kernel)
theorem tw_1135 : Cond.instanceMethod yX2_countArea ∈ wsL_law := List.mem_of_getElem? (i := 1135) (by decide +kernel)
theorem tw_1136 : Cond.selects RX2 yX2_countArea yX2_countArea ∈ wsL_law := List.mem_of_getElem? (i := 1136) (by decide +kernel)
theorem tw_1137 : Cond.code yX2_countArea cX2_countArea 6 (some .int) ∈ wsL_law := List.mem_of_getElem? (i := 1137) (by decide +kernel)
theorem dX10_reckon_65 : decode cX10_reckon 65 = .ok (.invokevirtual 202, 3) := by decide +kernel
theorem tw_32 : Cond.fieldLink RX10 15 "RingsUnder$World" "area" "I" ∈ wsL_law := List.mem_of_getElem? (i := 32) (by decide +kernel)
theorem dX10_reckon_68 : decode cX10_reckon 68 = .ok (.putfield 15, 3) := by decide +kernel
theorem dX10_reckon_71 : decode cX10_reckon 71 = .ok (.aload_n 0, 1) := by decide +kernel
theorem dX10_reckon_72 : decode cX10_reckon 72 = .ok (.dup, 1) := by decide +kernel
theorem tw_1131 : Cond.fieldLink RX10 70 "RingsUnder$World" "fund" "I" ∈ wsL_law := List.mem_of_getElem? (i := 1131) (by decide +kernel)
theorem dX10_reckon_73 : decode cX10_reckon 73 = .ok (.getfield 70, 3) := by decide +kernel
theorem dX10_reckon_76 : decode cX10_reckon 76 = .ok (.aload_n 0, 1) := by decide +kernel
theorem tw_46 : Cond.fieldLink RX10 39 "RingsUnder$World" "folk" "LRingsUnder$Folk;" ∈ wsL_law := List.mem_of_getElem? (i := 46) (by decide +kernel)
theorem dX10_reckon_77 : decode cX10_reckon 77 = .ok (.getfield 39, 3) := by decide +kernel
theorem tw_1153 : Cond.methodLink RX10 206 yX0_sendings ∈ wsL_law := List.mem_of_getElem? (i := 1153) (by decide +kernel)
theorem tw_1154 : Cond.instanceMethod yX0_sendings ∈ wsL_law := List.mem_of_getElem? (i := 1154) (by decide +kernel)
theorem tw_1155 : Cond.selects RX0 yX0_sendings yX0_sendings ∈ wsL_law := List.mem_of_getElem? (i := 1155) (by decide +kernel)
theorem tw_45 : Cond.initialized RX0 ∈ wsL_law := List.mem_of_getElem? (i := 45) (by decide +kernel)
theorem tw_1156 : Cond.code yX0_sendings cX0_sendings 3 (some .int) ∈ wsL_law := List.mem_of_getElem? (i := 1156) (by decide +kernel)
theorem dX10_reckon_80 : decode cX10_reckon 80 = .ok (.invokevirtual 206, 3) := by decide +kernel
theorem dX10_reckon_83 : decode cX10_reckon 83 = .ok (.aload_n 0, 1) := by decide +kernel
theorem dX10_reckon_84 : decode cX10_reckon 84 = .ok (.getfield 46, 3) := by decide +kernel
theorem dX10_reckon_87 : decode cX10_reckon 87 = .ok (.aload_n 0, 1) := by decide +kernel
theorem dX10_reckon_88 : decode cX10_reckon 88 = .ok (.getfield 67, 3) := by decide +kernel
theorem tw_1157 : Cond.methodLink RX10 210 yX3_leaveIn ∈ wsL_law := List.mem_of_getElem? (i := 1157) (by decide +kernel)
theorem tw_1005 : Cond.instanceMethod yX3_leaveIn ∈ wsL_law := List.mem_of_getElem? (i := 1005) (by decide +kernel)
theorem tw_1006 : Cond.selects RX3 yX3_leaveIn yX3_leaveIn ∈ wsL_law := List.mem_of_getElem? (i := 1006) (by decide +kernel)
theorem tw_1007 : Cond.code yX3_leaveIn cX3_leaveIn 2 (some .int) ∈ wsL_law := List.mem_of_getElem? (i := 1007) (by decide +kernel)
theorem dX10_reckon_91 : decode cX10_reckon 91 = .ok (.invokevirtual 210, 3) := by decide +kernel
theorem dX10_reckon_94 : decode cX10_reckon 94 = .ok (.aload_n 0, 1) := by decide +kernel
theorem dX10_reckon_95 : decode cX10_reckon 95 = .ok (.getfield 15, 3) := by decide +kernel
theorem dX10_reckon_98 : decode cX10_reckon 98 = .ok (.imul, 1) := by decide +kernel
theorem dX10_reckon_99 : decode cX10_reckon 99 = .ok (.bipush 100, 2) := by decide +kernel
theorem dX10_reckon_101 : decode cX10_reckon 101 = .ok (.idiv, 1) := by decide +kernel
theorem dX10_reckon_102 : decode cX10_reckon 102 = .ok (.iadd, 1) := by decide +kernel
theorem dX10_reckon_103 : decode cX10_reckon 103 = .ok (.aload_n 0, 1) := by decide +kernel
theorem dX10_reckon_104 : decode cX10_reckon 104 = .ok (.getfield 25, 3) := by decide +kernel
theorem tw_1132 : Cond.fieldLink RX10 213 "RingsUnder$Seas" "cost" "I" ∈ wsL_law := List.mem_of_getElem? (i := 1132) (by decide +kernel)
theorem dX10_reckon_107 : decode cX10_reckon 107 = .ok (.getfield 213, 3) := by decide +kernel
theorem dX10_reckon_110 : decode cX10_reckon 110 = .ok (.aload_n 0, 1) := by decide +kernel
theorem dX10_reckon_111 : decode cX10_reckon 111 = .ok (.getfield 32, 3) := by decide +kernel
theorem tw_1158 : Cond.methodLink RX10 216 yX2_countWalls ∈ wsL_law := List.mem_of_getElem? (i := 1158) (by decide +kernel)
theorem tw_1159 : Cond.instanceMethod yX2_countWalls ∈ wsL_law := List.mem_of_getElem? (i := 1159) (by decide +kernel)
theorem tw_1160 : Cond.selects RX2 yX2_countWalls yX2_countWalls ∈ wsL_law := List.mem_of_getElem? (i := 1160) (by decide +kernel)
theorem tw_1161 : Cond.code yX2_countWalls cX2_countWalls 3 (some .int) ∈ wsL_law := List.mem_of_getElem? (i := 1161) (by decide +kernel)
theorem dX10_reckon_114 : decode cX10_reckon 114 = .ok (.invokevirtual 216, 3) := by decide +kernel
theorem dX10_reckon_117 : decode cX10_reckon 117 = .ok (.imul, 1) := by decide +kernel
theorem dX10_reckon_118 : decode cX10_reckon 118 = .ok (.isub, 1) := by decide +kernel
theorem dX10_reckon_119 : decode cX10_reckon 119 = .ok (.iadd, 1) := by decide +kernel
theorem dX10_reckon_120 : decode cX10_reckon 120 = .ok (.putfield 70, 3) := by decide +kernel
theorem dX10_reckon_123 : decode cX10_reckon 123 = .ok (.aload_n 0, 1) := by decide +kernel
theorem dX10_reckon_124 : decode cX10_reckon 124 = .ok (.getfield 70, 3) := by decide +kernel
theorem dX10_reckon_127 : decode cX10_reckon 127 = .ok (.ifCond .ge 19, 3) := by decide +kernel
theorem dX10_reckon_146 : decode cX10_reckon 146 = .ok (.return_, 1) := by decide +kernel
theorem dX10_goBy_0 : decode cX10_goBy 0 = .ok (.aload_n 0, 1) := by decide +kernel
theorem dX10_goBy_1 : decode cX10_goBy 1 = .ok (.getfield 67, 3) := by decide +kernel
theorem dX10_goBy_4 : decode cX10_goBy 4 = .ok (.sipush 600, 3) := by decide +kernel
theorem dX10_goBy_7 : decode cX10_goBy 7 = .ok (.if_icmp .lt 4, 3) := by decide +kernel
theorem dX10_goBy_11 : decode cX10_goBy 11 = .ok (.aload_n 0, 1) := by decide +kernel
theorem dX10_goBy_12 : decode cX10_goBy 12 = .ok (.iload_n 1, 1) := by decide +kernel
theorem tw_1047 : Cond.methodLink RX10 96 yX10_nature ∈ wsL_law := List.mem_of_getElem? (i := 1047) (by decide +kernel)
theorem tw_1048 : Cond.instanceMethod yX10_nature ∈ wsL_law := List.mem_of_getElem? (i := 1048) (by decide +kernel)
theorem tw_1049 : Cond.selects RX10 yX10_nature yX10_nature ∈ wsL_law := List.mem_of_getElem? (i := 1049) (by decide +kernel)
theorem tw_15 : Cond.initialized RX10 ∈ wsL_law := List.mem_of_getElem? (i := 15) (by decide +kernel)
theorem tw_1050 : Cond.code yX10_nature cX10_nature 4 none ∈ wsL_law := List.mem_of_getElem? (i := 1050) (by decide +kernel)
theorem dX10_goBy_13 : decode cX10_goBy 13 = .ok (.invokevirtual 96, 3) := by decide +kernel
theorem dX10_goBy_16 : decode cX10_goBy 16 = .ok (.aload_n 0, 1) := by decide +kernel
theorem dX10_goBy_17 : decode cX10_goBy 17 = .ok (.getfield 32, 3) := by decide +kernel
theorem tw_1043 : Cond.fieldLink RX10 100 "RingsUnder$Land" "wells" "LRingsUnder$Wells;" ∈ wsL_law := List.mem_of_getElem? (i := 1043) (by decide +kernel)
theorem dX10_goBy_20 : decode cX10_goBy 20 = .ok (.getfield 100, 3) := by decide +kernel
theorem dX10_goBy_23 : decode cX10_goBy 23 = .ok (.aload_n 0, 1) := by decide +kernel
theorem dX10_goBy_24 : decode cX10_goBy 24 = .ok (.getfield 32, 3) := by decide +kernel
theorem tw_498 : Cond.fieldLink RX10 104 "RingsUnder$Land" "cells" "I" ∈ wsL_law := List.mem_of_getElem? (i := 498) (by decide +kernel)
theorem dX10_goBy_27 : decode cX10_goBy 27 = .ok (.getfield 104, 3) := by decide +kernel
theorem dX10_goBy_30 : decode cX10_goBy 30 = .ok (.aload_n 0, 1) := by decide +kernel
theorem dX10_goBy_31 : decode cX10_goBy 31 = .ok (.getfield 32, 3) := by decide +kernel
theorem tw_1044 : Cond.fieldLink RX10 107 "RingsUnder$Land" "dry" "J" ∈ wsL_law := List.mem_of_getElem? (i := 1044) (by decide +kernel)
theorem dX10_goBy_34 : decode cX10_goBy 34 = .ok (.getfield 107, 3) := by decide +kernel
theorem dX10_goBy_37 : decode cX10_goBy 37 = .ok (.aload_n 0, 1) := by decide +kernel
theorem dX10_goBy_38 : decode cX10_goBy 38 = .ok (.getfield 25, 3) := by decide +kernel
theorem tw_1045 : Cond.fieldLink RX10 111 "RingsUnder$Seas" "rain" "[I" ∈ wsL_law := List.mem_of_getElem? (i := 1045) (by decide +kernel)
theorem dX10_goBy_41 : decode cX10_goBy 41 = .ok (.getfield 111, 3) := by decide +kernel
theorem dX10_goBy_44 : decode cX10_goBy 44 = .ok (.aload_n 0, 1) := by decide +kernel
theorem dX10_goBy_45 : decode cX10_goBy 45 = .ok (.getfield 67, 3) := by decide +kernel
theorem dX10_goBy_48 : decode cX10_goBy 48 = .ok (.bipush 12, 2) := by decide +kernel
theorem dX10_goBy_50 : decode cX10_goBy 50 = .ok (.irem, 1) := by decide +kernel
theorem dX10_goBy_51 : decode cX10_goBy 51 = .ok (.iaload, 1) := by decide +kernel
theorem tw_1083 : Cond.methodLink RX10 114 yX9_fillUp ∈ wsL_law := List.mem_of_getElem? (i := 1083) (by decide +kernel)
theorem tw_1084 : Cond.instanceMethod yX9_fillUp ∈ wsL_law := List.mem_of_getElem? (i := 1084) (by decide +kernel)
theorem tw_1085 : Cond.selects RX9 yX9_fillUp yX9_fillUp ∈ wsL_law := List.mem_of_getElem? (i := 1085) (by decide +kernel)
theorem tw_94 : Cond.initialized RX9 ∈ wsL_law := List.mem_of_getElem? (i := 94) (by decide +kernel)
theorem tw_1086 : Cond.code yX9_fillUp cX9_fillUp 6 none ∈ wsL_law := List.mem_of_getElem? (i := 1086) (by decide +kernel)
theorem dX10_goBy_52 : decode cX10_goBy 52 = .ok (.invokevirtual 114, 3) := by decide +kernel
theorem dX10_goBy_55 : decode cX10_goBy 55 = .ok (.aload_n 0, 1) := by decide +kernel
theorem dX10_goBy_56 : decode cX10_goBy 56 = .ok (.getfield 32, 3) := by decide +kernel
theorem dX10_goBy_59 : decode cX10_goBy 59 = .ok (.aload_n 0, 1) := by decide +kernel
theorem tw_56 : Cond.fieldLink RX10 60 "RingsUnder$World" "ringBeds" "[I" ∈ wsL_law := List.mem_of_getElem? (i := 56) (by decide +kernel)
theorem dX10_goBy_60 : decode cX10_goBy 60 = .ok (.getfield 60, 3) := by decide +kernel
theorem dX10_goBy_63 : decode cX10_goBy 63 = .ok (.iconst 0, 1) := by decide +kernel
theorem tw_1090 : Cond.methodLink RX10 120 yX2_countBeds ∈ wsL_law := List.mem_of_getElem? (i := 1090) (by decide +kernel)
theorem tw_1091 : Cond.instanceMethod yX2_countBeds ∈ wsL_law := List.mem_of_getElem? (i := 1091) (by decide +kernel)
theorem tw_1092 : Cond.selects RX2 yX2_countBeds yX2_countBeds ∈ wsL_law := List.mem_of_getElem? (i := 1092) (by decide +kernel)
theorem tw_1093 : Cond.code yX2_countBeds cX2_countBeds 4 none ∈ wsL_law := List.mem_of_getElem? (i := 1093) (by decide +kernel)
theorem dX10_goBy_64 : decode cX10_goBy 64 = .ok (.invokevirtual 120, 3) := by decide +kernel
theorem dX10_goBy_67 : decode cX10_goBy 67 = .ok (.aload_n 0, 1) := by decide +kernel
theorem dX10_goBy_68 : decode cX10_goBy 68 = .ok (.getfield 39, 3) := by decide +kernel
theorem dX10_goBy_71 : decode cX10_goBy 71 = .ok (.aload_n 0, 1) := by decide +kernel
theorem dX10_goBy_72 : decode cX10_goBy 72 = .ok (.getfield 32, 3) := by decide +kernel
theorem tw_1094 : Cond.methodLink RX10 123 yX0_drink ∈ wsL_law := List.mem_of_getElem? (i := 1094) (by decide +kernel)
theorem tw_1095 : Cond.instanceMethod yX0_drink ∈ wsL_law := List.mem_of_getElem? (i := 1095) (by decide +kernel)
theorem tw_1096 : Cond.selects RX0 yX0_drink yX0_drink ∈ wsL_law := List.mem_of_getElem? (i := 1096) (by decide +kernel)
theorem tw_1097 : Cond.code yX0_drink cX0_drink 5 (some .int) ∈ wsL_law := List.mem_of_getElem? (i := 1097) (by decide +kernel)
theorem dX10_goBy_75 : decode cX10_goBy 75 = .ok (.invokevirtual 123, 3) := by decide +kernel
theorem dX10_goBy_78 : decode cX10_goBy 78 = .ok (.pop, 1) := by decide +kernel
theorem dX10_goBy_79 : decode cX10_goBy 79 = .ok (.aload_n 0, 1) := by decide +kernel
theorem dX10_goBy_80 : decode cX10_goBy 80 = .ok (.getfield 39, 3) := by decide +kernel
theorem dX10_goBy_83 : decode cX10_goBy 83 = .ok (.aload_n 0, 1) := by decide +kernel
theorem dX10_goBy_84 : decode cX10_goBy 84 = .ok (.getfield 60, 3) := by decide +kernel
theorem dX10_goBy_87 : decode cX10_goBy 87 = .ok (.iconst 0, 1) := by decide +kernel
theorem tw_1120 : Cond.methodLink RX10 127 yX0_sleep ∈ wsL_law := List.mem_of_getElem? (i := 1120) (by decide +kernel)
theorem tw_1121 : Cond.instanceMethod yX0_sleep ∈ wsL_law := List.mem_of_getElem? (i := 1121) (by decide +kernel)
theorem tw_1122 : Cond.selects RX0 yX0_sleep yX0_sleep ∈ wsL_law := List.mem_of_getElem? (i := 1122) (by decide +kernel)
theorem tw_1123 : Cond.code yX0_sleep cX0_sleep 5 (some .int) ∈ wsL_law := List.mem_of_getElem? (i := 1123) (by decide +kernel)
theorem dX10_goBy_88 : decode cX10_goBy 88 = .ok (.invokevirtual 127, 3) := by decide +kernel
theorem dX10_goBy_91 : decode cX10_goBy 91 = .ok (.pop, 1) := by decide +kernel
theorem dX10_goBy_92 : decode cX10_goBy 92 = .ok (.aload_n 0, 1) := by decide +kernel
theorem tw_1125 : Cond.methodLink RX10 131 yX10_reckon ∈ wsL_law := List.mem_of_getElem? (i := 1125) (by decide +kernel)
theorem tw_1126 : Cond.instanceMethod yX10_reckon ∈ wsL_law := List.mem_of_getElem? (i := 1126) (by decide +kernel)
theorem tw_1127 : Cond.selects RX10 yX10_reckon yX10_reckon ∈ wsL_law := List.mem_of_getElem? (i := 1127) (by decide +kernel)
theorem tw_1128 : Cond.code yX10_reckon cX10_reckon 3 none ∈ wsL_law := List.mem_of_getElem? (i := 1128) (by decide +kernel)
theorem dX10_goBy_93 : decode cX10_goBy 93 = .ok (.invokevirtual 131, 3) := by decide +kernel
theorem dX10_goBy_96 : decode cX10_goBy 96 = .ok (.aload_n 0, 1) := by decide +kernel
theorem tw_1046 : Cond.fieldLink RX10 73 "RingsUnder$World" "boats" "I" ∈ wsL_law := List.mem_of_getElem? (i := 1046) (by decide +kernel)
theorem dX10_goBy_97 : decode cX10_goBy 97 = .ok (.getfield 73, 3) := by decide +kernel
theorem dX10_goBy_100 : decode cX10_goBy 100 = .ok (.ifCond .le 74, 3) := by decide +kernel
theorem dX10_goBy_174 : decode cX10_goBy 174 = .ok (.aload_n 0, 1) := by decide +kernel
theorem dX10_goBy_175 : decode cX10_goBy 175 = .ok (.dup, 1) := by decide +kernel
theorem dX10_goBy_176 : decode cX10_goBy 176 = .ok (.getfield 67, 3) := by decide +kernel
theorem dX10_goBy_179 : decode cX10_goBy 179 = .ok (.iconst 1, 1) := by decide +kernel
theorem dX10_goBy_180 : decode cX10_goBy 180 = .ok (.iadd, 1) := by decide +kernel
theorem dX10_goBy_181 : decode cX10_goBy 181 = .ok (.putfield 67, 3) := by decide +kernel
theorem dX10_goBy_184 : decode cX10_goBy 184 = .ok (.return_, 1) := by decide +kernel
set_option maxHeartbeats 4000000 in
set_option maxRecDepth 100000 in
theorem c_X10_reckon (l : Launch) (D : va_G) (t : pq_T) (σ : pq_S) (I : Nat → Nat → Int32) (J : Nat → Nat → Int64) (ri : Nat → Nat → Int32) (rj : Nat → Nat → Int64) (rq : Nat → Nat → Option Nat) (sz : Nat) (this : Nat) (hL_this : this ∈ σ.1) (hK_this : σ.2.1 this = 10) (this_seas : Nat) (hR_this_seas : σ.2.2.1 326 this = some this_seas) (hL_this_seas : this_seas ∈ σ.1) (hK_this_seas : σ.2.1 this_seas = 7) (this_law : Nat) (hR_this_law : σ.2.2.1 329 this = some this_law) (hL_this_law : this_law ∈ σ.1) (hK_this_law : σ.2.1 this_law = 3) (this_land : Nat) (hR_this_land : σ.2.2.1 327 this = some this_land) (hL_this_land : this_land ∈ σ.1) (hK_this_land : σ.2.1 this_land = 2) (this_land_rocks : Nat) (hR_this_land_rocks : σ.2.2.1 68 this_land = some this_land_rocks) (hL_this_land_rocks : this_land_rocks ∈ σ.1) (hK_this_land_rocks : σ.2.1 this_land_rocks = 14) (hN_this_land_rocks : σ.2.2.2 this_land_rocks = 600) (this_land_rows : Nat) (hR_this_land_rows : σ.2.2.1 82 this_land = some this_land_rows) (hL_this_land_rows : this_land_rows ∈ σ.1) (hK_this_land_rows : σ.2.1 this_land_rows = 13) (hN_this_land_rows : σ.2.2.2 this_land_rows = 32) (this_land_widths : Nat) (hR_this_land_widths : σ.2.2.1 83 this_land = some this_land_widths) (hL_this_land_widths : this_land_widths ∈ σ.1) (hK_this_land_widths : σ.2.1 this_land_widths = 13) (hN_this_land_widths : σ.2.2.2 this_land_widths = 21) (this_folk : Nat) (hR_this_folk : σ.2.2.1 328 this = some this_folk) (hL_this_folk : this_folk ∈ σ.1) (hK_this_folk : σ.2.1 this_folk = 0) (hZ : pq_Z I) (k : Nat) (hk : k < 600) (hC : I 320 this = nI k) (hRe : I 237 this_seas = 3) (hrw : this_land_rows ≠ this_land_widths) : MetV l yX10_reckon (wa yX10_reckon cX10_reckon 3 none) ({ frames := 3, cells := 0, slots := 0, locals := 69 }) [.ref this] D t σ (I, J, ri, rj, rq) sz 0 0 (fun (u : pq_S × pq_M) => ∃ I' : Nat → Nat → Int32, ∃ ri' : Nat → Nat → Int32, u = (σ, I', J, ri', rj, rq) ∧ (∀ f, f ∉ ([324] : List Nat) → I' f = I f)) := by
  refine Met.ofW (cc := cX10_reckon) (maxL := 3) (ret := none) (by decide) rfl ?_
  intro p e s m args below meth c s₁ B hml hv
  obtain ⟨rfl, hsz, hP, hK, hD0, hN⟩ := hv
  have hx := B.exec
  have hb := B.bytes
  have hr := B.returns
  have hts := atoms_spec (ws := (wa yX10_reckon cX10_reckon 3 none)) B.pre
  have hown : s.vm.findClass RX10 = some m.cls := findClass_of_methodNamed B.named
  have hlocks := B.notSynchronized
  subst hsz
  have hD : va_D (pq_B t σ (I, J, ri, rj, rq) s.heap.size) (pq_P t σ (I, J, ri, rj, rq)) := hD0.self
  generalize hAe : pq_B t σ (I, J, ri, rj, rq) s.heap.size = A at hD ⊢
  have hA : ∀ q : Nat, s.heap.size ≤ q → A q := fun q h => by rw [← hAe]; exact Or.inr h
  have hS : va_S A s.heap s.heap [] := va_S.rf
  have hl := lv_entry ([.ref this]) (n := 3) (Nat.le_of_ble_eq_true rfl)
  rw [lg_entry_eq]
  generalize (lg_sl ([.ref this]) ++ List.replicate (3 - (lg_sl ([.ref this])).length) Slot.unset).toArray = ls at hl ⊢
  have hl : lv_has ls 3 [(0, .ref this)] := hl
  refine lv_aload_n hx hb dX10_reckon_0 rfl (lv_at hl 0 rfl) ?_
  refine pg_f (v := .int (I 320 this)) (C := RX10) (T := TX10) (N := 13) hx hb hts (tw_i inlX10) hown hK hP hL_this hK_this (by decide) rfl 0 (by decide) (hts _ (tw_c tw_457)) rfl dX10_reckon_1 ?_
  refine lv_tov (nI k) hC ?_
  refine lv_sipush (v := 600) hx hb dX10_reckon_4 (by decide) ?_
  refine lv_icmp_lt (tgt := 11) hx hb dX10_reckon_7 (by decide) (fun c_1 => ?_) (fun c_1 => (c_1 (nI_lt (a := k) (b := 600) (by omega) (by omega))).elim)
  refine lv_aload_n hx hb dX10_reckon_11 rfl (lv_at hl 0 rfl) ?_
  refine pg_f (v := .ref this_law) (C := RX10) (T := TX10) (N := 13) hx hb hts (tw_i inlX10) hown hK hP hL_this hK_this (by decide) rfl 9 (by decide) (hts _ (tw_c tw_50)) (pq_hv rfl hR_this_law) dX10_reckon_12 ?_
  refine lv_aload_n hx hb dX10_reckon_15 rfl (lv_at hl 0 rfl) ?_
  refine pg_f (v := .int (I 320 this)) (C := RX10) (T := TX10) (N := 13) hx hb hts (tw_i inlX10) hown hK hP hL_this hK_this (by decide) rfl 0 (by decide) (hts _ (tw_c tw_457)) rfl dX10_reckon_16 ?_
  refine lv_tov (nI k) hC ?_
  refine pk_i (va_runV (As := [.int (nI k)]) (rest := []) ⟨hx, hb, hml, hown, hts⟩ (c_X3_fixIn l D t σ I J ri rj rq (Array.size s.heap) this_law (nI k) hL_this_law hK_this_law hZ) (cwV 1 hts (tw_V tw_1133 tw_1009 tw_1010 tw_49 tw_1011) rfl rfl rfl (by decide +kernel) ⟨Nat.le_of_ble_eq_true rfl, Nat.le_of_ble_eq_true rfl⟩) ⟨pq_blind, pq_recv hK hP hL_this_law hK_this_law (by decide) rfl, pq_pre hK hN hP hD⟩ rfl rfl hl.1 rfl (lv_room (Nat.le_of_ble_eq_true rfl)) dX10_reckon_19 ⟨Nat.le_of_ble_eq_true rfl, Nat.le_of_ble_eq_true rfl⟩) hD hS hA (fun r_2 σ1 μ1 H locs hw_3 hP hD hS => ?_)
  obtain ⟨hu_4, hr_5⟩ := hw_3
  obtain ⟨hu_4a, hu_4b⟩ := Prod.mk.inj hu_4
  rw [hu_4a, hu_4b] at hP hD
  subst hr_5
  refine lv_istore_n (lv' := [(1, .int (-1)), (0, .ref this)]) hx hb dX10_reckon_22 rfl hl (by decide) rfl (fun ls hl => ?_)
  refine lv_iload_n hx hb dX10_reckon_23 rfl (lv_at hl 0 rfl) ?_
  refine lv_if_lt (tgt := 39) hx hb dX10_reckon_24 (by decide) (fun c_6 => ?_) (fun c_6 => absurd c_6 (by decide))
  refine lv_aload_n hx hb dX10_reckon_39 rfl (lv_at hl 1 rfl) ?_
  refine pg_f (v := .int (I 320 this)) (C := RX10) (T := TX10) (N := 13) hx hb hts (tw_i inlX10) hown hK hP hL_this hK_this (by decide) rfl 0 (by decide) (hts _ (tw_c tw_457)) rfl dX10_reckon_40 ?_
  refine lv_tov (nI k) hC ?_
  refine lv_istore_n (lv' := [(2, .int (nI k)), (1, .int (-1)), (0, .ref this)]) hx hb dX10_reckon_43 rfl hl (by decide) rfl (fun ls hl => ?_)
  refine lv_aload_n hx hb dX10_reckon_44 rfl (lv_at hl 2 rfl) ?_
  refine lv_aload_n hx hb dX10_reckon_45 rfl (lv_at hl 2 rfl) ?_
  refine pg_f (v := .ref this_land) (C := RX10) (T := TX10) (N := 13) hx hb hts (tw_i inlX10) hown hK hP hL_this hK_this (by decide) rfl 7 (by decide) (hts _ (tw_c tw_42)) (pq_hv rfl hR_this_land) dX10_reckon_46 ?_
  refine lv_aload_n hx hb dX10_reckon_49 rfl (lv_at hl 2 rfl) ?_
  refine pg_f (v := .ref this_land) (C := RX10) (T := TX10) (N := 13) hx hb hts (tw_i inlX10) hown hK hP hL_this hK_this (by decide) rfl 7 (by decide) (hts _ (tw_c tw_42)) (pq_hv rfl hR_this_land) dX10_reckon_50 ?_
  refine pg_f (v := .ref this_land_rocks) (C := RX2) (T := TX2) (N := 20) hx hb hts (tw_i inlX2) hown hK hP hL_this_land hK_this_land (by decide) rfl 4 (by decide) (hts _ (tw_c tw_1129)) (pq_hv rfl hR_this_land_rocks) dX10_reckon_53 ?_
  refine lv_iload_n hx hb dX10_reckon_56 rfl (lv_at hl 0 rfl) ?_
  refine pl_l hx hb hK hP hL_this_land_rocks hK_this_land_rocks hN_this_land_rocks (nI_in (c := k) (by omega) (by omega)) dX10_reckon_57 ?_
  refine lv_topl (fun x_7 ex_7 => ?_)
  refine lv_aload_n hx hb dX10_reckon_58 rfl (lv_at hl 2 rfl) ?_
  refine pg_f (v := .ref this_seas) (C := RX10) (T := TX10) (N := 13) hx hb hts (tw_i inlX10) hown hK hP hL_this hK_this (by decide) rfl 6 (by decide) (hts _ (tw_c tw_38)) (pq_hv rfl hR_this_seas) dX10_reckon_59 ?_
  refine pg_f (v := .int (I 237 this_seas)) (C := RX7) (T := TX7) (N := 15) hx hb hts (tw_i inlX7) hown hK hP hL_this_seas hK_this_seas (by decide) rfl 13 (by decide) (hts _ (tw_c tw_1130)) rfl dX10_reckon_62 ?_
  refine lv_tov 3 hRe ?_
  refine pk_i (va_runV (As := [.long x_7, .int 3]) (rest := [.ref this]) ⟨hx, hb, hml, hown, hts⟩ (c_X2_countArea l D t σ I J ri rj rq H.size this_land x_7 hL_this_land hK_this_land this_land_rows hR_this_land_rows hL_this_land_rows hK_this_land_rows hN_this_land_rows this_land_widths hR_this_land_widths hL_this_land_widths hK_this_land_widths hN_this_land_widths hZ hrw) (cwV 2 hts (tw_V tw_1134 tw_1135 tw_1136 tw_41 tw_1137) rfl rfl rfl (by decide +kernel) ⟨Nat.le_of_ble_eq_true rfl, Nat.le_of_ble_eq_true rfl⟩) ⟨pq_blind, pq_recv hK hP hL_this_land hK_this_land (by decide) rfl, pq_pre hK hN hP hD⟩ rfl rfl hl.1 rfl (lv_room (Nat.le_of_ble_eq_true rfl)) dX10_reckon_65 ⟨Nat.le_of_ble_eq_true rfl, Nat.le_of_ble_eq_true rfl⟩) hD hS hA (fun r_8 σ1 μ1 H locs hw_9 hP hD hS => ?_)
  obtain ⟨ri_10, hu_11, hr_12⟩ := hw_9
  obtain ⟨hu_11a, hu_11b⟩ := Prod.mk.inj hu_11
  rw [hu_11a, hu_11b] at hP hD
  subst hr_12
  refine pp_i (v := 0) (ty := .int) (C := RX10) (T := TX10) (N := 13) hx hb hts (tw_i inlX10) tyX10 tyX10_ok nmX10 hown hK hP hD hS hL_this hK_this (by decide) rfl 4 324 (by decide) (hts _ (tw_c tw_32)) rfl (by decide +kernel) rfl rfl (Nat.le_of_ble_eq_true rfl) (ps_324 _ _ _ _ _) dX10_reckon_68 (fun I_13 H locs eI_13 hP hD hS => ?_)
  refine lv_aload_n hx hb dX10_reckon_71 rfl (lv_at hl 2 rfl) ?_
  refine lv_dup hx hb dX10_reckon_72 rfl ?_
  refine pg_f (v := .int (I_13 321 this)) (C := RX10) (T := TX10) (N := 13) hx hb hts (tw_i inlX10) hown hK hP hL_this hK_this (by decide) rfl 1 (by decide) (hts _ (tw_c tw_1131)) rfl dX10_reckon_73 ?_
  refine lv_tov 0 (by rw [eI_13, pq_uf _ _ _ (by decide)]; exact (congrFun (hZ 321 (by decide)) this)) ?_
  refine lv_aload_n hx hb dX10_reckon_76 rfl (lv_at hl 2 rfl) ?_
  refine pg_f (v := .ref this_folk) (C := RX10) (T := TX10) (N := 13) hx hb hts (tw_i inlX10) hown hK hP hL_this hK_this (by decide) rfl 8 (by decide) (hts _ (tw_c tw_46)) (pq_hv rfl hR_this_folk) dX10_reckon_77 ?_
  refine pk_i (va_runV (As := []) (rest := [.int 0, .ref this]) ⟨hx, hb, hml, hown, hts⟩ (c_X0_sendings l D t σ I_13 J ri_10 rj rq H.size this_folk hL_this_folk hK_this_folk (pq_Zp hZ eI_13 (by decide))) (cwV 0 hts (tw_V tw_1153 tw_1154 tw_1155 tw_45 tw_1156) rfl rfl rfl (by decide +kernel) ⟨Nat.le_of_ble_eq_true rfl, Nat.le_of_ble_eq_true rfl⟩) ⟨pq_blind, pq_recv hK hP hL_this_folk hK_this_folk (by decide) rfl, pq_pre hK hN hP hD⟩ rfl rfl hl.1 rfl (lv_room (Nat.le_of_ble_eq_true rfl)) dX10_reckon_80 ⟨Nat.le_of_ble_eq_true rfl, Nat.le_of_ble_eq_true rfl⟩) hD hS hA (fun r_14 σ1 μ1 H locs hw_15 hP hD hS => ?_)
  obtain ⟨hu_16, hr_17⟩ := hw_15
  obtain ⟨hu_16a, hu_16b⟩ := Prod.mk.inj hu_16
  rw [hu_16a, hu_16b] at hP hD
  subst hr_17
  refine lv_aload_n hx hb dX10_reckon_83 rfl (lv_at hl 2 rfl) ?_
  refine pg_f (v := .ref this_law) (C := RX10) (T := TX10) (N := 13) hx hb hts (tw_i inlX10) hown hK hP hL_this hK_this (by decide) rfl 9 (by decide) (hts _ (tw_c tw_50)) (pq_hv rfl hR_this_law) dX10_reckon_84 ?_
  refine lv_aload_n hx hb dX10_reckon_87 rfl (lv_at hl 2 rfl) ?_
  refine pg_f (v := .int (I_13 320 this)) (C := RX10) (T := TX10) (N := 13) hx hb hts (tw_i inlX10) hown hK hP hL_this hK_this (by decide) rfl 0 (by decide) (hts _ (tw_c tw_457)) rfl dX10_reckon_88 ?_
  refine lv_tov (nI k) (by rw [eI_13, pq_uf _ _ _ (by decide)]; exact hC) ?_
  refine pk_i (va_runV (As := [.int (nI k)]) (rest := [.int 0, .int 0, .ref this]) ⟨hx, hb, hml, hown, hts⟩ (c_X3_leaveIn l D t σ I_13 J ri_10 rj rq H.size this_law (nI k) hL_this_law hK_this_law (pq_Zp hZ eI_13 (by decide))) (cwV 1 hts (tw_V tw_1157 tw_1005 tw_1006 tw_49 tw_1007) rfl rfl rfl (by decide +kernel) ⟨Nat.le_of_ble_eq_true rfl, Nat.le_of_ble_eq_true rfl⟩) ⟨pq_blind, pq_recv hK hP hL_this_law hK_this_law (by decide) rfl, pq_pre hK hN hP hD⟩ rfl rfl hl.1 rfl (lv_room (Nat.le_of_ble_eq_true rfl)) dX10_reckon_91 ⟨Nat.le_of_ble_eq_true rfl, Nat.le_of_ble_eq_true rfl⟩) hD hS hA (fun r_18 σ1 μ1 H locs hw_19 hP hD hS => ?_)
  obtain ⟨hu_20, hr_21⟩ := hw_19
  obtain ⟨hu_20a, hu_20b⟩ := Prod.mk.inj hu_20
  rw [hu_20a, hu_20b] at hP hD
  subst hr_21
  refine lv_aload_n hx hb dX10_reckon_94 rfl (lv_at hl 2 rfl) ?_
  refine pg_f (v := .int (I_13 324 this)) (C := RX10) (T := TX10) (N := 13) hx hb hts (tw_i inlX10) hown hK hP hL_this hK_this (by decide) rfl 4 (by decide) (hts _ (tw_c tw_32)) rfl dX10_reckon_95 ?_
  refine lv_tov 0 (by rw [eI_13]; exact pq_us _ _ _ _) ?_
  refine lv_imul hx hb dX10_reckon_98 ?_
  refine lv_tov 0 (by decide) ?_
  refine lv_bipush (v := 100) hx hb dX10_reckon_99 (by decide) ?_
  refine lv_idiv hx hb dX10_reckon_101 (by decide) ?_
  refine lv_tov 0 (by decide) ?_
  refine lv_iadd hx hb dX10_reckon_102 ?_
  refine lv_tov 0 (by decide) ?_
  refine lv_aload_n hx hb dX10_reckon_103 rfl (lv_at hl 2 rfl) ?_
  refine pg_f (v := .ref this_seas) (C := RX10) (T := TX10) (N := 13) hx hb hts (tw_i inlX10) hown hK hP hL_this hK_this (by decide) rfl 6 (by decide) (hts _ (tw_c tw_38)) (pq_hv rfl hR_this_seas) dX10_reckon_104 ?_
  refine pg_f (v := .int (I_13 238 this_seas)) (C := RX7) (T := TX7) (N := 15) hx hb hts (tw_i inlX7) hown hK hP hL_this_seas hK_this_seas (by decide) rfl 14 (by decide) (hts _ (tw_c tw_1132)) rfl dX10_reckon_107 ?_
  refine lv_aload_n hx hb dX10_reckon_110 rfl (lv_at hl 2 rfl) ?_
  refine pg_f (v := .ref this_land) (C := RX10) (T := TX10) (N := 13) hx hb hts (tw_i inlX10) hown hK hP hL_this hK_this (by decide) rfl 7 (by decide) (hts _ (tw_c tw_42)) (pq_hv rfl hR_this_land) dX10_reckon_111 ?_
  refine pk_i (va_runV (As := []) (rest := [.int (I_13 238 this_seas), .int 0, .int 0, .ref this]) ⟨hx, hb, hml, hown, hts⟩ (c_X2_countWalls l D t σ I_13 J ri_10 rj rq H.size this_land hL_this_land hK_this_land (pq_Zp hZ eI_13 (by decide))) (cwV 0 hts (tw_V tw_1158 tw_1159 tw_1160 tw_41 tw_1161) rfl rfl rfl (by decide +kernel) ⟨Nat.le_of_ble_eq_true rfl, Nat.le_of_ble_eq_true rfl⟩) ⟨pq_blind, pq_recv hK hP hL_this_land hK_this_land (by decide) rfl, pq_pre hK hN hP hD⟩ rfl rfl hl.1 rfl (lv_room (Nat.le_of_ble_eq_true rfl)) dX10_reckon_114 ⟨Nat.le_of_ble_eq_true rfl, Nat.le_of_ble_eq_true rfl⟩) hD hS hA (fun r_22 σ1 μ1 H locs hw_23 hP hD hS => ?_)
  obtain ⟨hu_24, hr_25⟩ := hw_23
  obtain ⟨hu_24a, hu_24b⟩ := Prod.mk.inj hu_24
  rw [hu_24a, hu_24b] at hP hD
  subst hr_25
  refine lv_imul hx hb dX10_reckon_117 ?_
  refine lv_tov 0 (Int32.mul_zero) ?_
  refine lv_isub hx hb dX10_reckon_118 ?_
  refine lv_tov 0 (by decide) ?_
  refine lv_iadd hx hb dX10_reckon_119 ?_
  refine lv_tov 0 (by decide) ?_
  refine pp_i (v := 0) (ty := .int) (C := RX10) (T := TX10) (N := 13) hx hb hts (tw_i inlX10) tyX10 tyX10_ok nmX10 hown hK hP hD hS hL_this hK_this (by decide) rfl 1 321 (by decide) (hts _ (tw_c tw_1131)) rfl (by decide +kernel) rfl rfl (Nat.le_of_ble_eq_true rfl) (ps_321 _ _ _ _ _) dX10_reckon_120 (fun I_26 H locs eI_26 hP hD hS => ?_)
  have eI_26 : I_26 = I_13 := by rw [eI_26]; exact pq_uc _ _ _ _ ((pq_Zp hZ eI_13 (by decide)) 321 (by decide))
  rw [eI_26] at hP hD
  refine lv_aload_n hx hb dX10_reckon_123 rfl (lv_at hl 2 rfl) ?_
  refine pg_f (v := .int (I_13 321 this)) (C := RX10) (T := TX10) (N := 13) hx hb hts (tw_i inlX10) hown hK hP hL_this hK_this (by decide) rfl 1 (by decide) (hts _ (tw_c tw_1131)) rfl dX10_reckon_124 ?_
  refine lv_tov 0 (by rw [eI_13, pq_uf _ _ _ (by decide)]; exact (congrFun (hZ 321 (by decide)) this)) ?_
  refine lv_if_ge (tgt := 146) hx hb dX10_reckon_127 (by decide) (fun c_27 => ?_) (fun c_27 => absurd c_27 (by decide))
  exact W.vret hx hb hr (fun t1 ht hW => ⟨⟨(σ, I_13, J, ri_10, rj, rq), rfl, ⟨I_13, ri_10, rfl, (fun f hg => by rw [eI_13, pq_uf _ _ _ (by intro q; subst q; exact hg (by decide))])⟩, by rw [ht]; exact hP, va_K.moved hW.alike hK, hD⟩, hS.F ht⟩) hS.2.2 dX10_reckon_146

set_option maxHeartbeats 4000000 in
set_option maxRecDepth 100000 in
theorem c_X10_goBy (l : Launch) (D : va_G) (t : pq_T) (σ : pq_S) (I : Nat → Nat → Int32) (J : Nat → Nat → Int64) (ri : Nat → Nat → Int32) (rj : Nat → Nat → Int64) (rq : Nat → Nat → Option Nat) (sz : Nat) (this : Nat) (rise : Int32) (hL_this : this ∈ σ.1) (hK_this : σ.2.1 this = 10) (this_seas : Nat) (hR_this_seas : σ.2.2.1 326 this = some this_seas) (hL_this_seas : this_seas ∈ σ.1) (hK_this_seas : σ.2.1 this_seas = 7) (this_land : Nat) (hR_this_land : σ.2.2.1 327 this = some this_land) (hL_this_land : this_land ∈ σ.1) (hK_this_land : σ.2.1 this_land = 2) (this_seas_warm : Nat) (hR_this_seas_warm : σ.2.2.1 231 this_seas = some this_seas_warm) (hL_this_seas_warm : this_seas_warm ∈ σ.1) (hK_this_seas_warm : σ.2.1 this_seas_warm = 13) (hN_this_seas_warm : σ.2.2.2 this_seas_warm = 12) (this_seas_drift : Nat) (hR_this_seas_drift : σ.2.2.1 232 this_seas = some this_seas_drift) (hL_this_seas_drift : this_seas_drift ∈ σ.1) (hK_this_seas_drift : σ.2.1 this_seas_drift = 13) (hN_this_seas_drift : σ.2.2.2 this_seas_drift = 12) (this_seas_high : Nat) (hR_this_seas_high : σ.2.2.1 230 this_seas = some this_seas_high) (hL_this_seas_high : this_seas_high ∈ σ.1) (hK_this_seas_high : σ.2.1 this_seas_high = 13) (hN_this_seas_high : σ.2.2.2 this_seas_high = 12) (this_seas_low : Nat) (hR_this_seas_low : σ.2.2.1 229 this_seas = some this_seas_low) (hL_this_seas_low : this_seas_low ∈ σ.1) (hK_this_seas_low : σ.2.1 this_seas_low = 13) (hN_this_seas_low : σ.2.2.2 this_seas_low = 12) (this_land_rocks : Nat) (hR_this_land_rocks : σ.2.2.1 68 this_land = some this_land_rocks) (hL_this_land_rocks : this_land_rocks ∈ σ.1) (hK_this_land_rocks : σ.2.1 this_land_rocks = 14) (hN_this_land_rocks : σ.2.2.2 this_land_rocks = 600) (this_land_wells : Nat) (hR_this_land_wells : σ.2.2.1 78 this_land = some this_land_wells) (hL_this_land_wells : this_land_wells ∈ σ.1) (hK_this_land_wells : σ.2.1 this_land_wells = 9) (this_seas_rain : Nat) (hR_this_seas_rain : σ.2.2.1 233 this_seas = some this_seas_rain) (hL_this_seas_rain : this_seas_rain ∈ σ.1) (hK_this_seas_rain : σ.2.1 this_seas_rain = 13) (hN_this_seas_rain : σ.2.2.2 this_seas_rain = 12) (this_ringBeds : Nat) (hR_this_ringBeds : σ.2.2.1 332 this = some this_ringBeds) (hL_this_ringBeds : this_ringBeds ∈ σ.1) (hK_this_ringBeds : σ.2.1 this_ringBeds = 13) (hN_this_ringBeds : σ.2.2.2 this_ringBeds = 5) (this_folk : Nat) (hR_this_folk : σ.2.2.1 328 this = some this_folk) (hL_this_folk : this_folk ∈ σ.1) (hK_this_folk : σ.2.1 this_folk = 0) (this_land_first : Nat) (hR_this_land_first : σ.2.2.1 80 this_land = some this_land_first) (hL_this_land_first : this_land_first ∈ σ.1) (hK_this_land_first : σ.2.1 this_land_first = 13) (hN_this_land_first : σ.2.2.2 this_land_first = 5) (this_folk_ofRing : Nat) (hR_this_folk_ofRing : σ.2.2.1 12 this_folk = some this_folk_ofRing) (hL_this_folk_ofRing : this_folk_ofRing ∈ σ.1) (hK_this_folk_ofRing : σ.2.1 this_folk_ofRing = 13) (hN_this_folk_ofRing : σ.2.2.2 this_folk_ofRing = 5) (this_law : Nat) (hR_this_law : σ.2.2.1 329 this = some this_law) (hL_this_law : this_law ∈ σ.1) (hK_this_law : σ.2.1 this_law = 3) (this_land_rows : Nat) (hR_this_land_rows : σ.2.2.1 82 this_land = some this_land_rows) (hL_this_land_rows : this_land_rows ∈ σ.1) (hK_this_land_rows : σ.2.1 this_land_rows = 13) (hN_this_land_rows : σ.2.2.2 this_land_rows = 32) (this_land_widths : Nat) (hR_this_land_widths : σ.2.2.1 83 this_land = some this_land_widths) (hL_this_land_widths : this_land_widths ∈ σ.1) (hK_this_land_widths : σ.2.1 this_land_widths = 13) (hN_this_land_widths : σ.2.2.2 this_land_widths = 21) (hZ : pq_Z I) (k : Nat) (hk : k < 600) (hC : I 320 this = nI k) (hRe : I 237 this_seas = 3) (hrw : this_land_rows ≠ this_land_widths) : MetV l yX10_goBy (wa yX10_goBy cX10_goBy 4 none) ({ frames := 4, cells := 0, slots := 0, locals := 105 }) [.ref this, .int rise] D t σ (I, J, ri, rj, rq) sz 0 0 (fun (u : pq_S × pq_M) => ∃ I' : Nat → Nat → Int32, ∃ J' : Nat → Nat → Int64, ∃ ri' : Nat → Nat → Int32, ∃ rj' : Nat → Nat → Int64, u = (σ, I', J', ri', rj', rq) ∧ (∀ f, f ∉ ([320, 324] : List Nat) → I' f = I f) ∧ (I' 320 this = nI (k + 1))) := by
  refine Met.ofW (cc := cX10_goBy) (maxL := 4) (ret := none) (by decide) rfl ?_
  intro p e s m args below meth c s₁ B hml hv
  obtain ⟨rfl, hsz, hP, hK, hD0, hN⟩ := hv
  have hx := B.exec
  have hb := B.bytes
  have hr := B.returns
  have hts := atoms_spec (ws := (wa yX10_goBy cX10_goBy 4 none)) B.pre
  have hown : s.vm.findClass RX10 = some m.cls := findClass_of_methodNamed B.named
  have hlocks := B.notSynchronized
  subst hsz
  have hD : va_D (pq_B t σ (I, J, ri, rj, rq) s.heap.size) (pq_P t σ (I, J, ri, rj, rq)) := hD0.self
  generalize hAe : pq_B t σ (I, J, ri, rj, rq) s.heap.size = A at hD ⊢
  have hA : ∀ q : Nat, s.heap.size ≤ q → A q := fun q h => by rw [← hAe]; exact Or.inr h
  have hS : va_S A s.heap s.heap [] := va_S.rf
  have hl := lv_entry ([.ref this, .int rise]) (n := 4) (Nat.le_of_ble_eq_true rfl)
  rw [lg_entry_eq]
  generalize (lg_sl ([.ref this, .int rise]) ++ List.replicate (4 - (lg_sl ([.ref this, .int rise])).length) Slot.unset).toArray = ls at hl ⊢
  have hl : lv_has ls 4 [(0, .ref this), (1, .int rise)] := hl
  refine lv_aload_n hx hb dX10_goBy_0 rfl (lv_at hl 0 rfl) ?_
  refine pg_f (v := .int (I 320 this)) (C := RX10) (T := TX10) (N := 13) hx hb hts (tw_i inlX10) hown hK hP hL_this hK_this (by decide) rfl 0 (by decide) (hts _ (tw_c tw_457)) rfl dX10_goBy_1 ?_
  refine lv_tov (nI k) hC ?_
  refine lv_sipush (v := 600) hx hb dX10_goBy_4 (by decide) ?_
  refine lv_icmp_lt (tgt := 11) hx hb dX10_goBy_7 (by decide) (fun c_1 => ?_) (fun c_1 => (c_1 (nI_lt (a := k) (b := 600) (by omega) (by omega))).elim)
  refine lv_aload_n hx hb dX10_goBy_11 rfl (lv_at hl 0 rfl) ?_
  refine lv_iload_n hx hb dX10_goBy_12 rfl (lv_at hl 1 rfl) ?_
  refine pk_v (va_runV (As := [.int rise]) (rest := []) ⟨hx, hb, hml, hown, hts⟩ (c_X10_nature l D t σ I J ri rj rq (Array.size s.heap) this rise hL_this hK_this this_seas hR_this_seas hL_this_seas hK_this_seas this_land hR_this_land hL_this_land hK_this_land this_seas_warm hR_this_seas_warm hL_this_seas_warm hK_this_seas_warm hN_this_seas_warm this_seas_drift hR_this_seas_drift hL_this_seas_drift hK_this_seas_drift hN_this_seas_drift this_seas_high hR_this_seas_high hL_this_seas_high hK_this_seas_high hN_this_seas_high this_seas_low hR_this_seas_low hL_this_seas_low hK_this_seas_low hN_this_seas_low this_land_rocks hR_this_land_rocks hL_this_land_rocks hK_this_land_rocks hN_this_land_rocks hZ k (by omega) hC) (cwV 1 hts (tw_V tw_1047 tw_1048 tw_1049 tw_15 tw_1050) rfl rfl rfl (by decide +kernel) ⟨Nat.le_of_ble_eq_true rfl, Nat.le_of_ble_eq_true rfl⟩) ⟨pq_blind, pq_recv hK hP hL_this hK_this (by decide) rfl, pq_pre hK hN hP hD⟩ rfl rfl hl.1 rfl (lv_room (Nat.le_of_ble_eq_true rfl)) dX10_goBy_13 ⟨Nat.le_of_ble_eq_true rfl, Nat.le_of_ble_eq_true rfl⟩) hD hS hA (fun σ1 μ1 H locs hw_3 hP hD hS => ?_)
  obtain ⟨J_4, rj_5, hu_6⟩ := hw_3
  obtain ⟨hu_6a, hu_6b⟩ := Prod.mk.inj hu_6
  rw [hu_6a, hu_6b] at hP hD
  refine lv_aload_n hx hb dX10_goBy_16 rfl (lv_at hl 0 rfl) ?_
  refine pg_f (v := .ref this_land) (C := RX10) (T := TX10) (N := 13) hx hb hts (tw_i inlX10) hown hK hP hL_this hK_this (by decide) rfl 7 (by decide) (hts _ (tw_c tw_42)) (pq_hv rfl hR_this_land) dX10_goBy_17 ?_
  refine pg_f (v := .ref this_land_wells) (C := RX2) (T := TX2) (N := 20) hx hb hts (tw_i inlX2) hown hK hP hL_this_land hK_this_land (by decide) rfl 14 (by decide) (hts _ (tw_c tw_1043)) (pq_hv rfl hR_this_land_wells) dX10_goBy_20 ?_
  refine lv_aload_n hx hb dX10_goBy_23 rfl (lv_at hl 0 rfl) ?_
  refine pg_f (v := .ref this_land) (C := RX10) (T := TX10) (N := 13) hx hb hts (tw_i inlX10) hown hK hP hL_this hK_this (by decide) rfl 7 (by decide) (hts _ (tw_c tw_42)) (pq_hv rfl hR_this_land) dX10_goBy_24 ?_
  refine pg_f (v := .int (I 65 this_land)) (C := RX2) (T := TX2) (N := 20) hx hb hts (tw_i inlX2) hown hK hP hL_this_land hK_this_land (by decide) rfl 1 (by decide) (hts _ (tw_c tw_498)) rfl dX10_goBy_27 ?_
  refine lv_tov 0 (congrFun (hZ 65 (by decide)) this_land) ?_
  refine lv_aload_n hx hb dX10_goBy_30 rfl (lv_at hl 0 rfl) ?_
  refine pg_f (v := .ref this_land) (C := RX10) (T := TX10) (N := 13) hx hb hts (tw_i inlX10) hown hK hP hL_this hK_this (by decide) rfl 7 (by decide) (hts _ (tw_c tw_42)) (pq_hv rfl hR_this_land) dX10_goBy_31 ?_
  refine pg_f (v := .long (J_4 67 this_land)) (C := RX2) (T := TX2) (N := 20) hx hb hts (tw_i inlX2) hown hK hP hL_this_land hK_this_land (by decide) rfl 3 (by decide) (hts _ (tw_c tw_1044)) rfl dX10_goBy_34 ?_
  refine lv_aload_n hx hb dX10_goBy_37 rfl (lv_at hl 0 rfl) ?_
  refine pg_f (v := .ref this_seas) (C := RX10) (T := TX10) (N := 13) hx hb hts (tw_i inlX10) hown hK hP hL_this hK_this (by decide) rfl 6 (by decide) (hts _ (tw_c tw_38)) (pq_hv rfl hR_this_seas) dX10_goBy_38 ?_
  refine pg_f (v := .ref this_seas_rain) (C := RX7) (T := TX7) (N := 15) hx hb hts (tw_i inlX7) hown hK hP hL_this_seas hK_this_seas (by decide) rfl 9 (by decide) (hts _ (tw_c tw_1045)) (pq_hv rfl hR_this_seas_rain) dX10_goBy_41 ?_
  refine lv_aload_n hx hb dX10_goBy_44 rfl (lv_at hl 0 rfl) ?_
  refine pg_f (v := .int (I 320 this)) (C := RX10) (T := TX10) (N := 13) hx hb hts (tw_i inlX10) hown hK hP hL_this hK_this (by decide) rfl 0 (by decide) (hts _ (tw_c tw_457)) rfl dX10_goBy_45 ?_
  refine lv_tov (nI k) hC ?_
  refine lv_bipush (v := 12) hx hb dX10_goBy_48 (by decide) ?_
  refine lv_irem hx hb dX10_goBy_50 (by decide) ?_
  refine lv_tov (nI (k % 12)) (pk_rem (a := k) (d := 12) (by omega) (by decide) (by decide)) ?_
  refine pl_i hx hb hK hP hL_this_seas_rain hK_this_seas_rain hN_this_seas_rain (nI_in (c := (k % 12)) (by omega) (by omega)) dX10_goBy_51 ?_
  refine lv_topi (fun x_8 ex_8 => ?_)
  refine pk_v (va_runV (As := [.int 0, .long (J_4 67 this_land), .int x_8]) (rest := []) ⟨hx, hb, hml, hown, hts⟩ (c_X9_fillUp l D t σ I J_4 ri rj_5 rq H.size this_land_wells (J_4 67 this_land) x_8 hL_this_land_wells hK_this_land_wells) (cwV 3 hts (tw_V tw_1083 tw_1084 tw_1085 tw_94 tw_1086) rfl rfl rfl (by decide +kernel) ⟨Nat.le_of_ble_eq_true rfl, Nat.le_of_ble_eq_true rfl⟩) ⟨pq_blind, pq_recv hK hP hL_this_land_wells hK_this_land_wells (by decide) rfl, pq_pre hK hN hP hD⟩ rfl rfl hl.1 rfl (lv_room (Nat.le_of_ble_eq_true rfl)) dX10_goBy_52 ⟨Nat.le_of_ble_eq_true rfl, Nat.le_of_ble_eq_true rfl⟩) hD hS hA (fun σ1 μ1 H locs hw_10 hP hD hS => ?_)
  have hu_11 := hw_10
  obtain ⟨hu_11a, hu_11b⟩ := Prod.mk.inj hu_11
  rw [hu_11a, hu_11b] at hP hD
  refine lv_aload_n hx hb dX10_goBy_55 rfl (lv_at hl 0 rfl) ?_
  refine pg_f (v := .ref this_land) (C := RX10) (T := TX10) (N := 13) hx hb hts (tw_i inlX10) hown hK hP hL_this hK_this (by decide) rfl 7 (by decide) (hts _ (tw_c tw_42)) (pq_hv rfl hR_this_land) dX10_goBy_56 ?_
  refine lv_aload_n hx hb dX10_goBy_59 rfl (lv_at hl 0 rfl) ?_
  refine pg_f (v := .ref this_ringBeds) (C := RX10) (T := TX10) (N := 13) hx hb hts (tw_i inlX10) hown hK hP hL_this hK_this (by decide) rfl 12 (by decide) (hts _ (tw_c tw_56)) (pq_hv rfl hR_this_ringBeds) dX10_goBy_60 ?_
  refine lv_iconst (v := 0) hx hb dX10_goBy_63 (by decide) ?_
  refine pk_v (va_runV (As := [.ref this_ringBeds, .int 0]) (rest := []) ⟨hx, hb, hml, hown, hts⟩ (c_X2_countBeds l D t σ I J_4 ri rj_5 rq H.size this_land this_ringBeds 0 5 hL_this_land hK_this_land hL_this_ringBeds hK_this_ringBeds hN_this_ringBeds hZ ⟨by decide, by decide⟩) (cwV 2 hts (tw_V tw_1090 tw_1091 tw_1092 tw_41 tw_1093) rfl rfl rfl (by decide +kernel) ⟨Nat.le_of_ble_eq_true rfl, Nat.le_of_ble_eq_true rfl⟩) ⟨pq_blind, pq_recv hK hP hL_this_land hK_this_land (by decide) rfl, pq_pre hK hN hP hD⟩ rfl rfl hl.1 rfl (lv_room (Nat.le_of_ble_eq_true rfl)) dX10_goBy_64 ⟨Nat.le_of_ble_eq_true rfl, Nat.le_of_ble_eq_true rfl⟩) hD hS hA (fun σ1 μ1 H locs hw_14 hP hD hS => ?_)
  obtain ⟨ri_15, hu_16⟩ := hw_14
  obtain ⟨hu_16a, hu_16b⟩ := Prod.mk.inj hu_16
  rw [hu_16a, hu_16b] at hP hD
  refine lv_aload_n hx hb dX10_goBy_67 rfl (lv_at hl 0 rfl) ?_
  refine pg_f (v := .ref this_folk) (C := RX10) (T := TX10) (N := 13) hx hb hts (tw_i inlX10) hown hK hP hL_this hK_this (by decide) rfl 8 (by decide) (hts _ (tw_c tw_46)) (pq_hv rfl hR_this_folk) dX10_goBy_68 ?_
  refine lv_aload_n hx hb dX10_goBy_71 rfl (lv_at hl 0 rfl) ?_
  refine pg_f (v := .ref this_land) (C := RX10) (T := TX10) (N := 13) hx hb hts (tw_i inlX10) hown hK hP hL_this hK_this (by decide) rfl 7 (by decide) (hts _ (tw_c tw_42)) (pq_hv rfl hR_this_land) dX10_goBy_72 ?_
  refine pk_i (va_runV (As := [.ref this_land]) (rest := []) ⟨hx, hb, hml, hown, hts⟩ (c_X0_drink l D t σ I J_4 ri_15 rj_5 rq H.size this_folk this_land hL_this_folk hK_this_folk hL_this_land hK_this_land this_land_first hR_this_land_first hL_this_land_first hK_this_land_first hN_this_land_first this_folk_ofRing hR_this_folk_ofRing hL_this_folk_ofRing hK_this_folk_ofRing hN_this_folk_ofRing hZ) (cwV 1 hts (tw_V tw_1094 tw_1095 tw_1096 tw_45 tw_1097) rfl rfl rfl (by decide +kernel) ⟨Nat.le_of_ble_eq_true rfl, Nat.le_of_ble_eq_true rfl⟩) ⟨pq_blind, pq_recv hK hP hL_this_folk hK_this_folk (by decide) rfl, pq_pre hK hN hP hD⟩ rfl rfl hl.1 rfl (lv_room (Nat.le_of_ble_eq_true rfl)) dX10_goBy_75 ⟨Nat.le_of_ble_eq_true rfl, Nat.le_of_ble_eq_true rfl⟩) hD hS hA (fun r_18 σ1 μ1 H locs hw_19 hP hD hS => ?_)
  obtain ⟨ri_20, hu_21, hr_22⟩ := hw_19
  obtain ⟨hu_21a, hu_21b⟩ := Prod.mk.inj hu_21
  rw [hu_21a, hu_21b] at hP hD
  subst hr_22
  refine lv_pop hx hb dX10_goBy_78 rfl ?_
  refine lv_aload_n hx hb dX10_goBy_79 rfl (lv_at hl 0 rfl) ?_
  refine pg_f (v := .ref this_folk) (C := RX10) (T := TX10) (N := 13) hx hb hts (tw_i inlX10) hown hK hP hL_this hK_this (by decide) rfl 8 (by decide) (hts _ (tw_c tw_46)) (pq_hv rfl hR_this_folk) dX10_goBy_80 ?_
  refine lv_aload_n hx hb dX10_goBy_83 rfl (lv_at hl 0 rfl) ?_
  refine pg_f (v := .ref this_ringBeds) (C := RX10) (T := TX10) (N := 13) hx hb hts (tw_i inlX10) hown hK hP hL_this hK_this (by decide) rfl 12 (by decide) (hts _ (tw_c tw_56)) (pq_hv rfl hR_this_ringBeds) dX10_goBy_84 ?_
  refine lv_iconst (v := 0) hx hb dX10_goBy_87 (by decide) ?_
  refine pk_i (va_runV (As := [.ref this_ringBeds, .int 0]) (rest := []) ⟨hx, hb, hml, hown, hts⟩ (c_X0_sleep l D t σ I J_4 ri_20 rj_5 rq H.size this_folk this_ringBeds 0 5 hL_this_folk hK_this_folk hL_this_ringBeds hK_this_ringBeds hN_this_ringBeds this_folk_ofRing hR_this_folk_ofRing hL_this_folk_ofRing hK_this_folk_ofRing hN_this_folk_ofRing hZ ⟨by decide, by decide⟩) (cwV 2 hts (tw_V tw_1120 tw_1121 tw_1122 tw_45 tw_1123) rfl rfl rfl (by decide +kernel) ⟨Nat.le_of_ble_eq_true rfl, Nat.le_of_ble_eq_true rfl⟩) ⟨pq_blind, pq_recv hK hP hL_this_folk hK_this_folk (by decide) rfl, pq_pre hK hN hP hD⟩ rfl rfl hl.1 rfl (lv_room (Nat.le_of_ble_eq_true rfl)) dX10_goBy_88 ⟨Nat.le_of_ble_eq_true rfl, Nat.le_of_ble_eq_true rfl⟩) hD hS hA (fun r_23 σ1 μ1 H locs hw_24 hP hD hS => ?_)
  obtain ⟨ri_25, hu_26, hr_27⟩ := hw_24
  obtain ⟨hu_26a, hu_26b⟩ := Prod.mk.inj hu_26
  rw [hu_26a, hu_26b] at hP hD
  subst hr_27
  refine lv_pop hx hb dX10_goBy_91 rfl ?_
  refine lv_aload_n hx hb dX10_goBy_92 rfl (lv_at hl 0 rfl) ?_
  refine pk_v (va_runV (As := []) (rest := []) ⟨hx, hb, hml, hown, hts⟩ (c_X10_reckon l D t σ I J_4 ri_25 rj_5 rq H.size this hL_this hK_this this_seas hR_this_seas hL_this_seas hK_this_seas this_law hR_this_law hL_this_law hK_this_law this_land hR_this_land hL_this_land hK_this_land this_land_rocks hR_this_land_rocks hL_this_land_rocks hK_this_land_rocks hN_this_land_rocks this_land_rows hR_this_land_rows hL_this_land_rows hK_this_land_rows hN_this_land_rows this_land_widths hR_this_land_widths hL_this_land_widths hK_this_land_widths hN_this_land_widths this_folk hR_this_folk hL_this_folk hK_this_folk hZ k (by omega) hC hRe hrw) (cwV 0 hts (tw_V tw_1125 tw_1126 tw_1127 tw_15 tw_1128) rfl rfl rfl (by decide +kernel) ⟨Nat.le_of_ble_eq_true rfl, Nat.le_of_ble_eq_true rfl⟩) ⟨pq_blind, pq_recv hK hP hL_this hK_this (by decide) rfl, pq_pre hK hN hP hD⟩ rfl rfl hl.1 rfl (lv_room (Nat.le_of_ble_eq_true rfl)) dX10_goBy_93 ⟨Nat.le_of_ble_eq_true rfl, Nat.le_of_ble_eq_true rfl⟩) hD hS hA (fun σ1 μ1 H locs hw_29 hP hD hS => ?_)
  obtain ⟨I_30, ri_31, hu_32, hu_32f⟩ := hw_29
  obtain ⟨hu_32a, hu_32b⟩ := Prod.mk.inj hu_32
  rw [hu_32a, hu_32b] at hP hD
  refine lv_aload_n hx hb dX10_goBy_96 rfl (lv_at hl 0 rfl) ?_
  refine pg_f (v := .int (I_30 322 this)) (C := RX10) (T := TX10) (N := 13) hx hb hts (tw_i inlX10) hown hK hP hL_this hK_this (by decide) rfl 2 (by decide) (hts _ (tw_c tw_1046)) rfl dX10_goBy_97 ?_
  refine lv_tov 0 (by rw [hu_32f 322 (by decide)]; exact (congrFun (hZ 322 (by decide)) this)) ?_
  refine lv_if_le (tgt := 174) hx hb dX10_goBy_100 (by decide) (fun c_34 => ?_) (fun c_34 => absurd c_34 (by decide))
  refine lv_aload_n hx hb dX10_goBy_174 rfl (lv_at hl 0 rfl) ?_
  refine lv_dup hx hb dX10_goBy_175 rfl ?_
  refine pg_f (v := .int (I_30 320 this)) (C := RX10) (T := TX10) (N := 13) hx hb hts (tw_i inlX10) hown hK hP hL_this hK_this (by decide) rfl 0 (by decide) (hts _ (tw_c tw_457)) rfl dX10_goBy_176 ?_
  refine lv_tov (nI k) (by rw [hu_32f 320 (by decide)]; exact hC) ?_
  refine lv_iconst (v := 1) hx hb dX10_goBy_179 (by decide) ?_
  refine lv_iadd hx hb dX10_goBy_180 ?_
  refine lv_tov (nI (k + 1)) (nI_add k 1) ?_
  refine pp_i (v := (nI (k + 1))) (ty := .int) (C := RX10) (T := TX10) (N := 13) hx hb hts (tw_i inlX10) tyX10 tyX10_ok nmX10 hown hK hP hD hS hL_this hK_this (by decide) rfl 0 320 (by decide) (hts _ (tw_c tw_457)) rfl (by decide +kernel) rfl rfl (Nat.le_of_ble_eq_true rfl) (ps_320 _ _ _ _ _) dX10_goBy_181 (fun I_35 H locs eI_35 hP hD hS => ?_)
  exact W.vret hx hb hr (fun t1 ht hW => ⟨⟨(σ, I_35, J_4, ri_31, rj_5, rq), rfl, ⟨I_35, J_4, ri_31, rj_5, rfl, (fun f hg => by rw [eI_35, pq_uf _ _ _ (by intro q; subst q; exact hg (by decide)), hu_32f f (fun q => hg (by revert q; simp only [List.mem_cons, List.not_mem_nil, or_false]; omega))]), (by rw [eI_35]; exact pq_us _ _ _ _)⟩, by rw [ht]; exact hP, va_K.moved hW.alike hK, hD⟩, hS.F ht⟩) hS.2.2 dX10_goBy_184
