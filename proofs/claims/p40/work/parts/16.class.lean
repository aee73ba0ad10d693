theorem dX10_goBy_0 : decode cX10_goBy 0 = .ok (.aload_n 0, 1) := oc_42 (by decide +kernel)
theorem dX10_goBy_1 : decode cX10_goBy 1 = .ok (.getfield 67, 3) := oc_180 (a := 0) (b := 67) (by decide +kernel)
theorem dX10_goBy_4 : decode cX10_goBy 4 = .ok (.sipush 600, 3) := oc_17 (a := 2) (b := 88) (by decide +kernel)
theorem dX10_goBy_7 : decode cX10_goBy 7 = .ok (.if_icmp .lt 4, 3) := oc_161 (a := 0) (b := 4) (by decide +kernel)
theorem dX10_goBy_11 : decode cX10_goBy 11 = .ok (.aload_n 0, 1) := oc_42 (by decide +kernel)
theorem dX10_goBy_12 : decode cX10_goBy 12 = .ok (.iload_n 1, 1) := oc_27 (by decide +kernel)
theorem tw_1047 : Cond.methodLink RX10 96 yX10_nature ∈ wsL_law := sg_44 _ (List.mem_of_getElem? (i := 15) rfl)
theorem dX10_goBy_13 : decode cX10_goBy 13 = .ok (.invokevirtual 96, 3) := oc_182 (a := 0) (b := 96) (by decide +kernel)
theorem dX10_goBy_16 : decode cX10_goBy 16 = .ok (.aload_n 0, 1) := oc_42 (by decide +kernel)
theorem dX10_goBy_17 : decode cX10_goBy 17 = .ok (.getfield 32, 3) := oc_180 (a := 0) (b := 32) (by decide +kernel)
theorem tw_1043 : Cond.fieldLink RX10 100 "RingsUnder$Land" "wells" "LRingsUnder$Wells;" ∈ wsL_law := sg_44 _ (List.mem_of_getElem? (i := 11) rfl)
theorem dX10_goBy_20 : decode cX10_goBy 20 = .ok (.getfield 100, 3) := oc_180 (a := 0) (b := 100) (by decide +kernel)
theorem dX10_goBy_23 : decode cX10_goBy 23 = .ok (.aload_n 0, 1) := oc_42 (by decide +kernel)
theorem dX10_goBy_24 : decode cX10_goBy 24 = .ok (.getfield 32, 3) := oc_180 (a := 0) (b := 32) (by decide +kernel)
theorem tw_498 : Cond.fieldLink RX10 104 "RingsUnder$Land" "cells" "I" ∈ wsL_law := sg_21 _ (List.mem_of_getElem? (i := 18) rfl)
theorem dX10_goBy_27 : decode cX10_goBy 27 = .ok (.getfield 104, 3) := oc_180 (a := 0) (b := 104) (by decide +kernel)
theorem dX10_goBy_30 : decode cX10_goBy 30 = .ok (.aload_n 0, 1) := oc_42 (by decide +kernel)
theorem dX10_goBy_31 : decode cX10_goBy 31 = .ok (.getfield 32, 3) := oc_180 (a := 0) (b := 32) (by decide +kernel)
theorem tw_1044 : Cond.fieldLink RX10 107 "RingsUnder$Land" "dry" "J" ∈ wsL_law := sg_44 _ (List.mem_of_getElem? (i := 12) rfl)
theorem dX10_goBy_34 : decode cX10_goBy 34 = .ok (.getfield 107, 3) := oc_180 (a := 0) (b := 107) (by decide +kernel)
theorem dX10_goBy_37 : decode cX10_goBy 37 = .ok (.aload_n 0, 1) := oc_42 (by decide +kernel)
theorem dX10_goBy_38 : decode cX10_goBy 38 = .ok (.getfield 25, 3) := oc_180 (a := 0) (b := 25) (by decide +kernel)
theorem tw_1045 : Cond.fieldLink RX10 111 "RingsUnder$Seas" "rain" "[I" ∈ wsL_law := sg_44 _ (List.mem_of_getElem? (i := 13) rfl)
theorem dX10_goBy_41 : decode cX10_goBy 41 = .ok (.getfield 111, 3) := oc_180 (a := 0) (b := 111) (by decide +kernel)
theorem dX10_goBy_44 : decode cX10_goBy 44 = .ok (.aload_n 0, 1) := oc_42 (by decide +kernel)
theorem dX10_goBy_45 : decode cX10_goBy 45 = .ok (.getfield 67, 3) := oc_180 (a := 0) (b := 67) (by decide +kernel)
theorem dX10_goBy_48 : decode cX10_goBy 48 = .ok (.bipush 12, 2) := oc_16 (a := 12) (by decide +kernel)
theorem dX10_goBy_50 : decode cX10_goBy 50 = .ok (.irem, 1) := oc_112 (by decide +kernel)
theorem dX10_goBy_51 : decode cX10_goBy 51 = .ok (.iaload, 1) := oc_46 (by decide +kernel)
theorem tw_1083 : Cond.methodLink RX10 114 yX9_fillUp ∈ wsL_law := sg_46 _ (List.mem_of_getElem? (i := 3) rfl)
theorem dX10_goBy_52 : decode cX10_goBy 52 = .ok (.invokevirtual 114, 3) := oc_182 (a := 0) (b := 114) (by decide +kernel)
theorem dX10_goBy_55 : decode cX10_goBy 55 = .ok (.aload_n 0, 1) := oc_42 (by decide +kernel)
theorem dX10_goBy_56 : decode cX10_goBy 56 = .ok (.getfield 32, 3) := oc_180 (a := 0) (b := 32) (by decide +kernel)
theorem dX10_goBy_59 : decode cX10_goBy 59 = .ok (.aload_n 0, 1) := oc_42 (by decide +kernel)
theorem tw_56 : Cond.fieldLink RX10 60 "RingsUnder$World" "ringBeds" "[I" ∈ wsL_law := sg_3 _ (List.mem_of_getElem? (i := 8) rfl)
theorem dX10_goBy_60 : decode cX10_goBy 60 = .ok (.getfield 60, 3) := oc_180 (a := 0) (b := 60) (by decide +kernel)
theorem dX10_goBy_63 : decode cX10_goBy 63 = .ok (.iconst 0, 1) := oc_3 (by decide +kernel)
theorem tw_1090 : Cond.methodLink RX10 120 yX2_countBeds ∈ wsL_law := sg_46 _ (List.mem_of_getElem? (i := 10) rfl)
theorem dX10_goBy_64 : decode cX10_goBy 64 = .ok (.invokevirtual 120, 3) := oc_182 (a := 0) (b := 120) (by decide +kernel)
theorem dX10_goBy_67 : decode cX10_goBy 67 = .ok (.aload_n 0, 1) := oc_42 (by decide +kernel)
theorem dX10_goBy_68 : decode cX10_goBy 68 = .ok (.getfield 39, 3) := oc_180 (a := 0) (b := 39) (by decide +kernel)
theorem dX10_goBy_71 : decode cX10_goBy 71 = .ok (.aload_n 0, 1) := oc_42 (by decide +kernel)
theorem dX10_goBy_72 : decode cX10_goBy 72 = .ok (.getfield 32, 3) := oc_180 (a := 0) (b := 32) (by decide +kernel)
theorem tw_1094 : Cond.methodLink RX10 123 yX0_drink ∈ wsL_law := sg_46 _ (List.mem_of_getElem? (i := 14) rfl)
theorem dX10_goBy_75 : decode cX10_goBy 75 = .ok (.invokevirtual 123, 3) := oc_182 (a := 0) (b := 123) (by decide +kernel)
theorem dX10_goBy_78 : decode cX10_goBy 78 = .ok (.pop, 1) := oc_87 (by decide +kernel)
theorem dX10_goBy_79 : decode cX10_goBy 79 = .ok (.aload_n 0, 1) := oc_42 (by decide +kernel)
theorem dX10_goBy_80 : decode cX10_goBy 80 = .ok (.getfield 39, 3) := oc_180 (a := 0) (b := 39) (by decide +kernel)
theorem dX10_goBy_83 : decode cX10_goBy 83 = .ok (.aload_n 0, 1) := oc_42 (by decide +kernel)
theorem dX10_goBy_84 : decode cX10_goBy 84 = .ok (.getfield 60, 3) := oc_180 (a := 0) (b := 60) (by decide +kernel)
theorem dX10_goBy_87 : decode cX10_goBy 87 = .ok (.iconst 0, 1) := oc_3 (by decide +kernel)
theorem tw_1120 : Cond.methodLink RX10 127 yX0_sleep ∈ wsL_law := sg_47 _ (List.mem_of_getElem? (i := 16) rfl)
theorem dX10_goBy_88 : decode cX10_goBy 88 = .ok (.invokevirtual 127, 3) := oc_182 (a := 0) (b := 127) (by decide +kernel)
theorem dX10_goBy_91 : decode cX10_goBy 91 = .ok (.pop, 1) := oc_87 (by decide +kernel)
theorem dX10_goBy_92 : decode cX10_goBy 92 = .ok (.aload_n 0, 1) := oc_42 (by decide +kernel)
theorem tw_1125 : Cond.methodLink RX10 131 yX10_reckon ∈ wsL_law := sg_47 _ (List.mem_of_getElem? (i := 21) rfl)
theorem tw_1126 : Cond.instanceMethod yX10_reckon ∈ wsL_law := sg_47 _ (List.mem_of_getElem? (i := 22) rfl)
theorem tw_1127 : Cond.selects RX10 yX10_reckon yX10_reckon ∈ wsL_law := sg_47 _ (List.mem_of_getElem? (i := 23) rfl)
theorem tw_1128 : Cond.code yX10_reckon cX10_reckon 3 none ∈ wsL_law := sg_48 _ (List.mem_of_getElem? (i := 0) rfl)
theorem dX10_goBy_93 : decode cX10_goBy 93 = .ok (.invokevirtual 131, 3) := oc_182 (a := 0) (b := 131) (by decide +kernel)
theorem dX10_goBy_96 : decode cX10_goBy 96 = .ok (.aload_n 0, 1) := oc_42 (by decide +kernel)
theorem dX10_goBy_97 : decode cX10_goBy 97 = .ok (.getfield 73, 3) := oc_180 (a := 0) (b := 73) (by decide +kernel)
theorem dX10_goBy_174 : decode cX10_goBy 174 = .ok (.aload_n 0, 1) := oc_42 (by decide +kernel)
theorem dX10_goBy_175 : decode cX10_goBy 175 = .ok (.dup, 1) := oc_89 (by decide +kernel)
theorem dX10_goBy_176 : decode cX10_goBy 176 = .ok (.getfield 67, 3) := oc_180 (a := 0) (b := 67) (by decide +kernel)
theorem dX10_goBy_179 : decode cX10_goBy 179 = .ok (.iconst 1, 1) := oc_4 (by decide +kernel)
theorem dX10_goBy_180 : decode cX10_goBy 180 = .ok (.iadd, 1) := oc_96 (by decide +kernel)
theorem dX10_goBy_181 : decode cX10_goBy 181 = .ok (.putfield 67, 3) := oc_181 (a := 0) (b := 67) (by decide +kernel)
theorem dX10_goBy_184 : decode cX10_goBy 184 = .ok (.return_, 1) := oc_177 (by decide +kernel)
theorem dX10_goBy_100 : decode cX10_goBy 100 = .ok (.ifCond .le 74, 3) := oc_158 (a := 0) (b := 74) (by decide +kernel)
theorem dX10_goBy_103 : decode cX10_goBy 103 = .ok (.aload_n 0, 1) := oc_42 (by decide +kernel)
theorem dX10_goBy_104 : decode cX10_goBy 104 = .ok (.getfield 46, 3) := oc_180 (a := 0) (b := 46) (by decide +kernel)
theorem dX10_goBy_107 : decode cX10_goBy 107 = .ok (.iconst 4, 1) := oc_7 (by decide +kernel)
theorem dX10_goBy_108 : decode cX10_goBy 108 = .ok (.aload_n 0, 1) := oc_42 (by decide +kernel)
theorem dX10_goBy_109 : decode cX10_goBy 109 = .ok (.getfield 67, 3) := oc_180 (a := 0) (b := 67) (by decide +kernel)
theorem dX10_goBy_112 : decode cX10_goBy 112 = .ok (.aload_n 0, 1) := oc_42 (by decide +kernel)
theorem dX10_goBy_113 : decode cX10_goBy 113 = .ok (.getfield 39, 3) := oc_180 (a := 0) (b := 39) (by decide +kernel)
theorem dX10_goBy_116 : decode cX10_goBy 116 = .ok (.aload_n 0, 1) := oc_42 (by decide +kernel)
theorem tw_55 : Cond.fieldLink RX10 57 "RingsUnder$World" "queue" "[I" ∈ wsL_law := sg_3 _ (List.mem_of_getElem? (i := 7) rfl)
theorem dX10_goBy_117 : decode cX10_goBy 117 = .ok (.getfield 57, 3) := oc_180 (a := 0) (b := 57) (by decide +kernel)
theorem tw_461 : Cond.methodLink RX10 134 yX3_line ∈ wsL_law := sg_20 _ (List.mem_of_getElem? (i := 5) rfl)
theorem tw_462 : Cond.instanceMethod yX3_line ∈ wsL_law := sg_20 _ (List.mem_of_getElem? (i := 6) rfl)
theorem tw_463 : Cond.selects RX3 yX3_line yX3_line ∈ wsL_law := sg_20 _ (List.mem_of_getElem? (i := 7) rfl)
theorem tw_464 : Cond.code yX3_line cX3_line 11 none ∈ wsL_law := sg_20 _ (List.mem_of_getElem? (i := 8) rfl)
theorem dX10_goBy_120 : decode cX10_goBy 120 = .ok (.invokevirtual 134, 3) := oc_182 (a := 0) (b := 134) (by decide +kernel)
theorem dX10_goBy_123 : decode cX10_goBy 123 = .ok (.aload_n 0, 1) := oc_42 (by decide +kernel)
theorem dX10_goBy_124 : decode cX10_goBy 124 = .ok (.getfield 46, 3) := oc_180 (a := 0) (b := 46) (by decide +kernel)
theorem dX10_goBy_127 : decode cX10_goBy 127 = .ok (.iconst 2, 1) := oc_5 (by decide +kernel)
theorem dX10_goBy_128 : decode cX10_goBy 128 = .ok (.aload_n 0, 1) := oc_42 (by decide +kernel)
theorem dX10_goBy_129 : decode cX10_goBy 129 = .ok (.getfield 67, 3) := oc_180 (a := 0) (b := 67) (by decide +kernel)
theorem dX10_goBy_132 : decode cX10_goBy 132 = .ok (.aload_n 0, 1) := oc_42 (by decide +kernel)
theorem dX10_goBy_133 : decode cX10_goBy 133 = .ok (.getfield 39, 3) := oc_180 (a := 0) (b := 39) (by decide +kernel)
theorem dX10_goBy_136 : decode cX10_goBy 136 = .ok (.aload_n 0, 1) := oc_42 (by decide +kernel)
theorem dX10_goBy_137 : decode cX10_goBy 137 = .ok (.getfield 39, 3) := oc_180 (a := 0) (b := 39) (by decide +kernel)
theorem tw_1162 : Cond.methodLink RX10 138 yX0_onRings ∈ wsL_law := sg_49 _ (List.mem_of_getElem? (i := 10) rfl)
theorem dX10_goBy_140 : decode cX10_goBy 140 = .ok (.invokevirtual 138, 3) := oc_182 (a := 0) (b := 138) (by decide +kernel)
theorem tw_1166 : Cond.methodLink RX10 142 yX3_whoIsSo ∈ wsL_law := sg_49 _ (List.mem_of_getElem? (i := 14) rfl)
theorem dX10_goBy_143 : decode cX10_goBy 143 = .ok (.invokevirtual 142, 3) := oc_182 (a := 0) (b := 142) (by decide +kernel)
theorem dX10_goBy_146 : decode cX10_goBy 146 = .ok (.lstore_n 2, 1) := oc_65 (by decide +kernel)
theorem dX10_goBy_147 : decode cX10_goBy 147 = .ok (.aload_n 0, 1) := oc_42 (by decide +kernel)
theorem dX10_goBy_148 : decode cX10_goBy 148 = .ok (.getfield 39, 3) := oc_180 (a := 0) (b := 39) (by decide +kernel)
theorem dX10_goBy_151 : decode cX10_goBy 151 = .ok (.lload_n 2, 1) := oc_32 (by decide +kernel)
theorem dX10_goBy_152 : decode cX10_goBy 152 = .ok (.aload_n 0, 1) := oc_42 (by decide +kernel)
theorem dX10_goBy_153 : decode cX10_goBy 153 = .ok (.getfield 57, 3) := oc_180 (a := 0) (b := 57) (by decide +kernel)
theorem dX10_goBy_156 : decode cX10_goBy 156 = .ok (.aload_n 0, 1) := oc_42 (by decide +kernel)
theorem dX10_goBy_157 : decode cX10_goBy 157 = .ok (.getfield 39, 3) := oc_180 (a := 0) (b := 39) (by decide +kernel)
theorem tw_458 : Cond.fieldLink RX10 146 "RingsUnder$Folk" "persons" "I" ∈ wsL_law := sg_20 _ (List.mem_of_getElem? (i := 2) rfl)
theorem dX10_goBy_160 : decode cX10_goBy 160 = .ok (.getfield 146, 3) := oc_180 (a := 0) (b := 146) (by decide +kernel)
theorem dX10_goBy_163 : decode cX10_goBy 163 = .ok (.aload_n 0, 1) := oc_42 (by decide +kernel)
theorem dX10_goBy_164 : decode cX10_goBy 164 = .ok (.getfield 73, 3) := oc_180 (a := 0) (b := 73) (by decide +kernel)
theorem dX10_goBy_167 : decode cX10_goBy 167 = .ok (.aload_n 0, 1) := oc_42 (by decide +kernel)
theorem dX10_goBy_168 : decode cX10_goBy 168 = .ok (.getfield 67, 3) := oc_180 (a := 0) (b := 67) (by decide +kernel)
theorem tw_1167 : Cond.methodLink RX10 149 yX0_board ∈ wsL_law := sg_49 _ (List.mem_of_getElem? (i := 15) rfl)
theorem dX10_goBy_171 : decode cX10_goBy 171 = .ok (.invokevirtual 149, 3) := oc_182 (a := 0) (b := 149) (by decide +kernel)
theorem dX10_goBy_10 : decode cX10_goBy 10 = .ok (.return_, 1) := oc_177 (by decide +kernel)
theorem dX10_sandBehind_0 : decode cX10_sandBehind 0 = .ok (.iconst 0, 1) := oc_3 (by decide +kernel)
theorem dX10_sandBehind_1 : decode cX10_sandBehind 1 = .ok (.istore_n 3, 1) := oc_62 (by decide +kernel)
theorem dX10_sandBehind_2 : decode cX10_sandBehind 2 = .ok (.iload_n 3, 1) := oc_29 (by decide +kernel)
theorem dX10_sandBehind_3 : decode cX10_sandBehind 3 = .ok (.iload_n 1, 1) := oc_27 (by decide +kernel)
theorem dX10_sandBehind_4 : decode cX10_sandBehind 4 = .ok (.if_icmp .ge 33, 3) := oc_162 (a := 0) (b := 33) (by decide +kernel)
theorem dX10_sandBehind_37 : decode cX10_sandBehind 37 = .ok (.aload_n 0, 1) := oc_42 (by decide +kernel)
theorem dX10_sandBehind_38 : decode cX10_sandBehind 38 = .ok (.getfield 32, 3) := oc_180 (a := 0) (b := 32) (by decide +kernel)
theorem tw_1419 : Cond.fieldLink RX10 219 "RingsUnder$Land" "sand" "[I" ∈ wsL_law := sg_60 _ (List.mem_of_getElem? (i := 3) rfl)
theorem dX10_sandBehind_41 : decode cX10_sandBehind 41 = .ok (.getfield 219, 3) := oc_180 (a := 0) (b := 219) (by decide +kernel)
theorem dX10_sandBehind_44 : decode cX10_sandBehind 44 = .ok (.iload_n 2, 1) := oc_28 (by decide +kernel)
theorem dX10_sandBehind_45 : decode cX10_sandBehind 45 = .ok (.iaload, 1) := oc_46 (by decide +kernel)
theorem dX10_sandBehind_46 : decode cX10_sandBehind 46 = .ok (.ireturn, 1) := oc_172 (by decide +kernel)
theorem dX10_sandBehind_7 : decode cX10_sandBehind 7 = .ok (.aload_n 0, 1) := oc_42 (by decide +kernel)
theorem dX10_sandBehind_8 : decode cX10_sandBehind 8 = .ok (.getfield 32, 3) := oc_180 (a := 0) (b := 32) (by decide +kernel)
theorem dX10_sandBehind_11 : decode cX10_sandBehind 11 = .ok (.aload_n 0, 1) := oc_42 (by decide +kernel)
theorem dX10_sandBehind_12 : decode cX10_sandBehind 12 = .ok (.getfield 25, 3) := oc_180 (a := 0) (b := 25) (by decide +kernel)
theorem dX10_sandBehind_15 : decode cX10_sandBehind 15 = .ok (.getfield 172, 3) := oc_180 (a := 0) (b := 172) (by decide +kernel)
theorem dX10_sandBehind_18 : decode cX10_sandBehind 18 = .ok (.aload_n 0, 1) := oc_42 (by decide +kernel)
theorem dX10_sandBehind_19 : decode cX10_sandBehind 19 = .ok (.getfield 67, 3) := oc_180 (a := 0) (b := 67) (by decide +kernel)
theorem dX10_sandBehind_22 : decode cX10_sandBehind 22 = .ok (.iload_n 3, 1) := oc_29 (by decide +kernel)
theorem dX10_sandBehind_23 : decode cX10_sandBehind 23 = .ok (.iadd, 1) := oc_96 (by decide +kernel)
theorem dX10_sandBehind_24 : decode cX10_sandBehind 24 = .ok (.bipush 12, 2) := oc_16 (a := 12) (by decide +kernel)
theorem dX10_sandBehind_26 : decode cX10_sandBehind 26 = .ok (.irem, 1) := oc_112 (by decide +kernel)
theorem dX10_sandBehind_27 : decode cX10_sandBehind 27 = .ok (.iaload, 1) := oc_46 (by decide +kernel)
theorem dX10_sandBehind_28 : decode cX10_sandBehind 28 = .ok (.invokevirtual 175, 3) := oc_182 (a := 0) (b := 175) (by decide +kernel)
theorem dX10_sandBehind_31 : decode cX10_sandBehind 31 = .ok (.iinc 3 1, 3) := oc_132 (b := 1) (by decide +kernel)
theorem dX10_sandBehind_34 : decode cX10_sandBehind 34 = .ok (.goto (-32), 3) := oc_167 (a := 255) (b := 224) (by decide +kernel)
theorem dX10_wasDry_0 : decode cX10_wasDry 0 = .ok (.aload_n 0, 1) := oc_42 (by decide +kernel)
theorem dX10_wasDry_1 : decode cX10_wasDry 1 = .ok (.getfield 67, 3) := oc_180 (a := 0) (b := 67) (by decide +kernel)
theorem dX10_wasDry_4 : decode cX10_wasDry 4 = .ok (.ifCond .ne 5, 3) := oc_154 (a := 0) (b := 5) (by decide +kernel)
theorem dX10_wasDry_9 : decode cX10_wasDry 9 = .ok (.aload_n 0, 1) := oc_42 (by decide +kernel)
theorem dX10_wasDry_10 : decode cX10_wasDry 10 = .ok (.getfield 32, 3) := oc_180 (a := 0) (b := 32) (by decide +kernel)
theorem dX10_wasDry_13 : decode cX10_wasDry 13 = .ok (.iload_n 1, 1) := oc_27 (by decide +kernel)
theorem tw_554 : Cond.methodLink RX10 222 yX2_isDry ∈ wsL_law := sg_24 _ (List.mem_of_getElem? (i := 2) rfl)
theorem dX10_wasDry_14 : decode cX10_wasDry 14 = .ok (.invokevirtual 222, 3) := oc_182 (a := 0) (b := 222) (by decide +kernel)
theorem dX10_wasDry_17 : decode cX10_wasDry 17 = .ok (.ifCond .eq 7, 3) := oc_153 (a := 0) (b := 7) (by decide +kernel)
theorem dX10_wasDry_24 : decode cX10_wasDry 24 = .ok (.iconst 0, 1) := oc_3 (by decide +kernel)
theorem dX10_wasDry_25 : decode cX10_wasDry 25 = .ok (.ireturn, 1) := oc_172 (by decide +kernel)
theorem dX10_wasDry_20 : decode cX10_wasDry 20 = .ok (.iconst 1, 1) := oc_4 (by decide +kernel)
theorem dX10_wasDry_21 : decode cX10_wasDry 21 = .ok (.goto 4, 3) := oc_167 (a := 0) (b := 4) (by decide +kernel)
theorem dX10_wasDry_7 : decode cX10_wasDry 7 = .ok (.iconst (-1), 1) := oc_2 (by decide +kernel)
theorem dX10_wasDry_8 : decode cX10_wasDry 8 = .ok (.ireturn, 1) := oc_172 (by decide +kernel)
theorem dX10_wasRock_0 : decode cX10_wasRock 0 = .ok (.aload_n 0, 1) := oc_42 (by decide +kernel)
theorem dX10_wasRock_1 : decode cX10_wasRock 1 = .ok (.getfield 67, 3) := oc_180 (a := 0) (b := 67) (by decide +kernel)
theorem dX10_wasRock_4 : decode cX10_wasRock 4 = .ok (.ifCond .ne 5, 3) := oc_154 (a := 0) (b := 5) (by decide +kernel)
theorem dX10_wasRock_9 : decode cX10_wasRock 9 = .ok (.aload_n 0, 1) := oc_42 (by decide +kernel)
theorem dX10_wasRock_10 : decode cX10_wasRock 10 = .ok (.getfield 32, 3) := oc_180 (a := 0) (b := 32) (by decide +kernel)
theorem dX10_wasRock_13 : decode cX10_wasRock 13 = .ok (.getfield 195, 3) := oc_180 (a := 0) (b := 195) (by decide +kernel)
theorem dX10_wasRock_16 : decode cX10_wasRock 16 = .ok (.aload_n 0, 1) := oc_42 (by decide +kernel)
theorem dX10_wasRock_17 : decode cX10_wasRock 17 = .ok (.getfield 67, 3) := oc_180 (a := 0) (b := 67) (by decide +kernel)
theorem dX10_wasRock_20 : decode cX10_wasRock 20 = .ok (.iconst 1, 1) := oc_4 (by decide +kernel)
theorem dX10_wasRock_21 : decode cX10_wasRock 21 = .ok (.isub, 1) := oc_100 (by decide +kernel)
theorem dX10_wasRock_22 : decode cX10_wasRock 22 = .ok (.laload, 1) := oc_47 (by decide +kernel)
theorem dX10_wasRock_23 : decode cX10_wasRock 23 = .ok (.iload_n 1, 1) := oc_27 (by decide +kernel)
theorem dX10_wasRock_24 : decode cX10_wasRock 24 = .ok (.invokestatic 226, 3) := oc_184 (a := 0) (b := 226) (by decide +kernel)
theorem dX10_wasRock_27 : decode cX10_wasRock 27 = .ok (.ifCond .eq 7, 3) := oc_153 (a := 0) (b := 7) (by decide +kernel)
theorem dX10_wasRock_34 : decode cX10_wasRock 34 = .ok (.iconst 0, 1) := oc_3 (by decide +kernel)
theorem dX10_wasRock_35 : decode cX10_wasRock 35 = .ok (.ireturn, 1) := oc_172 (by decide +kernel)
theorem dX10_wasRock_30 : decode cX10_wasRock 30 = .ok (.iconst 1, 1) := oc_4 (by decide +kernel)
theorem dX10_wasRock_31 : decode cX10_wasRock 31 = .ok (.goto 4, 3) := oc_167 (a := 0) (b := 4) (by decide +kernel)
theorem dX10_wasRock_7 : decode cX10_wasRock 7 = .ok (.iconst (-1), 1) := oc_2 (by decide +kernel)
theorem dX10_wasRock_8 : decode cX10_wasRock 8 = .ok (.ireturn, 1) := oc_172 (by decide +kernel)
theorem dX10_titleStands_0 : decode cX10_titleStands 0 = .ok (.aload_n 0, 1) := oc_42 (by decide +kernel)
theorem dX10_titleStands_1 : decode cX10_titleStands 1 = .ok (.getfield 18, 3) := oc_180 (a := 0) (b := 18) (by decide +kernel)
theorem dX10_titleStands_4 : decode cX10_titleStands 4 = .ok (.iload_n 1, 1) := oc_27 (by decide +kernel)
theorem dX10_titleStands_5 : decode cX10_titleStands 5 = .ok (.iaload, 1) := oc_46 (by decide +kernel)
theorem dX10_titleStands_6 : decode cX10_titleStands 6 = .ok (.istore_n 2, 1) := oc_61 (by decide +kernel)
theorem dX10_titleStands_7 : decode cX10_titleStands 7 = .ok (.iload_n 2, 1) := oc_28 (by decide +kernel)
theorem dX10_titleStands_8 : decode cX10_titleStands 8 = .ok (.iconst (-1), 1) := oc_2 (by decide +kernel)
theorem dX10_titleStands_9 : decode cX10_titleStands 9 = .ok (.if_icmp .ne 5, 3) := oc_160 (a := 0) (b := 5) (by decide +kernel)
theorem dX10_titleStands_14 : decode cX10_titleStands 14 = .ok (.aload_n 0, 1) := oc_42 (by decide +kernel)
theorem dX10_titleStands_15 : decode cX10_titleStands 15 = .ok (.iload_n 1, 1) := oc_27 (by decide +kernel)
theorem tw_550 : Cond.methodLink RX10 230 yX10_wasDry ∈ wsL_law := sg_23 _ (List.mem_of_getElem? (i := 22) rfl)
theorem tw_551 : Cond.instanceMethod yX10_wasDry ∈ wsL_law := sg_23 _ (List.mem_of_getElem? (i := 23) rfl)
theorem tw_552 : Cond.selects RX10 yX10_wasDry yX10_wasDry ∈ wsL_law := sg_24 _ (List.mem_of_getElem? (i := 0) rfl)
theorem tw_553 : Cond.code yX10_wasDry cX10_wasDry 2 (some .int) ∈ wsL_law := sg_24 _ (List.mem_of_getElem? (i := 1) rfl)
theorem dX10_titleStands_16 : decode cX10_titleStands 16 = .ok (.invokevirtual 230, 3) := oc_182 (a := 0) (b := 230) (by decide +kernel)
theorem dX10_titleStands_50 : decode cX10_titleStands 50 = .ok (.iconst 1, 1) := oc_4 (by decide +kernel)
theorem dX10_titleStands_51 : decode cX10_titleStands 51 = .ok (.goto 4, 3) := oc_167 (a := 0) (b := 4) (by decide +kernel)
theorem dX10_titleStands_55 : decode cX10_titleStands 55 = .ok (.ireturn, 1) := oc_172 (by decide +kernel)
theorem dX10_titleStands_19 : decode cX10_titleStands 19 = .ok (.ifCond .ne 31, 3) := oc_154 (a := 0) (b := 31) (by decide +kernel)
theorem dX10_titleStands_22 : decode cX10_titleStands 22 = .ok (.aload_n 0, 1) := oc_42 (by decide +kernel)
theorem dX10_titleStands_23 : decode cX10_titleStands 23 = .ok (.getfield 46, 3) := oc_180 (a := 0) (b := 46) (by decide +kernel)
theorem dX10_titleStands_26 : decode cX10_titleStands 26 = .ok (.aload_n 0, 1) := oc_42 (by decide +kernel)
theorem dX10_titleStands_27 : decode cX10_titleStands 27 = .ok (.getfield 67, 3) := oc_180 (a := 0) (b := 67) (by decide +kernel)
theorem dX10_titleStands_30 : decode cX10_titleStands 30 = .ok (.aload_n 0, 1) := oc_42 (by decide +kernel)
theorem dX10_titleStands_31 : decode cX10_titleStands 31 = .ok (.getfield 39, 3) := oc_180 (a := 0) (b := 39) (by decide +kernel)
theorem dX10_titleStands_34 : decode cX10_titleStands 34 = .ok (.iload_n 2, 1) := oc_28 (by decide +kernel)
theorem dX10_titleStands_35 : decode cX10_titleStands 35 = .ok (.aload_n 0, 1) := oc_42 (by decide +kernel)
theorem dX10_titleStands_36 : decode cX10_titleStands 36 = .ok (.getfield 32, 3) := oc_180 (a := 0) (b := 32) (by decide +kernel)
theorem tw_549 : Cond.fieldLink RX10 233 "RingsUnder$Land" "under" "[I" ∈ wsL_law := sg_23 _ (List.mem_of_getElem? (i := 21) rfl)
theorem dX10_titleStands_39 : decode cX10_titleStands 39 = .ok (.getfield 233, 3) := oc_180 (a := 0) (b := 233) (by decide +kernel)
theorem dX10_titleStands_42 : decode cX10_titleStands 42 = .ok (.iload_n 1, 1) := oc_27 (by decide +kernel)
theorem dX10_titleStands_43 : decode cX10_titleStands 43 = .ok (.iaload, 1) := oc_46 (by decide +kernel)
theorem tw_561 : Cond.methodLink RX10 236 yX3_lastsFor ∈ wsL_law := sg_24 _ (List.mem_of_getElem? (i := 9) rfl)
theorem tw_562 : Cond.instanceMethod yX3_lastsFor ∈ wsL_law := sg_24 _ (List.mem_of_getElem? (i := 10) rfl)
theorem tw_563 : Cond.selects RX3 yX3_lastsFor yX3_lastsFor ∈ wsL_law := sg_24 _ (List.mem_of_getElem? (i := 11) rfl)
theorem tw_564 : Cond.code yX3_lastsFor cX3_lastsFor 6 (some .boolean) ∈ wsL_law := sg_24 _ (List.mem_of_getElem? (i := 12) rfl)
theorem dX10_titleStands_44 : decode cX10_titleStands 44 = .ok (.invokevirtual 236, 3) := oc_182 (a := 0) (b := 236) (by decide +kernel)
theorem dX10_titleStands_47 : decode cX10_titleStands 47 = .ok (.ifCond .eq 7, 3) := oc_153 (a := 0) (b := 7) (by decide +kernel)
theorem dX10_titleStands_54 : decode cX10_titleStands 54 = .ok (.iconst 0, 1) := oc_3 (by decide +kernel)
theorem dX10_titleStands_12 : decode cX10_titleStands 12 = .ok (.iconst 0, 1) := oc_3 (by decide +kernel)
theorem dX10_titleStands_13 : decode cX10_titleStands 13 = .ok (.ireturn, 1) := oc_172 (by decide +kernel)
theorem dX10_heirOf_0 : decode cX10_heirOf 0 = .ok (.aload_n 0, 1) := oc_42 (by decide +kernel)
theorem dX10_heirOf_1 : decode cX10_heirOf 1 = .ok (.getfield 46, 3) := oc_180 (a := 0) (b := 46) (by decide +kernel)
theorem dX10_heirOf_4 : decode cX10_heirOf 4 = .ok (.iconst 5, 1) := oc_8 (by decide +kernel)
theorem dX10_heirOf_5 : decode cX10_heirOf 5 = .ok (.aload_n 0, 1) := oc_42 (by decide +kernel)
theorem dX10_heirOf_6 : decode cX10_heirOf 6 = .ok (.getfield 67, 3) := oc_180 (a := 0) (b := 67) (by decide +kernel)
theorem dX10_heirOf_9 : decode cX10_heirOf 9 = .ok (.aload_n 0, 1) := oc_42 (by decide +kernel)
theorem dX10_heirOf_10 : decode cX10_heirOf 10 = .ok (.getfield 39, 3) := oc_180 (a := 0) (b := 39) (by decide +kernel)
theorem dX10_heirOf_13 : decode cX10_heirOf 13 = .ok (.aload_n 0, 1) := oc_42 (by decide +kernel)
theorem dX10_heirOf_14 : decode cX10_heirOf 14 = .ok (.getfield 57, 3) := oc_180 (a := 0) (b := 57) (by decide +kernel)
theorem dX10_heirOf_17 : decode cX10_heirOf 17 = .ok (.invokevirtual 134, 3) := oc_182 (a := 0) (b := 134) (by decide +kernel)
theorem dX10_heirOf_20 : decode cX10_heirOf 20 = .ok (.iconst 0, 1) := oc_3 (by decide +kernel)
theorem dX10_heirOf_21 : decode cX10_heirOf 21 = .ok (.istore_n 2, 1) := oc_61 (by decide +kernel)
theorem dX10_heirOf_22 : decode cX10_heirOf 22 = .ok (.iload_n 2, 1) := oc_28 (by decide +kernel)
theorem dX10_heirOf_23 : decode cX10_heirOf 23 = .ok (.aload_n 0, 1) := oc_42 (by decide +kernel)
theorem dX10_heirOf_24 : decode cX10_heirOf 24 = .ok (.getfield 39, 3) := oc_180 (a := 0) (b := 39) (by decide +kernel)
theorem dX10_heirOf_27 : decode cX10_heirOf 27 = .ok (.getfield 146, 3) := oc_180 (a := 0) (b := 146) (by decide +kernel)
theorem dX10_heirOf_30 : decode cX10_heirOf 30 = .ok (.if_icmp .ge 54, 3) := oc_162 (a := 0) (b := 54) (by decide +kernel)
theorem dX10_heirOf_84 : decode cX10_heirOf 84 = .ok (.iconst (-1), 1) := oc_2 (by decide +kernel)
theorem dX10_heirOf_85 : decode cX10_heirOf 85 = .ok (.ireturn, 1) := oc_172 (by decide +kernel)
theorem dX10_heirOf_33 : decode cX10_heirOf 33 = .ok (.aload_n 0, 1) := oc_42 (by decide +kernel)
theorem dX10_heirOf_34 : decode cX10_heirOf 34 = .ok (.getfield 57, 3) := oc_180 (a := 0) (b := 57) (by decide +kernel)
theorem dX10_heirOf_37 : decode cX10_heirOf 37 = .ok (.iload_n 2, 1) := oc_28 (by decide +kernel)
theorem dX10_heirOf_38 : decode cX10_heirOf 38 = .ok (.iaload, 1) := oc_46 (by decide +kernel)
theorem dX10_heirOf_39 : decode cX10_heirOf 39 = .ok (.istore_n 3, 1) := oc_62 (by decide +kernel)
theorem dX10_heirOf_40 : decode cX10_heirOf 40 = .ok (.aload_n 0, 1) := oc_42 (by decide +kernel)
theorem dX10_heirOf_41 : decode cX10_heirOf 41 = .ok (.getfield 39, 3) := oc_180 (a := 0) (b := 39) (by decide +kernel)
theorem tw_459 : Cond.fieldLink RX10 240 "RingsUnder$Folk" "kin" "[I" ∈ wsL_law := sg_20 _ (List.mem_of_getElem? (i := 3) rfl)
theorem dX10_heirOf_44 : decode cX10_heirOf 44 = .ok (.getfield 240, 3) := oc_180 (a := 0) (b := 240) (by decide +kernel)
theorem dX10_heirOf_47 : decode cX10_heirOf 47 = .ok (.iload_n 3, 1) := oc_29 (by decide +kernel)
theorem dX10_heirOf_48 : decode cX10_heirOf 48 = .ok (.iaload, 1) := oc_46 (by decide +kernel)
theorem dX10_heirOf_49 : decode cX10_heirOf 49 = .ok (.aload_n 0, 1) := oc_42 (by decide +kernel)
theorem dX10_heirOf_50 : decode cX10_heirOf 50 = .ok (.getfield 39, 3) := oc_180 (a := 0) (b := 39) (by decide +kernel)
theorem dX10_heirOf_53 : decode cX10_heirOf 53 = .ok (.getfield 240, 3) := oc_180 (a := 0) (b := 240) (by decide +kernel)
theorem dX10_heirOf_56 : decode cX10_heirOf 56 = .ok (.iload_n 1, 1) := oc_27 (by decide +kernel)
theorem dX10_heirOf_57 : decode cX10_heirOf 57 = .ok (.iaload, 1) := oc_46 (by decide +kernel)
theorem dX10_heirOf_78 : decode cX10_heirOf 78 = .ok (.iinc 2 1, 3) := oc_132 (b := 1) (by decide +kernel)
theorem dX10_heirOf_81 : decode cX10_heirOf 81 = .ok (.goto (-59), 3) := oc_167 (a := 255) (b := 197) (by decide +kernel)
theorem dX10_heirOf_58 : decode cX10_heirOf 58 = .ok (.if_icmp .ne 20, 3) := oc_160 (a := 0) (b := 20) (by decide +kernel)
theorem dX10_heirOf_61 : decode cX10_heirOf 61 = .ok (.aload_n 0, 1) := oc_42 (by decide +kernel)
theorem dX10_heirOf_62 : decode cX10_heirOf 62 = .ok (.getfield 39, 3) := oc_180 (a := 0) (b := 39) (by decide +kernel)
theorem tw_460 : Cond.fieldLink RX10 243 "RingsUnder$Folk" "place" "[I" ∈ wsL_law := sg_20 _ (List.mem_of_getElem? (i := 4) rfl)
theorem dX10_heirOf_65 : decode cX10_heirOf 65 = .ok (.getfield 243, 3) := oc_180 (a := 0) (b := 243) (by decide +kernel)
theorem dX10_heirOf_68 : decode cX10_heirOf 68 = .ok (.iload_n 3, 1) := oc_29 (by decide +kernel)
theorem dX10_heirOf_69 : decode cX10_heirOf 69 = .ok (.iaload, 1) := oc_46 (by decide +kernel)
theorem dX10_heirOf_70 : decode cX10_heirOf 70 = .ok (.sipush 300, 3) := oc_17 (a := 1) (b := 44) (by decide +kernel)
theorem dX10_heirOf_73 : decode cX10_heirOf 73 = .ok (.if_icmp .eq 5, 3) := oc_159 (a := 0) (b := 5) (by decide +kernel)
theorem dX10_heirOf_76 : decode cX10_heirOf 76 = .ok (.iload_n 3, 1) := oc_29 (by decide +kernel)
theorem dX10_heirOf_77 : decode cX10_heirOf 77 = .ok (.ireturn, 1) := oc_172 (by decide +kernel)
theorem dX10_passTitles_0 : decode cX10_passTitles 0 = .ok (.iconst 0, 1) := oc_3 (by decide +kernel)
theorem dX10_passTitles_1 : decode cX10_passTitles 1 = .ok (.istore_n 3, 1) := oc_62 (by decide +kernel)
theorem dX10_passTitles_2 : decode cX10_passTitles 2 = .ok (.iconst 0, 1) := oc_3 (by decide +kernel)
theorem dX10_passTitles_3 : decode cX10_passTitles 3 = .ok (.istore 4, 2) := oc_54 (by decide +kernel)
theorem dX10_passTitles_5 : decode cX10_passTitles 5 = .ok (.iload 4, 2) := oc_21 (by decide +kernel)
theorem dX10_passTitles_7 : decode cX10_passTitles 7 = .ok (.aload_n 0, 1) := oc_42 (by decide +kernel)
theorem dX10_passTitles_8 : decode cX10_passTitles 8 = .ok (.getfield 32, 3) := oc_180 (a := 0) (b := 32) (by decide +kernel)
theorem dX10_passTitles_11 : decode cX10_passTitles 11 = .ok (.getfield 104, 3) := oc_180 (a := 0) (b := 104) (by decide +kernel)
theorem dX10_passTitles_14 : decode cX10_passTitles 14 = .ok (.if_icmp .ge 31, 3) := oc_162 (a := 0) (b := 31) (by decide +kernel)
theorem dX10_passTitles_45 : decode cX10_passTitles 45 = .ok (.iload_n 3, 1) := oc_29 (by decide +kernel)
theorem dX10_passTitles_46 : decode cX10_passTitles 46 = .ok (.ireturn, 1) := oc_172 (by decide +kernel)
theorem dX10_passTitles_17 : decode cX10_passTitles 17 = .ok (.aload_n 0, 1) := oc_42 (by decide +kernel)
theorem dX10_passTitles_18 : decode cX10_passTitles 18 = .ok (.getfield 18, 3) := oc_180 (a := 0) (b := 18) (by decide +kernel)
theorem dX10_passTitles_21 : decode cX10_passTitles 21 = .ok (.iload 4, 2) := oc_21 (by decide +kernel)
theorem dX10_passTitles_23 : decode cX10_passTitles 23 = .ok (.iaload, 1) := oc_46 (by decide +kernel)
theorem dX10_passTitles_24 : decode cX10_passTitles 24 = .ok (.iload_n 1, 1) := oc_27 (by decide +kernel)
theorem dX10_passTitles_39 : decode cX10_passTitles 39 = .ok (.iinc 4 1, 3) := oc_132 (b := 1) (by decide +kernel)
theorem dX10_passTitles_42 : decode cX10_passTitles 42 = .ok (.goto (-37), 3) := oc_167 (a := 255) (b := 219) (by decide +kernel)
theorem dX10_passTitles_25 : decode cX10_passTitles 25 = .ok (.if_icmp .ne 14, 3) := oc_160 (a := 0) (b := 14) (by decide +kernel)
theorem dX10_passTitles_28 : decode cX10_passTitles 28 = .ok (.aload_n 0, 1) := oc_42 (by decide +kernel)
theorem dX10_passTitles_29 : decode cX10_passTitles 29 = .ok (.getfield 18, 3) := oc_180 (a := 0) (b := 18) (by decide +kernel)
theorem dX10_passTitles_32 : decode cX10_passTitles 32 = .ok (.iload 4, 2) := oc_21 (by decide +kernel)
theorem dX10_passTitles_34 : decode cX10_passTitles 34 = .ok (.iload_n 2, 1) := oc_28 (by decide +kernel)
theorem dX10_passTitles_35 : decode cX10_passTitles 35 = .ok (.iastore, 1) := oc_79 (by decide +kernel)
theorem dX10_passTitles_36 : decode cX10_passTitles 36 = .ok (.iinc 3 1, 3) := oc_132 (b := 1) (by decide +kernel)
theorem dJ13_bitCount_95d88_0 : decode cJ13_bitCount_95d88 0 = .ok (.lload_n 0, 1) := oc_30 (by decide +kernel)
theorem dJ13_bitCount_95d88_1 : decode cJ13_bitCount_95d88 1 = .ok (.lload_n 0, 1) := oc_30 (by decide +kernel)
theorem dJ13_bitCount_95d88_2 : decode cJ13_bitCount_95d88 2 = .ok (.iconst 1, 1) := oc_4 (by decide +kernel)
theorem dJ13_bitCount_95d88_3 : decode cJ13_bitCount_95d88 3 = .ok (.lushr, 1) := oc_125 (by decide +kernel)
theorem tw_1346 : Cond.constantLong RJ13 314 (6148914691236517205) ∈ wsL_law := sg_57 _ (List.mem_of_getElem? (i := 2) rfl)
theorem dJ13_bitCount_95d88_4 : decode cJ13_bitCount_95d88 4 = .ok (.ldc2_w 314, 3) := oc_20 (a := 1) (b := 58) (by decide +kernel)
theorem dJ13_bitCount_95d88_7 : decode cJ13_bitCount_95d88 7 = .ok (.land, 1) := oc_127 (by decide +kernel)
theorem dJ13_bitCount_95d88_8 : decode cJ13_bitCount_95d88 8 = .ok (.lsub, 1) := oc_101 (by decide +kernel)
theorem dJ13_bitCount_95d88_9 : decode cJ13_bitCount_95d88 9 = .ok (.lstore_n 0, 1) := oc_63 (by decide +kernel)
theorem dJ13_bitCount_95d88_10 : decode cJ13_bitCount_95d88 10 = .ok (.lload_n 0, 1) := oc_30 (by decide +kernel)
theorem tw_1347 : Cond.constantLong RJ13 316 (3689348814741910323) ∈ wsL_law := sg_57 _ (List.mem_of_getElem? (i := 3) rfl)
theorem dJ13_bitCount_95d88_11 : decode cJ13_bitCount_95d88 11 = .ok (.ldc2_w 316, 3) := oc_20 (a := 1) (b := 60) (by decide +kernel)
theorem dJ13_bitCount_95d88_14 : decode cJ13_bitCount_95d88 14 = .ok (.land, 1) := oc_127 (by decide +kernel)
theorem dJ13_bitCount_95d88_15 : decode cJ13_bitCount_95d88 15 = .ok (.lload_n 0, 1) := oc_30 (by decide +kernel)
theorem dJ13_bitCount_95d88_16 : decode cJ13_bitCount_95d88 16 = .ok (.iconst 2, 1) := oc_5 (by decide +kernel)
theorem dJ13_bitCount_95d88_17 : decode cJ13_bitCount_95d88 17 = .ok (.lushr, 1) := oc_125 (by decide +kernel)
theorem dJ13_bitCount_95d88_18 : decode cJ13_bitCount_95d88 18 = .ok (.ldc2_w 316, 3) := oc_20 (a := 1) (b := 60) (by decide +kernel)
theorem dJ13_bitCount_95d88_21 : decode cJ13_bitCount_95d88 21 = .ok (.land, 1) := oc_127 (by decide +kernel)
theorem dJ13_bitCount_95d88_22 : decode cJ13_bitCount_95d88 22 = .ok (.ladd, 1) := oc_97 (by decide +kernel)
theorem dJ13_bitCount_95d88_23 : decode cJ13_bitCount_95d88 23 = .ok (.lstore_n 0, 1) := oc_63 (by decide +kernel)
theorem dJ13_bitCount_95d88_24 : decode cJ13_bitCount_95d88 24 = .ok (.lload_n 0, 1) := oc_30 (by decide +kernel)
theorem dJ13_bitCount_95d88_25 : decode cJ13_bitCount_95d88 25 = .ok (.lload_n 0, 1) := oc_30 (by decide +kernel)
theorem dJ13_bitCount_95d88_26 : decode cJ13_bitCount_95d88 26 = .ok (.iconst 4, 1) := oc_7 (by decide +kernel)
theorem dJ13_bitCount_95d88_27 : decode cJ13_bitCount_95d88 27 = .ok (.lushr, 1) := oc_125 (by decide +kernel)
theorem dJ13_bitCount_95d88_28 : decode cJ13_bitCount_95d88 28 = .ok (.ladd, 1) := oc_97 (by decide +kernel)
theorem tw_1348 : Cond.constantLong RJ13 318 (1085102592571150095) ∈ wsL_law := sg_57 _ (List.mem_of_getElem? (i := 4) rfl)
theorem dJ13_bitCount_95d88_29 : decode cJ13_bitCount_95d88 29 = .ok (.ldc2_w 318, 3) := oc_20 (a := 1) (b := 62) (by decide +kernel)
theorem dJ13_bitCount_95d88_32 : decode cJ13_bitCount_95d88 32 = .ok (.land, 1) := oc_127 (by decide +kernel)
theorem dJ13_bitCount_95d88_33 : decode cJ13_bitCount_95d88 33 = .ok (.lstore_n 0, 1) := oc_63 (by decide +kernel)
theorem dJ13_bitCount_95d88_34 : decode cJ13_bitCount_95d88 34 = .ok (.lload_n 0, 1) := oc_30 (by decide +kernel)
theorem dJ13_bitCount_95d88_35 : decode cJ13_bitCount_95d88 35 = .ok (.lload_n 0, 1) := oc_30 (by decide +kernel)
theorem dJ13_bitCount_95d88_36 : decode cJ13_bitCount_95d88 36 = .ok (.bipush 8, 2) := oc_16 (a := 8) (by decide +kernel)
theorem dJ13_bitCount_95d88_38 : decode cJ13_bitCount_95d88 38 = .ok (.lushr, 1) := oc_125 (by decide +kernel)
theorem dJ13_bitCount_95d88_39 : decode cJ13_bitCount_95d88 39 = .ok (.ladd, 1) := oc_97 (by decide +kernel)
theorem dJ13_bitCount_95d88_40 : decode cJ13_bitCount_95d88 40 = .ok (.lstore_n 0, 1) := oc_63 (by decide +kernel)
theorem dJ13_bitCount_95d88_41 : decode cJ13_bitCount_95d88 41 = .ok (.lload_n 0, 1) := oc_30 (by decide +kernel)
theorem dJ13_bitCount_95d88_42 : decode cJ13_bitCount_95d88 42 = .ok (.lload_n 0, 1) := oc_30 (by decide +kernel)
theorem dJ13_bitCount_95d88_43 : decode cJ13_bitCount_95d88 43 = .ok (.bipush 16, 2) := oc_16 (a := 16) (by decide +kernel)
theorem dJ13_bitCount_95d88_45 : decode cJ13_bitCount_95d88 45 = .ok (.lushr, 1) := oc_125 (by decide +kernel)
theorem dJ13_bitCount_95d88_46 : decode cJ13_bitCount_95d88 46 = .ok (.ladd, 1) := oc_97 (by decide +kernel)
theorem dJ13_bitCount_95d88_47 : decode cJ13_bitCount_95d88 47 = .ok (.lstore_n 0, 1) := oc_63 (by decide +kernel)
theorem dJ13_bitCount_95d88_48 : decode cJ13_bitCount_95d88 48 = .ok (.lload_n 0, 1) := oc_30 (by decide +kernel)
theorem dJ13_bitCount_95d88_49 : decode cJ13_bitCount_95d88 49 = .ok (.lload_n 0, 1) := oc_30 (by decide +kernel)
theorem dJ13_bitCount_95d88_50 : decode cJ13_bitCount_95d88 50 = .ok (.bipush 32, 2) := oc_16 (a := 32) (by decide +kernel)
theorem dJ13_bitCount_95d88_52 : decode cJ13_bitCount_95d88 52 = .ok (.lushr, 1) := oc_125 (by decide +kernel)
theorem dJ13_bitCount_95d88_53 : decode cJ13_bitCount_95d88 53 = .ok (.ladd, 1) := oc_97 (by decide +kernel)
theorem dJ13_bitCount_95d88_54 : decode cJ13_bitCount_95d88 54 = .ok (.lstore_n 0, 1) := oc_63 (by decide +kernel)
theorem dJ13_bitCount_95d88_55 : decode cJ13_bitCount_95d88 55 = .ok (.lload_n 0, 1) := oc_30 (by decide +kernel)
theorem dJ13_bitCount_95d88_56 : decode cJ13_bitCount_95d88 56 = .ok (.l2i, 1) := oc_136 (by decide +kernel)
theorem dJ13_bitCount_95d88_57 : decode cJ13_bitCount_95d88 57 = .ok (.bipush 127, 2) := oc_16 (a := 127) (by decide +kernel)
theorem dJ13_bitCount_95d88_59 : decode cJ13_bitCount_95d88 59 = .ok (.iand, 1) := oc_126 (by decide +kernel)
theorem dJ13_bitCount_95d88_60 : decode cJ13_bitCount_95d88 60 = .ok (.ireturn, 1) := oc_172 (by decide +kernel)
theorem dX10_decide_0 : decode cX10_decide 0 = .ok (.aload_n 0, 1) := oc_42 (by decide +kernel)
theorem dX10_decide_1 : decode cX10_decide 1 = .ok (.getfield 39, 3) := oc_180 (a := 0) (b := 39) (by decide +kernel)
theorem tw_1338 : Cond.methodLink RX10 246 yX0_notDead ∈ wsL_law := sg_56 _ (List.mem_of_getElem? (i := 18) rfl)
theorem tw_1339 : Cond.instanceMethod yX0_notDead ∈ wsL_law := sg_56 _ (List.mem_of_getElem? (i := 19) rfl)
theorem tw_1340 : Cond.selects RX0 yX0_notDead yX0_notDead ∈ wsL_law := sg_56 _ (List.mem_of_getElem? (i := 20) rfl)
theorem tw_1341 : Cond.code yX0_notDead cX0_notDead 4 (some .long) ∈ wsL_law := sg_56 _ (List.mem_of_getElem? (i := 21) rfl)
theorem dX10_decide_4 : decode cX10_decide 4 = .ok (.invokevirtual 246, 3) := oc_182 (a := 0) (b := 246) (by decide +kernel)
theorem dX10_decide_7 : decode cX10_decide 7 = .ok (.lstore_n 3, 1) := oc_66 (by decide +kernel)
theorem dX10_decide_8 : decode cX10_decide 8 = .ok (.aload_n 0, 1) := oc_42 (by decide +kernel)
theorem dX10_decide_9 : decode cX10_decide 9 = .ok (.getfield 46, 3) := oc_180 (a := 0) (b := 46) (by decide +kernel)
theorem dX10_decide_12 : decode cX10_decide 12 = .ok (.iconst 1, 1) := oc_4 (by decide +kernel)
theorem dX10_decide_13 : decode cX10_decide 13 = .ok (.aload_n 0, 1) := oc_42 (by decide +kernel)
theorem dX10_decide_14 : decode cX10_decide 14 = .ok (.getfield 67, 3) := oc_180 (a := 0) (b := 67) (by decide +kernel)
theorem dX10_decide_17 : decode cX10_decide 17 = .ok (.aload_n 0, 1) := oc_42 (by decide +kernel)
theorem dX10_decide_18 : decode cX10_decide 18 = .ok (.getfield 39, 3) := oc_180 (a := 0) (b := 39) (by decide +kernel)
theorem dX10_decide_21 : decode cX10_decide 21 = .ok (.lload_n 3, 1) := oc_33 (by decide +kernel)
theorem dX10_decide_22 : decode cX10_decide 22 = .ok (.invokevirtual 142, 3) := oc_182 (a := 0) (b := 142) (by decide +kernel)
theorem dX10_decide_25 : decode cX10_decide 25 = .ok (.aload_n 0, 1) := oc_42 (by decide +kernel)
theorem dX10_decide_26 : decode cX10_decide 26 = .ok (.getfield 46, 3) := oc_180 (a := 0) (b := 46) (by decide +kernel)
theorem dX10_decide_29 : decode cX10_decide 29 = .ok (.iconst 3, 1) := oc_6 (by decide +kernel)
theorem dX10_decide_30 : decode cX10_decide 30 = .ok (.aload_n 0, 1) := oc_42 (by decide +kernel)
theorem dX10_decide_31 : decode cX10_decide 31 = .ok (.getfield 67, 3) := oc_180 (a := 0) (b := 67) (by decide +kernel)
theorem dX10_decide_34 : decode cX10_decide 34 = .ok (.aload_n 0, 1) := oc_42 (by decide +kernel)
theorem dX10_decide_35 : decode cX10_decide 35 = .ok (.getfield 39, 3) := oc_180 (a := 0) (b := 39) (by decide +kernel)
theorem dX10_decide_38 : decode cX10_decide 38 = .ok (.lload_n 3, 1) := oc_33 (by decide +kernel)
theorem dX10_decide_39 : decode cX10_decide 39 = .ok (.invokevirtual 142, 3) := oc_182 (a := 0) (b := 142) (by decide +kernel)
theorem dX10_decide_42 : decode cX10_decide 42 = .ok (.land, 1) := oc_127 (by decide +kernel)
theorem dX10_decide_43 : decode cX10_decide 43 = .ok (.lstore 5, 2) := oc_55 (by decide +kernel)
theorem dX10_decide_45 : decode cX10_decide 45 = .ok (.lload 5, 2) := oc_22 (by decide +kernel)
theorem dX10_decide_47 : decode cX10_decide 47 = .ok (.lload_n 1, 1) := oc_31 (by decide +kernel)
theorem dX10_decide_48 : decode cX10_decide 48 = .ok (.land, 1) := oc_127 (by decide +kernel)
theorem tw_1342 : Cond.methodLink RX10 249 yJ13_bitCount_95d88 ∈ wsL_law := sg_56 _ (List.mem_of_getElem? (i := 22) rfl)
theorem tw_1343 : Cond.static yJ13_bitCount_95d88 ∈ wsL_law := sg_56 _ (List.mem_of_getElem? (i := 23) rfl)
theorem tw_1344 : Cond.initialized RJ13 ∈ wsL_law := sg_57 _ (List.mem_of_getElem? (i := 0) rfl)
theorem tw_1345 : Cond.code yJ13_bitCount_95d88 cJ13_bitCount_95d88 2 (some .int) ∈ wsL_law := sg_57 _ (List.mem_of_getElem? (i := 1) rfl)
theorem dX10_decide_49 : decode cX10_decide 49 = .ok (.invokestatic 249, 3) := oc_184 (a := 0) (b := 249) (by decide +kernel)
theorem dX10_decide_52 : decode cX10_decide 52 = .ok (.istore 7, 2) := oc_54 (by decide +kernel)
theorem dX10_decide_54 : decode cX10_decide 54 = .ok (.bipush 100, 2) := oc_16 (a := 100) (by decide +kernel)
theorem dX10_decide_56 : decode cX10_decide 56 = .ok (.iload 7, 2) := oc_21 (by decide +kernel)
theorem dX10_decide_58 : decode cX10_decide 58 = .ok (.imul, 1) := oc_104 (by decide +kernel)
theorem dX10_decide_59 : decode cX10_decide 59 = .ok (.aload_n 0, 1) := oc_42 (by decide +kernel)
theorem dX10_decide_60 : decode cX10_decide 60 = .ok (.getfield 46, 3) := oc_180 (a := 0) (b := 46) (by decide +kernel)
theorem dX10_decide_63 : decode cX10_decide 63 = .ok (.aload_n 0, 1) := oc_42 (by decide +kernel)
theorem dX10_decide_64 : decode cX10_decide 64 = .ok (.getfield 67, 3) := oc_180 (a := 0) (b := 67) (by decide +kernel)
theorem tw_1349 : Cond.methodLink RX10 255 yX3_councilIn ∈ wsL_law := sg_57 _ (List.mem_of_getElem? (i := 5) rfl)
theorem tw_992 : Cond.instanceMethod yX3_councilIn ∈ wsL_law := sg_42 _ (List.mem_of_getElem? (i := 8) rfl)
theorem tw_993 : Cond.selects RX3 yX3_councilIn yX3_councilIn ∈ wsL_law := sg_42 _ (List.mem_of_getElem? (i := 9) rfl)
theorem tw_994 : Cond.code yX3_councilIn cX3_councilIn 2 (some .int) ∈ wsL_law := sg_42 _ (List.mem_of_getElem? (i := 10) rfl)
theorem dX10_decide_67 : decode cX10_decide 67 = .ok (.invokevirtual 255, 3) := oc_182 (a := 0) (b := 255) (by decide +kernel)
theorem dX10_decide_70 : decode cX10_decide 70 = .ok (.lload 5, 2) := oc_22 (by decide +kernel)
theorem dX10_decide_72 : decode cX10_decide 72 = .ok (.invokestatic 249, 3) := oc_184 (a := 0) (b := 249) (by decide +kernel)
theorem dX10_decide_75 : decode cX10_decide 75 = .ok (.imul, 1) := oc_104 (by decide +kernel)
theorem dX10_decide_76 : decode cX10_decide 76 = .ok (.if_icmp .ge 5, 3) := oc_162 (a := 0) (b := 5) (by decide +kernel)
theorem dX10_decide_81 : decode cX10_decide 81 = .ok (.aload_n 0, 1) := oc_42 (by decide +kernel)
theorem dX10_decide_82 : decode cX10_decide 82 = .ok (.getfield 39, 3) := oc_180 (a := 0) (b := 39) (by decide +kernel)
theorem dX10_decide_85 : decode cX10_decide 85 = .ok (.lload 5, 2) := oc_22 (by decide +kernel)
theorem dX10_decide_87 : decode cX10_decide 87 = .ok (.lload_n 1, 1) := oc_31 (by decide +kernel)
theorem dX10_decide_88 : decode cX10_decide 88 = .ok (.land, 1) := oc_127 (by decide +kernel)
theorem dX10_decide_89 : decode cX10_decide 89 = .ok (.iconst 1, 1) := oc_4 (by decide +kernel)
theorem tw_1350 : Cond.methodLink RX10 258 yX0_countVotes ∈ wsL_law := sg_57 _ (List.mem_of_getElem? (i := 6) rfl)
theorem tw_1351 : Cond.instanceMethod yX0_countVotes ∈ wsL_law := sg_57 _ (List.mem_of_getElem? (i := 7) rfl)
theorem tw_1352 : Cond.selects RX0 yX0_countVotes yX0_countVotes ∈ wsL_law := sg_57 _ (List.mem_of_getElem? (i := 8) rfl)
theorem tw_1353 : Cond.code yX0_countVotes cX0_countVotes 6 (some .int) ∈ wsL_law := sg_57 _ (List.mem_of_getElem? (i := 9) rfl)
theorem dX10_decide_90 : decode cX10_decide 90 = .ok (.invokevirtual 258, 3) := oc_182 (a := 1) (b := 2) (by decide +kernel)
theorem dX10_decide_93 : decode cX10_decide 93 = .ok (.aload_n 0, 1) := oc_42 (by decide +kernel)
theorem dX10_decide_94 : decode cX10_decide 94 = .ok (.getfield 39, 3) := oc_180 (a := 0) (b := 39) (by decide +kernel)
theorem dX10_decide_97 : decode cX10_decide 97 = .ok (.lload 5, 2) := oc_22 (by decide +kernel)
theorem dX10_decide_99 : decode cX10_decide 99 = .ok (.lload_n 1, 1) := oc_31 (by decide +kernel)
theorem dX10_decide_100 : decode cX10_decide 100 = .ok (.land, 1) := oc_127 (by decide +kernel)
theorem dX10_decide_101 : decode cX10_decide 101 = .ok (.iconst 0, 1) := oc_3 (by decide +kernel)
theorem dX10_decide_102 : decode cX10_decide 102 = .ok (.invokevirtual 258, 3) := oc_182 (a := 1) (b := 2) (by decide +kernel)
theorem dX10_decide_105 : decode cX10_decide 105 = .ok (.if_icmp .le 7, 3) := oc_164 (a := 0) (b := 7) (by decide +kernel)
theorem dX10_decide_112 : decode cX10_decide 112 = .ok (.iconst 0, 1) := oc_3 (by decide +kernel)
theorem dX10_decide_113 : decode cX10_decide 113 = .ok (.ireturn, 1) := oc_172 (by decide +kernel)
theorem dX10_decide_108 : decode cX10_decide 108 = .ok (.iconst 1, 1) := oc_4 (by decide +kernel)
theorem dX10_decide_109 : decode cX10_decide 109 = .ok (.goto 4, 3) := oc_167 (a := 0) (b := 4) (by decide +kernel)
theorem dX10_decide_79 : decode cX10_decide 79 = .ok (.iconst 2, 1) := oc_5 (by decide +kernel)
theorem dX10_decide_80 : decode cX10_decide 80 = .ok (.ireturn, 1) := oc_172 (by decide +kernel)
set_option maxHeartbeats 4000000 in
set_option maxRecDepth 100000 in
theorem s_X0_board_331 (l : Launch) (D : va_G) (t : pq_T) (σ : pq_S) (I : Nat → Nat → Int32) (J : Nat → Nat → Int64) (ri : Nat → Nat → Int32) (rj : Nat → Nat → Int64) (rq : Nat → Nat → Option Nat) (sz : Nat) (tg : Nat → Nat) (hSH : SH σ tg) (hG0 : GS tg σ I ri rq) (this : Nat) (a0 : Int64) (a1 : Nat) (a2 : Int32) (a3 : Int32) (a4 : Int32) (hL_this : this ∈ σ.1) (hK_this : σ.2.1 this = 0) (hL_a1 : a1 ∈ σ.1) (hK_a1 : σ.2.1 a1 = 13) (hN_a1 : σ.2.2.2 a1 = 40) (hT_a1 : tg a1 = 331) : MetV l yX0_board (wa yX0_board cX0_board 11 none) ({ frames := 2, cells := 0, slots := 0, locals := 45 }) [.ref this, .long a0, .ref a1, .int a2, .int a3, .int a4] D t σ (I, J, ri, rj, rq) sz 0 0 (fun (u : pq_S × pq_M) => ∃ ri' : Nat → Nat → Int32, u = (σ, I, J, ri', rj, rq) ∧ GX [1005] tg σ I ri rj I ri' rj rq) := by
  refine Met.ofW (cc := cX0_board) (maxL := 11) (ret := none) (by decide) rfl ?_
  intro p e s m args below meth c s₁ B hml hv
  obtain ⟨rfl, hsz, hP, hK, hD0, hN⟩ := hv
  have hx := B.exec
  have hb := B.bytes
  have hr := B.returns
  have hts := atoms_spec (ws := (wa yX0_board cX0_board 11 none)) B.pre
  have hown : s.vm.findClass RX0 = some m.cls := findClass_of_methodNamed B.named
  have hlocks := B.notSynchronized
  subst hsz
  have hD : va_D (pq_B t σ (I, J, ri, rj, rq) s.heap.size) (pq_P t σ (I, J, ri, rj, rq)) := hD0.self
  generalize hAe : pq_B t σ (I, J, ri, rj, rq) s.heap.size = A at hD ⊢
  have hA : ∀ q : Nat, s.heap.size ≤ q → A q := fun q h => by rw [← hAe]; exact Or.inr h
  have hS : va_S A s.heap s.heap [] := va_S.rf
  have hG : GX [1005] tg σ I ri rj I ri rj rq := ⟨hG0, fun _ _ _ => rfl, fun _ _ _ _ _ => rfl, fun _ _ _ _ _ => rfl⟩
  have hl := lv_entry ([.ref this, .long a0, .ref a1, .int a2, .int a3, .int a4]) (n := 11) (Nat.le_of_ble_eq_true rfl)
  rw [lg_entry_eq]
  generalize (lg_sl ([.ref this, .long a0, .ref a1, .int a2, .int a3, .int a4]) ++ List.replicate (11 - (lg_sl ([.ref this, .long a0, .ref a1, .int a2, .int a3, .int a4])).length) Slot.unset).toArray = ls at hl ⊢
  have hl : lv_has ls 11 [(0, .ref this), (1, .long a0), (3, .ref a1), (4, .int a2), (5, .int a3), (6, .int a4)] := hl
  refine q_gen (fun Q hQ => ?_)
  have go : ∀ (H : Heap) (locs : List Loc) (ls : Array Slot), va_P D vwCl (pq_P t σ (I, J, ri, rj, rq)) H → va_D A (pq_P t σ (I, J, ri, rj, rq)) → va_S A s.heap H locs → lv_has ls 11 [(0, .ref this), (1, .long a0), (3, .ref a1), (4, .int a2), (5, .int a3), (6, .int a4)] → W p l e ({ frames := 2, cells := 0, slots := 0, locals := 45 } : Room) s m (List.toArray ([.ref this, .long a0, .ref a1, .int a2, .int a3, .int a4] : List Value)) below meth c H locs 0 0 Q (F0 m 0 ls []) := by
    intro H locs ls hP hD hS hl
    refine lv_aload_n hx hb dX0_board_0 rfl (lv_at hl 0 rfl) ?_
    refine lv_lload_n hx hb dX0_board_1 rfl (lv_at hl 1 rfl) ?_
    refine pk_v (va_runV (As := [.long a0]) (rest := []) ⟨hx, hb, hml, hown, hts⟩ (s_X0_countGroups l D t σ I J ri rj rq H.size tg hSH hG.1 this a0 hL_this hK_this) (cwV 1 hts (tw_V tw_1172 tw_1173 tw_1174 tw_45 tw_1175) rfl rfl rfl cv_yX0_countGroups_1 ⟨Nat.le_of_ble_eq_true rfl, Nat.le_of_ble_eq_true rfl⟩) ⟨pq_blind, pq_recv hK hP hL_this hK_this (by decide) rfl, pq_pre hK hN hP hD⟩ rfl rfl hl.1 rfl (lv_room (Nat.le_of_ble_eq_true rfl)) dX0_board_2 ⟨Nat.le_of_ble_eq_true rfl, Nat.le_of_ble_eq_true rfl⟩) hD hS hA (fun σ1 μ1 H locs hw_2 hP hD hS => ?_)
    obtain ⟨ri_3, hu_4, hg_5⟩ := hw_2
    obtain ⟨hu_4a, hu_4b⟩ := Prod.mk.inj hu_4
    rw [hu_4a, hu_4b] at hP hD
    have hG := GX.tr hG hg_5 (by decide)
    refine lv_iconst (v := 0) hx hb dX0_board_5 (by decide) ?_
    refine lv_istore (lv' := [(7, .int 0), (0, .ref this), (1, .long a0), (3, .ref a1), (4, .int a2), (5, .int a3), (6, .int a4)]) hx hb dX0_board_6 hl (by decide) rfl (fun ls hl => ?_)
    have L_7881 : ∀ (n_7880 : Nat) (x_6754 : Int32) (ri_6755 : Nat → Nat → Int32) (H : Heap) (locs : List Loc) (ls : Array Slot), rg x_6754 0 5 → (5 - (x_6754).toInt).toNat < n_7880 → GX [1005] tg σ I ri rj I ri_6755 rj rq → va_P D vwCl (pq_P t σ (I, J, ri_6755, rj, rq)) H → va_D A (pq_P t σ (I, J, ri_6755, rj, rq)) → va_S A s.heap H locs → lv_has ls 11 [(0, .ref this), (1, .long a0), (3, .ref a1), (4, .int a2), (5, .int a3), (6, .int a4), (7, .int x_6754)] → W p l e ({ frames := 2, cells := 0, slots := 0, locals := 45 } : Room) s m (List.toArray ([.ref this, .long a0, .ref a1, .int a2, .int a3, .int a4] : List Value)) below meth c H locs 0 0 Q (F0 m 8 ls []) := by
      intro n_7880
      induction n_7880 with
      | zero => intro x_6754 ri_6755 H locs ls h_7884 hm_7879 hG hP hD hS hl; exact absurd hm_7879 (Nat.not_lt_zero _)
      | succ n_7880 ih_7882 =>
        intro x_6754 ri_6755 H locs ls h_7884 hm_7879 hG hP hD hS hl
        refine lv_iload hx hb dX0_board_8 (lv_at hl 6 rfl) ?_
        refine lv_aload_n hx hb dX0_board_10 rfl (lv_at hl 0 rfl) ?_
        refine pg_f (v := .int (I 10 this)) (C := RX0) (T := TX0) (N := 16) hx hb hts (tw_i inlX0) hown hK hP hL_this hK_this (by decide) rfl 10 (by decide) (hts _ (tw_c tw_1171)) rfl dX0_board_11 ?_
        have h_7885 : rg (I 10 this) 0 5 := GX.rI hG 10 rfl
        refine lv_icmp_ge (tgt := 36) hx hb dX0_board_14 (by decide) (fun c_7886 => ?_) (fun c_7886 => ?_)
        · refine lv_iload hx hb dX0_board_36 (lv_at hl 4 rfl) ?_
          refine lv_istore (lv' := [(7, .int a3), (0, .ref this), (1, .long a0), (3, .ref a1), (4, .int a2), (5, .int a3), (6, .int a4)]) hx hb dX0_board_38 hl (by decide) rfl (fun ls hl => ?_)
          refine lv_iconst (v := 0) hx hb dX0_board_40 (by decide) ?_
          refine lv_istore (lv' := [(8, .int 0), (7, .int a3), (0, .ref this), (1, .long a0), (3, .ref a1), (4, .int a2), (5, .int a3), (6, .int a4)]) hx hb dX0_board_41 hl (by decide) rfl (fun ls hl => ?_)
          have L_8918 : ∀ (n_8917 : Nat) (x_8835 : Int32) (x_8836 : Int32) (ri_8837 : Nat → Nat → Int32) (H : Heap) (locs : List Loc) (ls : Array Slot), rg x_8836 0 40 → (40 - (x_8836).toInt).toNat < n_8917 → GX [1005] tg σ I ri rj I ri_8837 rj rq → va_P D vwCl (pq_P t σ (I, J, ri_8837, rj, rq)) H → va_D A (pq_P t σ (I, J, ri_8837, rj, rq)) → va_S A s.heap H locs → lv_has ls 11 [(0, .ref this), (1, .long a0), (3, .ref a1), (4, .int a2), (6, .int a4), (7, .int x_8835), (8, .int x_8836)] → W p l e ({ frames := 2, cells := 0, slots := 0, locals := 45 } : Room) s m (List.toArray ([.ref this, .long a0, .ref a1, .int a2, .int a3, .int a4] : List Value)) below meth c H locs 0 0 Q (F0 m 43 ls []) := by
            intro n_8917
            induction n_8917 with
            | zero => intro x_8835 x_8836 ri_8837 H locs ls h_8921 hm_8916 hG hP hD hS hl; exact absurd hm_8916 (Nat.not_lt_zero _)
            | succ n_8917 ih_8919 =>
              intro x_8835 x_8836 ri_8837 H locs ls h_8921 hm_8916 hG hP hD hS hl
              refine lv_iload hx hb dX0_board_43 (lv_at hl 6 rfl) ?_
              refine lv_iload hx hb dX0_board_45 (lv_at hl 3 rfl) ?_
              refine lv_icmp_ge (tgt := 208) hx hb dX0_board_47 (by decide) (fun c_8922 => ?_) (fun c_8922 => ?_)
              · have h_8923 : rg a2 (-2147483648) 40 := rg_le1 c_8922 (rg_full _) h_8921 (by decide)
                subst hQ
                exact W.vret hx hb hr (fun t1 ht hW => ⟨⟨(σ, I, J, ri_8837, rj, rq), rfl, ⟨ri_8837, rfl, hG⟩, by rw [ht]; exact hP, va_K.moved hW.alike hK, hD⟩, hS.F ht⟩) hS.2.2 dX0_board_208
              · have h_8924 : rg a2 1 2147483647 := rg_lt2 (nle c_8922) h_8921 (rg_full _) (by decide)
                refine lv_iload hx hb dX0_board_50 (lv_at hl 6 rfl) ?_
                refine lv_aload_n hx hb dX0_board_52 rfl (lv_at hl 2 rfl) ?_
                refine pn_i (v := 40) hx hb hK hP hL_a1 hK_a1 hN_a1 (by decide) dX0_board_53 ?_
                refine lv_icmp_ge (tgt := 208) hx hb dX0_board_54 (by decide) (fun c_8925 => ?_) (fun c_8925 => ?_)
                · have h_8926 : rg x_8836 40 40 := rg_le2 c_8925 (rg_k (40 : Int32) 40 rfl) h_8921 (by decide)
                  subst hQ
                  exact W.vret hx hb hr (fun t1 ht hW => ⟨⟨(σ, I, J, ri_8837, rj, rq), rfl, ⟨ri_8837, rfl, hG⟩, by rw [ht]; exact hP, va_K.moved hW.alike hK, hD⟩, hS.F ht⟩) hS.2.2 dX0_board_208
                · have h_8927 : rg x_8836 0 39 := rg_lt1 (nle c_8925) h_8921 (rg_k (40 : Int32) 40 rfl) (by decide)
                  refine lv_aload_n hx hb dX0_board_57 rfl (lv_at hl 2 rfl) ?_
                  refine lv_iload hx hb dX0_board_58 (lv_at hl 6 rfl) ?_
                  refine pl_i hx hb hK hP hL_a1 hK_a1 hN_a1 (rg_in h_8927 (by decide)) dX0_board_60 ?_
                  refine lv_topi (fun x_8928 ex_8928 => ?_)
                  have h_8929 : rg x_8928 0 39 := rg_of_eq ex_8928 (GX.rR hG hT_a1 rfl)
                  refine lv_istore (lv' := [(9, .int x_8928), (0, .ref this), (1, .long a0), (3, .ref a1), (4, .int a2), (6, .int a4), (7, .int x_8835), (8, .int x_8836)]) hx hb dX0_board_61 hl (by decide) rfl (fun ls hl => ?_)
                  refine lv_lload_n hx hb dX0_board_63 rfl (lv_at hl 2 rfl) ?_
                  refine lv_iload hx hb dX0_board_64 (lv_at hl 0 rfl) ?_
                  refine pk_i (va_runSN (As := [.long a0, .int x_8928]) (rest := []) ⟨hx, hb, hml, hown, hts⟩ (s_X11_hasBit l D t σ I J ri_8837 rj rq H.size tg hSH hG.1 a0 x_8928) ⟨va_cnB (host := "RingsUnder") 2 hts (tw_W tw_560) rfl rfl rfl (nl_13 hN) (hts _ (tw_c tw_2)) cd_yX11_hasBit_2 ⟨Nat.le_of_ble_eq_true rfl, Nat.le_of_ble_eq_true rfl⟩, hts (.static yX11_hasBit) (tw_c tq_static_yX11_hasBit), trivial⟩ ⟨pq_blind, pq_pre hK hN hP hD⟩ rfl rfl hl.1 rfl (lv_room (Nat.le_of_ble_eq_true rfl)) dX0_board_66 ⟨Nat.le_of_ble_eq_true rfl, Nat.le_of_ble_eq_true rfl⟩) hD hS hA (fun x_8930 σ1 μ1 H locs hw_8931 hP hD hS => ?_)
                  obtain ⟨hu_8932, hr_8934⟩ := hw_8931
                  obtain ⟨hu_8932a, hu_8932b⟩ := Prod.mk.inj hu_8932
                  rw [hu_8932a, hu_8932b] at hP hD
                  have h_8935 : rg x_8930 0 1 := by rcases hr_8934 with ⟨q, -⟩ | ⟨q, -⟩ <;> rw [q] <;> exact ⟨by decide, by decide⟩
                  have K_8999 : ∀  (x_8995 : Int32) (ri_8996 : Nat → Nat → Int32) (H : Heap) (locs : List Loc) (ls : Array Slot), GX [1005] tg σ I ri rj I ri_8996 rj rq → va_P D vwCl (pq_P t σ (I, J, ri_8996, rj, rq)) H → va_D A (pq_P t σ (I, J, ri_8996, rj, rq)) → va_S A s.heap H locs → lv_has ls 11 [(0, .ref this), (1, .long a0), (3, .ref a1), (4, .int a2), (6, .int a4), (7, .int x_8995), (8, .int x_8836)] → W p l e ({ frames := 2, cells := 0, slots := 0, locals := 45 } : Room) s m (List.toArray ([.ref this, .long a0, .ref a1, .int a2, .int a3, .int a4] : List Value)) below meth c H locs 0 0 Q (F0 m 202 ls []) := by
                    intro x_8995 ri_8996 H locs ls hG hP hD hS hl
                    obtain ⟨x_9000, ex_9000⟩ : ∃ y : Int32, y = x_8836 + Int32.ofInt 1 := ⟨_, rfl⟩
                    have h_9001 : rg x_9000 1 40 := rg_of_eq ex_9000 (rg_add h_8927 (rg_k (Int32.ofInt 1) 1 rfl) (by decide))
                    refine lv_iinc (v := x_9000) (lv' := [(8, .int x_9000), (0, .ref this), (1, .long a0), (3, .ref a1), (4, .int a2), (6, .int a4), (7, .int x_8995)]) hx hb dX0_board_202 hl (k := 6) rfl ex_9000.symm (by decide) rfl (fun ls hl => ?_)
                    refine lv_goto (tgt := 43) hx hb dX0_board_205 (by decide) ?_
                    exact ih_8919 x_8995 x_9000 ri_8996 _ _ _ (rg_w h_9001 (by decide)) (ms_up 1 hm_8916 ex_9000 rfl (by decide) h_8927 (by decide) (by decide)) hG hP hD hS (lv_sub hl [1, 2, 3, 4, 5, 6, 0] rfl)
                  refine lv_if_eq (tgt := 202) hx hb dX0_board_69 (by decide) (fun c_9002 => ?_) (fun c_9002 => ?_)
                  · have h_9003 : rg x_8930 0 0 := rg_and h_8935 (rg_of_eq c_9002 (rg_k (0 : Int32) 0 rfl)) (by decide)
                    exact K_8999 x_8835 ri_8837 _ _ _ hG hP hD hS (lv_sub hl [1, 2, 3, 4, 5, 6, 7] rfl)
                  · have h_9004 : rg x_8930 1 1 := rg_ne c_9002 h_8935 0 rfl (by decide)
                    refine lv_aload_n hx hb dX0_board_72 rfl (lv_at hl 1 rfl) ?_
                    refine lv_iload hx hb dX0_board_73 (lv_at hl 0 rfl) ?_
                    obtain ⟨w_9005, hR_w_9005, hL_w_9005, hK_w_9005, hN_w_9005, hT_w_9005⟩ := sh_a hSH 5 (ci := 0) (kd := 13) (len := 40) rfl (by decide) hL_this hK_this
                    refine pk_i (va_runV (As := [.int x_8928]) (rest := []) ⟨hx, hb, hml, hown, hts⟩ (s_X0_isOnRing l D t σ I J ri_8837 rj rq H.size tg hSH hG.1 this x_8928 hL_this hK_this (rg_w h_8929 (by decide)) w_9005 hR_w_9005 hL_w_9005 hK_w_9005 hN_w_9005 hT_w_9005) (cwV 1 hts (tw_V tw_1108 tw_1109 tw_1110 tw_45 tw_1111) rfl rfl rfl cv_yX0_isOnRing_1 ⟨Nat.le_of_ble_eq_true rfl, Nat.le_of_ble_eq_true rfl⟩) ⟨pq_blind, pq_recv hK hP hL_this hK_this (by decide) rfl, pq_pre hK hN hP hD⟩ rfl rfl hl.1 rfl (lv_room (Nat.le_of_ble_eq_true rfl)) dX0_board_75 ⟨Nat.le_of_ble_eq_true rfl, Nat.le_of_ble_eq_true rfl⟩) hD hS hA (fun x_9006 σ1 μ1 H locs hw_9007 hP hD hS => ?_)
                    obtain ⟨hu_9008, hr_9010⟩ := hw_9007
                    obtain ⟨hu_9008a, hu_9008b⟩ := Prod.mk.inj hu_9008
                    rw [hu_9008a, hu_9008b] at hP hD
                    have h_9011 : rg x_9006 0 1 := by rcases hr_9010 with ⟨q, -⟩ | ⟨q, -⟩ <;> rw [q] <;> exact ⟨by decide, by decide⟩
                    refine lv_if_ne (tgt := 84) hx hb dX0_board_78 (by decide) (fun c_9012 => ?_) (fun c_9012 => ?_)
                    · have f_9013 := (hr_9010.resolve_right (fun q => c_9012 q.1)).2
                      have h_9014 : rg x_9006 1 1 := rg_ne c_9012 h_9011 0 rfl (by decide)
                      refine lv_aload_n hx hb dX0_board_84 rfl (lv_at hl 1 rfl) ?_
                      refine lv_iload hx hb dX0_board_85 (lv_at hl 0 rfl) ?_
                      refine pk_i (va_runV (As := [.int x_8928]) (rest := []) ⟨hx, hb, hml, hown, hts⟩ (s_X0_groupOf l D t σ I J ri_8837 rj rq H.size tg hSH hG.1 this x_8928 hL_this hK_this (rg_w h_8929 (by decide)) w_9005 hR_w_9005 hL_w_9005 hK_w_9005 hN_w_9005 hT_w_9005 (rg_w f_9013 (by decide))) (cwV 1 hts (tw_V tw_1176 tw_1177 tw_1178 tw_45 tw_1179) rfl rfl rfl cv_yX0_groupOf_1 ⟨Nat.le_of_ble_eq_true rfl, Nat.le_of_ble_eq_true rfl⟩) ⟨pq_blind, pq_recv hK hP hL_this hK_this (by decide) rfl, pq_pre hK hN hP hD⟩ rfl rfl hl.1 rfl (lv_room (Nat.le_of_ble_eq_true rfl)) dX0_board_87 ⟨Nat.le_of_ble_eq_true rfl, Nat.le_of_ble_eq_true rfl⟩) hD hS hA (fun x_9015 σ1 μ1 H locs hw_9016 hP hD hS => ?_)
                      obtain ⟨hu_9017, hr_9019⟩ := hw_9016
                      obtain ⟨hu_9017a, hu_9017b⟩ := Prod.mk.inj hu_9017
                      rw [hu_9017a, hu_9017b] at hP hD
                      refine lv_istore (lv' := [(10, .int x_9015), (9, .int x_8928), (0, .ref this), (1, .long a0), (3, .ref a1), (4, .int a2), (6, .int a4), (7, .int x_8835), (8, .int x_8836)]) hx hb dX0_board_90 hl (by decide) rfl (fun ls hl => ?_)
                      refine lv_aload_n hx hb dX0_board_92 rfl (lv_at hl 2 rfl) ?_
                      obtain ⟨w_9020, hR_w_9020, hL_w_9020, hK_w_9020, hN_w_9020, hT_w_9020⟩ := sh_a hSH 15 (ci := 0) (kd := 13) (len := 50) rfl (by decide) hL_this hK_this
                      refine pg_f (v := .ref w_9020) (C := RX0) (T := TX0) (N := 16) hx hb hts (tw_i inlX0) hown hK hP hL_this hK_this (by decide) rfl 15 (by decide) (hts _ (tw_c tw_123)) (pq_hv rfl hR_w_9020) dX0_board_93 ?_
                      refine lv_iload hx hb dX0_board_96 (lv_at hl 0 rfl) ?_
                      refine pl_i hx hb hK hP hL_w_9020 hK_w_9020 hN_w_9020 (rg_in hr_9019 (by decide)) dX0_board_98 ?_
                      refine lv_topi (fun x_9021 ex_9021 => ?_)
                      have h_9022 : rg x_9021 (-2) 4 := rg_of_eq ex_9021 (GX.rR hG hT_w_9020 rfl)
                      refine lv_bipush (v := (-2)) hx hb dX0_board_99 (by decide) ?_
                      have K_9059 : ∀  (x_9048 : Int32) (ri_9049 : Nat → Nat → Int32) (H : Heap) (locs : List Loc) (ls : Array Slot), GX [1005] tg σ I ri rj I ri_9049 rj rq → va_P D vwCl (pq_P t σ (I, J, ri_9049, rj, rq)) H → va_D A (pq_P t σ (I, J, ri_9049, rj, rq)) → va_S A s.heap H locs → lv_has ls 11 [(0, .ref this), (1, .long a0), (3, .ref a1), (4, .int a2), (6, .int a4), (7, .int x_9048), (8, .int x_8836), (9, .int x_8928), (10, .int x_9015)] → W p l e ({ frames := 2, cells := 0, slots := 0, locals := 45 } : Room) s m (List.toArray ([.ref this, .long a0, .ref a1, .int a2, .int a3, .int a4] : List Value)) below meth c H locs 0 0 Q (F0 m 165 ls []) := by
                        intro x_9048 ri_9049 H locs ls hG hP hD hS hl
                        refine lv_aload_n hx hb dX0_board_165 rfl (lv_at hl 0 rfl) ?_
                        refine pg_f (v := .ref w_9020) (C := RX0) (T := TX0) (N := 16) hx hb hts (tw_i inlX0) hown hK hP hL_this hK_this (by decide) rfl 15 (by decide) (hts _ (tw_c tw_123)) (pq_hv rfl hR_w_9020) dX0_board_166 ?_
                        refine lv_iload hx hb dX0_board_169 (lv_at hl 8 rfl) ?_
                        refine pl_i hx hb hK hP hL_w_9020 hK_w_9020 hN_w_9020 (rg_in hr_9019 (by decide)) dX0_board_171 ?_
                        refine lv_topi (fun x_9060 ex_9060 => ?_)
                        have h_9061 : rg x_9060 (-2) 4 := rg_of_eq ex_9060 (GX.rR hG hT_w_9020 rfl)
                        refine lv_iconst (v := (-1)) hx hb dX0_board_172 (by decide) ?_
                        refine lv_icmp_eq (tgt := 202) hx hb dX0_board_173 (by decide) (fun c_9062 => ?_) (fun c_9062 => ?_)
                        · have h_9063 : rg x_9060 (-1) (-1) := rg_and h_9061 (rg_of_eq c_9062 (rg_k (-1 : Int32) (-1) rfl)) (by decide)
                          exact K_8999 x_9048 ri_9049 _ _ _ hG hP hD hS (lv_sub hl [0, 1, 2, 3, 4, 5, 6] rfl)
                        · refine lv_aload_n hx hb dX0_board_176 rfl (lv_at hl 0 rfl) ?_
                          refine pg_f (v := .ref w_9005) (C := RX0) (T := TX0) (N := 16) hx hb hts (tw_i inlX0) hown hK hP hL_this hK_this (by decide) rfl 5 (by decide) (hts _ (tw_c tw_114)) (pq_hv rfl hR_w_9005) dX0_board_177 ?_
                          refine lv_iload hx hb dX0_board_180 (lv_at hl 7 rfl) ?_
                          refine lv_bipush (v := 100) hx hb dX0_board_182 (by decide) ?_
                          refine lv_aload_n hx hb dX0_board_184 rfl (lv_at hl 0 rfl) ?_
                          refine pg_f (v := .ref w_9020) (C := RX0) (T := TX0) (N := 16) hx hb hts (tw_i inlX0) hown hK hP hL_this hK_this (by decide) rfl 15 (by decide) (hts _ (tw_c tw_123)) (pq_hv rfl hR_w_9020) dX0_board_185 ?_
                          refine lv_iload hx hb dX0_board_188 (lv_at hl 8 rfl) ?_
                          refine pl_i hx hb hK hP hL_w_9020 hK_w_9020 hN_w_9020 (rg_in hr_9019 (by decide)) dX0_board_190 ?_
                          refine lv_tov x_9060 ex_9060.symm ?_
                          refine lv_iadd hx hb dX0_board_191 ?_
                          refine lv_topi (fun x_9064 ex_9064 => ?_)
                          have h_9065 : rg x_9064 98 104 := rg_of_eq ex_9064 (rg_add (rg_k (100 : Int32) 100 rfl) h_9061 (by decide))
                          refine pt_i hx hb hK hP hD hS hL_w_9005 hK_w_9005 hN_w_9005 (rg_in h_8929 (by decide)) dX0_board_192 (fun r_9066 H locs er_9066 hP hD hS => ?_)
                          have hG := GX.wR hG hSH hT_w_9005 rfl er_9066 (rg_w h_9065 (by decide)) (by decide)
                          refine lv_aload_n hx hb dX0_board_193 rfl (lv_at hl 0 rfl) ?_
                          obtain ⟨w_9067, hR_w_9067, hL_w_9067, hK_w_9067, hN_w_9067, hT_w_9067⟩ := sh_a hSH 8 (ci := 0) (kd := 13) (len := 40) rfl (by decide) hL_this hK_this
                          refine pg_f (v := .ref w_9067) (C := RX0) (T := TX0) (N := 16) hx hb hts (tw_i inlX0) hown hK hP hL_this hK_this (by decide) rfl 8 (by decide) (hts _ (tw_c tw_117)) (pq_hv rfl hR_w_9067) dX0_board_194 ?_
                          refine lv_iload hx hb dX0_board_197 (lv_at hl 7 rfl) ?_
                          refine lv_iload hx hb dX0_board_199 (lv_at hl 4 rfl) ?_
                          refine pt_i hx hb hK hP hD hS hL_w_9067 hK_w_9067 hN_w_9067 (rg_in h_8929 (by decide)) dX0_board_201 (fun r_9068 H locs er_9068 hP hD hS => ?_)
                          have hG := GX.wR hG hSH hT_w_9067 rfl er_9068 (rg_w (rg_full _) (by decide)) (by decide)
                          exact K_8999 x_9048 r_9068 _ _ _ hG hP hD hS (lv_sub hl [0, 1, 2, 3, 4, 5, 6] rfl)
                      refine lv_icmp_ne (tgt := 165) hx hb dX0_board_101 (by decide) (fun c_9069 => ?_) (fun c_9069 => ?_)
                      · have h_9070 : rg x_9021 (-1) 4 := rg_ne c_9069 h_9022 (-2) rfl (by decide)
                        exact K_9059 x_8835 ri_8837 _ _ _ hG hP hD hS (lv_sub hl [2, 3, 4, 5, 6, 7, 8, 1, 0] rfl)
                      · have h_9071 : rg x_9021 (-2) (-2) := rg_and h_9022 (rg_of_eq c_9069 (rg_k (-2 : Int32) (-2) rfl)) (by decide)
                        refine lv_aload_n hx hb dX0_board_104 rfl (lv_at hl 2 rfl) ?_
                        refine pg_f (v := .ref w_9020) (C := RX0) (T := TX0) (N := 16) hx hb hts (tw_i inlX0) hown hK hP hL_this hK_this (by decide) rfl 15 (by decide) (hts _ (tw_c tw_123)) (pq_hv rfl hR_w_9020) dX0_board_105 ?_
                        refine lv_iload hx hb dX0_board_108 (lv_at hl 0 rfl) ?_
                        refine lv_aload_n hx hb dX0_board_110 rfl (lv_at hl 2 rfl) ?_
                        obtain ⟨w_9072, hR_w_9072, hL_w_9072, hK_w_9072, hN_w_9072, hT_w_9072⟩ := sh_a hSH 14 (ci := 0) (kd := 13) (len := 50) rfl (by decide) hL_this hK_this
                        refine pg_f (v := .ref w_9072) (C := RX0) (T := TX0) (N := 16) hx hb hts (tw_i inlX0) hown hK hP hL_this hK_this (by decide) rfl 14 (by decide) (hts _ (tw_c tw_122)) (pq_hv rfl hR_w_9072) dX0_board_111 ?_
                        refine lv_iload hx hb dX0_board_114 (lv_at hl 0 rfl) ?_
                        refine pl_i hx hb hK hP hL_w_9072 hK_w_9072 hN_w_9072 (rg_in hr_9019 (by decide)) dX0_board_116 ?_
                        refine lv_topi (fun x_9073 ex_9073 => ?_)
                        refine lv_iload hx hb dX0_board_117 (lv_at hl 7 rfl) ?_
                        have K_9094 : ∀  (x_9083 : Int32) (ri_9084 : Nat → Nat → Int32) (H : Heap) (locs : List Loc) (ls : Array Slot), rg x_9083 (-1) 4 → GX [1005] tg σ I ri rj I ri_9084 rj rq → va_P D vwCl (pq_P t σ (I, J, ri_9084, rj, rq)) H → va_D A (pq_P t σ (I, J, ri_9084, rj, rq)) → va_S A s.heap H locs → lv_has ls 11 [(0, .ref this), (1, .long a0), (3, .ref a1), (4, .int a2), (6, .int a4), (7, .int x_8835), (8, .int x_8836), (9, .int x_8928), (10, .int x_9015)] → W p l e ({ frames := 2, cells := 0, slots := 0, locals := 45 } : Room) s m (List.toArray ([.ref this, .long a0, .ref a1, .int a2, .int a3, .int a4] : List Value)) below meth c H locs 0 0 Q (F0 m 137 ls [.int x_9083, .int x_9015, .ref w_9020]) := by
                          intro x_9083 ri_9084 H locs ls h_9096 hG hP hD hS hl
                          refine pt_i hx hb hK hP hD hS hL_w_9020 hK_w_9020 hN_w_9020 (rg_in hr_9019 (by decide)) dX0_board_137 (fun r_9097 H locs er_9097 hP hD hS => ?_)
                          have hG := GX.wR hG hSH hT_w_9020 rfl er_9097 (rg_w h_9096 (by decide)) (by decide)
                          refine lv_iload hx hb dX0_board_138 (lv_at hl 5 rfl) ?_
                          refine lv_aload_n hx hb dX0_board_140 rfl (lv_at hl 0 rfl) ?_
                          refine pg_f (v := .ref w_9020) (C := RX0) (T := TX0) (N := 16) hx hb hts (tw_i inlX0) hown hK hP hL_this hK_this (by decide) rfl 15 (by decide) (hts _ (tw_c tw_123)) (pq_hv rfl hR_w_9020) dX0_board_141 ?_
                          refine lv_iload hx hb dX0_board_144 (lv_at hl 8 rfl) ?_
                          refine pl_i hx hb hK hP hL_w_9020 hK_w_9020 hN_w_9020 (rg_in hr_9019 (by decide)) dX0_board_146 ?_
                          refine lv_topi (fun x_9098 ex_9098 => ?_)
                          have h_9099 : rg x_9098 (-2) 4 := rg_of_eq ex_9098 (GX.rR hG hT_w_9020 rfl)
                          refine lv_iconst (v := (-1)) hx hb dX0_board_147 (by decide) ?_
                          have K_9105 : ∀  (x_9103 : Int32) (H : Heap) (locs : List Loc) (ls : Array Slot), GX [1005] tg σ I ri rj I r_9097 rj rq → va_P D vwCl (pq_P t σ (I, J, r_9097, rj, rq)) H → va_D A (pq_P t σ (I, J, r_9097, rj, rq)) → va_S A s.heap H locs → lv_has ls 11 [(0, .ref this), (1, .long a0), (3, .ref a1), (4, .int a2), (6, .int a4), (8, .int x_8836), (9, .int x_8928), (10, .int x_9015)] → W p l e ({ frames := 2, cells := 0, slots := 0, locals := 45 } : Room) s m (List.toArray ([.ref this, .long a0, .ref a1, .int a2, .int a3, .int a4] : List Value)) below meth c H locs 0 0 Q (F0 m 162 ls [.int x_9103, .int x_8835]) := by
                            intro x_9103 H locs ls hG hP hD hS hl
                            refine lv_isub hx hb dX0_board_162 ?_
                            refine lv_topi (fun x_9106 ex_9106 => ?_)
                            refine lv_istore (lv' := [(7, .int x_9106), (0, .ref this), (1, .long a0), (3, .ref a1), (4, .int a2), (6, .int a4), (8, .int x_8836), (9, .int x_8928), (10, .int x_9015)]) hx hb dX0_board_163 hl (by decide) rfl (fun ls hl => ?_)
                            exact K_9059 x_9106 r_9097 _ _ _ hG hP hD hS (lv_sub hl [1, 2, 3, 4, 5, 0, 6, 7, 8] rfl)
                          refine lv_icmp_ne (tgt := 155) hx hb dX0_board_148 (by decide) (fun c_9107 => ?_) (fun c_9107 => ?_)
                          · refine lv_aload_n hx hb dX0_board_155 rfl (lv_at hl 0 rfl) ?_
                            refine pg_f (v := .ref w_9072) (C := RX0) (T := TX0) (N := 16) hx hb hts (tw_i inlX0) hown hK hP hL_this hK_this (by decide) rfl 14 (by decide) (hts _ (tw_c tw_122)) (pq_hv rfl hR_w_9072) dX0_board_156 ?_
                            refine lv_iload hx hb dX0_board_159 (lv_at hl 8 rfl) ?_
                            refine pl_i hx hb hK hP hL_w_9072 hK_w_9072 hN_w_9072 (rg_in hr_9019 (by decide)) dX0_board_161 ?_
                            refine lv_topi (fun x_9108 ex_9108 => ?_)
                            exact K_9105 x_9108 _ _ _ hG hP hD hS (lv_sub hl [0, 1, 2, 3, 4, 6, 7, 8] rfl)
                          · have h_9109 : rg x_9098 (-1) (-1) := rg_and h_9099 (rg_of_eq c_9107 (rg_k (-1 : Int32) (-1) rfl)) (by decide)
                            refine lv_iconst (v := 0) hx hb dX0_board_151 (by decide) ?_
                            refine lv_goto (tgt := 162) hx hb dX0_board_152 (by decide) ?_
                            exact K_9105 (0 : Int32) _ _ _ hG hP hD hS (lv_sub hl [0, 1, 2, 3, 4, 6, 7, 8] rfl)
                        refine lv_icmp_gt (tgt := 136) hx hb dX0_board_119 (by decide) (fun c_9110 => ?_) (fun c_9110 => ?_)
                        · have h_9111 : rg x_8835 (-2147483648) 2147483646 := rg_lt1 c_9110 (rg_full _) (rg_full _) (by decide)
                          have h_9112 : rg x_9073 (-2147483647) 2147483647 := rg_lt2 c_9110 (rg_full _) (rg_full _) (by decide)
                          refine lv_iconst (v := (-1)) hx hb dX0_board_136 (by decide) ?_
                          exact K_9094 (-1 : Int32) ri_8837 _ _ _ (rg_w (rg_k (-1 : Int32) (-1) rfl) (by decide)) hG hP hD hS (lv_sub hl [2, 3, 4, 5, 6, 7, 8, 1, 0] rfl)
                        · refine lv_aload_n hx hb dX0_board_122 rfl (lv_at hl 2 rfl) ?_
                          refine lv_aload_n hx hb dX0_board_123 rfl (lv_at hl 2 rfl) ?_
                          refine pg_f (v := .ref w_9072) (C := RX0) (T := TX0) (N := 16) hx hb hts (tw_i inlX0) hown hK hP hL_this hK_this (by decide) rfl 14 (by decide) (hts _ (tw_c tw_122)) (pq_hv rfl hR_w_9072) dX0_board_124 ?_
                          refine lv_iload hx hb dX0_board_127 (lv_at hl 0 rfl) ?_
                          refine pl_i hx hb hK hP hL_w_9072 hK_w_9072 hN_w_9072 (rg_in hr_9019 (by decide)) dX0_board_129 ?_
                          refine lv_tov x_9073 ex_9073.symm ?_
                          refine pk_i (va_runV (As := [.int x_9073]) (rest := [.int x_9015, .ref w_9020]) ⟨hx, hb, hml, hown, hts⟩ (s_X0_takeLot l D t σ I J ri_8837 rj rq H.size tg hSH hG.1 this x_9073 hL_this hK_this) (cwV 1 hts (tw_V tw_1181 tw_1182 tw_1183 tw_45 tw_1184) rfl rfl rfl cv_yX0_takeLot_1 ⟨Nat.le_of_ble_eq_true rfl, Nat.le_of_ble_eq_true rfl⟩) ⟨pq_blind, pq_recv hK hP hL_this hK_this (by decide) rfl, pq_pre hK hN hP hD⟩ rfl rfl hl.1 rfl (lv_room (Nat.le_of_ble_eq_true rfl)) dX0_board_130 ⟨Nat.le_of_ble_eq_true rfl, Nat.le_of_ble_eq_true rfl⟩) hD hS hA (fun x_9113 σ1 μ1 H locs hw_9114 hP hD hS => ?_)
                          obtain ⟨ri_9115, hu_9116, hg_9117, hr_9118⟩ := hw_9114
                          obtain ⟨hu_9116a, hu_9116b⟩ := Prod.mk.inj hu_9116
                          rw [hu_9116a, hu_9116b] at hP hD
                          have hG := GX.tr hG hg_9117 (by decide)
                          refine lv_goto (tgt := 137) hx hb dX0_board_133 (by decide) ?_
                          exact K_9094 x_9113 ri_9115 _ _ _ (rg_w hr_9118 (by decide)) hG hP hD hS (lv_sub hl [2, 3, 4, 5, 6, 7, 8, 1, 0] rfl)
                    · have f_9119 := (hr_9010.resolve_left (fun q => absurd (q.1.symm.trans c_9012) (by decide))).2
                      have h_9120 : rg x_9006 0 0 := rg_and h_9011 (rg_of_eq c_9012 (rg_k (0 : Int32) 0 rfl)) (by decide)
                      refine lv_goto (tgt := 202) hx hb dX0_board_81 (by decide) ?_
                      exact K_8999 x_8835 ri_8837 _ _ _ hG hP hD hS (lv_sub hl [1, 2, 3, 4, 5, 6, 7] rfl)
          exact L_8918 _ a3 (0 : Int32) ri_6755 _ _ _ (rg_w (rg_k (0 : Int32) 0 rfl) (by decide)) (Nat.lt_succ_self _) hG hP hD hS (lv_sub hl [2, 3, 4, 5, 7, 1, 0] rfl)
        · have h_9121 : rg x_6754 0 4 := rg_lt1 (nle c_7886) h_7884 h_7885 (by decide)
          have h_9122 : rg (I 10 this) 1 5 := rg_lt2 (nle c_7886) h_7884 h_7885 (by decide)
          refine lv_aload_n hx hb dX0_board_17 rfl (lv_at hl 0 rfl) ?_
          obtain ⟨w_9123, hR_w_9123, hL_w_9123, hK_w_9123, hN_w_9123, hT_w_9123⟩ := sh_a hSH 13 (ci := 0) (kd := 13) (len := 5) rfl (by decide) hL_this hK_this
          refine pg_f (v := .ref w_9123) (C := RX0) (T := TX0) (N := 16) hx hb hts (tw_i inlX0) hown hK hP hL_this hK_this (by decide) rfl 13 (by decide) (hts _ (tw_c tw_121)) (pq_hv rfl hR_w_9123) dX0_board_18 ?_
          refine lv_iload hx hb dX0_board_21 (lv_at hl 6 rfl) ?_
          refine lv_aload_n hx hb dX0_board_23 rfl (lv_at hl 0 rfl) ?_
          refine lv_iload hx hb dX0_board_24 (lv_at hl 6 rfl) ?_
          refine pk_i (va_runV (As := [.int x_6754]) (rest := [.int x_6754, .ref w_9123]) ⟨hx, hb, hml, hown, hts⟩ (s_X0_freeBeds l D t σ I J ri_6755 rj rq H.size tg hSH hG.1 this x_6754 hL_this hK_this (rg_w h_9121 (by decide))) (cwV 1 hts (tw_V tw_1180 tw_414 tw_415 tw_45 tw_416) rfl rfl rfl cv_yX0_freeBeds_1 ⟨Nat.le_of_ble_eq_true rfl, Nat.le_of_ble_eq_true rfl⟩) ⟨pq_blind, pq_recv hK hP hL_this hK_this (by decide) rfl, pq_pre hK hN hP hD⟩ rfl rfl hl.1 rfl (lv_room (Nat.le_of_ble_eq_true rfl)) dX0_board_26 ⟨Nat.le_of_ble_eq_true rfl, Nat.le_of_ble_eq_true rfl⟩) hD hS hA (fun x_9124 σ1 μ1 H locs hw_9125 hP hD hS => ?_)
          have hu_9126 := hw_9125
          obtain ⟨hu_9126a, hu_9126b⟩ := Prod.mk.inj hu_9126
          rw [hu_9126a, hu_9126b] at hP hD
          refine pt_i hx hb hK hP hD hS hL_w_9123 hK_w_9123 hN_w_9123 (rg_in h_9121 (by decide)) dX0_board_29 (fun r_9129 H locs er_9129 hP hD hS => ?_)
          have hG := GX.wR hG hSH hT_w_9123 rfl er_9129 (rg_w (rg_full _) (by decide)) (by decide)
          obtain ⟨x_9130, ex_9130⟩ : ∃ y : Int32, y = x_6754 + Int32.ofInt 1 := ⟨_, rfl⟩
          have h_9131 : rg x_9130 1 5 := rg_of_eq ex_9130 (rg_add h_9121 (rg_k (Int32.ofInt 1) 1 rfl) (by decide))
          refine lv_iinc (v := x_9130) (lv' := [(7, .int x_9130), (0, .ref this), (1, .long a0), (3, .ref a1), (4, .int a2), (5, .int a3), (6, .int a4)]) hx hb dX0_board_30 hl (k := 6) rfl ex_9130.symm (by decide) rfl (fun ls hl => ?_)
          refine lv_goto (tgt := 8) hx hb dX0_board_33 (by decide) ?_
          exact ih_7882 x_9130 r_9129 _ _ _ (rg_w h_9131 (by decide)) (ms_up 1 hm_7879 ex_9130 rfl (by decide) h_9121 (by decide) (by decide)) hG hP hD hS (lv_sub hl [1, 2, 3, 4, 5, 6, 0] rfl)
    exact L_7881 _ (0 : Int32) ri_3 _ _ _ (rg_w (rg_k (0 : Int32) 0 rfl) (by decide)) (Nat.lt_succ_self _) hG hP hD hS (lv_sub hl [1, 2, 3, 4, 5, 6, 0] rfl)
  exact go _ _ _ hP hD hS hl

set_option maxHeartbeats 4000000 in
set_option maxRecDepth 100000 in
theorem s_X10_sandBehind (l : Launch) (D : va_G) (t : pq_T) (σ : pq_S) (I : Nat → Nat → Int32) (J : Nat → Nat → Int64) (ri : Nat → Nat → Int32) (rj : Nat → Nat → Int64) (rq : Nat → Nat → Option Nat) (sz : Nat) (tg : Nat → Nat) (hSH : SH σ tg) (hG0 : GS tg σ I ri rq) (this : Nat) (a0 : Int32) (a1 : Int32) (hL_this : this ∈ σ.1) (hK_this : σ.2.1 this = 10) (h_a0 : rg a0 0 60) (h_a1 : rg a1 0 39) : MetI l yX10_sandBehind (wa yX10_sandBehind cX10_sandBehind 4 (some .int)) ({ frames := 2, cells := 0, slots := 0, locals := 62 }) [.ref this, .int a0, .int a1] D t σ (I, J, ri, rj, rq) sz 0 0 (fun (r : Int32) (u : pq_S × pq_M) => ∃ I' : Nat → Nat → Int32, ∃ ri' : Nat → Nat → Int32, u = (σ, I', J, ri', rj, rq) ∧ GX [1073] tg σ I ri rj I' ri' rj rq) := by
  refine Met.ofW (cc := cX10_sandBehind) (maxL := 4) (ret := (some .int)) (by decide) rfl ?_
  intro p e s m args below meth c s₁ B hml hv
  obtain ⟨rfl, hsz, hP, hK, hD0, hN⟩ := hv
  have hx := B.exec
  have hb := B.bytes
  have hr := B.returns
  have hts := atoms_spec (ws := (wa yX10_sandBehind cX10_sandBehind 4 (some .int))) B.pre
  have hown : s.vm.findClass RX10 = some m.cls := findClass_of_methodNamed B.named
  have hlocks := B.notSynchronized
  subst hsz
  have hD : va_D (pq_B t σ (I, J, ri, rj, rq) s.heap.size) (pq_P t σ (I, J, ri, rj, rq)) := hD0.self
  generalize hAe : pq_B t σ (I, J, ri, rj, rq) s.heap.size = A at hD ⊢
  have hA : ∀ q : Nat, s.heap.size ≤ q → A q := fun q h => by rw [← hAe]; exact Or.inr h
  have hS : va_S A s.heap s.heap [] := va_S.rf
  have hG : GX [1073] tg σ I ri rj I ri rj rq := ⟨hG0, fun _ _ _ => rfl, fun _ _ _ _ _ => rfl, fun _ _ _ _ _ => rfl⟩
  have hl := lv_entry ([.ref this, .int a0, .int a1]) (n := 4) (Nat.le_of_ble_eq_true rfl)
  rw [lg_entry_eq]
  generalize (lg_sl ([.ref this, .int a0, .int a1]) ++ List.replicate (4 - (lg_sl ([.ref this, .int a0, .int a1])).length) Slot.unset).toArray = ls at hl ⊢
  have hl : lv_has ls 4 [(0, .ref this), (1, .int a0), (2, .int a1)] := hl
  refine q_gen (fun Q hQ => ?_)
  have go : ∀ (H : Heap) (locs : List Loc) (ls : Array Slot), va_P D vwCl (pq_P t σ (I, J, ri, rj, rq)) H → va_D A (pq_P t σ (I, J, ri, rj, rq)) → va_S A s.heap H locs → lv_has ls 4 [(0, .ref this), (1, .int a0), (2, .int a1)] → W p l e ({ frames := 2, cells := 0, slots := 0, locals := 62 } : Room) s m (List.toArray ([.ref this, .int a0, .int a1] : List Value)) below meth c H locs 0 0 Q (F0 m 0 ls []) := by
    intro H locs ls hP hD hS hl
    refine lv_iconst (v := 0) hx hb dX10_sandBehind_0 (by decide) ?_
    refine lv_istore_n (lv' := [(3, .int 0), (0, .ref this), (1, .int a0), (2, .int a1)]) hx hb dX10_sandBehind_1 rfl hl (by decide) rfl (fun ls hl => ?_)
    have L_419 : ∀ (n_418 : Nat) (x_389 : Int32) (I_390 : Nat → Nat → Int32) (ri_391 : Nat → Nat → Int32) (H : Heap) (locs : List Loc) (ls : Array Slot), rg x_389 0 60 → (60 - (x_389).toInt).toNat < n_418 → GX [1073] tg σ I ri rj I_390 ri_391 rj rq → va_P D vwCl (pq_P t σ (I_390, J, ri_391, rj, rq)) H → va_D A (pq_P t σ (I_390, J, ri_391, rj, rq)) → va_S A s.heap H locs → lv_has ls 4 [(0, .ref this), (1, .int a0), (2, .int a1), (3, .int x_389)] → W p l e ({ frames := 2, cells := 0, slots := 0, locals := 62 } : Room) s m (List.toArray ([.ref this, .int a0, .int a1] : List Value)) below meth c H locs 0 0 Q (F0 m 2 ls []) := by
      intro n_418
      induction n_418 with
      | zero => intro x_389 I_390 ri_391 H locs ls h_422 hm_417 hG hP hD hS hl; exact absurd hm_417 (Nat.not_lt_zero _)
      | succ n_418 ih_420 =>
        intro x_389 I_390 ri_391 H locs ls h_422 hm_417 hG hP hD hS hl
        refine lv_iload_n hx hb dX10_sandBehind_2 rfl (lv_at hl 3 rfl) ?_
        refine lv_iload_n hx hb dX10_sandBehind_3 rfl (lv_at hl 1 rfl) ?_
        refine lv_icmp_ge (tgt := 37) hx hb dX10_sandBehind_4 (by decide) (fun c_423 => ?_) (fun c_423 => ?_)
        · refine lv_aload_n hx hb dX10_sandBehind_37 rfl (lv_at hl 0 rfl) ?_
          obtain ⟨w_424, hR_w_424, hL_w_424, hK_w_424⟩ := sh_o hSH 327 (ci := 10) (kd := 2) rfl hL_this hK_this
          refine pg_f (v := .ref w_424) (C := RX10) (T := TX10) (N := 13) hx hb hts (tw_i inlX10) hown hK hP hL_this hK_this (by decide) rfl 7 (by decide) (hts _ (tw_c tw_42)) (pq_hv rfl hR_w_424) dX10_sandBehind_38 ?_
          obtain ⟨w_425, hR_w_425, hL_w_425, hK_w_425, hN_w_425, hT_w_425⟩ := sh_a hSH 73 (ci := 2) (kd := 13) (len := 40) rfl (by decide) hL_w_424 hK_w_424
          refine pg_f (v := .ref w_425) (C := RX2) (T := TX2) (N := 20) hx hb hts (tw_i inlX2) hown hK hP hL_w_424 hK_w_424 (by decide) rfl 9 (by decide) (hts _ (tw_c tw_1419)) (pq_hv rfl hR_w_425) dX10_sandBehind_41 ?_
          refine lv_iload_n hx hb dX10_sandBehind_44 rfl (lv_at hl 2 rfl) ?_
          refine pl_i hx hb hK hP hL_w_425 hK_w_425 hN_w_425 (rg_in h_a1 (by decide)) dX10_sandBehind_45 ?_
          refine lv_topi (fun x_426 ex_426 => ?_)
          subst hQ
          exact W.iret (v := x_426) hx hb hr (fun t1 ht hW => ⟨⟨x_426, (σ, I_390, J, ri_391, rj, rq), rfl, ⟨I_390, ri_391, rfl, hG⟩, by rw [ht]; exact hP, va_K.moved hW.alike hK, hD⟩, hS.F ht⟩) hS.2.2 dX10_sandBehind_46
        · have h_427 : rg x_389 0 59 := rg_lt1 (nle c_423) h_422 h_a0 (by decide)
          have h_428 : rg a0 1 60 := rg_lt2 (nle c_423) h_422 h_a0 (by decide)
          refine lv_aload_n hx hb dX10_sandBehind_7 rfl (lv_at hl 0 rfl) ?_
          obtain ⟨w_429, hR_w_429, hL_w_429, hK_w_429⟩ := sh_o hSH 327 (ci := 10) (kd := 2) rfl hL_this hK_this
          refine pg_f (v := .ref w_429) (C := RX10) (T := TX10) (N := 13) hx hb hts (tw_i inlX10) hown hK hP hL_this hK_this (by decide) rfl 7 (by decide) (hts _ (tw_c tw_42)) (pq_hv rfl hR_w_429) dX10_sandBehind_8 ?_
          refine lv_aload_n hx hb dX10_sandBehind_11 rfl (lv_at hl 0 rfl) ?_
          obtain ⟨w_430, hR_w_430, hL_w_430, hK_w_430⟩ := sh_o hSH 326 (ci := 10) (kd := 7) rfl hL_this hK_this
          refine pg_f (v := .ref w_430) (C := RX10) (T := TX10) (N := 13) hx hb hts (tw_i inlX10) hown hK hP hL_this hK_this (by decide) rfl 6 (by decide) (hts _ (tw_c tw_38)) (pq_hv rfl hR_w_430) dX10_sandBehind_12 ?_
          obtain ⟨w_431, hR_w_431, hL_w_431, hK_w_431, hN_w_431, hT_w_431⟩ := sh_a hSH 232 (ci := 7) (kd := 13) (len := 12) rfl (by decide) hL_w_430 hK_w_430
          refine pg_f (v := .ref w_431) (C := RX7) (T := TX7) (N := 15) hx hb hts (tw_i inlX7) hown hK hP hL_w_430 hK_w_430 (by decide) rfl 8 (by decide) (hts _ (tw_c tw_1055)) (pq_hv rfl hR_w_431) dX10_sandBehind_15 ?_
          refine lv_aload_n hx hb dX10_sandBehind_18 rfl (lv_at hl 0 rfl) ?_
          refine pg_f (v := .int (I_390 320 this)) (C := RX10) (T := TX10) (N := 13) hx hb hts (tw_i inlX10) hown hK hP hL_this hK_this (by decide) rfl 0 (by decide) (hts _ (tw_c tw_457)) rfl dX10_sandBehind_19 ?_
          have h_432 : rg (I_390 320 this) 0 600 := GX.rI hG 320 rfl
          refine lv_iload_n hx hb dX10_sandBehind_22 rfl (lv_at hl 3 rfl) ?_
          refine lv_iadd hx hb dX10_sandBehind_23 ?_
          refine lv_topi (fun x_433 ex_433 => ?_)
          have h_434 : rg x_433 0 659 := rg_of_eq ex_433 (rg_add h_432 h_427 (by decide))
          refine lv_bipush (v := 12) hx hb dX10_sandBehind_24 (by decide) ?_
          refine lv_irem hx hb dX10_sandBehind_26 (by decide) ?_
          refine lv_topi (fun x_435 ex_435 => ?_)
          have h_436 : rg x_435 0 11 := rg_of_eq ex_435 (rg_rem h_434 rfl (by decide))
          refine pl_i hx hb hK hP hL_w_431 hK_w_431 hN_w_431 (rg_in h_436 (by decide)) dX10_sandBehind_27 ?_
          refine lv_topi (fun x_437 ex_437 => ?_)
          refine pk_v (va_runV (As := [.int x_437]) (rest := []) ⟨hx, hb, hml, hown, hts⟩ (s_X2_walk l D t σ I_390 J ri_391 rj rq H.size tg hSH hG.1 w_429 x_437 hL_w_429 hK_w_429) (cwV 1 hts (tw_V tw_1065 tw_1066 tw_1067 tw_41 tw_1068) rfl rfl rfl cv_yX2_walk_1 ⟨Nat.le_of_ble_eq_true rfl, Nat.le_of_ble_eq_true rfl⟩) ⟨pq_blind, pq_recv hK hP hL_w_429 hK_w_429 (by decide) rfl, pq_pre hK hN hP hD⟩ rfl rfl hl.1 rfl (lv_room (Nat.le_of_ble_eq_true rfl)) dX10_sandBehind_28 ⟨Nat.le_of_ble_eq_true rfl, Nat.le_of_ble_eq_true rfl⟩) hD hS hA (fun σ1 μ1 H locs hw_439 hP hD hS => ?_)
          obtain ⟨I_440, ri_441, hu_442, hg_443⟩ := hw_439
          obtain ⟨hu_442a, hu_442b⟩ := Prod.mk.inj hu_442
          rw [hu_442a, hu_442b] at hP hD
          have hG := GX.tr hG hg_443 (by decide)
          obtain ⟨x_445, ex_445⟩ : ∃ y : Int32, y = x_389 + Int32.ofInt 1 := ⟨_, rfl⟩
          have h_446 : rg x_445 1 60 := rg_of_eq ex_445 (rg_add h_427 (rg_k (Int32.ofInt 1) 1 rfl) (by decide))
          refine lv_iinc (v := x_445) (lv' := [(3, .int x_445), (0, .ref this), (1, .int a0), (2, .int a1)]) hx hb dX10_sandBehind_31 hl (k := 3) rfl ex_445.symm (by decide) rfl (fun ls hl => ?_)
          refine lv_goto (tgt := 2) hx hb dX10_sandBehind_34 (by decide) ?_
          exact ih_420 x_445 I_440 ri_441 _ _ _ (rg_w h_446 (by decide)) (ms_up 1 hm_417 ex_445 rfl (by decide) h_427 (by decide) (by decide)) hG hP hD hS (lv_sub hl [1, 2, 3, 0] rfl)
    exact L_419 _ (0 : Int32) I ri _ _ _ (rg_w (rg_k (0 : Int32) 0 rfl) (by decide)) (Nat.lt_succ_self _) hG hP hD hS (lv_sub hl [1, 2, 3, 0] rfl)
  exact go _ _ _ hP hD hS hl

set_option maxHeartbeats 4000000 in
set_option maxRecDepth 100000 in
theorem s_X10_wasDry (l : Launch) (D : va_G) (t : pq_T) (σ : pq_S) (I : Nat → Nat → Int32) (J : Nat → Nat → Int64) (ri : Nat → Nat → Int32) (rj : Nat → Nat → Int64) (rq : Nat → Nat → Option Nat) (sz : Nat) (tg : Nat → Nat) (hSH : SH σ tg) (hG0 : GS tg σ I ri rq) (this : Nat) (a0 : Int32) (hL_this : this ∈ σ.1) (hK_this : σ.2.1 this = 10) : MetI l yX10_wasDry (wa yX10_wasDry cX10_wasDry 2 (some .int)) ({ frames := 2, cells := 0, slots := 0, locals := 43 }) [.ref this, .int a0] D t σ (I, J, ri, rj, rq) sz 0 0 (fun (r : Int32) (u : pq_S × pq_M) => u = (σ, I, J, ri, rj, rq) ∧ rg r (-1) 1) := by
  refine Met.ofW (cc := cX10_wasDry) (maxL := 2) (ret := (some .int)) (by decide) rfl ?_
  intro p e s m args below meth c s₁ B hml hv
  obtain ⟨rfl, hsz, hP, hK, hD0, hN⟩ := hv
  have hx := B.exec
  have hb := B.bytes
  have hr := B.returns
  have hts := atoms_spec (ws := (wa yX10_wasDry cX10_wasDry 2 (some .int))) B.pre
  have hown : s.vm.findClass RX10 = some m.cls := findClass_of_methodNamed B.named
  have hlocks := B.notSynchronized
  subst hsz
  have hD : va_D (pq_B t σ (I, J, ri, rj, rq) s.heap.size) (pq_P t σ (I, J, ri, rj, rq)) := hD0.self
  generalize hAe : pq_B t σ (I, J, ri, rj, rq) s.heap.size = A at hD ⊢
  have hA : ∀ q : Nat, s.heap.size ≤ q → A q := fun q h => by rw [← hAe]; exact Or.inr h
  have hS : va_S A s.heap s.heap [] := va_S.rf
  have hG : GX [] tg σ I ri rj I ri rj rq := ⟨hG0, fun _ _ _ => rfl, fun _ _ _ _ _ => rfl, fun _ _ _ _ _ => rfl⟩
  have hl := lv_entry ([.ref this, .int a0]) (n := 2) (Nat.le_of_ble_eq_true rfl)
  rw [lg_entry_eq]
  generalize (lg_sl ([.ref this, .int a0]) ++ List.replicate (2 - (lg_sl ([.ref this, .int a0])).length) Slot.unset).toArray = ls at hl ⊢
  have hl : lv_has ls 2 [(0, .ref this), (1, .int a0)] := hl
  refine q_gen (fun Q hQ => ?_)
  have go : ∀ (H : Heap) (locs : List Loc) (ls : Array Slot), va_P D vwCl (pq_P t σ (I, J, ri, rj, rq)) H → va_D A (pq_P t σ (I, J, ri, rj, rq)) → va_S A s.heap H locs → lv_has ls 2 [(0, .ref this), (1, .int a0)] → W p l e ({ frames := 2, cells := 0, slots := 0, locals := 43 } : Room) s m (List.toArray ([.ref this, .int a0] : List Value)) below meth c H locs 0 0 Q (F0 m 0 ls []) := by
    intro H locs ls hP hD hS hl
    refine lv_aload_n hx hb dX10_wasDry_0 rfl (lv_at hl 0 rfl) ?_
    refine pg_f (v := .int (I 320 this)) (C := RX10) (T := TX10) (N := 13) hx hb hts (tw_i inlX10) hown hK hP hL_this hK_this (by decide) rfl 0 (by decide) (hts _ (tw_c tw_457)) rfl dX10_wasDry_1 ?_
    have h_1 : rg (I 320 this) 0 600 := GX.rI hG 320 rfl
    refine lv_if_ne (tgt := 9) hx hb dX10_wasDry_4 (by decide) (fun c_2 => ?_) (fun c_2 => ?_)
    · have h_3 : rg (I 320 this) 1 600 := rg_ne c_2 h_1 0 rfl (by decide)
      refine lv_aload_n hx hb dX10_wasDry_9 rfl (lv_at hl 0 rfl) ?_
      obtain ⟨w_4, hR_w_4, hL_w_4, hK_w_4⟩ := sh_o hSH 327 (ci := 10) (kd := 2) rfl hL_this hK_this
      refine pg_f (v := .ref w_4) (C := RX10) (T := TX10) (N := 13) hx hb hts (tw_i inlX10) hown hK hP hL_this hK_this (by decide) rfl 7 (by decide) (hts _ (tw_c tw_42)) (pq_hv rfl hR_w_4) dX10_wasDry_10 ?_
      refine lv_iload_n hx hb dX10_wasDry_13 rfl (lv_at hl 1 rfl) ?_
      refine pk_i (va_runV (As := [.int a0]) (rest := []) ⟨hx, hb, hml, hown, hts⟩ (s_X2_isDry l D t σ I J ri rj rq H.size tg hSH hG.1 w_4 a0 hL_w_4 hK_w_4) (cwV 1 hts (tw_V tw_554 tw_555 tw_556 tw_41 tw_557) rfl rfl rfl cv_yX2_isDry_1 ⟨Nat.le_of_ble_eq_true rfl, Nat.le_of_ble_eq_true rfl⟩) ⟨pq_blind, pq_recv hK hP hL_w_4 hK_w_4 (by decide) rfl, pq_pre hK hN hP hD⟩ rfl rfl hl.1 rfl (lv_room (Nat.le_of_ble_eq_true rfl)) dX10_wasDry_14 ⟨Nat.le_of_ble_eq_true rfl, Nat.le_of_ble_eq_true rfl⟩) hD hS hA (fun x_5 σ1 μ1 H locs hw_6 hP hD hS => ?_)
      obtain ⟨hu_7, hr_9⟩ := hw_6
      obtain ⟨hu_7a, hu_7b⟩ := Prod.mk.inj hu_7
      rw [hu_7a, hu_7b] at hP hD
      have h_10 : rg x_5 0 1 := by rcases hr_9 with ⟨q, -⟩ | ⟨q, -⟩ <;> rw [q] <;> exact ⟨by decide, by decide⟩
      refine lv_if_eq (tgt := 24) hx hb dX10_wasDry_17 (by decide) (fun c_11 => ?_) (fun c_11 => ?_)
      · have h_12 : rg x_5 0 0 := rg_and h_10 (rg_of_eq c_11 (rg_k (0 : Int32) 0 rfl)) (by decide)
        refine lv_iconst (v := 0) hx hb dX10_wasDry_24 (by decide) ?_
        subst hQ
        exact W.iret (v := 0) hx hb hr (fun t1 ht hW => ⟨⟨0, (σ, I, J, ri, rj, rq), rfl, ⟨rfl, (rg_w (rg_k (0 : Int32) 0 rfl) (by decide))⟩, by rw [ht]; exact hP, va_K.moved hW.alike hK, hD⟩, hS.F ht⟩) hS.2.2 dX10_wasDry_25
      · have h_13 : rg x_5 1 1 := rg_ne c_11 h_10 0 rfl (by decide)
        refine lv_iconst (v := 1) hx hb dX10_wasDry_20 (by decide) ?_
        refine lv_goto (tgt := 25) hx hb dX10_wasDry_21 (by decide) ?_
        subst hQ
        exact W.iret (v := 1) hx hb hr (fun t1 ht hW => ⟨⟨1, (σ, I, J, ri, rj, rq), rfl, ⟨rfl, (rg_w (rg_k (1 : Int32) 1 rfl) (by decide))⟩, by rw [ht]; exact hP, va_K.moved hW.alike hK, hD⟩, hS.F ht⟩) hS.2.2 dX10_wasDry_25
    · have h_14 : rg (I 320 this) 0 0 := rg_and h_1 (rg_of_eq c_2 (rg_k (0 : Int32) 0 rfl)) (by decide)
      refine lv_iconst (v := (-1)) hx hb dX10_wasDry_7 (by decide) ?_
      subst hQ
      exact W.iret (v := (-1)) hx hb hr (fun t1 ht hW => ⟨⟨(-1), (σ, I, J, ri, rj, rq), rfl, ⟨rfl, (rg_w (rg_k (-1 : Int32) (-1) rfl) (by decide))⟩, by rw [ht]; exact hP, va_K.moved hW.alike hK, hD⟩, hS.F ht⟩) hS.2.2 dX10_wasDry_8
  exact go _ _ _ hP hD hS hl

set_option maxHeartbeats 4000000 in
set_option maxRecDepth 100000 in
theorem s_X10_wasRock (l : Launch) (D : va_G) (t : pq_T) (σ : pq_S) (I : Nat → Nat → Int32) (J : Nat → Nat → Int64) (ri : Nat → Nat → Int32) (rj : Nat → Nat → Int64) (rq : Nat → Nat → Option Nat) (sz : Nat) (tg : Nat → Nat) (hSH : SH σ tg) (hG0 : GS tg σ I ri rq) (this : Nat) (a0 : Int32) (hL_this : this ∈ σ.1) (hK_this : σ.2.1 this = 10) : MetI l yX10_wasRock (wa yX10_wasRock cX10_wasRock 2 (some .int)) ({ frames := 1, cells := 0, slots := 0, locals := 22 }) [.ref this, .int a0] D t σ (I, J, ri, rj, rq) sz 0 0 (fun (r : Int32) (u : pq_S × pq_M) => u = (σ, I, J, ri, rj, rq) ∧ rg r (-1) 1) := by
  refine Met.ofW (cc := cX10_wasRock) (maxL := 2) (ret := (some .int)) (by decide) rfl ?_
  intro p e s m args below meth c s₁ B hml hv
  obtain ⟨rfl, hsz, hP, hK, hD0, hN⟩ := hv
  have hx := B.exec
  have hb := B.bytes
  have hr := B.returns
  have hts := atoms_spec (ws := (wa yX10_wasRock cX10_wasRock 2 (some .int))) B.pre
  have hown : s.vm.findClass RX10 = some m.cls := findClass_of_methodNamed B.named
  have hlocks := B.notSynchronized
  subst hsz
  have hD : va_D (pq_B t σ (I, J, ri, rj, rq) s.heap.size) (pq_P t σ (I, J, ri, rj, rq)) := hD0.self
  generalize hAe : pq_B t σ (I, J, ri, rj, rq) s.heap.size = A at hD ⊢
  have hA : ∀ q : Nat, s.heap.size ≤ q → A q := fun q h => by rw [← hAe]; exact Or.inr h
  have hS : va_S A s.heap s.heap [] := va_S.rf
  have hG : GX [] tg σ I ri rj I ri rj rq := ⟨hG0, fun _ _ _ => rfl, fun _ _ _ _ _ => rfl, fun _ _ _ _ _ => rfl⟩
  have hl := lv_entry ([.ref this, .int a0]) (n := 2) (Nat.le_of_ble_eq_true rfl)
  rw [lg_entry_eq]
  generalize (lg_sl ([.ref this, .int a0]) ++ List.replicate (2 - (lg_sl ([.ref this, .int a0])).length) Slot.unset).toArray = ls at hl ⊢
  have hl : lv_has ls 2 [(0, .ref this), (1, .int a0)] := hl
  refine q_gen (fun Q hQ => ?_)
  have go : ∀ (H : Heap) (locs : List Loc) (ls : Array Slot), va_P D vwCl (pq_P t σ (I, J, ri, rj, rq)) H → va_D A (pq_P t σ (I, J, ri, rj, rq)) → va_S A s.heap H locs → lv_has ls 2 [(0, .ref this), (1, .int a0)] → W p l e ({ frames := 1, cells := 0, slots := 0, locals := 22 } : Room) s m (List.toArray ([.ref this, .int a0] : List Value)) below meth c H locs 0 0 Q (F0 m 0 ls []) := by
    intro H locs ls hP hD hS hl
    refine lv_aload_n hx hb dX10_wasRock_0 rfl (lv_at hl 0 rfl) ?_
    refine pg_f (v := .int (I 320 this)) (C := RX10) (T := TX10) (N := 13) hx hb hts (tw_i inlX10) hown hK hP hL_this hK_this (by decide) rfl 0 (by decide) (hts _ (tw_c tw_457)) rfl dX10_wasRock_1 ?_
    have h_1 : rg (I 320 this) 0 600 := GX.rI hG 320 rfl
    refine lv_if_ne (tgt := 9) hx hb dX10_wasRock_4 (by decide) (fun c_2 => ?_) (fun c_2 => ?_)
    · have h_3 : rg (I 320 this) 1 600 := rg_ne c_2 h_1 0 rfl (by decide)
      refine lv_aload_n hx hb dX10_wasRock_9 rfl (lv_at hl 0 rfl) ?_
      obtain ⟨w_4, hR_w_4, hL_w_4, hK_w_4⟩ := sh_o hSH 327 (ci := 10) (kd := 2) rfl hL_this hK_this
      refine pg_f (v := .ref w_4) (C := RX10) (T := TX10) (N := 13) hx hb hts (tw_i inlX10) hown hK hP hL_this hK_this (by decide) rfl 7 (by decide) (hts _ (tw_c tw_42)) (pq_hv rfl hR_w_4) dX10_wasRock_10 ?_
      obtain ⟨w_5, hR_w_5, hL_w_5, hK_w_5, hN_w_5, hT_w_5⟩ := sh_a hSH 68 (ci := 2) (kd := 14) (len := 600) rfl (by decide) hL_w_4 hK_w_4
      refine pg_f (v := .ref w_5) (C := RX2) (T := TX2) (N := 20) hx hb hts (tw_i inlX2) hown hK hP hL_w_4 hK_w_4 (by decide) rfl 4 (by decide) (hts _ (tw_c tw_1129)) (pq_hv rfl hR_w_5) dX10_wasRock_13 ?_
      refine lv_aload_n hx hb dX10_wasRock_16 rfl (lv_at hl 0 rfl) ?_
      refine pg_f (v := .int (I 320 this)) (C := RX10) (T := TX10) (N := 13) hx hb hts (tw_i inlX10) hown hK hP hL_this hK_this (by decide) rfl 0 (by decide) (hts _ (tw_c tw_457)) rfl dX10_wasRock_17 ?_
      refine lv_iconst (v := 1) hx hb dX10_wasRock_20 (by decide) ?_
      refine lv_isub hx hb dX10_wasRock_21 ?_
      refine lv_topi (fun x_6 ex_6 => ?_)
      have h_7 : rg x_6 0 599 := rg_of_eq ex_6 (rg_sub h_3 (rg_k (1 : Int32) 1 rfl) (by decide))
      refine pl_l hx hb hK hP hL_w_5 hK_w_5 hN_w_5 (rg_in h_7 (by decide)) dX10_wasRock_22 ?_
      refine lv_topl (fun x_8 ex_8 => ?_)
      refine lv_iload_n hx hb dX10_wasRock_23 rfl (lv_at hl 1 rfl) ?_
      refine pk_i (va_runSN (As := [.long x_8, .int a0]) (rest := []) ⟨hx, hb, hml, hown, hts⟩ (s_X11_hasBit l D t σ I J ri rj rq H.size tg hSH hG.1 x_8 a0) ⟨va_cnB (host := "RingsUnder") 2 hts (tw_W tw_560) rfl rfl rfl (nl_24 hN) (hts _ (tw_c tw_2)) cd_yX11_hasBit_2 ⟨Nat.le_of_ble_eq_true rfl, Nat.le_of_ble_eq_true rfl⟩, hts (.static yX11_hasBit) (tw_c tq_static_yX11_hasBit), trivial⟩ ⟨pq_blind, pq_pre hK hN hP hD⟩ rfl rfl hl.1 rfl (lv_room (Nat.le_of_ble_eq_true rfl)) dX10_wasRock_24 ⟨Nat.le_of_ble_eq_true rfl, Nat.le_of_ble_eq_true rfl⟩) hD hS hA (fun x_9 σ1 μ1 H locs hw_10 hP hD hS => ?_)
      obtain ⟨hu_11, hr_13⟩ := hw_10
      obtain ⟨hu_11a, hu_11b⟩ := Prod.mk.inj hu_11
      rw [hu_11a, hu_11b] at hP hD
      have h_14 : rg x_9 0 1 := by rcases hr_13 with ⟨q, -⟩ | ⟨q, -⟩ <;> rw [q] <;> exact ⟨by decide, by decide⟩
      refine lv_if_eq (tgt := 34) hx hb dX10_wasRock_27 (by decide) (fun c_15 => ?_) (fun c_15 => ?_)
      · have h_16 : rg x_9 0 0 := rg_and h_14 (rg_of_eq c_15 (rg_k (0 : Int32) 0 rfl)) (by decide)
        refine lv_iconst (v := 0) hx hb dX10_wasRock_34 (by decide) ?_
        subst hQ
        exact W.iret (v := 0) hx hb hr (fun t1 ht hW => ⟨⟨0, (σ, I, J, ri, rj, rq), rfl, ⟨rfl, (rg_w (rg_k (0 : Int32) 0 rfl) (by decide))⟩, by rw [ht]; exact hP, va_K.moved hW.alike hK, hD⟩, hS.F ht⟩) hS.2.2 dX10_wasRock_35
      · have h_17 : rg x_9 1 1 := rg_ne c_15 h_14 0 rfl (by decide)
        refine lv_iconst (v := 1) hx hb dX10_wasRock_30 (by decide) ?_
        refine lv_goto (tgt := 35) hx hb dX10_wasRock_31 (by decide) ?_
        subst hQ
        exact W.iret (v := 1) hx hb hr (fun t1 ht hW => ⟨⟨1, (σ, I, J, ri, rj, rq), rfl, ⟨rfl, (rg_w (rg_k (1 : Int32) 1 rfl) (by decide))⟩, by rw [ht]; exact hP, va_K.moved hW.alike hK, hD⟩, hS.F ht⟩) hS.2.2 dX10_wasRock_35
    · have h_18 : rg (I 320 this) 0 0 := rg_and h_1 (rg_of_eq c_2 (rg_k (0 : Int32) 0 rfl)) (by decide)
      refine lv_iconst (v := (-1)) hx hb dX10_wasRock_7 (by decide) ?_
      subst hQ
      exact W.iret (v := (-1)) hx hb hr (fun t1 ht hW => ⟨⟨(-1), (σ, I, J, ri, rj, rq), rfl, ⟨rfl, (rg_w (rg_k (-1 : Int32) (-1) rfl) (by decide))⟩, by rw [ht]; exact hP, va_K.moved hW.alike hK, hD⟩, hS.F ht⟩) hS.2.2 dX10_wasRock_8
  exact go _ _ _ hP hD hS hl

set_option maxHeartbeats 4000000 in
set_option maxRecDepth 100000 in
theorem s_X10_titleStands (l : Launch) (D : va_G) (t : pq_T) (σ : pq_S) (I : Nat → Nat → Int32) (J : Nat → Nat → Int64) (ri : Nat → Nat → Int32) (rj : Nat → Nat → Int64) (rq : Nat → Nat → Option Nat) (sz : Nat) (tg : Nat → Nat) (hSH : SH σ tg) (hG0 : GS tg σ I ri rq) (this : Nat) (a0 : Int32) (hL_this : this ∈ σ.1) (hK_this : σ.2.1 this = 10) (h_a0 : rg a0 0 39) : MetI l yX10_titleStands (wa yX10_titleStands cX10_titleStands 3 (some .boolean)) ({ frames := 5, cells := 0, slots := 0, locals := 139 }) [.ref this, .int a0] D t σ (I, J, ri, rj, rq) sz 0 0 (fun (r : Int32) (u : pq_S × pq_M) => ∃ ri' : Nat → Nat → Int32, u = (σ, I, J, ri', rj, rq) ∧ GX [] tg σ I ri rj I ri' rj rq ∧ ((r = 1 ∧ True) ∨ (r = 0 ∧ True))) := by
  refine Met.ofW (cc := cX10_titleStands) (maxL := 3) (ret := (some .boolean)) (by decide) rfl ?_
  intro p e s m args below meth c s₁ B hml hv
  obtain ⟨rfl, hsz, hP, hK, hD0, hN⟩ := hv
  have hx := B.exec
  have hb := B.bytes
  have hr := B.returns
  have hts := atoms_spec (ws := (wa yX10_titleStands cX10_titleStands 3 (some .boolean))) B.pre
  have hown : s.vm.findClass RX10 = some m.cls := findClass_of_methodNamed B.named
  have hlocks := B.notSynchronized
  subst hsz
  have hD : va_D (pq_B t σ (I, J, ri, rj, rq) s.heap.size) (pq_P t σ (I, J, ri, rj, rq)) := hD0.self
  generalize hAe : pq_B t σ (I, J, ri, rj, rq) s.heap.size = A at hD ⊢
  have hA : ∀ q : Nat, s.heap.size ≤ q → A q := fun q h => by rw [← hAe]; exact Or.inr h
  have hS : va_S A s.heap s.heap [] := va_S.rf
  have hG : GX [] tg σ I ri rj I ri rj rq := ⟨hG0, fun _ _ _ => rfl, fun _ _ _ _ _ => rfl, fun _ _ _ _ _ => rfl⟩
  have hl := lv_entry ([.ref this, .int a0]) (n := 3) (Nat.le_of_ble_eq_true rfl)
  rw [lg_entry_eq]
  generalize (lg_sl ([.ref this, .int a0]) ++ List.replicate (3 - (lg_sl ([.ref this, .int a0])).length) Slot.unset).toArray = ls at hl ⊢
  have hl : lv_has ls 3 [(0, .ref this), (1, .int a0)] := hl
  refine q_gen (fun Q hQ => ?_)
  have go : ∀ (H : Heap) (locs : List Loc) (ls : Array Slot), va_P D vwCl (pq_P t σ (I, J, ri, rj, rq)) H → va_D A (pq_P t σ (I, J, ri, rj, rq)) → va_S A s.heap H locs → lv_has ls 3 [(0, .ref this), (1, .int a0)] → W p l e ({ frames := 5, cells := 0, slots := 0, locals := 139 } : Room) s m (List.toArray ([.ref this, .int a0] : List Value)) below meth c H locs 0 0 Q (F0 m 0 ls []) := by
    intro H locs ls hP hD hS hl
    refine lv_aload_n hx hb dX10_titleStands_0 rfl (lv_at hl 0 rfl) ?_
    obtain ⟨w_1, hR_w_1, hL_w_1, hK_w_1, hN_w_1, hT_w_1⟩ := sh_a hSH 325 (ci := 10) (kd := 13) (len := 40) rfl (by decide) hL_this hK_this
    refine pg_f (v := .ref w_1) (C := RX10) (T := TX10) (N := 13) hx hb hts (tw_i inlX10) hown hK hP hL_this hK_this (by decide) rfl 5 (by decide) (hts _ (tw_c tw_34)) (pq_hv rfl hR_w_1) dX10_titleStands_1 ?_
    refine lv_iload_n hx hb dX10_titleStands_4 rfl (lv_at hl 1 rfl) ?_
    refine pl_i hx hb hK hP hL_w_1 hK_w_1 hN_w_1 (rg_in h_a0 (by decide)) dX10_titleStands_5 ?_
    refine lv_topi (fun x_2 ex_2 => ?_)
    have h_3 : rg x_2 (-1) 39 := rg_of_eq ex_2 (GX.rR hG hT_w_1 rfl)
    refine lv_istore_n (lv' := [(2, .int x_2), (0, .ref this), (1, .int a0)]) hx hb dX10_titleStands_6 rfl hl (by decide) rfl (fun ls hl => ?_)
    refine lv_iload_n hx hb dX10_titleStands_7 rfl (lv_at hl 0 rfl) ?_
    refine lv_iconst (v := (-1)) hx hb dX10_titleStands_8 (by decide) ?_
    refine lv_icmp_ne (tgt := 14) hx hb dX10_titleStands_9 (by decide) (fun c_4 => ?_) (fun c_4 => ?_)
    · have h_5 : rg x_2 0 39 := rg_ne c_4 h_3 (-1) rfl (by decide)
      refine lv_aload_n hx hb dX10_titleStands_14 rfl (lv_at hl 1 rfl) ?_
      refine lv_iload_n hx hb dX10_titleStands_15 rfl (lv_at hl 2 rfl) ?_
      refine pk_i (va_runV (As := [.int a0]) (rest := []) ⟨hx, hb, hml, hown, hts⟩ (s_X10_wasDry l D t σ I J ri rj rq H.size tg hSH hG.1 this a0 hL_this hK_this) (cwV 1 hts (tw_V tw_550 tw_551 tw_552 tw_15 tw_553) rfl rfl rfl cv_yX10_wasDry_1 ⟨Nat.le_of_ble_eq_true rfl, Nat.le_of_ble_eq_true rfl⟩) ⟨pq_blind, pq_recv hK hP hL_this hK_this (by decide) rfl, pq_pre hK hN hP hD⟩ rfl rfl hl.1 rfl (lv_room (Nat.le_of_ble_eq_true rfl)) dX10_titleStands_16 ⟨Nat.le_of_ble_eq_true rfl, Nat.le_of_ble_eq_true rfl⟩) hD hS hA (fun x_6 σ1 μ1 H locs hw_7 hP hD hS => ?_)
      obtain ⟨hu_8, hr_10⟩ := hw_7
      obtain ⟨hu_8a, hu_8b⟩ := Prod.mk.inj hu_8
      rw [hu_8a, hu_8b] at hP hD
      have K_30 : ∀  (ri_29 : Nat → Nat → Int32) (H : Heap) (locs : List Loc) (ls : Array Slot), GX [] tg σ I ri rj I ri_29 rj rq → va_P D vwCl (pq_P t σ (I, J, ri_29, rj, rq)) H → va_D A (pq_P t σ (I, J, ri_29, rj, rq)) → va_S A s.heap H locs → lv_has ls 3 [] → W p l e ({ frames := 5, cells := 0, slots := 0, locals := 139 } : Room) s m (List.toArray ([.ref this, .int a0] : List Value)) below meth c H locs 0 0 Q (F0 m 50 ls []) := by
        intro ri_29 H locs ls hG hP hD hS hl
        refine lv_iconst (v := 1) hx hb dX10_titleStands_50 (by decide) ?_
        refine lv_goto (tgt := 55) hx hb dX10_titleStands_51 (by decide) ?_
        subst hQ
        exact W.zret (v := 1) hx hb hr (by decide) (fun t1 ht hW => ⟨⟨1, (σ, I, J, ri_29, rj, rq), rfl, ⟨ri_29, rfl, hG, (Or.inl ⟨rfl, trivial⟩)⟩, by rw [ht]; exact hP, va_K.moved hW.alike hK, hD⟩, hS.F ht⟩) hS.2.2 dX10_titleStands_55
      refine lv_if_ne (tgt := 50) hx hb dX10_titleStands_19 (by decide) (fun c_31 => ?_) (fun c_31 => ?_)
      · exact K_30 ri _ _ _ hG hP hD hS (lv_sub hl [] rfl)
      · have h_32 : rg x_6 0 0 := rg_and hr_10 (rg_of_eq c_31 (rg_k (0 : Int32) 0 rfl)) (by decide)
        refine lv_aload_n hx hb dX10_titleStands_22 rfl (lv_at hl 1 rfl) ?_
        obtain ⟨w_33, hR_w_33, hL_w_33, hK_w_33⟩ := sh_o hSH 329 (ci := 10) (kd := 3) rfl hL_this hK_this
        refine pg_f (v := .ref w_33) (C := RX10) (T := TX10) (N := 13) hx hb hts (tw_i inlX10) hown hK hP hL_this hK_this (by decide) rfl 9 (by decide) (hts _ (tw_c tw_50)) (pq_hv rfl hR_w_33) dX10_titleStands_23 ?_
        refine lv_aload_n hx hb dX10_titleStands_26 rfl (lv_at hl 1 rfl) ?_
        refine pg_f (v := .int (I 320 this)) (C := RX10) (T := TX10) (N := 13) hx hb hts (tw_i inlX10) hown hK hP hL_this hK_this (by decide) rfl 0 (by decide) (hts _ (tw_c tw_457)) rfl dX10_titleStands_27 ?_
        have h_34 : rg (I 320 this) 0 600 := GX.rI hG 320 rfl
        refine lv_aload_n hx hb dX10_titleStands_30 rfl (lv_at hl 1 rfl) ?_
        obtain ⟨w_35, hR_w_35, hL_w_35, hK_w_35⟩ := sh_o hSH 328 (ci := 10) (kd := 0) rfl hL_this hK_this
        refine pg_f (v := .ref w_35) (C := RX10) (T := TX10) (N := 13) hx hb hts (tw_i inlX10) hown hK hP hL_this hK_this (by decide) rfl 8 (by decide) (hts _ (tw_c tw_46)) (pq_hv rfl hR_w_35) dX10_titleStands_31 ?_
        refine lv_iload_n hx hb dX10_titleStands_34 rfl (lv_at hl 0 rfl) ?_
        refine lv_aload_n hx hb dX10_titleStands_35 rfl (lv_at hl 1 rfl) ?_
        obtain ⟨w_36, hR_w_36, hL_w_36, hK_w_36⟩ := sh_o hSH 327 (ci := 10) (kd := 2) rfl hL_this hK_this
        refine pg_f (v := .ref w_36) (C := RX10) (T := TX10) (N := 13) hx hb hts (tw_i inlX10) hown hK hP hL_this hK_this (by decide) rfl 7 (by decide) (hts _ (tw_c tw_42)) (pq_hv rfl hR_w_36) dX10_titleStands_36 ?_
        obtain ⟨w_37, hR_w_37, hL_w_37, hK_w_37, hN_w_37, hT_w_37⟩ := sh_a hSH 77 (ci := 2) (kd := 13) (len := 40) rfl (by decide) hL_w_36 hK_w_36
        refine pg_f (v := .ref w_37) (C := RX2) (T := TX2) (N := 20) hx hb hts (tw_i inlX2) hown hK hP hL_w_36 hK_w_36 (by decide) rfl 13 (by decide) (hts _ (tw_c tw_549)) (pq_hv rfl hR_w_37) dX10_titleStands_39 ?_
        refine lv_iload_n hx hb dX10_titleStands_42 rfl (lv_at hl 2 rfl) ?_
        refine pl_i hx hb hK hP hL_w_37 hK_w_37 hN_w_37 (rg_in h_a0 (by decide)) dX10_titleStands_43 ?_
        refine lv_topi (fun x_38 ex_38 => ?_)
        refine pk_i (va_runV (As := [.int (I 320 this), .ref w_35, .int x_2, .int x_38]) (rest := []) ⟨hx, hb, hml, hown, hts⟩ (s_X3_lastsFor l D t σ I J ri rj rq H.size tg hSH hG.1 w_33 (I 320 this) w_35 x_2 x_38 hL_w_33 hK_w_33 hL_w_35 hK_w_35 (rg_w h_5 (by decide))) (cwV 4 hts (tw_V tw_561 tw_562 tw_563 tw_49 tw_564) rfl rfl rfl cv_yX3_lastsFor_4 ⟨Nat.le_of_ble_eq_true rfl, Nat.le_of_ble_eq_true rfl⟩) ⟨pq_blind, pq_recv hK hP hL_w_33 hK_w_33 (by decide) rfl, pq_pre hK hN hP hD⟩ rfl rfl hl.1 rfl (lv_room (Nat.le_of_ble_eq_true rfl)) dX10_titleStands_44 ⟨Nat.le_of_ble_eq_true rfl, Nat.le_of_ble_eq_true rfl⟩) hD hS hA (fun x_39 σ1 μ1 H locs hw_40 hP hD hS => ?_)
        obtain ⟨ri_41, hu_42, hg_43, hr_44⟩ := hw_40
        obtain ⟨hu_42a, hu_42b⟩ := Prod.mk.inj hu_42
        rw [hu_42a, hu_42b] at hP hD
        have hG := GX.tr hG hg_43 (by decide)
        have h_45 : rg x_39 0 1 := by rcases hr_44 with ⟨q, -⟩ | ⟨q, -⟩ <;> rw [q] <;> exact ⟨by decide, by decide⟩
        refine lv_if_eq (tgt := 54) hx hb dX10_titleStands_47 (by decide) (fun c_46 => ?_) (fun c_46 => ?_)
        · have h_47 : rg x_39 0 0 := rg_and h_45 (rg_of_eq c_46 (rg_k (0 : Int32) 0 rfl)) (by decide)
          refine lv_iconst (v := 0) hx hb dX10_titleStands_54 (by decide) ?_
          subst hQ
          exact W.zret (v := 0) hx hb hr (by decide) (fun t1 ht hW => ⟨⟨0, (σ, I, J, ri_41, rj, rq), rfl, ⟨ri_41, rfl, hG, (Or.inr ⟨rfl, trivial⟩)⟩, by rw [ht]; exact hP, va_K.moved hW.alike hK, hD⟩, hS.F ht⟩) hS.2.2 dX10_titleStands_55
        · have h_48 : rg x_39 1 1 := rg_ne c_46 h_45 0 rfl (by decide)
          exact K_30 ri_41 _ _ _ hG hP hD hS (lv_sub hl [] rfl)
    · have h_49 : rg x_2 (-1) (-1) := rg_and h_3 (rg_of_eq c_4 (rg_k (-1 : Int32) (-1) rfl)) (by decide)
      refine lv_iconst (v := 0) hx hb dX10_titleStands_12 (by decide) ?_
      subst hQ
      exact W.zret (v := 0) hx hb hr (by decide) (fun t1 ht hW => ⟨⟨0, (σ, I, J, ri, rj, rq), rfl, ⟨ri, rfl, hG, (Or.inr ⟨rfl, trivial⟩)⟩, by rw [ht]; exact hP, va_K.moved hW.alike hK, hD⟩, hS.F ht⟩) hS.2.2 dX10_titleStands_13
  exact go _ _ _ hP hD hS hl

set_option maxHeartbeats 4000000 in
set_option maxRecDepth 100000 in
theorem s_X10_heirOf (l : Launch) (D : va_G) (t : pq_T) (σ : pq_S) (I : Nat → Nat → Int32) (J : Nat → Nat → Int64) (ri : Nat → Nat → Int32) (rj : Nat → Nat → Int64) (rq : Nat → Nat → Option Nat) (sz : Nat) (tg : Nat → Nat) (hSH : SH σ tg) (hG0 : GS tg σ I ri rq) (this : Nat) (a0 : Int32) (hL_this : this ∈ σ.1) (hK_this : σ.2.1 this = 10) (h_a0 : rg a0 0 39) : MetI l yX10_heirOf (wa yX10_heirOf cX10_heirOf 4 (some .int)) ({ frames := 3, cells := 0, slots := 0, locals := 97 }) [.ref this, .int a0] D t σ (I, J, ri, rj, rq) sz 0 0 (fun (r : Int32) (u : pq_S × pq_M) => ∃ ri' : Nat → Nat → Int32, u = (σ, I, J, ri', rj, rq) ∧ GX [] tg σ I ri rj I ri' rj rq ∧ rg r (-1) 39) := by
  refine Met.ofW (cc := cX10_heirOf) (maxL := 4) (ret := (some .int)) (by decide) rfl ?_
  intro p e s m args below meth c s₁ B hml hv
  obtain ⟨rfl, hsz, hP, hK, hD0, hN⟩ := hv
  have hx := B.exec
  have hb := B.bytes
  have hr := B.returns
  have hts := atoms_spec (ws := (wa yX10_heirOf cX10_heirOf 4 (some .int))) B.pre
  have hown : s.vm.findClass RX10 = some m.cls := findClass_of_methodNamed B.named
  have hlocks := B.notSynchronized
  subst hsz
  have hD : va_D (pq_B t σ (I, J, ri, rj, rq) s.heap.size) (pq_P t σ (I, J, ri, rj, rq)) := hD0.self
  generalize hAe : pq_B t σ (I, J, ri, rj, rq) s.heap.size = A at hD ⊢
  have hA : ∀ q : Nat, s.heap.size ≤ q → A q := fun q h => by rw [← hAe]; exact Or.inr h
  have hS : va_S A s.heap s.heap [] := va_S.rf
  have hG : GX [] tg σ I ri rj I ri rj rq := ⟨hG0, fun _ _ _ => rfl, fun _ _ _ _ _ => rfl, fun _ _ _ _ _ => rfl⟩
  have hl := lv_entry ([.ref this, .int a0]) (n := 4) (Nat.le_of_ble_eq_true rfl)
  rw [lg_entry_eq]
  generalize (lg_sl ([.ref this, .int a0]) ++ List.replicate (4 - (lg_sl ([.ref this, .int a0])).length) Slot.unset).toArray = ls at hl ⊢
  have hl : lv_has ls 4 [(0, .ref this), (1, .int a0)] := hl
  refine q_gen (fun Q hQ => ?_)
  have go : ∀ (H : Heap) (locs : List Loc) (ls : Array Slot), va_P D vwCl (pq_P t σ (I, J, ri, rj, rq)) H → va_D A (pq_P t σ (I, J, ri, rj, rq)) → va_S A s.heap H locs → lv_has ls 4 [(0, .ref this), (1, .int a0)] → W p l e ({ frames := 3, cells := 0, slots := 0, locals := 97 } : Room) s m (List.toArray ([.ref this, .int a0] : List Value)) below meth c H locs 0 0 Q (F0 m 0 ls []) := by
    intro H locs ls hP hD hS hl
    refine lv_aload_n hx hb dX10_heirOf_0 rfl (lv_at hl 0 rfl) ?_
    obtain ⟨w_1, hR_w_1, hL_w_1, hK_w_1⟩ := sh_o hSH 329 (ci := 10) (kd := 3) rfl hL_this hK_this
    refine pg_f (v := .ref w_1) (C := RX10) (T := TX10) (N := 13) hx hb hts (tw_i inlX10) hown hK hP hL_this hK_this (by decide) rfl 9 (by decide) (hts _ (tw_c tw_50)) (pq_hv rfl hR_w_1) dX10_heirOf_1 ?_
    refine lv_iconst (v := 5) hx hb dX10_heirOf_4 (by decide) ?_
    refine lv_aload_n hx hb dX10_heirOf_5 rfl (lv_at hl 0 rfl) ?_
    refine pg_f (v := .int (I 320 this)) (C := RX10) (T := TX10) (N := 13) hx hb hts (tw_i inlX10) hown hK hP hL_this hK_this (by decide) rfl 0 (by decide) (hts _ (tw_c tw_457)) rfl dX10_heirOf_6 ?_
    have h_2 : rg (I 320 this) 0 600 := GX.rI hG 320 rfl
    refine lv_aload_n hx hb dX10_heirOf_9 rfl (lv_at hl 0 rfl) ?_
    obtain ⟨w_3, hR_w_3, hL_w_3, hK_w_3⟩ := sh_o hSH 328 (ci := 10) (kd := 0) rfl hL_this hK_this
    refine pg_f (v := .ref w_3) (C := RX10) (T := TX10) (N := 13) hx hb hts (tw_i inlX10) hown hK hP hL_this hK_this (by decide) rfl 8 (by decide) (hts _ (tw_c tw_46)) (pq_hv rfl hR_w_3) dX10_heirOf_10 ?_
    refine lv_aload_n hx hb dX10_heirOf_13 rfl (lv_at hl 0 rfl) ?_
    obtain ⟨w_4, hR_w_4, hL_w_4, hK_w_4, hN_w_4, hT_w_4⟩ := sh_a hSH 331 (ci := 10) (kd := 13) (len := 40) rfl (by decide) hL_this hK_this
    refine pg_f (v := .ref w_4) (C := RX10) (T := TX10) (N := 13) hx hb hts (tw_i inlX10) hown hK hP hL_this hK_this (by decide) rfl 11 (by decide) (hts _ (tw_c tw_55)) (pq_hv rfl hR_w_4) dX10_heirOf_14 ?_
    refine pk_v (va_runV (As := [.int 5, .int (I 320 this), .ref w_3, .ref w_4]) (rest := []) ⟨hx, hb, hml, hown, hts⟩ (s_X3_line_331 l D t σ I J ri rj rq H.size tg hSH hG.1 w_1 (5 : Int32) (I 320 this) w_3 w_4 hL_w_1 hK_w_1 hL_w_3 hK_w_3 hL_w_4 hK_w_4 hN_w_4 hT_w_4) (cwV 4 hts (tw_V tw_461 tw_462 tw_463 tw_49 tw_464) rfl rfl rfl cv_yX3_line_4 ⟨Nat.le_of_ble_eq_true rfl, Nat.le_of_ble_eq_true rfl⟩) ⟨pq_blind, pq_recv hK hP hL_w_1 hK_w_1 (by decide) rfl, pq_pre hK hN hP hD⟩ rfl rfl hl.1 rfl (lv_room (Nat.le_of_ble_eq_true rfl)) dX10_heirOf_17 ⟨Nat.le_of_ble_eq_true rfl, Nat.le_of_ble_eq_true rfl⟩) hD hS hA (fun σ1 μ1 H locs hw_6 hP hD hS => ?_)
    obtain ⟨ri_7, hu_8, hg_9⟩ := hw_6
    obtain ⟨hu_8a, hu_8b⟩ := Prod.mk.inj hu_8
    rw [hu_8a, hu_8b] at hP hD
    have hG := GX.tr hG hg_9 (by decide)
    refine lv_iconst (v := 0) hx hb dX10_heirOf_20 (by decide) ?_
    refine lv_istore_n (lv' := [(2, .int 0), (0, .ref this), (1, .int a0)]) hx hb dX10_heirOf_21 rfl hl (by decide) rfl (fun ls hl => ?_)
    have L_297 : ∀ (n_296 : Nat) (x_273 : Int32) (H : Heap) (locs : List Loc) (ls : Array Slot), rg x_273 0 40 → (40 - (x_273).toInt).toNat < n_296 → GX [] tg σ I ri rj I ri_7 rj rq → va_P D vwCl (pq_P t σ (I, J, ri_7, rj, rq)) H → va_D A (pq_P t σ (I, J, ri_7, rj, rq)) → va_S A s.heap H locs → lv_has ls 4 [(0, .ref this), (1, .int a0), (2, .int x_273)] → W p l e ({ frames := 3, cells := 0, slots := 0, locals := 97 } : Room) s m (List.toArray ([.ref this, .int a0] : List Value)) below meth c H locs 0 0 Q (F0 m 22 ls []) := by
      intro n_296
      induction n_296 with
      | zero => intro x_273 H locs ls h_300 hm_295 hG hP hD hS hl; exact absurd hm_295 (Nat.not_lt_zero _)
      | succ n_296 ih_298 =>
        intro x_273 H locs ls h_300 hm_295 hG hP hD hS hl
        refine lv_iload_n hx hb dX10_heirOf_22 rfl (lv_at hl 2 rfl) ?_
        refine lv_aload_n hx hb dX10_heirOf_23 rfl (lv_at hl 0 rfl) ?_
        refine pg_f (v := .ref w_3) (C := RX10) (T := TX10) (N := 13) hx hb hts (tw_i inlX10) hown hK hP hL_this hK_this (by decide) rfl 8 (by decide) (hts _ (tw_c tw_46)) (pq_hv rfl hR_w_3) dX10_heirOf_24 ?_
        refine pg_f (v := .int (I 0 w_3)) (C := RX0) (T := TX0) (N := 16) hx hb hts (tw_i inlX0) hown hK hP hL_w_3 hK_w_3 (by decide) rfl 0 (by decide) (hts _ (tw_c tw_458)) rfl dX10_heirOf_27 ?_
        have h_301 : rg (I 0 w_3) 0 40 := GX.rI hG 0 rfl
        refine lv_icmp_ge (tgt := 84) hx hb dX10_heirOf_30 (by decide) (fun c_302 => ?_) (fun c_302 => ?_)
        · refine lv_iconst (v := (-1)) hx hb dX10_heirOf_84 (by decide) ?_
          subst hQ
          exact W.iret (v := (-1)) hx hb hr (fun t1 ht hW => ⟨⟨(-1), (σ, I, J, ri_7, rj, rq), rfl, ⟨ri_7, rfl, hG, (rg_w (rg_k (-1 : Int32) (-1) rfl) (by decide))⟩, by rw [ht]; exact hP, va_K.moved hW.alike hK, hD⟩, hS.F ht⟩) hS.2.2 dX10_heirOf_85
        · have h_303 : rg x_273 0 39 := rg_lt1 (nle c_302) h_300 h_301 (by decide)
          have h_304 : rg (I 0 w_3) 1 40 := rg_lt2 (nle c_302) h_300 h_301 (by decide)
          refine lv_aload_n hx hb dX10_heirOf_33 rfl (lv_at hl 0 rfl) ?_
          refine pg_f (v := .ref w_4) (C := RX10) (T := TX10) (N := 13) hx hb hts (tw_i inlX10) hown hK hP hL_this hK_this (by decide) rfl 11 (by decide) (hts _ (tw_c tw_55)) (pq_hv rfl hR_w_4) dX10_heirOf_34 ?_
          refine lv_iload_n hx hb dX10_heirOf_37 rfl (lv_at hl 2 rfl) ?_
          refine pl_i hx hb hK hP hL_w_4 hK_w_4 hN_w_4 (rg_in h_303 (by decide)) dX10_heirOf_38 ?_
          refine lv_topi (fun x_305 ex_305 => ?_)
          have h_306 : rg x_305 0 39 := rg_of_eq ex_305 (GX.rR hG hT_w_4 rfl)
          refine lv_istore_n (lv' := [(3, .int x_305), (0, .ref this), (1, .int a0), (2, .int x_273)]) hx hb dX10_heirOf_39 rfl hl (by decide) rfl (fun ls hl => ?_)
          refine lv_aload_n hx hb dX10_heirOf_40 rfl (lv_at hl 1 rfl) ?_
          refine pg_f (v := .ref w_3) (C := RX10) (T := TX10) (N := 13) hx hb hts (tw_i inlX10) hown hK hP hL_this hK_this (by decide) rfl 8 (by decide) (hts _ (tw_c tw_46)) (pq_hv rfl hR_w_3) dX10_heirOf_41 ?_
          obtain ⟨w_307, hR_w_307, hL_w_307, hK_w_307, hN_w_307, hT_w_307⟩ := sh_a hSH 1 (ci := 0) (kd := 13) (len := 40) rfl (by decide) hL_w_3 hK_w_3
          refine pg_f (v := .ref w_307) (C := RX0) (T := TX0) (N := 16) hx hb hts (tw_i inlX0) hown hK hP hL_w_3 hK_w_3 (by decide) rfl 1 (by decide) (hts _ (tw_c tw_459)) (pq_hv rfl hR_w_307) dX10_heirOf_44 ?_
          refine lv_iload_n hx hb dX10_heirOf_47 rfl (lv_at hl 0 rfl) ?_
          refine pl_i hx hb hK hP hL_w_307 hK_w_307 hN_w_307 (rg_in h_306 (by decide)) dX10_heirOf_48 ?_
          refine lv_topi (fun x_308 ex_308 => ?_)
          have h_309 : rg x_308 0 9 := rg_of_eq ex_308 (GX.rR hG hT_w_307 rfl)
          refine lv_aload_n hx hb dX10_heirOf_49 rfl (lv_at hl 1 rfl) ?_
          refine pg_f (v := .ref w_3) (C := RX10) (T := TX10) (N := 13) hx hb hts (tw_i inlX10) hown hK hP hL_this hK_this (by decide) rfl 8 (by decide) (hts _ (tw_c tw_46)) (pq_hv rfl hR_w_3) dX10_heirOf_50 ?_
          refine pg_f (v := .ref w_307) (C := RX0) (T := TX0) (N := 16) hx hb hts (tw_i inlX0) hown hK hP hL_w_3 hK_w_3 (by decide) rfl 1 (by decide) (hts _ (tw_c tw_459)) (pq_hv rfl hR_w_307) dX10_heirOf_53 ?_
          refine lv_iload_n hx hb dX10_heirOf_56 rfl (lv_at hl 2 rfl) ?_
          refine pl_i hx hb hK hP hL_w_307 hK_w_307 hN_w_307 (rg_in h_a0 (by decide)) dX10_heirOf_57 ?_
          refine lv_topi (fun x_310 ex_310 => ?_)
          have h_311 : rg x_310 0 9 := rg_of_eq ex_310 (GX.rR hG hT_w_307 rfl)
          have K_321 : ∀  (H : Heap) (locs : List Loc) (ls : Array Slot), GX [] tg σ I ri rj I ri_7 rj rq → va_P D vwCl (pq_P t σ (I, J, ri_7, rj, rq)) H → va_D A (pq_P t σ (I, J, ri_7, rj, rq)) → va_S A s.heap H locs → lv_has ls 4 [(0, .ref this), (1, .int a0), (2, .int x_273)] → W p l e ({ frames := 3, cells := 0, slots := 0, locals := 97 } : Room) s m (List.toArray ([.ref this, .int a0] : List Value)) below meth c H locs 0 0 Q (F0 m 78 ls []) := by
            intro H locs ls hG hP hD hS hl
            obtain ⟨x_322, ex_322⟩ : ∃ y : Int32, y = x_273 + Int32.ofInt 1 := ⟨_, rfl⟩
            have h_323 : rg x_322 1 40 := rg_of_eq ex_322 (rg_add h_303 (rg_k (Int32.ofInt 1) 1 rfl) (by decide))
            refine lv_iinc (v := x_322) (lv' := [(2, .int x_322), (0, .ref this), (1, .int a0)]) hx hb dX10_heirOf_78 hl (k := 2) rfl ex_322.symm (by decide) rfl (fun ls hl => ?_)
            refine lv_goto (tgt := 22) hx hb dX10_heirOf_81 (by decide) ?_
            exact ih_298 x_322 _ _ _ (rg_w h_323 (by decide)) (ms_up 1 hm_295 ex_322 rfl (by decide) h_303 (by decide) (by decide)) hG hP hD hS (lv_sub hl [1, 2, 0] rfl)
          refine lv_icmp_ne (tgt := 78) hx hb dX10_heirOf_58 (by decide) (fun c_324 => ?_) (fun c_324 => ?_)
          · exact K_321 _ _ _ hG hP hD hS (lv_sub hl [1, 2, 3] rfl)
          · refine lv_aload_n hx hb dX10_heirOf_61 rfl (lv_at hl 1 rfl) ?_
            refine pg_f (v := .ref w_3) (C := RX10) (T := TX10) (N := 13) hx hb hts (tw_i inlX10) hown hK hP hL_this hK_this (by decide) rfl 8 (by decide) (hts _ (tw_c tw_46)) (pq_hv rfl hR_w_3) dX10_heirOf_62 ?_
            obtain ⟨w_325, hR_w_325, hL_w_325, hK_w_325, hN_w_325, hT_w_325⟩ := sh_a hSH 5 (ci := 0) (kd := 13) (len := 40) rfl (by decide) hL_w_3 hK_w_3
            refine pg_f (v := .ref w_325) (C := RX0) (T := TX0) (N := 16) hx hb hts (tw_i inlX0) hown hK hP hL_w_3 hK_w_3 (by decide) rfl 5 (by decide) (hts _ (tw_c tw_460)) (pq_hv rfl hR_w_325) dX10_heirOf_65 ?_
            refine lv_iload_n hx hb dX10_heirOf_68 rfl (lv_at hl 0 rfl) ?_
            refine pl_i hx hb hK hP hL_w_325 hK_w_325 hN_w_325 (rg_in h_306 (by decide)) dX10_heirOf_69 ?_
            refine lv_topi (fun x_326 ex_326 => ?_)
            have h_327 : rg x_326 0 300 := rg_of_eq ex_326 (GX.rR hG hT_w_325 rfl)
            refine lv_sipush (v := 300) hx hb dX10_heirOf_70 (by decide) ?_
            refine lv_icmp_eq (tgt := 78) hx hb dX10_heirOf_73 (by decide) (fun c_328 => ?_) (fun c_328 => ?_)
            · have h_329 : rg x_326 300 300 := rg_and h_327 (rg_of_eq c_328 (rg_k (300 : Int32) 300 rfl)) (by decide)
              exact K_321 _ _ _ hG hP hD hS (lv_sub hl [1, 2, 3] rfl)
            · have h_330 : rg x_326 0 299 := rg_ne c_328 h_327 300 rfl (by decide)
              refine lv_iload_n hx hb dX10_heirOf_76 rfl (lv_at hl 0 rfl) ?_
              subst hQ
              exact W.iret (v := x_305) hx hb hr (fun t1 ht hW => ⟨⟨x_305, (σ, I, J, ri_7, rj, rq), rfl, ⟨ri_7, rfl, hG, (rg_w h_306 (by decide))⟩, by rw [ht]; exact hP, va_K.moved hW.alike hK, hD⟩, hS.F ht⟩) hS.2.2 dX10_heirOf_77
    exact L_297 _ (0 : Int32) _ _ _ (rg_w (rg_k (0 : Int32) 0 rfl) (by decide)) (Nat.lt_succ_self _) hG hP hD hS (lv_sub hl [1, 2, 0] rfl)
  exact go _ _ _ hP hD hS hl

set_option maxHeartbeats 4000000 in
set_option maxRecDepth 100000 in
theorem s_X10_passTitles (l : Launch) (D : va_G) (t : pq_T) (σ : pq_S) (I : Nat → Nat → Int32) (J : Nat → Nat → Int64) (ri : Nat → Nat → Int32) (rj : Nat → Nat → Int64) (rq : Nat → Nat → Option Nat) (sz : Nat) (tg : Nat → Nat) (hSH : SH σ tg) (hG0 : GS tg σ I ri rq) (this : Nat) (a0 : Int32) (a1 : Int32) (hL_this : this ∈ σ.1) (hK_this : σ.2.1 this = 10) (h_a1 : rg a1 (-1) 39) : MetI l yX10_passTitles (wa yX10_passTitles cX10_passTitles 5 (some .int)) ({ frames := 0, cells := 0, slots := 0, locals := 0 }) [.ref this, .int a0, .int a1] D t σ (I, J, ri, rj, rq) sz 0 0 (fun (r : Int32) (u : pq_S × pq_M) => ∃ ri' : Nat → Nat → Int32, u = (σ, I, J, ri', rj, rq) ∧ GX [] tg σ I ri rj I ri' rj rq) := by
  refine Met.ofW (cc := cX10_passTitles) (maxL := 5) (ret := (some .int)) (by decide) rfl ?_
  intro p e s m args below meth c s₁ B hml hv
  obtain ⟨rfl, hsz, hP, hK, hD0, hN⟩ := hv
  have hx := B.exec
  have hb := B.bytes
  have hr := B.returns
  have hts := atoms_spec (ws := (wa yX10_passTitles cX10_passTitles 5 (some .int))) B.pre
  have hown : s.vm.findClass RX10 = some m.cls := findClass_of_methodNamed B.named
  have hlocks := B.notSynchronized
  subst hsz
  have hD : va_D (pq_B t σ (I, J, ri, rj, rq) s.heap.size) (pq_P t σ (I, J, ri, rj, rq)) := hD0.self
  generalize hAe : pq_B t σ (I, J, ri, rj, rq) s.heap.size = A at hD ⊢
  have hA : ∀ q : Nat, s.heap.size ≤ q → A q := fun q h => by rw [← hAe]; exact Or.inr h
  have hS : va_S A s.heap s.heap [] := va_S.rf
  have hG : GX [] tg σ I ri rj I ri rj rq := ⟨hG0, fun _ _ _ => rfl, fun _ _ _ _ _ => rfl, fun _ _ _ _ _ => rfl⟩
  have hl := lv_entry ([.ref this, .int a0, .int a1]) (n := 5) (Nat.le_of_ble_eq_true rfl)
  rw [lg_entry_eq]
  generalize (lg_sl ([.ref this, .int a0, .int a1]) ++ List.replicate (5 - (lg_sl ([.ref this, .int a0, .int a1])).length) Slot.unset).toArray = ls at hl ⊢
  have hl : lv_has ls 5 [(0, .ref this), (1, .int a0), (2, .int a1)] := hl
  refine q_gen (fun Q hQ => ?_)
  have go : ∀ (H : Heap) (locs : List Loc) (ls : Array Slot), va_P D vwCl (pq_P t σ (I, J, ri, rj, rq)) H → va_D A (pq_P t σ (I, J, ri, rj, rq)) → va_S A s.heap H locs → lv_has ls 5 [(0, .ref this), (1, .int a0), (2, .int a1)] → W p l e ({ frames := 0, cells := 0, slots := 0, locals := 0 } : Room) s m (List.toArray ([.ref this, .int a0, .int a1] : List Value)) below meth c H locs 0 0 Q (F0 m 0 ls []) := by
    intro H locs ls hP hD hS hl
    refine lv_iconst (v := 0) hx hb dX10_passTitles_0 (by decide) ?_
    refine lv_istore_n (lv' := [(3, .int 0), (0, .ref this), (1, .int a0), (2, .int a1)]) hx hb dX10_passTitles_1 rfl hl (by decide) rfl (fun ls hl => ?_)
    refine lv_iconst (v := 0) hx hb dX10_passTitles_2 (by decide) ?_
    refine lv_istore (lv' := [(4, .int 0), (3, .int 0), (0, .ref this), (1, .int a0), (2, .int a1)]) hx hb dX10_passTitles_3 hl (by decide) rfl (fun ls hl => ?_)
    have L_562 : ∀ (n_561 : Nat) (x_540 : Int32) (x_541 : Int32) (ri_542 : Nat → Nat → Int32) (H : Heap) (locs : List Loc) (ls : Array Slot), rg x_541 0 40 → (40 - (x_541).toInt).toNat < n_561 → GX [] tg σ I ri rj I ri_542 rj rq → va_P D vwCl (pq_P t σ (I, J, ri_542, rj, rq)) H → va_D A (pq_P t σ (I, J, ri_542, rj, rq)) → va_S A s.heap H locs → lv_has ls 5 [(0, .ref this), (1, .int a0), (2, .int a1), (3, .int x_540), (4, .int x_541)] → W p l e ({ frames := 0, cells := 0, slots := 0, locals := 0 } : Room) s m (List.toArray ([.ref this, .int a0, .int a1] : List Value)) below meth c H locs 0 0 Q (F0 m 5 ls []) := by
      intro n_561
      induction n_561 with
      | zero => intro x_540 x_541 ri_542 H locs ls h_565 hm_560 hG hP hD hS hl; exact absurd hm_560 (Nat.not_lt_zero _)
      | succ n_561 ih_563 =>
        intro x_540 x_541 ri_542 H locs ls h_565 hm_560 hG hP hD hS hl
        refine lv_iload hx hb dX10_passTitles_5 (lv_at hl 4 rfl) ?_
        refine lv_aload_n hx hb dX10_passTitles_7 rfl (lv_at hl 0 rfl) ?_
        obtain ⟨w_566, hR_w_566, hL_w_566, hK_w_566⟩ := sh_o hSH 327 (ci := 10) (kd := 2) rfl hL_this hK_this
        refine pg_f (v := .ref w_566) (C := RX10) (T := TX10) (N := 13) hx hb hts (tw_i inlX10) hown hK hP hL_this hK_this (by decide) rfl 7 (by decide) (hts _ (tw_c tw_42)) (pq_hv rfl hR_w_566) dX10_passTitles_8 ?_
        refine pg_f (v := .int (I 65 w_566)) (C := RX2) (T := TX2) (N := 20) hx hb hts (tw_i inlX2) hown hK hP hL_w_566 hK_w_566 (by decide) rfl 1 (by decide) (hts _ (tw_c tw_498)) rfl dX10_passTitles_11 ?_
        have h_567 : rg (I 65 w_566) 0 40 := GX.rI hG 65 rfl
        refine lv_icmp_ge (tgt := 45) hx hb dX10_passTitles_14 (by decide) (fun c_568 => ?_) (fun c_568 => ?_)
        · refine lv_iload_n hx hb dX10_passTitles_45 rfl (lv_at hl 3 rfl) ?_
          subst hQ
          exact W.iret (v := x_540) hx hb hr (fun t1 ht hW => ⟨⟨x_540, (σ, I, J, ri_542, rj, rq), rfl, ⟨ri_542, rfl, hG⟩, by rw [ht]; exact hP, va_K.moved hW.alike hK, hD⟩, hS.F ht⟩) hS.2.2 dX10_passTitles_46
        · have h_569 : rg x_541 0 39 := rg_lt1 (nle c_568) h_565 h_567 (by decide)
          have h_570 : rg (I 65 w_566) 1 40 := rg_lt2 (nle c_568) h_565 h_567 (by decide)
          refine lv_aload_n hx hb dX10_passTitles_17 rfl (lv_at hl 0 rfl) ?_
          obtain ⟨w_571, hR_w_571, hL_w_571, hK_w_571, hN_w_571, hT_w_571⟩ := sh_a hSH 325 (ci := 10) (kd := 13) (len := 40) rfl (by decide) hL_this hK_this
          refine pg_f (v := .ref w_571) (C := RX10) (T := TX10) (N := 13) hx hb hts (tw_i inlX10) hown hK hP hL_this hK_this (by decide) rfl 5 (by decide) (hts _ (tw_c tw_34)) (pq_hv rfl hR_w_571) dX10_passTitles_18 ?_
          refine lv_iload hx hb dX10_passTitles_21 (lv_at hl 4 rfl) ?_
          refine pl_i hx hb hK hP hL_w_571 hK_w_571 hN_w_571 (rg_in h_569 (by decide)) dX10_passTitles_23 ?_
          refine lv_topi (fun x_572 ex_572 => ?_)
          have h_573 : rg x_572 (-1) 39 := rg_of_eq ex_572 (GX.rR hG hT_w_571 rfl)
          refine lv_iload_n hx hb dX10_passTitles_24 rfl (lv_at hl 1 rfl) ?_
          have K_582 : ∀  (x_578 : Int32) (ri_579 : Nat → Nat → Int32) (H : Heap) (locs : List Loc) (ls : Array Slot), GX [] tg σ I ri rj I ri_579 rj rq → va_P D vwCl (pq_P t σ (I, J, ri_579, rj, rq)) H → va_D A (pq_P t σ (I, J, ri_579, rj, rq)) → va_S A s.heap H locs → lv_has ls 5 [(0, .ref this), (1, .int a0), (2, .int a1), (3, .int x_578), (4, .int x_541)] → W p l e ({ frames := 0, cells := 0, slots := 0, locals := 0 } : Room) s m (List.toArray ([.ref this, .int a0, .int a1] : List Value)) below meth c H locs 0 0 Q (F0 m 39 ls []) := by
            intro x_578 ri_579 H locs ls hG hP hD hS hl
            obtain ⟨x_583, ex_583⟩ : ∃ y : Int32, y = x_541 + Int32.ofInt 1 := ⟨_, rfl⟩
            have h_584 : rg x_583 1 40 := rg_of_eq ex_583 (rg_add h_569 (rg_k (Int32.ofInt 1) 1 rfl) (by decide))
            refine lv_iinc (v := x_583) (lv' := [(4, .int x_583), (0, .ref this), (1, .int a0), (2, .int a1), (3, .int x_578)]) hx hb dX10_passTitles_39 hl (k := 4) rfl ex_583.symm (by decide) rfl (fun ls hl => ?_)
            refine lv_goto (tgt := 5) hx hb dX10_passTitles_42 (by decide) ?_
            exact ih_563 x_578 x_583 ri_579 _ _ _ (rg_w h_584 (by decide)) (ms_up 1 hm_560 ex_583 rfl (by decide) h_569 (by decide) (by decide)) hG hP hD hS (lv_sub hl [1, 2, 3, 4, 0] rfl)
          refine lv_icmp_ne (tgt := 39) hx hb dX10_passTitles_25 (by decide) (fun c_585 => ?_) (fun c_585 => ?_)
          · exact K_582 x_540 ri_542 _ _ _ hG hP hD hS (lv_sub hl [0, 1, 2, 3, 4] rfl)
          · have h_586 : rg a0 (-1) 39 := rg_and (rg_full _) (rg_of_eq c_585.symm h_573) (by decide)
            refine lv_aload_n hx hb dX10_passTitles_28 rfl (lv_at hl 0 rfl) ?_
            refine pg_f (v := .ref w_571) (C := RX10) (T := TX10) (N := 13) hx hb hts (tw_i inlX10) hown hK hP hL_this hK_this (by decide) rfl 5 (by decide) (hts _ (tw_c tw_34)) (pq_hv rfl hR_w_571) dX10_passTitles_29 ?_
            refine lv_iload hx hb dX10_passTitles_32 (lv_at hl 4 rfl) ?_
            refine lv_iload_n hx hb dX10_passTitles_34 rfl (lv_at hl 2 rfl) ?_
            refine pt_i hx hb hK hP hD hS hL_w_571 hK_w_571 hN_w_571 (rg_in h_569 (by decide)) dX10_passTitles_35 (fun r_587 H locs er_587 hP hD hS => ?_)
            have hG := GX.wR hG hSH hT_w_571 rfl er_587 (rg_w h_a1 (by decide)) (by decide)
            obtain ⟨x_588, ex_588⟩ : ∃ y : Int32, y = x_540 + Int32.ofInt 1 := ⟨_, rfl⟩
            refine lv_iinc (v := x_588) (lv' := [(3, .int x_588), (0, .ref this), (1, .int a0), (2, .int a1), (4, .int x_541)]) hx hb dX10_passTitles_36 hl (k := 3) rfl ex_588.symm (by decide) rfl (fun ls hl => ?_)
            exact K_582 x_588 r_587 _ _ _ hG hP hD hS (lv_sub hl [1, 2, 3, 0, 4] rfl)
    exact L_562 _ (0 : Int32) (0 : Int32) ri _ _ _ (rg_w (rg_k (0 : Int32) 0 rfl) (by decide)) (Nat.lt_succ_self _) hG hP hD hS (lv_sub hl [2, 3, 4, 1, 0] rfl)
  exact go _ _ _ hP hD hS hl

set_option maxHeartbeats 4000000 in
set_option maxRecDepth 100000 in
theorem s_J13_bitCount_95d88 (l : Launch) (D : va_G) (t : pq_T) (σ : pq_S) (I : Nat → Nat → Int32) (J : Nat → Nat → Int64) (ri : Nat → Nat → Int32) (rj : Nat → Nat → Int64) (rq : Nat → Nat → Option Nat) (sz : Nat) (tg : Nat → Nat) (hSH : SH σ tg) (hG0 : GS tg σ I ri rq) (a0 : Int64) : MetI l yJ13_bitCount_95d88 (wa yJ13_bitCount_95d88 cJ13_bitCount_95d88 2 (some .int)) ({ frames := 0, cells := 0, slots := 0, locals := 0 }) [.long a0] D t σ (I, J, ri, rj, rq) sz 0 0 (fun (r : Int32) (u : pq_S × pq_M) => u = (σ, I, J, ri, rj, rq)) := by
  refine Met.ofW (cc := cJ13_bitCount_95d88) (maxL := 2) (ret := (some .int)) (by decide) rfl ?_
  intro p e s m args below meth c s₁ B hml hv
  obtain ⟨rfl, hsz, hP, hK, hD0, hN⟩ := hv
  have hx := B.exec
  have hb := B.bytes
  have hr := B.returns
  have hts := atoms_spec (ws := (wa yJ13_bitCount_95d88 cJ13_bitCount_95d88 2 (some .int))) B.pre
  have hown : s.vm.findClass RJ13 = some m.cls := findClass_of_methodNamed B.named
  have hlocks := B.notSynchronized
  subst hsz
  have hD : va_D (pq_B t σ (I, J, ri, rj, rq) s.heap.size) (pq_P t σ (I, J, ri, rj, rq)) := hD0.self
  generalize hAe : pq_B t σ (I, J, ri, rj, rq) s.heap.size = A at hD ⊢
  have hA : ∀ q : Nat, s.heap.size ≤ q → A q := fun q h => by rw [← hAe]; exact Or.inr h
  have hS : va_S A s.heap s.heap [] := va_S.rf
  have hG : GX [] tg σ I ri rj I ri rj rq := ⟨hG0, fun _ _ _ => rfl, fun _ _ _ _ _ => rfl, fun _ _ _ _ _ => rfl⟩
  have hl := lv_entry ([.long a0]) (n := 2) (Nat.le_of_ble_eq_true rfl)
  rw [lg_entry_eq]
  generalize (lg_sl ([.long a0]) ++ List.replicate (2 - (lg_sl ([.long a0])).length) Slot.unset).toArray = ls at hl ⊢
  have hl : lv_has ls 2 [(0, .long a0)] := hl
  refine q_gen (fun Q hQ => ?_)
  have go : ∀ (H : Heap) (locs : List Loc) (ls : Array Slot), va_P D vwCl (pq_P t σ (I, J, ri, rj, rq)) H → va_D A (pq_P t σ (I, J, ri, rj, rq)) → va_S A s.heap H locs → lv_has ls 2 [(0, .long a0)] → W p l e ({ frames := 0, cells := 0, slots := 0, locals := 0 } : Room) s m (List.toArray ([.long a0] : List Value)) below meth c H locs 0 0 Q (F0 m 0 ls []) := by
    intro H locs ls hP hD hS hl
    refine lv_lload_n hx hb dJ13_bitCount_95d88_0 rfl (lv_at hl 0 rfl) ?_
    refine lv_lload_n hx hb dJ13_bitCount_95d88_1 rfl (lv_at hl 0 rfl) ?_
    refine lv_iconst (v := 1) hx hb dJ13_bitCount_95d88_2 (by decide) ?_
    refine lv_lushr hx hb dJ13_bitCount_95d88_3 rfl ?_
    refine lv_topl (fun x_1 ex_1 => ?_)
    refine lv_ldc2 hx hb hown (hts _ (tw_c tw_1346)) dJ13_bitCount_95d88_4 ?_
    refine lv_land hx hb dJ13_bitCount_95d88_7 ?_
    refine lv_topl (fun x_2 ex_2 => ?_)
    refine lv_lsub hx hb dJ13_bitCount_95d88_8 ?_
    refine lv_topl (fun x_3 ex_3 => ?_)
    refine lv_lstore_n (lv' := [(0, .long x_3)]) hx hb dJ13_bitCount_95d88_9 rfl hl (by decide) rfl (fun ls hl => ?_)
    refine lv_lload_n hx hb dJ13_bitCount_95d88_10 rfl (lv_at hl 0 rfl) ?_
    refine lv_ldc2 hx hb hown (hts _ (tw_c tw_1347)) dJ13_bitCount_95d88_11 ?_
    refine lv_land hx hb dJ13_bitCount_95d88_14 ?_
    refine lv_topl (fun x_4 ex_4 => ?_)
    refine lv_lload_n hx hb dJ13_bitCount_95d88_15 rfl (lv_at hl 0 rfl) ?_
    refine lv_iconst (v := 2) hx hb dJ13_bitCount_95d88_16 (by decide) ?_
    refine lv_lushr hx hb dJ13_bitCount_95d88_17 rfl ?_
    refine lv_topl (fun x_5 ex_5 => ?_)
    refine lv_ldc2 hx hb hown (hts _ (tw_c tw_1347)) dJ13_bitCount_95d88_18 ?_
    refine lv_land hx hb dJ13_bitCount_95d88_21 ?_
    refine lv_topl (fun x_6 ex_6 => ?_)
    refine lv_ladd hx hb dJ13_bitCount_95d88_22 ?_
    refine lv_topl (fun x_7 ex_7 => ?_)
    refine lv_lstore_n (lv' := [(0, .long x_7)]) hx hb dJ13_bitCount_95d88_23 rfl hl (by decide) rfl (fun ls hl => ?_)
    refine lv_lload_n hx hb dJ13_bitCount_95d88_24 rfl (lv_at hl 0 rfl) ?_
    refine lv_lload_n hx hb dJ13_bitCount_95d88_25 rfl (lv_at hl 0 rfl) ?_
    refine lv_iconst (v := 4) hx hb dJ13_bitCount_95d88_26 (by decide) ?_
    refine lv_lushr hx hb dJ13_bitCount_95d88_27 rfl ?_
    refine lv_topl (fun x_8 ex_8 => ?_)
    refine lv_ladd hx hb dJ13_bitCount_95d88_28 ?_
    refine lv_topl (fun x_9 ex_9 => ?_)
    refine lv_ldc2 hx hb hown (hts _ (tw_c tw_1348)) dJ13_bitCount_95d88_29 ?_
    refine lv_land hx hb dJ13_bitCount_95d88_32 ?_
    refine lv_topl (fun x_10 ex_10 => ?_)
    refine lv_lstore_n (lv' := [(0, .long x_10)]) hx hb dJ13_bitCount_95d88_33 rfl hl (by decide) rfl (fun ls hl => ?_)
    refine lv_lload_n hx hb dJ13_bitCount_95d88_34 rfl (lv_at hl 0 rfl) ?_
    refine lv_lload_n hx hb dJ13_bitCount_95d88_35 rfl (lv_at hl 0 rfl) ?_
    refine lv_bipush (v := 8) hx hb dJ13_bitCount_95d88_36 (by decide) ?_
    refine lv_lushr hx hb dJ13_bitCount_95d88_38 rfl ?_
    refine lv_topl (fun x_11 ex_11 => ?_)
    refine lv_ladd hx hb dJ13_bitCount_95d88_39 ?_
    refine lv_topl (fun x_12 ex_12 => ?_)
    refine lv_lstore_n (lv' := [(0, .long x_12)]) hx hb dJ13_bitCount_95d88_40 rfl hl (by decide) rfl (fun ls hl => ?_)
    refine lv_lload_n hx hb dJ13_bitCount_95d88_41 rfl (lv_at hl 0 rfl) ?_
    refine lv_lload_n hx hb dJ13_bitCount_95d88_42 rfl (lv_at hl 0 rfl) ?_
    refine lv_bipush (v := 16) hx hb dJ13_bitCount_95d88_43 (by decide) ?_
    refine lv_lushr hx hb dJ13_bitCount_95d88_45 rfl ?_
    refine lv_topl (fun x_13 ex_13 => ?_)
    refine lv_ladd hx hb dJ13_bitCount_95d88_46 ?_
    refine lv_topl (fun x_14 ex_14 => ?_)
    refine lv_lstore_n (lv' := [(0, .long x_14)]) hx hb dJ13_bitCount_95d88_47 rfl hl (by decide) rfl (fun ls hl => ?_)
    refine lv_lload_n hx hb dJ13_bitCount_95d88_48 rfl (lv_at hl 0 rfl) ?_
    refine lv_lload_n hx hb dJ13_bitCount_95d88_49 rfl (lv_at hl 0 rfl) ?_
    refine lv_bipush (v := 32) hx hb dJ13_bitCount_95d88_50 (by decide) ?_
    refine lv_lushr hx hb dJ13_bitCount_95d88_52 rfl ?_
    refine lv_topl (fun x_15 ex_15 => ?_)
    refine lv_ladd hx hb dJ13_bitCount_95d88_53 ?_
    refine lv_topl (fun x_16 ex_16 => ?_)
    refine lv_lstore_n (lv' := [(0, .long x_16)]) hx hb dJ13_bitCount_95d88_54 rfl hl (by decide) rfl (fun ls hl => ?_)
    refine lv_lload_n hx hb dJ13_bitCount_95d88_55 rfl (lv_at hl 0 rfl) ?_
    refine lv_l2i hx hb dJ13_bitCount_95d88_56 rfl ?_
    refine lv_topi (fun x_17 ex_17 => ?_)
    refine lv_bipush (v := 127) hx hb dJ13_bitCount_95d88_57 (by decide) ?_
    refine lv_iand hx hb dJ13_bitCount_95d88_59 ?_
    refine lv_topi (fun x_18 ex_18 => ?_)
    subst hQ
    exact W.iret (v := x_18) hx hb hr (fun t1 ht hW => ⟨⟨x_18, (σ, I, J, ri, rj, rq), rfl, rfl, by rw [ht]; exact hP, va_K.moved hW.alike hK, hD⟩, hS.F ht⟩) hS.2.2 dJ13_bitCount_95d88_60
  exact go _ _ _ hP hD hS hl

set_option maxHeartbeats 4000000 in
set_option maxRecDepth 100000 in
theorem s_X10_decide (l : Launch) (D : va_G) (t : pq_T) (σ : pq_S) (I : Nat → Nat → Int32) (J : Nat → Nat → Int64) (ri : Nat → Nat → Int32) (rj : Nat → Nat → Int64) (rq : Nat → Nat → Option Nat) (sz : Nat) (tg : Nat → Nat) (hSH : SH σ tg) (hG0 : GS tg σ I ri rq) (this : Nat) (a0 : Int64) (hL_this : this ∈ σ.1) (hK_this : σ.2.1 this = 10) : MetI l yX10_decide (wa yX10_decide cX10_decide 8 (some .int)) ({ frames := 5, cells := 0, slots := 0, locals := 143 }) [.ref this, .long a0] D t σ (I, J, ri, rj, rq) sz 0 0 (fun (r : Int32) (u : pq_S × pq_M) => ∃ ri' : Nat → Nat → Int32, u = (σ, I, J, ri', rj, rq) ∧ GX [] tg σ I ri rj I ri' rj rq ∧ rg r 0 2) := by
  refine Met.ofW (cc := cX10_decide) (maxL := 8) (ret := (some .int)) (by decide) rfl ?_
  intro p e s m args below meth c s₁ B hml hv
  obtain ⟨rfl, hsz, hP, hK, hD0, hN⟩ := hv
  have hx := B.exec
  have hb := B.bytes
  have hr := B.returns
  have hts := atoms_spec (ws := (wa yX10_decide cX10_decide 8 (some .int))) B.pre
  have hown : s.vm.findClass RX10 = some m.cls := findClass_of_methodNamed B.named
  have hlocks := B.notSynchronized
  subst hsz
  have hD : va_D (pq_B t σ (I, J, ri, rj, rq) s.heap.size) (pq_P t σ (I, J, ri, rj, rq)) := hD0.self
  generalize hAe : pq_B t σ (I, J, ri, rj, rq) s.heap.size = A at hD ⊢
  have hA : ∀ q : Nat, s.heap.size ≤ q → A q := fun q h => by rw [← hAe]; exact Or.inr h
  have hS : va_S A s.heap s.heap [] := va_S.rf
  have hG : GX [] tg σ I ri rj I ri rj rq := ⟨hG0, fun _ _ _ => rfl, fun _ _ _ _ _ => rfl, fun _ _ _ _ _ => rfl⟩
  have hl := lv_entry ([.ref this, .long a0]) (n := 8) (Nat.le_of_ble_eq_true rfl)
  rw [lg_entry_eq]
  generalize (lg_sl ([.ref this, .long a0]) ++ List.replicate (8 - (lg_sl ([.ref this, .long a0])).length) Slot.unset).toArray = ls at hl ⊢
  have hl : lv_has ls 8 [(0, .ref this), (1, .long a0)] := hl
  refine q_gen (fun Q hQ => ?_)
  have go : ∀ (H : Heap) (locs : List Loc) (ls : Array Slot), va_P D vwCl (pq_P t σ (I, J, ri, rj, rq)) H → va_D A (pq_P t σ (I, J, ri, rj, rq)) → va_S A s.heap H locs → lv_has ls 8 [(0, .ref this), (1, .long a0)] → W p l e ({ frames := 5, cells := 0, slots := 0, locals := 143 } : Room) s m (List.toArray ([.ref this, .long a0] : List Value)) below meth c H locs 0 0 Q (F0 m 0 ls []) := by
    intro H locs ls hP hD hS hl
    refine lv_aload_n hx hb dX10_decide_0 rfl (lv_at hl 0 rfl) ?_
    obtain ⟨w_1, hR_w_1, hL_w_1, hK_w_1⟩ := sh_o hSH 328 (ci := 10) (kd := 0) rfl hL_this hK_this
    refine pg_f (v := .ref w_1) (C := RX10) (T := TX10) (N := 13) hx hb hts (tw_i inlX10) hown hK hP hL_this hK_this (by decide) rfl 8 (by decide) (hts _ (tw_c tw_46)) (pq_hv rfl hR_w_1) dX10_decide_1 ?_
    refine pk_l (va_runV (As := []) (rest := []) ⟨hx, hb, hml, hown, hts⟩ (s_X0_notDead l D t σ I J ri rj rq H.size tg hSH hG.1 w_1 hL_w_1 hK_w_1) (cwV 0 hts (tw_V tw_1338 tw_1339 tw_1340 tw_45 tw_1341) rfl rfl rfl cv_yX0_notDead_0 ⟨Nat.le_of_ble_eq_true rfl, Nat.le_of_ble_eq_true rfl⟩) ⟨pq_blind, pq_recv hK hP hL_w_1 hK_w_1 (by decide) rfl, pq_pre hK hN hP hD⟩ rfl rfl hl.1 rfl (lv_room (Nat.le_of_ble_eq_true rfl)) dX10_decide_4 ⟨Nat.le_of_ble_eq_true rfl, Nat.le_of_ble_eq_true rfl⟩) hD hS hA (fun x_2 σ1 μ1 H locs hw_3 hP hD hS => ?_)
    have hu_4 := hw_3
    obtain ⟨hu_4a, hu_4b⟩ := Prod.mk.inj hu_4
    rw [hu_4a, hu_4b] at hP hD
    refine lv_lstore_n (lv' := [(3, .long x_2), (0, .ref this), (1, .long a0)]) hx hb dX10_decide_7 rfl hl (by decide) rfl (fun ls hl => ?_)
    refine lv_aload_n hx hb dX10_decide_8 rfl (lv_at hl 1 rfl) ?_
    obtain ⟨w_7, hR_w_7, hL_w_7, hK_w_7⟩ := sh_o hSH 329 (ci := 10) (kd := 3) rfl hL_this hK_this
    refine pg_f (v := .ref w_7) (C := RX10) (T := TX10) (N := 13) hx hb hts (tw_i inlX10) hown hK hP hL_this hK_this (by decide) rfl 9 (by decide) (hts _ (tw_c tw_50)) (pq_hv rfl hR_w_7) dX10_decide_9 ?_
    refine lv_iconst (v := 1) hx hb dX10_decide_12 (by decide) ?_
    refine lv_aload_n hx hb dX10_decide_13 rfl (lv_at hl 1 rfl) ?_
    refine pg_f (v := .int (I 320 this)) (C := RX10) (T := TX10) (N := 13) hx hb hts (tw_i inlX10) hown hK hP hL_this hK_this (by decide) rfl 0 (by decide) (hts _ (tw_c tw_457)) rfl dX10_decide_14 ?_
    have h_8 : rg (I 320 this) 0 600 := GX.rI hG 320 rfl
    refine lv_aload_n hx hb dX10_decide_17 rfl (lv_at hl 1 rfl) ?_
    refine pg_f (v := .ref w_1) (C := RX10) (T := TX10) (N := 13) hx hb hts (tw_i inlX10) hown hK hP hL_this hK_this (by decide) rfl 8 (by decide) (hts _ (tw_c tw_46)) (pq_hv rfl hR_w_1) dX10_decide_18 ?_
    refine lv_lload_n hx hb dX10_decide_21 rfl (lv_at hl 0 rfl) ?_
    refine pk_l (va_runV (As := [.int 1, .int (I 320 this), .ref w_1, .long x_2]) (rest := []) ⟨hx, hb, hml, hown, hts⟩ (s_X3_whoIsSo l D t σ I J ri rj rq H.size tg hSH hG.1 w_7 (1 : Int32) (I 320 this) w_1 x_2 hL_w_7 hK_w_7 hL_w_1 hK_w_1) (cwV 4 hts (tw_V tw_1166 tw_964 tw_965 tw_49 tw_966) rfl rfl rfl cv_yX3_whoIsSo_4 ⟨Nat.le_of_ble_eq_true rfl, Nat.le_of_ble_eq_true rfl⟩) ⟨pq_blind, pq_recv hK hP hL_w_7 hK_w_7 (by decide) rfl, pq_pre hK hN hP hD⟩ rfl rfl hl.1 rfl (lv_room (Nat.le_of_ble_eq_true rfl)) dX10_decide_22 ⟨Nat.le_of_ble_eq_true rfl, Nat.le_of_ble_eq_true rfl⟩) hD hS hA (fun x_9 σ1 μ1 H locs hw_10 hP hD hS => ?_)
    obtain ⟨ri_11, hu_12, hg_13⟩ := hw_10
    obtain ⟨hu_12a, hu_12b⟩ := Prod.mk.inj hu_12
    rw [hu_12a, hu_12b] at hP hD
    have hG := GX.tr hG hg_13 (by decide)
    refine lv_aload_n hx hb dX10_decide_25 rfl (lv_at hl 1 rfl) ?_
    refine pg_f (v := .ref w_7) (C := RX10) (T := TX10) (N := 13) hx hb hts (tw_i inlX10) hown hK hP hL_this hK_this (by decide) rfl 9 (by decide) (hts _ (tw_c tw_50)) (pq_hv rfl hR_w_7) dX10_decide_26 ?_
    refine lv_iconst (v := 3) hx hb dX10_decide_29 (by decide) ?_
    refine lv_aload_n hx hb dX10_decide_30 rfl (lv_at hl 1 rfl) ?_
    refine pg_f (v := .int (I 320 this)) (C := RX10) (T := TX10) (N := 13) hx hb hts (tw_i inlX10) hown hK hP hL_this hK_this (by decide) rfl 0 (by decide) (hts _ (tw_c tw_457)) rfl dX10_decide_31 ?_
    refine lv_aload_n hx hb dX10_decide_34 rfl (lv_at hl 1 rfl) ?_
    refine pg_f (v := .ref w_1) (C := RX10) (T := TX10) (N := 13) hx hb hts (tw_i inlX10) hown hK hP hL_this hK_this (by decide) rfl 8 (by decide) (hts _ (tw_c tw_46)) (pq_hv rfl hR_w_1) dX10_decide_35 ?_
    refine lv_lload_n hx hb dX10_decide_38 rfl (lv_at hl 0 rfl) ?_
    refine pk_l (va_runV (As := [.int 3, .int (I 320 this), .ref w_1, .long x_2]) (rest := [.long x_9]) ⟨hx, hb, hml, hown, hts⟩ (s_X3_whoIsSo l D t σ I J ri_11 rj rq H.size tg hSH hG.1 w_7 (3 : Int32) (I 320 this) w_1 x_2 hL_w_7 hK_w_7 hL_w_1 hK_w_1) (cwV 4 hts (tw_V tw_1166 tw_964 tw_965 tw_49 tw_966) rfl rfl rfl cv_yX3_whoIsSo_4 ⟨Nat.le_of_ble_eq_true rfl, Nat.le_of_ble_eq_true rfl⟩) ⟨pq_blind, pq_recv hK hP hL_w_7 hK_w_7 (by decide) rfl, pq_pre hK hN hP hD⟩ rfl rfl hl.1 rfl (lv_room (Nat.le_of_ble_eq_true rfl)) dX10_decide_39 ⟨Nat.le_of_ble_eq_true rfl, Nat.le_of_ble_eq_true rfl⟩) hD hS hA (fun x_15 σ1 μ1 H locs hw_16 hP hD hS => ?_)
    obtain ⟨ri_17, hu_18, hg_19⟩ := hw_16
    obtain ⟨hu_18a, hu_18b⟩ := Prod.mk.inj hu_18
    rw [hu_18a, hu_18b] at hP hD
    have hG := GX.tr hG hg_19 (by decide)
    refine lv_land hx hb dX10_decide_42 ?_
    refine lv_topl (fun x_21 ex_21 => ?_)
    refine lv_lstore (lv' := [(5, .long x_21), (3, .long x_2), (0, .ref this), (1, .long a0)]) hx hb dX10_decide_43 hl (by decide) rfl (fun ls hl => ?_)
    refine lv_lload hx hb dX10_decide_45 (lv_at hl 0 rfl) ?_
    refine lv_lload_n hx hb dX10_decide_47 rfl (lv_at hl 3 rfl) ?_
    refine lv_land hx hb dX10_decide_48 ?_
    refine lv_topl (fun x_22 ex_22 => ?_)
    refine pk_i (va_runS (As := [.long x_22]) (rest := []) ⟨hx, hb, hml, hown, hts⟩ (s_J13_bitCount_95d88 l D t σ I J ri_17 rj rq H.size tg hSH hG.1 x_22) (va_cwS 1 hts (tw_S tw_1342 tw_1343 tw_1344 tw_1345) rfl rfl rfl cd_yJ13_bitCount_95d88_1 ⟨Nat.le_of_ble_eq_true rfl, Nat.le_of_ble_eq_true rfl⟩) ⟨pq_blind, pq_pre hK hN hP hD⟩ rfl rfl hl.1 rfl (lv_room (Nat.le_of_ble_eq_true rfl)) dX10_decide_49 ⟨Nat.le_of_ble_eq_true rfl, Nat.le_of_ble_eq_true rfl⟩) hD hS hA (fun x_23 σ1 μ1 H locs hw_24 hP hD hS => ?_)
    have hu_25 := hw_24
    obtain ⟨hu_25a, hu_25b⟩ := Prod.mk.inj hu_25
    rw [hu_25a, hu_25b] at hP hD
    refine lv_istore (lv' := [(7, .int x_23), (5, .long x_21), (3, .long x_2), (0, .ref this), (1, .long a0)]) hx hb dX10_decide_52 hl (by decide) rfl (fun ls hl => ?_)
    refine lv_bipush (v := 100) hx hb dX10_decide_54 (by decide) ?_
    refine lv_iload hx hb dX10_decide_56 (lv_at hl 0 rfl) ?_
    refine lv_imul hx hb dX10_decide_58 ?_
    refine lv_topi (fun x_28 ex_28 => ?_)
    refine lv_aload_n hx hb dX10_decide_59 rfl (lv_at hl 3 rfl) ?_
    refine pg_f (v := .ref w_7) (C := RX10) (T := TX10) (N := 13) hx hb hts (tw_i inlX10) hown hK hP hL_this hK_this (by decide) rfl 9 (by decide) (hts _ (tw_c tw_50)) (pq_hv rfl hR_w_7) dX10_decide_60 ?_
    refine lv_aload_n hx hb dX10_decide_63 rfl (lv_at hl 3 rfl) ?_
    refine pg_f (v := .int (I 320 this)) (C := RX10) (T := TX10) (N := 13) hx hb hts (tw_i inlX10) hown hK hP hL_this hK_this (by decide) rfl 0 (by decide) (hts _ (tw_c tw_457)) rfl dX10_decide_64 ?_
    refine pk_i (va_runV (As := [.int (I 320 this)]) (rest := [.int x_28]) ⟨hx, hb, hml, hown, hts⟩ (s_X3_councilIn l D t σ I J ri_17 rj rq H.size tg hSH hG.1 w_7 (I 320 this) hL_w_7 hK_w_7) (cwV 1 hts (tw_V tw_1349 tw_992 tw_993 tw_49 tw_994) rfl rfl rfl cv_yX3_councilIn_1 ⟨Nat.le_of_ble_eq_true rfl, Nat.le_of_ble_eq_true rfl⟩) ⟨pq_blind, pq_recv hK hP hL_w_7 hK_w_7 (by decide) rfl, pq_pre hK hN hP hD⟩ rfl rfl hl.1 rfl (lv_room (Nat.le_of_ble_eq_true rfl)) dX10_decide_67 ⟨Nat.le_of_ble_eq_true rfl, Nat.le_of_ble_eq_true rfl⟩) hD hS hA (fun x_29 σ1 μ1 H locs hw_30 hP hD hS => ?_)
    have hu_31 := hw_30
    obtain ⟨hu_31a, hu_31b⟩ := Prod.mk.inj hu_31
    rw [hu_31a, hu_31b] at hP hD
    refine lv_lload hx hb dX10_decide_70 (lv_at hl 1 rfl) ?_
    refine pk_i (va_runS (As := [.long x_21]) (rest := [.int x_29, .int x_28]) ⟨hx, hb, hml, hown, hts⟩ (s_J13_bitCount_95d88 l D t σ I J ri_17 rj rq H.size tg hSH hG.1 x_21) (va_cwS 1 hts (tw_S tw_1342 tw_1343 tw_1344 tw_1345) rfl rfl rfl cd_yJ13_bitCount_95d88_1 ⟨Nat.le_of_ble_eq_true rfl, Nat.le_of_ble_eq_true rfl⟩) ⟨pq_blind, pq_pre hK hN hP hD⟩ rfl rfl hl.1 rfl (lv_room (Nat.le_of_ble_eq_true rfl)) dX10_decide_72 ⟨Nat.le_of_ble_eq_true rfl, Nat.le_of_ble_eq_true rfl⟩) hD hS hA (fun x_34 σ1 μ1 H locs hw_35 hP hD hS => ?_)
    have hu_36 := hw_35
    obtain ⟨hu_36a, hu_36b⟩ := Prod.mk.inj hu_36
    rw [hu_36a, hu_36b] at hP hD
    refine lv_imul hx hb dX10_decide_75 ?_
    refine lv_topi (fun x_39 ex_39 => ?_)
    refine lv_icmp_ge (tgt := 81) hx hb dX10_decide_76 (by decide) (fun c_40 => ?_) (fun c_40 => ?_)
    · refine lv_aload_n hx hb dX10_decide_81 rfl (lv_at hl 3 rfl) ?_
      refine pg_f (v := .ref w_1) (C := RX10) (T := TX10) (N := 13) hx hb hts (tw_i inlX10) hown hK hP hL_this hK_this (by decide) rfl 8 (by decide) (hts _ (tw_c tw_46)) (pq_hv rfl hR_w_1) dX10_decide_82 ?_
      refine lv_lload hx hb dX10_decide_85 (lv_at hl 1 rfl) ?_
      refine lv_lload_n hx hb dX10_decide_87 rfl (lv_at hl 4 rfl) ?_
      refine lv_land hx hb dX10_decide_88 ?_
      refine lv_topl (fun x_41 ex_41 => ?_)
      refine lv_iconst (v := 1) hx hb dX10_decide_89 (by decide) ?_
      refine pk_i (va_runV (As := [.long x_41, .int 1]) (rest := []) ⟨hx, hb, hml, hown, hts⟩ (s_X0_countVotes l D t σ I J ri_17 rj rq H.size tg hSH hG.1 w_1 x_41 (1 : Int32) hL_w_1 hK_w_1) (cwV 2 hts (tw_V tw_1350 tw_1351 tw_1352 tw_45 tw_1353) rfl rfl rfl cv_yX0_countVotes_2 ⟨Nat.le_of_ble_eq_true rfl, Nat.le_of_ble_eq_true rfl⟩) ⟨pq_blind, pq_recv hK hP hL_w_1 hK_w_1 (by decide) rfl, pq_pre hK hN hP hD⟩ rfl rfl hl.1 rfl (lv_room (Nat.le_of_ble_eq_true rfl)) dX10_decide_90 ⟨Nat.le_of_ble_eq_true rfl, Nat.le_of_ble_eq_true rfl⟩) hD hS hA (fun x_42 σ1 μ1 H locs hw_43 hP hD hS => ?_)
      have hu_44 := hw_43
      obtain ⟨hu_44a, hu_44b⟩ := Prod.mk.inj hu_44
      rw [hu_44a, hu_44b] at hP hD
      refine lv_aload_n hx hb dX10_decide_93 rfl (lv_at hl 3 rfl) ?_
      refine pg_f (v := .ref w_1) (C := RX10) (T := TX10) (N := 13) hx hb hts (tw_i inlX10) hown hK hP hL_this hK_this (by decide) rfl 8 (by decide) (hts _ (tw_c tw_46)) (pq_hv rfl hR_w_1) dX10_decide_94 ?_
      refine lv_lload hx hb dX10_decide_97 (lv_at hl 1 rfl) ?_
      refine lv_lload_n hx hb dX10_decide_99 rfl (lv_at hl 4 rfl) ?_
      refine lv_land hx hb dX10_decide_100 ?_
      refine lv_topl (fun x_47 ex_47 => ?_)
      refine lv_iconst (v := 0) hx hb dX10_decide_101 (by decide) ?_
      refine pk_i (va_runV (As := [.long x_47, .int 0]) (rest := [.int x_42]) ⟨hx, hb, hml, hown, hts⟩ (s_X0_countVotes l D t σ I J ri_17 rj rq H.size tg hSH hG.1 w_1 x_47 (0 : Int32) hL_w_1 hK_w_1) (cwV 2 hts (tw_V tw_1350 tw_1351 tw_1352 tw_45 tw_1353) rfl rfl rfl cv_yX0_countVotes_2 ⟨Nat.le_of_ble_eq_true rfl, Nat.le_of_ble_eq_true rfl⟩) ⟨pq_blind, pq_recv hK hP hL_w_1 hK_w_1 (by decide) rfl, pq_pre hK hN hP hD⟩ rfl rfl hl.1 rfl (lv_room (Nat.le_of_ble_eq_true rfl)) dX10_decide_102 ⟨Nat.le_of_ble_eq_true rfl, Nat.le_of_ble_eq_true rfl⟩) hD hS hA (fun x_48 σ1 μ1 H locs hw_49 hP hD hS => ?_)
      have hu_50 := hw_49
      obtain ⟨hu_50a, hu_50b⟩ := Prod.mk.inj hu_50
      rw [hu_50a, hu_50b] at hP hD
      refine lv_icmp_le (tgt := 112) hx hb dX10_decide_105 (by decide) (fun c_53 => ?_) (fun c_53 => ?_)
      · refine lv_iconst (v := 0) hx hb dX10_decide_112 (by decide) ?_
        subst hQ
        exact W.iret (v := 0) hx hb hr (fun t1 ht hW => ⟨⟨0, (σ, I, J, ri_17, rj, rq), rfl, ⟨ri_17, rfl, hG, (rg_w (rg_k (0 : Int32) 0 rfl) (by decide))⟩, by rw [ht]; exact hP, va_K.moved hW.alike hK, hD⟩, hS.F ht⟩) hS.2.2 dX10_decide_113
      · have h_54 : rg x_48 (-2147483648) 2147483646 := rg_lt1 (nle c_53) (rg_full _) (rg_full _) (by decide)
        have h_55 : rg x_42 (-2147483647) 2147483647 := rg_lt2 (nle c_53) (rg_full _) (rg_full _) (by decide)
        refine lv_iconst (v := 1) hx hb dX10_decide_108 (by decide) ?_
        refine lv_goto (tgt := 113) hx hb dX10_decide_109 (by decide) ?_
        subst hQ
        exact W.iret (v := 1) hx hb hr (fun t1 ht hW => ⟨⟨1, (σ, I, J, ri_17, rj, rq), rfl, ⟨ri_17, rfl, hG, (rg_w (rg_k (1 : Int32) 1 rfl) (by decide))⟩, by rw [ht]; exact hP, va_K.moved hW.alike hK, hD⟩, hS.F ht⟩) hS.2.2 dX10_decide_113
    · have h_56 : rg x_28 (-2147483648) 2147483646 := rg_lt1 (nle c_40) (rg_full _) (rg_full _) (by decide)
      have h_57 : rg x_39 (-2147483647) 2147483647 := rg_lt2 (nle c_40) (rg_full _) (rg_full _) (by decide)
      refine lv_iconst (v := 2) hx hb dX10_decide_79 (by decide) ?_
      subst hQ
      exact W.iret (v := 2) hx hb hr (fun t1 ht hW => ⟨⟨2, (σ, I, J, ri_17, rj, rq), rfl, ⟨ri_17, rfl, hG, (rg_w (rg_k (2 : Int32) 2 rfl) (by decide))⟩, by rw [ht]; exact hP, va_K.moved hW.alike hK, hD⟩, hS.F ht⟩) hS.2.2 dX10_decide_80
  exact go _ _ _ hP hD hS hl
