theorem dX10_goBy_0 : decode cX10_goBy 0 = .ok (.aload_n 0, 1) := by decide +kernel
theorem dX10_goBy_1 : decode cX10_goBy 1 = .ok (.getfield 67, 3) := by decide +kernel
theorem dX10_goBy_4 : decode cX10_goBy 4 = .ok (.sipush 600, 3) := by decide +kernel
theorem dX10_goBy_7 : decode cX10_goBy 7 = .ok (.if_icmp .lt 4, 3) := by decide +kernel
theorem dX10_goBy_11 : decode cX10_goBy 11 = .ok (.aload_n 0, 1) := by decide +kernel
theorem dX10_goBy_12 : decode cX10_goBy 12 = .ok (.iload_n 1, 1) := by decide +kernel
theorem tw_1047 : Cond.methodLink RX10 96 yX10_nature ∈ wsL_law := List.mem_of_getElem? (i := 1047) (by decide +kernel)
theorem dX10_goBy_13 : decode cX10_goBy 13 = .ok (.invokevirtual 96, 3) := by decide +kernel
theorem dX10_goBy_16 : decode cX10_goBy 16 = .ok (.aload_n 0, 1) := by decide +kernel
theorem dX10_goBy_17 : decode cX10_goBy 17 = .ok (.getfield 32, 3) := by decide +kernel
theorem tw_1043 : Cond.fieldLink RX10 100 "RingsUnder$Land" "wells" "LRingsUnder$Wells;" ∈ wsL_law := List.mem_of_getElem? (i := 1043) (by decide +kernel)
theorem dX10_goBy_20 : decode cX10_goBy 20 = .ok (.getfield 100, 3) := by decide +kernel
theorem dX10_goBy_23 : decode cX10_goBy 23 = .ok (.aload_n 0, 1) := by decide +kernel
theorem dX10_goBy_24 : decode cX10_goBy 24 = .ok (.getfield 32, 3) := by decide +kernel
theorem tw_498 : Cond.fieldLink RX10 104 "RingsUnder$Land" "cells" "I" ∈ wsL_law := List.mem_of_getElem? (i := 498) (by decide +kernel)
theorem dX10_goBy_27 : decode cX10_goBy 27 = .ok (.getfield 104, 3) := by decide +kernel
theorem dX10_goBy_30 : decode cX10_goBy 30 = .ok (.aload_n 0, 1) := by decide +kernel
theorem dX10_goBy_31 : decode cX10_goBy 31 = .ok (.getfield 32, 3) := by decide +kernel
theorem tw_1044 : Cond.fieldLink RX10 107 "RingsUnder$Land" "dry" "J" ∈ wsL_law := List.mem_of_getElem? (i := 1044) (by decide +kernel)
theorem dX10_goBy_34 : decode cX10_goBy 34 = .ok (.getfield 107, 3) := by decide +kernel
theorem dX10_goBy_37 : decode cX10_goBy 37 = .ok (.aload_n 0, 1) := by decide +kernel
theorem dX10_goBy_38 : decode cX10_goBy 38 = .ok (.getfield 25, 3) := by decide +kernel
theorem tw_1045 : Cond.fieldLink RX10 111 "RingsUnder$Seas" "rain" "[I" ∈ wsL_law := List.mem_of_getElem? (i := 1045) (by decide +kernel)
theorem dX10_goBy_41 : decode cX10_goBy 41 = .ok (.getfield 111, 3) := by decide +kernel
theorem dX10_goBy_44 : decode cX10_goBy 44 = .ok (.aload_n 0, 1) := by decide +kernel
theorem dX10_goBy_45 : decode cX10_goBy 45 = .ok (.getfield 67, 3) := by decide +kernel
theorem dX10_goBy_48 : decode cX10_goBy 48 = .ok (.bipush 12, 2) := by decide +kernel
theorem dX10_goBy_50 : decode cX10_goBy 50 = .ok (.irem, 1) := by decide +kernel
theorem dX10_goBy_51 : decode cX10_goBy 51 = .ok (.iaload, 1) := by decide +kernel
theorem tw_1083 : Cond.methodLink RX10 114 yX9_fillUp ∈ wsL_law := List.mem_of_getElem? (i := 1083) (by decide +kernel)
theorem dX10_goBy_52 : decode cX10_goBy 52 = .ok (.invokevirtual 114, 3) := by decide +kernel
theorem dX10_goBy_55 : decode cX10_goBy 55 = .ok (.aload_n 0, 1) := by decide +kernel
theorem dX10_goBy_56 : decode cX10_goBy 56 = .ok (.getfield 32, 3) := by decide +kernel
theorem dX10_goBy_59 : decode cX10_goBy 59 = .ok (.aload_n 0, 1) := by decide +kernel
theorem tw_56 : Cond.fieldLink RX10 60 "RingsUnder$World" "ringBeds" "[I" ∈ wsL_law := List.mem_of_getElem? (i := 56) (by decide +kernel)
theorem dX10_goBy_60 : decode cX10_goBy 60 = .ok (.getfield 60, 3) := by decide +kernel
theorem dX10_goBy_63 : decode cX10_goBy 63 = .ok (.iconst 0, 1) := by decide +kernel
theorem tw_1090 : Cond.methodLink RX10 120 yX2_countBeds ∈ wsL_law := List.mem_of_getElem? (i := 1090) (by decide +kernel)
theorem dX10_goBy_64 : decode cX10_goBy 64 = .ok (.invokevirtual 120, 3) := by decide +kernel
theorem dX10_goBy_67 : decode cX10_goBy 67 = .ok (.aload_n 0, 1) := by decide +kernel
theorem dX10_goBy_68 : decode cX10_goBy 68 = .ok (.getfield 39, 3) := by decide +kernel
theorem dX10_goBy_71 : decode cX10_goBy 71 = .ok (.aload_n 0, 1) := by decide +kernel
theorem dX10_goBy_72 : decode cX10_goBy 72 = .ok (.getfield 32, 3) := by decide +kernel
theorem tw_1094 : Cond.methodLink RX10 123 yX0_drink ∈ wsL_law := List.mem_of_getElem? (i := 1094) (by decide +kernel)
theorem dX10_goBy_75 : decode cX10_goBy 75 = .ok (.invokevirtual 123, 3) := by decide +kernel
theorem dX10_goBy_78 : decode cX10_goBy 78 = .ok (.pop, 1) := by decide +kernel
theorem dX10_goBy_79 : decode cX10_goBy 79 = .ok (.aload_n 0, 1) := by decide +kernel
theorem dX10_goBy_80 : decode cX10_goBy 80 = .ok (.getfield 39, 3) := by decide +kernel
theorem dX10_goBy_83 : decode cX10_goBy 83 = .ok (.aload_n 0, 1) := by decide +kernel
theorem dX10_goBy_84 : decode cX10_goBy 84 = .ok (.getfield 60, 3) := by decide +kernel
theorem dX10_goBy_87 : decode cX10_goBy 87 = .ok (.iconst 0, 1) := by decide +kernel
theorem tw_1120 : Cond.methodLink RX10 127 yX0_sleep ∈ wsL_law := List.mem_of_getElem? (i := 1120) (by decide +kernel)
theorem dX10_goBy_88 : decode cX10_goBy 88 = .ok (.invokevirtual 127, 3) := by decide +kernel
theorem dX10_goBy_91 : decode cX10_goBy 91 = .ok (.pop, 1) := by decide +kernel
theorem dX10_goBy_92 : decode cX10_goBy 92 = .ok (.aload_n 0, 1) := by decide +kernel
theorem tw_1125 : Cond.methodLink RX10 131 yX10_reckon ∈ wsL_law := List.mem_of_getElem? (i := 1125) (by decide +kernel)
theorem tw_1126 : Cond.instanceMethod yX10_reckon ∈ wsL_law := List.mem_of_getElem? (i := 1126) (by decide +kernel)
theorem tw_1127 : Cond.selects RX10 yX10_reckon yX10_reckon ∈ wsL_law := List.mem_of_getElem? (i := 1127) (by decide +kernel)
theorem tw_1128 : Cond.code yX10_reckon cX10_reckon 3 none ∈ wsL_law := List.mem_of_getElem? (i := 1128) (by decide +kernel)
theorem dX10_goBy_93 : decode cX10_goBy 93 = .ok (.invokevirtual 131, 3) := by decide +kernel
theorem dX10_goBy_96 : decode cX10_goBy 96 = .ok (.aload_n 0, 1) := by decide +kernel
theorem dX10_goBy_97 : decode cX10_goBy 97 = .ok (.getfield 73, 3) := by decide +kernel
theorem dX10_goBy_174 : decode cX10_goBy 174 = .ok (.aload_n 0, 1) := by decide +kernel
theorem dX10_goBy_175 : decode cX10_goBy 175 = .ok (.dup, 1) := by decide +kernel
theorem dX10_goBy_176 : decode cX10_goBy 176 = .ok (.getfield 67, 3) := by decide +kernel
theorem dX10_goBy_179 : decode cX10_goBy 179 = .ok (.iconst 1, 1) := by decide +kernel
theorem dX10_goBy_180 : decode cX10_goBy 180 = .ok (.iadd, 1) := by decide +kernel
theorem dX10_goBy_181 : decode cX10_goBy 181 = .ok (.putfield 67, 3) := by decide +kernel
theorem dX10_goBy_184 : decode cX10_goBy 184 = .ok (.return_, 1) := by decide +kernel
theorem dX10_goBy_100 : decode cX10_goBy 100 = .ok (.ifCond .le 74, 3) := by decide +kernel
theorem dX10_goBy_103 : decode cX10_goBy 103 = .ok (.aload_n 0, 1) := by decide +kernel
theorem dX10_goBy_104 : decode cX10_goBy 104 = .ok (.getfield 46, 3) := by decide +kernel
theorem dX10_goBy_107 : decode cX10_goBy 107 = .ok (.iconst 4, 1) := by decide +kernel
theorem dX10_goBy_108 : decode cX10_goBy 108 = .ok (.aload_n 0, 1) := by decide +kernel
theorem dX10_goBy_109 : decode cX10_goBy 109 = .ok (.getfield 67, 3) := by decide +kernel
theorem dX10_goBy_112 : decode cX10_goBy 112 = .ok (.aload_n 0, 1) := by decide +kernel
theorem dX10_goBy_113 : decode cX10_goBy 113 = .ok (.getfield 39, 3) := by decide +kernel
theorem dX10_goBy_116 : decode cX10_goBy 116 = .ok (.aload_n 0, 1) := by decide +kernel
theorem tw_55 : Cond.fieldLink RX10 57 "RingsUnder$World" "queue" "[I" ∈ wsL_law := List.mem_of_getElem? (i := 55) (by decide +kernel)
theorem dX10_goBy_117 : decode cX10_goBy 117 = .ok (.getfield 57, 3) := by decide +kernel
theorem tw_461 : Cond.methodLink RX10 134 yX3_line ∈ wsL_law := List.mem_of_getElem? (i := 461) (by decide +kernel)
theorem tw_462 : Cond.instanceMethod yX3_line ∈ wsL_law := List.mem_of_getElem? (i := 462) (by decide +kernel)
theorem tw_463 : Cond.selects RX3 yX3_line yX3_line ∈ wsL_law := List.mem_of_getElem? (i := 463) (by decide +kernel)
theorem tw_464 : Cond.code yX3_line cX3_line 11 none ∈ wsL_law := List.mem_of_getElem? (i := 464) (by decide +kernel)
theorem dX10_goBy_120 : decode cX10_goBy 120 = .ok (.invokevirtual 134, 3) := by decide +kernel
theorem dX10_goBy_123 : decode cX10_goBy 123 = .ok (.aload_n 0, 1) := by decide +kernel
theorem dX10_goBy_124 : decode cX10_goBy 124 = .ok (.getfield 46, 3) := by decide +kernel
theorem dX10_goBy_127 : decode cX10_goBy 127 = .ok (.iconst 2, 1) := by decide +kernel
theorem dX10_goBy_128 : decode cX10_goBy 128 = .ok (.aload_n 0, 1) := by decide +kernel
theorem dX10_goBy_129 : decode cX10_goBy 129 = .ok (.getfield 67, 3) := by decide +kernel
theorem dX10_goBy_132 : decode cX10_goBy 132 = .ok (.aload_n 0, 1) := by decide +kernel
theorem dX10_goBy_133 : decode cX10_goBy 133 = .ok (.getfield 39, 3) := by decide +kernel
theorem dX10_goBy_136 : decode cX10_goBy 136 = .ok (.aload_n 0, 1) := by decide +kernel
theorem dX10_goBy_137 : decode cX10_goBy 137 = .ok (.getfield 39, 3) := by decide +kernel
theorem tw_1162 : Cond.methodLink RX10 138 yX0_onRings ∈ wsL_law := List.mem_of_getElem? (i := 1162) (by decide +kernel)
theorem dX10_goBy_140 : decode cX10_goBy 140 = .ok (.invokevirtual 138, 3) := by decide +kernel
theorem tw_1166 : Cond.methodLink RX10 142 yX3_whoIsSo ∈ wsL_law := List.mem_of_getElem? (i := 1166) (by decide +kernel)
theorem dX10_goBy_143 : decode cX10_goBy 143 = .ok (.invokevirtual 142, 3) := by decide +kernel
theorem dX10_goBy_146 : decode cX10_goBy 146 = .ok (.lstore_n 2, 1) := by decide +kernel
theorem dX10_goBy_147 : decode cX10_goBy 147 = .ok (.aload_n 0, 1) := by decide +kernel
theorem dX10_goBy_148 : decode cX10_goBy 148 = .ok (.getfield 39, 3) := by decide +kernel
theorem dX10_goBy_151 : decode cX10_goBy 151 = .ok (.lload_n 2, 1) := by decide +kernel
theorem dX10_goBy_152 : decode cX10_goBy 152 = .ok (.aload_n 0, 1) := by decide +kernel
theorem dX10_goBy_153 : decode cX10_goBy 153 = .ok (.getfield 57, 3) := by decide +kernel
theorem dX10_goBy_156 : decode cX10_goBy 156 = .ok (.aload_n 0, 1) := by decide +kernel
theorem dX10_goBy_157 : decode cX10_goBy 157 = .ok (.getfield 39, 3) := by decide +kernel
theorem tw_458 : Cond.fieldLink RX10 146 "RingsUnder$Folk" "persons" "I" ∈ wsL_law := List.mem_of_getElem? (i := 458) (by decide +kernel)
theorem dX10_goBy_160 : decode cX10_goBy 160 = .ok (.getfield 146, 3) := by decide +kernel
theorem dX10_goBy_163 : decode cX10_goBy 163 = .ok (.aload_n 0, 1) := by decide +kernel
theorem dX10_goBy_164 : decode cX10_goBy 164 = .ok (.getfield 73, 3) := by decide +kernel
theorem dX10_goBy_167 : decode cX10_goBy 167 = .ok (.aload_n 0, 1) := by decide +kernel
theorem dX10_goBy_168 : decode cX10_goBy 168 = .ok (.getfield 67, 3) := by decide +kernel
theorem tw_1167 : Cond.methodLink RX10 149 yX0_board ∈ wsL_law := List.mem_of_getElem? (i := 1167) (by decide +kernel)
theorem dX10_goBy_171 : decode cX10_goBy 171 = .ok (.invokevirtual 149, 3) := by decide +kernel
theorem dX10_goBy_10 : decode cX10_goBy 10 = .ok (.return_, 1) := by decide +kernel
theorem dX10_sandBehind_0 : decode cX10_sandBehind 0 = .ok (.iconst 0, 1) := by decide +kernel
theorem dX10_sandBehind_1 : decode cX10_sandBehind 1 = .ok (.istore_n 3, 1) := by decide +kernel
theorem dX10_sandBehind_2 : decode cX10_sandBehind 2 = .ok (.iload_n 3, 1) := by decide +kernel
theorem dX10_sandBehind_3 : decode cX10_sandBehind 3 = .ok (.iload_n 1, 1) := by decide +kernel
theorem dX10_sandBehind_4 : decode cX10_sandBehind 4 = .ok (.if_icmp .ge 33, 3) := by decide +kernel
theorem dX10_sandBehind_37 : decode cX10_sandBehind 37 = .ok (.aload_n 0, 1) := by decide +kernel
theorem dX10_sandBehind_38 : decode cX10_sandBehind 38 = .ok (.getfield 32, 3) := by decide +kernel
theorem tw_1419 : Cond.fieldLink RX10 219 "RingsUnder$Land" "sand" "[I" ∈ wsL_law := List.mem_of_getElem? (i := 1419) (by decide +kernel)
theorem dX10_sandBehind_41 : decode cX10_sandBehind 41 = .ok (.getfield 219, 3) := by decide +kernel
theorem dX10_sandBehind_44 : decode cX10_sandBehind 44 = .ok (.iload_n 2, 1) := by decide +kernel
theorem dX10_sandBehind_45 : decode cX10_sandBehind 45 = .ok (.iaload, 1) := by decide +kernel
theorem dX10_sandBehind_46 : decode cX10_sandBehind 46 = .ok (.ireturn, 1) := by decide +kernel
theorem dX10_sandBehind_7 : decode cX10_sandBehind 7 = .ok (.aload_n 0, 1) := by decide +kernel
theorem dX10_sandBehind_8 : decode cX10_sandBehind 8 = .ok (.getfield 32, 3) := by decide +kernel
theorem dX10_sandBehind_11 : decode cX10_sandBehind 11 = .ok (.aload_n 0, 1) := by decide +kernel
theorem dX10_sandBehind_12 : decode cX10_sandBehind 12 = .ok (.getfield 25, 3) := by decide +kernel
theorem dX10_sandBehind_15 : decode cX10_sandBehind 15 = .ok (.getfield 172, 3) := by decide +kernel
theorem dX10_sandBehind_18 : decode cX10_sandBehind 18 = .ok (.aload_n 0, 1) := by decide +kernel
theorem dX10_sandBehind_19 : decode cX10_sandBehind 19 = .ok (.getfield 67, 3) := by decide +kernel
theorem dX10_sandBehind_22 : decode cX10_sandBehind 22 = .ok (.iload_n 3, 1) := by decide +kernel
theorem dX10_sandBehind_23 : decode cX10_sandBehind 23 = .ok (.iadd, 1) := by decide +kernel
theorem dX10_sandBehind_24 : decode cX10_sandBehind 24 = .ok (.bipush 12, 2) := by decide +kernel
theorem dX10_sandBehind_26 : decode cX10_sandBehind 26 = .ok (.irem, 1) := by decide +kernel
theorem dX10_sandBehind_27 : decode cX10_sandBehind 27 = .ok (.iaload, 1) := by decide +kernel
theorem dX10_sandBehind_28 : decode cX10_sandBehind 28 = .ok (.invokevirtual 175, 3) := by decide +kernel
theorem dX10_sandBehind_31 : decode cX10_sandBehind 31 = .ok (.iinc 3 1, 3) := by decide +kernel
theorem dX10_sandBehind_34 : decode cX10_sandBehind 34 = .ok (.goto (-32), 3) := by decide +kernel
theorem dX10_wasDry_0 : decode cX10_wasDry 0 = .ok (.aload_n 0, 1) := by decide +kernel
theorem dX10_wasDry_1 : decode cX10_wasDry 1 = .ok (.getfield 67, 3) := by decide +kernel
theorem dX10_wasDry_4 : decode cX10_wasDry 4 = .ok (.ifCond .ne 5, 3) := by decide +kernel
theorem dX10_wasDry_9 : decode cX10_wasDry 9 = .ok (.aload_n 0, 1) := by decide +kernel
theorem dX10_wasDry_10 : decode cX10_wasDry 10 = .ok (.getfield 32, 3) := by decide +kernel
theorem dX10_wasDry_13 : decode cX10_wasDry 13 = .ok (.iload_n 1, 1) := by decide +kernel
theorem tw_554 : Cond.methodLink RX10 222 yX2_isDry ∈ wsL_law := List.mem_of_getElem? (i := 554) (by decide +kernel)
theorem dX10_wasDry_14 : decode cX10_wasDry 14 = .ok (.invokevirtual 222, 3) := by decide +kernel
theorem dX10_wasDry_17 : decode cX10_wasDry 17 = .ok (.ifCond .eq 7, 3) := by decide +kernel
theorem dX10_wasDry_24 : decode cX10_wasDry 24 = .ok (.iconst 0, 1) := by decide +kernel
theorem dX10_wasDry_25 : decode cX10_wasDry 25 = .ok (.ireturn, 1) := by decide +kernel
theorem dX10_wasDry_20 : decode cX10_wasDry 20 = .ok (.iconst 1, 1) := by decide +kernel
theorem dX10_wasDry_21 : decode cX10_wasDry 21 = .ok (.goto 4, 3) := by decide +kernel
theorem dX10_wasDry_7 : decode cX10_wasDry 7 = .ok (.iconst (-1), 1) := by decide +kernel
theorem dX10_wasDry_8 : decode cX10_wasDry 8 = .ok (.ireturn, 1) := by decide +kernel
theorem dX10_wasRock_0 : decode cX10_wasRock 0 = .ok (.aload_n 0, 1) := by decide +kernel
theorem dX10_wasRock_1 : decode cX10_wasRock 1 = .ok (.getfield 67, 3) := by decide +kernel
theorem dX10_wasRock_4 : decode cX10_wasRock 4 = .ok (.ifCond .ne 5, 3) := by decide +kernel
theorem dX10_wasRock_9 : decode cX10_wasRock 9 = .ok (.aload_n 0, 1) := by decide +kernel
theorem dX10_wasRock_10 : decode cX10_wasRock 10 = .ok (.getfield 32, 3) := by decide +kernel
theorem dX10_wasRock_13 : decode cX10_wasRock 13 = .ok (.getfield 195, 3) := by decide +kernel
theorem dX10_wasRock_16 : decode cX10_wasRock 16 = .ok (.aload_n 0, 1) := by decide +kernel
theorem dX10_wasRock_17 : decode cX10_wasRock 17 = .ok (.getfield 67, 3) := by decide +kernel
theorem dX10_wasRock_20 : decode cX10_wasRock 20 = .ok (.iconst 1, 1) := by decide +kernel
theorem dX10_wasRock_21 : decode cX10_wasRock 21 = .ok (.isub, 1) := by decide +kernel
theorem dX10_wasRock_22 : decode cX10_wasRock 22 = .ok (.laload, 1) := by decide +kernel
theorem dX10_wasRock_23 : decode cX10_wasRock 23 = .ok (.iload_n 1, 1) := by decide +kernel
theorem dX10_wasRock_24 : decode cX10_wasRock 24 = .ok (.invokestatic 226, 3) := by decide +kernel
theorem dX10_wasRock_27 : decode cX10_wasRock 27 = .ok (.ifCond .eq 7, 3) := by decide +kernel
theorem dX10_wasRock_34 : decode cX10_wasRock 34 = .ok (.iconst 0, 1) := by decide +kernel
theorem dX10_wasRock_35 : decode cX10_wasRock 35 = .ok (.ireturn, 1) := by decide +kernel
theorem dX10_wasRock_30 : decode cX10_wasRock 30 = .ok (.iconst 1, 1) := by decide +kernel
theorem dX10_wasRock_31 : decode cX10_wasRock 31 = .ok (.goto 4, 3) := by decide +kernel
theorem dX10_wasRock_7 : decode cX10_wasRock 7 = .ok (.iconst (-1), 1) := by decide +kernel
theorem dX10_wasRock_8 : decode cX10_wasRock 8 = .ok (.ireturn, 1) := by decide +kernel
theorem dX10_titleStands_0 : decode cX10_titleStands 0 = .ok (.aload_n 0, 1) := by decide +kernel
theorem dX10_titleStands_1 : decode cX10_titleStands 1 = .ok (.getfield 18, 3) := by decide +kernel
theorem dX10_titleStands_4 : decode cX10_titleStands 4 = .ok (.iload_n 1, 1) := by decide +kernel
theorem dX10_titleStands_5 : decode cX10_titleStands 5 = .ok (.iaload, 1) := by decide +kernel
theorem dX10_titleStands_6 : decode cX10_titleStands 6 = .ok (.istore_n 2, 1) := by decide +kernel
theorem dX10_titleStands_7 : decode cX10_titleStands 7 = .ok (.iload_n 2, 1) := by decide +kernel
theorem dX10_titleStands_8 : decode cX10_titleStands 8 = .ok (.iconst (-1), 1) := by decide +kernel
theorem dX10_titleStands_9 : decode cX10_titleStands 9 = .ok (.if_icmp .ne 5, 3) := by decide +kernel
theorem dX10_titleStands_14 : decode cX10_titleStands 14 = .ok (.aload_n 0, 1) := by decide +kernel
theorem dX10_titleStands_15 : decode cX10_titleStands 15 = .ok (.iload_n 1, 1) := by decide +kernel
theorem tw_550 : Cond.methodLink RX10 230 yX10_wasDry ∈ wsL_law := List.mem_of_getElem? (i := 550) (by decide +kernel)
theorem tw_551 : Cond.instanceMethod yX10_wasDry ∈ wsL_law := List.mem_of_getElem? (i := 551) (by decide +kernel)
theorem tw_552 : Cond.selects RX10 yX10_wasDry yX10_wasDry ∈ wsL_law := List.mem_of_getElem? (i := 552) (by decide +kernel)
theorem tw_553 : Cond.code yX10_wasDry cX10_wasDry 2 (some .int) ∈ wsL_law := List.mem_of_getElem? (i := 553) (by decide +kernel)
theorem dX10_titleStands_16 : decode cX10_titleStands 16 = .ok (.invokevirtual 230, 3) := by decide +kernel
theorem dX10_titleStands_50 : decode cX10_titleStands 50 = .ok (.iconst 1, 1) := by decide +kernel
theorem dX10_titleStands_51 : decode cX10_titleStands 51 = .ok (.goto 4, 3) := by decide +kernel
theorem dX10_titleStands_55 : decode cX10_titleStands 55 = .ok (.ireturn, 1) := by decide +kernel
theorem dX10_titleStands_19 : decode cX10_titleStands 19 = .ok (.ifCond .ne 31, 3) := by decide +kernel
theorem dX10_titleStands_22 : decode cX10_titleStands 22 = .ok (.aload_n 0, 1) := by decide +kernel
theorem dX10_titleStands_23 : decode cX10_titleStands 23 = .ok (.getfield 46, 3) := by decide +kernel
theorem dX10_titleStands_26 : decode cX10_titleStands 26 = .ok (.aload_n 0, 1) := by decide +kernel
theorem dX10_titleStands_27 : decode cX10_titleStands 27 = .ok (.getfield 67, 3) := by decide +kernel
theorem dX10_titleStands_30 : decode cX10_titleStands 30 = .ok (.aload_n 0, 1) := by decide +kernel
theorem dX10_titleStands_31 : decode cX10_titleStands 31 = .ok (.getfield 39, 3) := by decide +kernel
theorem dX10_titleStands_34 : decode cX10_titleStands 34 = .ok (.iload_n 2, 1) := by decide +kernel
theorem dX10_titleStands_35 : decode cX10_titleStands 35 = .ok (.aload_n 0, 1) := by decide +kernel
theorem dX10_titleStands_36 : decode cX10_titleStands 36 = .ok (.getfield 32, 3) := by decide +kernel
theorem tw_549 : Cond.fieldLink RX10 233 "RingsUnder$Land" "under" "[I" ∈ wsL_law := List.mem_of_getElem? (i := 549) (by decide +kernel)
theorem dX10_titleStands_39 : decode cX10_titleStands 39 = .ok (.getfield 233, 3) := by decide +kernel
theorem dX10_titleStands_42 : decode cX10_titleStands 42 = .ok (.iload_n 1, 1) := by decide +kernel
theorem dX10_titleStands_43 : decode cX10_titleStands 43 = .ok (.iaload, 1) := by decide +kernel
theorem tw_561 : Cond.methodLink RX10 236 yX3_lastsFor ∈ wsL_law := List.mem_of_getElem? (i := 561) (by decide +kernel)
theorem tw_562 : Cond.instanceMethod yX3_lastsFor ∈ wsL_law := List.mem_of_getElem? (i := 562) (by decide +kernel)
theorem tw_563 : Cond.selects RX3 yX3_lastsFor yX3_lastsFor ∈ wsL_law := List.mem_of_getElem? (i := 563) (by decide +kernel)
theorem tw_564 : Cond.code yX3_lastsFor cX3_lastsFor 6 (some .boolean) ∈ wsL_law := List.mem_of_getElem? (i := 564) (by decide +kernel)
theorem dX10_titleStands_44 : decode cX10_titleStands 44 = .ok (.invokevirtual 236, 3) := by decide +kernel
theorem dX10_titleStands_47 : decode cX10_titleStands 47 = .ok (.ifCond .eq 7, 3) := by decide +kernel
theorem dX10_titleStands_54 : decode cX10_titleStands 54 = .ok (.iconst 0, 1) := by decide +kernel
theorem dX10_titleStands_12 : decode cX10_titleStands 12 = .ok (.iconst 0, 1) := by decide +kernel
theorem dX10_titleStands_13 : decode cX10_titleStands 13 = .ok (.ireturn, 1) := by decide +kernel
theorem dX10_heirOf_0 : decode cX10_heirOf 0 = .ok (.aload_n 0, 1) := by decide +kernel
theorem dX10_heirOf_1 : decode cX10_heirOf 1 = .ok (.getfield 46, 3) := by decide +kernel
theorem dX10_heirOf_4 : decode cX10_heirOf 4 = .ok (.iconst 5, 1) := by decide +kernel
theorem dX10_heirOf_5 : decode cX10_heirOf 5 = .ok (.aload_n 0, 1) := by decide +kernel
theorem dX10_heirOf_6 : decode cX10_heirOf 6 = .ok (.getfield 67, 3) := by decide +kernel
theorem dX10_heirOf_9 : decode cX10_heirOf 9 = .ok (.aload_n 0, 1) := by decide +kernel
theorem dX10_heirOf_10 : decode cX10_heirOf 10 = .ok (.getfield 39, 3) := by decide +kernel
theorem dX10_heirOf_13 : decode cX10_heirOf 13 = .ok (.aload_n 0, 1) := by decide +kernel
theorem dX10_heirOf_14 : decode cX10_heirOf 14 = .ok (.getfield 57, 3) := by decide +kernel
theorem dX10_heirOf_17 : decode cX10_heirOf 17 = .ok (.invokevirtual 134, 3) := by decide +kernel
theorem dX10_heirOf_20 : decode cX10_heirOf 20 = .ok (.iconst 0, 1) := by decide +kernel
theorem dX10_heirOf_21 : decode cX10_heirOf 21 = .ok (.istore_n 2, 1) := by decide +kernel
theorem dX10_heirOf_22 : decode cX10_heirOf 22 = .ok (.iload_n 2, 1) := by decide +kernel
theorem dX10_heirOf_23 : decode cX10_heirOf 23 = .ok (.aload_n 0, 1) := by decide +kernel
theorem dX10_heirOf_24 : decode cX10_heirOf 24 = .ok (.getfield 39, 3) := by decide +kernel
theorem dX10_heirOf_27 : decode cX10_heirOf 27 = .ok (.getfield 146, 3) := by decide +kernel
theorem dX10_heirOf_30 : decode cX10_heirOf 30 = .ok (.if_icmp .ge 54, 3) := by decide +kernel
theorem dX10_heirOf_84 : decode cX10_heirOf 84 = .ok (.iconst (-1), 1) := by decide +kernel
theorem dX10_heirOf_85 : decode cX10_heirOf 85 = .ok (.ireturn, 1) := by decide +kernel
theorem dX10_heirOf_33 : decode cX10_heirOf 33 = .ok (.aload_n 0, 1) := by decide +kernel
theorem dX10_heirOf_34 : decode cX10_heirOf 34 = .ok (.getfield 57, 3) := by decide +kernel
theorem dX10_heirOf_37 : decode cX10_heirOf 37 = .ok (.iload_n 2, 1) := by decide +kernel
theorem dX10_heirOf_38 : decode cX10_heirOf 38 = .ok (.iaload, 1) := by decide +kernel
theorem dX10_heirOf_39 : decode cX10_heirOf 39 = .ok (.istore_n 3, 1) := by decide +kernel
theorem dX10_heirOf_40 : decode cX10_heirOf 40 = .ok (.aload_n 0, 1) := by decide +kernel
theorem dX10_heirOf_41 : decode cX10_heirOf 41 = .ok (.getfield 39, 3) := by decide +kernel
theorem tw_459 : Cond.fieldLink RX10 240 "RingsUnder$Folk" "kin" "[I" ∈ wsL_law := List.mem_of_getElem? (i := 459) (by decide +kernel)
theorem dX10_heirOf_44 : decode cX10_heirOf 44 = .ok (.getfield 240, 3) := by decide +kernel
theorem dX10_heirOf_47 : decode cX10_heirOf 47 = .ok (.iload_n 3, 1) := by decide +kernel
theorem dX10_heirOf_48 : decode cX10_heirOf 48 = .ok (.iaload, 1) := by decide +kernel
theorem dX10_heirOf_49 : decode cX10_heirOf 49 = .ok (.aload_n 0, 1) := by decide +kernel
theorem dX10_heirOf_50 : decode cX10_heirOf 50 = .ok (.getfield 39, 3) := by decide +kernel
theorem dX10_heirOf_53 : decode cX10_heirOf 53 = .ok (.getfield 240, 3) := by decide +kernel
theorem dX10_heirOf_56 : decode cX10_heirOf 56 = .ok (.iload_n 1, 1) := by decide +kernel
theorem dX10_heirOf_57 : decode cX10_heirOf 57 = .ok (.iaload, 1) := by decide +kernel
theorem dX10_heirOf_78 : decode cX10_heirOf 78 = .ok (.iinc 2 1, 3) := by decide +kernel
theorem dX10_heirOf_81 : decode cX10_heirOf 81 = .ok (.goto (-59), 3) := by decide +kernel
theorem dX10_heirOf_58 : decode cX10_heirOf 58 = .ok (.if_icmp .ne 20, 3) := by decide +kernel
theorem dX10_heirOf_61 : decode cX10_heirOf 61 = .ok (.aload_n 0, 1) := by decide +kernel
theorem dX10_heirOf_62 : decode cX10_heirOf 62 = .ok (.getfield 39, 3) := by decide +kernel
theorem tw_460 : Cond.fieldLink RX10 243 "RingsUnder$Folk" "place" "[I" ∈ wsL_law := List.mem_of_getElem? (i := 460) (by decide +kernel)
theorem dX10_heirOf_65 : decode cX10_heirOf 65 = .ok (.getfield 243, 3) := by decide +kernel
theorem dX10_heirOf_68 : decode cX10_heirOf 68 = .ok (.iload_n 3, 1) := by decide +kernel
theorem dX10_heirOf_69 : decode cX10_heirOf 69 = .ok (.iaload, 1) := by decide +kernel
theorem dX10_heirOf_70 : decode cX10_heirOf 70 = .ok (.sipush 300, 3) := by decide +kernel
theorem dX10_heirOf_73 : decode cX10_heirOf 73 = .ok (.if_icmp .eq 5, 3) := by decide +kernel
theorem dX10_heirOf_76 : decode cX10_heirOf 76 = .ok (.iload_n 3, 1) := by decide +kernel
theorem dX10_heirOf_77 : decode cX10_heirOf 77 = .ok (.ireturn, 1) := by decide +kernel
theorem dX10_passTitles_0 : decode cX10_passTitles 0 = .ok (.iconst 0, 1) := by decide +kernel
theorem dX10_passTitles_1 : decode cX10_passTitles 1 = .ok (.istore_n 3, 1) := by decide +kernel
theorem dX10_passTitles_2 : decode cX10_passTitles 2 = .ok (.iconst 0, 1) := by decide +kernel
theorem dX10_passTitles_3 : decode cX10_passTitles 3 = .ok (.istore 4, 2) := by decide +kernel
theorem dX10_passTitles_5 : decode cX10_passTitles 5 = .ok (.iload 4, 2) := by decide +kernel
theorem dX10_passTitles_7 : decode cX10_passTitles 7 = .ok (.aload_n 0, 1) := by decide +kernel
theorem dX10_passTitles_8 : decode cX10_passTitles 8 = .ok (.getfield 32, 3) := by decide +kernel
theorem dX10_passTitles_11 : decode cX10_passTitles 11 = .ok (.getfield 104, 3) := by decide +kernel
theorem dX10_passTitles_14 : decode cX10_passTitles 14 = .ok (.if_icmp .ge 31, 3) := by decide +kernel
theorem dX10_passTitles_45 : decode cX10_passTitles 45 = .ok (.iload_n 3, 1) := by decide +kernel
theorem dX10_passTitles_46 : decode cX10_passTitles 46 = .ok (.ireturn, 1) := by decide +kernel
theorem dX10_passTitles_17 : decode cX10_passTitles 17 = .ok (.aload_n 0, 1) := by decide +kernel
theorem dX10_passTitles_18 : decode cX10_passTitles 18 = .ok (.getfield 18, 3) := by decide +kernel
theorem dX10_passTitles_21 : decode cX10_passTitles 21 = .ok (.iload 4, 2) := by decide +kernel
theorem dX10_passTitles_23 : decode cX10_passTitles 23 = .ok (.iaload, 1) := by decide +kernel
theorem dX10_passTitles_24 : decode cX10_passTitles 24 = .ok (.iload_n 1, 1) := by decide +kernel
theorem dX10_passTitles_39 : decode cX10_passTitles 39 = .ok (.iinc 4 1, 3) := by decide +kernel
theorem dX10_passTitles_42 : decode cX10_passTitles 42 = .ok (.goto (-37), 3) := by decide +kernel
theorem dX10_passTitles_25 : decode cX10_passTitles 25 = .ok (.if_icmp .ne 14, 3) := by decide +kernel
theorem dX10_passTitles_28 : decode cX10_passTitles 28 = .ok (.aload_n 0, 1) := by decide +kernel
theorem dX10_passTitles_29 : decode cX10_passTitles 29 = .ok (.getfield 18, 3) := by decide +kernel
theorem dX10_passTitles_32 : decode cX10_passTitles 32 = .ok (.iload 4, 2) := by decide +kernel
theorem dX10_passTitles_34 : decode cX10_passTitles 34 = .ok (.iload_n 2, 1) := by decide +kernel
theorem dX10_passTitles_35 : decode cX10_passTitles 35 = .ok (.iastore, 1) := by decide +kernel
theorem dX10_passTitles_36 : decode cX10_passTitles 36 = .ok (.iinc 3 1, 3) := by decide +kernel
theorem dJ13_bitCount_95d88_0 : decode cJ13_bitCount_95d88 0 = .ok (.lload_n 0, 1) := by decide +kernel
theorem dJ13_bitCount_95d88_1 : decode cJ13_bitCount_95d88 1 = .ok (.lload_n 0, 1) := by decide +kernel
theorem dJ13_bitCount_95d88_2 : decode cJ13_bitCount_95d88 2 = .ok (.iconst 1, 1) := by decide +kernel
theorem dJ13_bitCount_95d88_3 : decode cJ13_bitCount_95d88 3 = .ok (.lushr, 1) := by decide +kernel
theorem tw_1346 : Cond.constantLong RJ13 314 (6148914691236517205) ∈ wsL_law := List.mem_of_getElem? (i := 1346) (by decide +kernel)
theorem dJ13_bitCount_95d88_4 : decode cJ13_bitCount_95d88 4 = .ok (.ldc2_w 314, 3) := by decide +kernel
theorem dJ13_bitCount_95d88_7 : decode cJ13_bitCount_95d88 7 = .ok (.land, 1) := by decide +kernel
theorem dJ13_bitCount_95d88_8 : decode cJ13_bitCount_95d88 8 = .ok (.lsub, 1) := by decide +kernel
theorem dJ13_bitCount_95d88_9 : decode cJ13_bitCount_95d88 9 = .ok (.lstore_n 0, 1) := by decide +kernel
theorem dJ13_bitCount_95d88_10 : decode cJ13_bitCount_95d88 10 = .ok (.lload_n 0, 1) := by decide +kernel
theorem tw_1347 : Cond.constantLong RJ13 316 (3689348814741910323) ∈ wsL_law := List.mem_of_getElem? (i := 1347) (by decide +kernel)
theorem dJ13_bitCount_95d88_11 : decode cJ13_bitCount_95d88 11 = .ok (.ldc2_w 316, 3) := by decide +kernel
theorem dJ13_bitCount_95d88_14 : decode cJ13_bitCount_95d88 14 = .ok (.land, 1) := by decide +kernel
theorem dJ13_bitCount_95d88_15 : decode cJ13_bitCount_95d88 15 = .ok (.lload_n 0, 1) := by decide +kernel
theorem dJ13_bitCount_95d88_16 : decode cJ13_bitCount_95d88 16 = .ok (.iconst 2, 1) := by decide +kernel
theorem dJ13_bitCount_95d88_17 : decode cJ13_bitCount_95d88 17 = .ok (.lushr, 1) := by decide +kernel
theorem dJ13_bitCount_95d88_18 : decode cJ13_bitCount_95d88 18 = .ok (.ldc2_w 316, 3) := by decide +kernel
theorem dJ13_bitCount_95d88_21 : decode cJ13_bitCount_95d88 21 = .ok (.land, 1) := by decide +kernel
theorem dJ13_bitCount_95d88_22 : decode cJ13_bitCount_95d88 22 = .ok (.ladd, 1) := by decide +kernel
theorem dJ13_bitCount_95d88_23 : decode cJ13_bitCount_95d88 23 = .ok (.lstore_n 0, 1) := by decide +kernel
theorem dJ13_bitCount_95d88_24 : decode cJ13_bitCount_95d88 24 = .ok (.lload_n 0, 1) := by decide +kernel
theorem dJ13_bitCount_95d88_25 : decode cJ13_bitCount_95d88 25 = .ok (.lload_n 0, 1) := by decide +kernel
theorem dJ13_bitCount_95d88_26 : decode cJ13_bitCount_95d88 26 = .ok (.iconst 4, 1) := by decide +kernel
theorem dJ13_bitCount_95d88_27 : decode cJ13_bitCount_95d88 27 = .ok (.lushr, 1) := by decide +kernel
theorem dJ13_bitCount_95d88_28 : decode cJ13_bitCount_95d88 28 = .ok (.ladd, 1) := by decide +kernel
theorem tw_1348 : Cond.constantLong RJ13 318 (1085102592571150095) ∈ wsL_law := List.mem_of_getElem? (i := 1348) (by decide +kernel)
theorem dJ13_bitCount_95d88_29 : decode cJ13_bitCount_95d88 29 = .ok (.ldc2_w 318, 3) := by decide +kernel
theorem dJ13_bitCount_95d88_32 : decode cJ13_bitCount_95d88 32 = .ok (.land, 1) := by decide +kernel
theorem dJ13_bitCount_95d88_33 : decode cJ13_bitCount_95d88 33 = .ok (.lstore_n 0, 1) := by decide +kernel
theorem dJ13_bitCount_95d88_34 : decode cJ13_bitCount_95d88 34 = .ok (.lload_n 0, 1) := by decide +kernel
theorem dJ13_bitCount_95d88_35 : decode cJ13_bitCount_95d88 35 = .ok (.lload_n 0, 1) := by decide +kernel
theorem dJ13_bitCount_95d88_36 : decode cJ13_bitCount_95d88 36 = .ok (.bipush 8, 2) := by decide +kernel
theorem dJ13_bitCount_95d88_38 : decode cJ13_bitCount_95d88 38 = .ok (.lushr, 1) := by decide +kernel
theorem dJ13_bitCount_95d88_39 : decode cJ13_bitCount_95d88 39 = .ok (.ladd, 1) := by decide +kernel
theorem dJ13_bitCount_95d88_40 : decode cJ13_bitCount_95d88 40 = .ok (.lstore_n 0, 1) := by decide +kernel
theorem dJ13_bitCount_95d88_41 : decode cJ13_bitCount_95d88 41 = .ok (.lload_n 0, 1) := by decide +kernel
theorem dJ13_bitCount_95d88_42 : decode cJ13_bitCount_95d88 42 = .ok (.lload_n 0, 1) := by decide +kernel
theorem dJ13_bitCount_95d88_43 : decode cJ13_bitCount_95d88 43 = .ok (.bipush 16, 2) := by decide +kernel
theorem dJ13_bitCount_95d88_45 : decode cJ13_bitCount_95d88 45 = .ok (.lushr, 1) := by decide +kernel
theorem dJ13_bitCount_95d88_46 : decode cJ13_bitCount_95d88 46 = .ok (.ladd, 1) := by decide +kernel
theorem dJ13_bitCount_95d88_47 : decode cJ13_bitCount_95d88 47 = .ok (.lstore_n 0, 1) := by decide +kernel
theorem dJ13_bitCount_95d88_48 : decode cJ13_bitCount_95d88 48 = .ok (.lload_n 0, 1) := by decide +kernel
theorem dJ13_bitCount_95d88_49 : decode cJ13_bitCount_95d88 49 = .ok (.lload_n 0, 1) := by decide +kernel
theorem dJ13_bitCount_95d88_50 : decode cJ13_bitCount_95d88 50 = .ok (.bipush 32, 2) := by decide +kernel
theorem dJ13_bitCount_95d88_52 : decode cJ13_bitCount_95d88 52 = .ok (.lushr, 1) := by decide +kernel
theorem dJ13_bitCount_95d88_53 : decode cJ13_bitCount_95d88 53 = .ok (.ladd, 1) := by decide +kernel
theorem dJ13_bitCount_95d88_54 : decode cJ13_bitCount_95d88 54 = .ok (.lstore_n 0, 1) := by decide +kernel
theorem dJ13_bitCount_95d88_55 : decode cJ13_bitCount_95d88 55 = .ok (.lload_n 0, 1) := by decide +kernel
theorem dJ13_bitCount_95d88_56 : decode cJ13_bitCount_95d88 56 = .ok (.l2i, 1) := by decide +kernel
theorem dJ13_bitCount_95d88_57 : decode cJ13_bitCount_95d88 57 = .ok (.bipush 127, 2) := by decide +kernel
theorem dJ13_bitCount_95d88_59 : decode cJ13_bitCount_95d88 59 = .ok (.iand, 1) := by decide +kernel
theorem dJ13_bitCount_95d88_60 : decode cJ13_bitCount_95d88 60 = .ok (.ireturn, 1) := by decide +kernel
theorem dX10_decide_0 : decode cX10_decide 0 = .ok (.aload_n 0, 1) := by decide +kernel
theorem dX10_decide_1 : decode cX10_decide 1 = .ok (.getfield 39, 3) := by decide +kernel
theorem tw_1338 : Cond.methodLink RX10 246 yX0_notDead ∈ wsL_law := List.mem_of_getElem? (i := 1338) (by decide +kernel)
theorem tw_1339 : Cond.instanceMethod yX0_notDead ∈ wsL_law := List.mem_of_getElem? (i := 1339) (by decide +kernel)
theorem tw_1340 : Cond.selects RX0 yX0_notDead yX0_notDead ∈ wsL_law := List.mem_of_getElem? (i := 1340) (by decide +kernel)
theorem tw_1341 : Cond.code yX0_notDead cX0_notDead 4 (some .long) ∈ wsL_law := List.mem_of_getElem? (i := 1341) (by decide +kernel)
theorem dX10_decide_4 : decode cX10_decide 4 = .ok (.invokevirtual 246, 3) := by decide +kernel
theorem dX10_decide_7 : decode cX10_decide 7 = .ok (.lstore_n 3, 1) := by decide +kernel
theorem dX10_decide_8 : decode cX10_decide 8 = .ok (.aload_n 0, 1) := by decide +kernel
theorem dX10_decide_9 : decode cX10_decide 9 = .ok (.getfield 46, 3) := by decide +kernel
theorem dX10_decide_12 : decode cX10_decide 12 = .ok (.iconst 1, 1) := by decide +kernel
theorem dX10_decide_13 : decode cX10_decide 13 = .ok (.aload_n 0, 1) := by decide +kernel
theorem dX10_decide_14 : decode cX10_decide 14 = .ok (.getfield 67, 3) := by decide +kernel
theorem dX10_decide_17 : decode cX10_decide 17 = .ok (.aload_n 0, 1) := by decide +kernel
theorem dX10_decide_18 : decode cX10_decide 18 = .ok (.getfield 39, 3) := by decide +kernel
theorem dX10_decide_21 : decode cX10_decide 21 = .ok (.lload_n 3, 1) := by decide +kernel
theorem dX10_decide_22 : decode cX10_decide 22 = .ok (.invokevirtual 142, 3) := by decide +kernel
theorem dX10_decide_25 : decode cX10_decide 25 = .ok (.aload_n 0, 1) := by decide +kernel
theorem dX10_decide_26 : decode cX10_decide 26 = .ok (.getfield 46, 3) := by decide +kernel
theorem dX10_decide_29 : decode cX10_decide 29 = .ok (.iconst 3, 1) := by decide +kernel
theorem dX10_decide_30 : decode cX10_decide 30 = .ok (.aload_n 0, 1) := by decide +kernel
theorem dX10_decide_31 : decode cX10_decide 31 = .ok (.getfield 67, 3) := by decide +kernel
theorem dX10_decide_34 : decode cX10_decide 34 = .ok (.aload_n 0, 1) := by decide +kernel
theorem dX10_decide_35 : decode cX10_decide 35 = .ok (.getfield 39, 3) := by decide +kernel
theorem dX10_decide_38 : decode cX10_decide 38 = .ok (.lload_n 3, 1) := by decide +kernel
theorem dX10_decide_39 : decode cX10_decide 39 = .ok (.invokevirtual 142, 3) := by decide +kernel
theorem dX10_decide_42 : decode cX10_decide 42 = .ok (.land, 1) := by decide +kernel
theorem dX10_decide_43 : decode cX10_decide 43 = .ok (.lstore 5, 2) := by decide +kernel
theorem dX10_decide_45 : decode cX10_decide 45 = .ok (.lload 5, 2) := by decide +kernel
theorem dX10_decide_47 : decode cX10_decide 47 = .ok (.lload_n 1, 1) := by decide +kernel
theorem dX10_decide_48 : decode cX10_decide 48 = .ok (.land, 1) := by decide +kernel
theorem tw_1342 : Cond.methodLink RX10 249 yJ13_bitCount_95d88 ∈ wsL_law := List.mem_of_getElem? (i := 1342) (by decide +kernel)
theorem tw_1343 : Cond.static yJ13_bitCount_95d88 ∈ wsL_law := List.mem_of_getElem? (i := 1343) (by decide +kernel)
theorem tw_1344 : Cond.initialized RJ13 ∈ wsL_law := List.mem_of_getElem? (i := 1344) (by decide +kernel)
theorem tw_1345 : Cond.code yJ13_bitCount_95d88 cJ13_bitCount_95d88 2 (some .int) ∈ wsL_law := List.mem_of_getElem? (i := 1345) (by decide +kernel)
theorem dX10_decide_49 : decode cX10_decide 49 = .ok (.invokestatic 249, 3) := by decide +kernel
theorem dX10_decide_52 : decode cX10_decide 52 = .ok (.istore 7, 2) := by decide +kernel
theorem dX10_decide_54 : decode cX10_decide 54 = .ok (.bipush 100, 2) := by decide +kernel
theorem dX10_decide_56 : decode cX10_decide 56 = .ok (.iload 7, 2) := by decide +kernel
theorem dX10_decide_58 : decode cX10_decide 58 = .ok (.imul, 1) := by decide +kernel
theorem dX10_decide_59 : decode cX10_decide 59 = .ok (.aload_n 0, 1) := by decide +kernel
theorem dX10_decide_60 : decode cX10_decide 60 = .ok (.getfield 46, 3) := by decide +kernel
theorem dX10_decide_63 : decode cX10_decide 63 = .ok (.aload_n 0, 1) := by decide +kernel
theorem dX10_decide_64 : decode cX10_decide 64 = .ok (.getfield 67, 3) := by decide +kernel
theorem tw_1349 : Cond.methodLink RX10 255 yX3_councilIn ∈ wsL_law := List.mem_of_getElem? (i := 1349) (by decide +kernel)
theorem tw_992 : Cond.instanceMethod yX3_councilIn ∈ wsL_law := List.mem_of_getElem? (i := 992) (by decide +kernel)
theorem tw_993 : Cond.selects RX3 yX3_councilIn yX3_councilIn ∈ wsL_law := List.mem_of_getElem? (i := 993) (by decide +kernel)
theorem tw_994 : Cond.code yX3_councilIn cX3_councilIn 2 (some .int) ∈ wsL_law := List.mem_of_getElem? (i := 994) (by decide +kernel)
theorem dX10_decide_67 : decode cX10_decide 67 = .ok (.invokevirtual 255, 3) := by decide +kernel
theorem dX10_decide_70 : decode cX10_decide 70 = .ok (.lload 5, 2) := by decide +kernel
theorem dX10_decide_72 : decode cX10_decide 72 = .ok (.invokestatic 249, 3) := by decide +kernel
theorem dX10_decide_75 : decode cX10_decide 75 = .ok (.imul, 1) := by decide +kernel
theorem dX10_decide_76 : decode cX10_decide 76 = .ok (.if_icmp .ge 5, 3) := by decide +kernel
theorem dX10_decide_81 : decode cX10_decide 81 = .ok (.aload_n 0, 1) := by decide +kernel
theorem dX10_decide_82 : decode cX10_decide 82 = .ok (.getfield 39, 3) := by decide +kernel
theorem dX10_decide_85 : decode cX10_decide 85 = .ok (.lload 5, 2) := by decide +kernel
theorem dX10_decide_87 : decode cX10_decide 87 = .ok (.lload_n 1, 1) := by decide +kernel
theorem dX10_decide_88 : decode cX10_decide 88 = .ok (.land, 1) := by decide +kernel
theorem dX10_decide_89 : decode cX10_decide 89 = .ok (.iconst 1, 1) := by decide +kernel
theorem tw_1350 : Cond.methodLink RX10 258 yX0_countVotes ∈ wsL_law := List.mem_of_getElem? (i := 1350) (by decide +kernel)
theorem tw_1351 : Cond.instanceMethod yX0_countVotes ∈ wsL_law := List.mem_of_getElem? (i := 1351) (by decide +kernel)
theorem tw_1352 : Cond.selects RX0 yX0_countVotes yX0_countVotes ∈ wsL_law := List.mem_of_getElem? (i := 1352) (by decide +kernel)
theorem tw_1353 : Cond.code yX0_countVotes cX0_countVotes 6 (some .int) ∈ wsL_law := List.mem_of_getElem? (i := 1353) (by decide +kernel)
theorem dX10_decide_90 : decode cX10_decide 90 = .ok (.invokevirtual 258, 3) := by decide +kernel
theorem dX10_decide_93 : decode cX10_decide 93 = .ok (.aload_n 0, 1) := by decide +kernel
theorem dX10_decide_94 : decode cX10_decide 94 = .ok (.getfield 39, 3) := by decide +kernel
theorem dX10_decide_97 : decode cX10_decide 97 = .ok (.lload 5, 2) := by decide +kernel
theorem dX10_decide_99 : decode cX10_decide 99 = .ok (.lload_n 1, 1) := by decide +kernel
theorem dX10_decide_100 : decode cX10_decide 100 = .ok (.land, 1) := by decide +kernel
theorem dX10_decide_101 : decode cX10_decide 101 = .ok (.iconst 0, 1) := by decide +kernel
theorem dX10_decide_102 : decode cX10_decide 102 = .ok (.invokevirtual 258, 3) := by decide +kernel
theorem dX10_decide_105 : decode cX10_decide 105 = .ok (.if_icmp .le 7, 3) := by decide +kernel
theorem dX10_decide_112 : decode cX10_decide 112 = .ok (.iconst 0, 1) := by decide +kernel
theorem dX10_decide_113 : decode cX10_decide 113 = .ok (.ireturn, 1) := by decide +kernel
theorem dX10_decide_108 : decode cX10_decide 108 = .ok (.iconst 1, 1) := by decide +kernel
theorem dX10_decide_109 : decode cX10_decide 109 = .ok (.goto 4, 3) := by decide +kernel
theorem dX10_decide_79 : decode cX10_decide 79 = .ok (.iconst 2, 1) := by decide +kernel
theorem dX10_decide_80 : decode cX10_decide 80 = .ok (.ireturn, 1) := by decide +kernel
theorem dX11_ring_0 : decode cX11_ring 0 = .ok (.aload_n 0, 1) := by decide +kernel
theorem tw_16 : Cond.fieldLink RX11 10 "RingsUnder" "now" "LRingsUnder$World;" ∈ wsL_law := List.mem_of_getElem? (i := 16) (by decide +kernel)
theorem dX11_ring_1 : decode cX11_ring 1 = .ok (.getfield 10, 3) := by decide +kernel
theorem tw_199 : Cond.fieldLink RX11 36 "RingsUnder$World" "land" "LRingsUnder$Land;" ∈ wsL_law := List.mem_of_getElem? (i := 199) (by decide +kernel)
theorem dX11_ring_4 : decode cX11_ring 4 = .ok (.getfield 36, 3) := by decide +kernel
theorem dX11_ring_7 : decode cX11_ring 7 = .ok (.astore_n 1, 1) := by decide +kernel
theorem dX11_ring_8 : decode cX11_ring 8 = .ok (.aload_n 1, 1) := by decide +kernel
theorem tw_200 : Cond.fieldLink RX11 40 "RingsUnder$Land" "rings" "I" ∈ wsL_law := List.mem_of_getElem? (i := 200) (by decide +kernel)
theorem dX11_ring_9 : decode cX11_ring 9 = .ok (.getfield 40, 3) := by decide +kernel
theorem dX11_ring_12 : decode cX11_ring 12 = .ok (.iconst 5, 1) := by decide +kernel
theorem dX11_ring_13 : decode cX11_ring 13 = .ok (.if_icmp .lt 5, 3) := by decide +kernel
theorem dX11_ring_18 : decode cX11_ring 18 = .ok (.aload_n 1, 1) := by decide +kernel
theorem dX11_ring_19 : decode cX11_ring 19 = .ok (.dup, 1) := by decide +kernel
theorem dX11_ring_20 : decode cX11_ring 20 = .ok (.getfield 40, 3) := by decide +kernel
theorem dX11_ring_23 : decode cX11_ring 23 = .ok (.iconst 1, 1) := by decide +kernel
theorem dX11_ring_24 : decode cX11_ring 24 = .ok (.iadd, 1) := by decide +kernel
theorem dX11_ring_25 : decode cX11_ring 25 = .ok (.putfield 40, 3) := by decide +kernel
theorem dX11_ring_28 : decode cX11_ring 28 = .ok (.aload_n 1, 1) := by decide +kernel
theorem dX11_ring_29 : decode cX11_ring 29 = .ok (.getfield 40, 3) := by decide +kernel
theorem dX11_ring_32 : decode cX11_ring 32 = .ok (.iconst 1, 1) := by decide +kernel
theorem dX11_ring_33 : decode cX11_ring 33 = .ok (.isub, 1) := by decide +kernel
theorem dX11_ring_34 : decode cX11_ring 34 = .ok (.ireturn, 1) := by decide +kernel
theorem dX11_ring_16 : decode cX11_ring 16 = .ok (.iconst (-1), 1) := by decide +kernel
theorem dX11_ring_17 : decode cX11_ring 17 = .ok (.ireturn, 1) := by decide +kernel
theorem dX11_between_0 : decode cX11_between 0 = .ok (.iload_n 0, 1) := by decide +kernel
theorem dX11_between_1 : decode cX11_between 1 = .ok (.iload_n 1, 1) := by decide +kernel
theorem dX11_between_14 : decode cX11_between 14 = .ok (.iconst 0, 1) := by decide +kernel
theorem dX11_between_15 : decode cX11_between 15 = .ok (.ireturn, 1) := by decide +kernel
theorem dX11_between_2 : decode cX11_between 2 = .ok (.if_icmp .lt 12, 3) := by decide +kernel
theorem dX11_between_5 : decode cX11_between 5 = .ok (.iload_n 0, 1) := by decide +kernel
theorem dX11_between_6 : decode cX11_between 6 = .ok (.iload_n 2, 1) := by decide +kernel
theorem dX11_between_7 : decode cX11_between 7 = .ok (.if_icmp .gt 7, 3) := by decide +kernel
theorem dX11_between_10 : decode cX11_between 10 = .ok (.iconst 1, 1) := by decide +kernel
theorem dX11_between_11 : decode cX11_between 11 = .ok (.goto 4, 3) := by decide +kernel
theorem dX11_isRing_0 : decode cX11_isRing 0 = .ok (.iload_n 1, 1) := by decide +kernel
theorem dX11_isRing_1 : decode cX11_isRing 1 = .ok (.iconst 0, 1) := by decide +kernel
theorem dX11_isRing_2 : decode cX11_isRing 2 = .ok (.aload_n 0, 1) := by decide +kernel
theorem dX11_isRing_3 : decode cX11_isRing 3 = .ok (.getfield 10, 3) := by decide +kernel
theorem dX11_isRing_6 : decode cX11_isRing 6 = .ok (.getfield 36, 3) := by decide +kernel
theorem dX11_isRing_9 : decode cX11_isRing 9 = .ok (.getfield 40, 3) := by decide +kernel
theorem dX11_isRing_12 : decode cX11_isRing 12 = .ok (.iconst 1, 1) := by decide +kernel
theorem dX11_isRing_13 : decode cX11_isRing 13 = .ok (.isub, 1) := by decide +kernel
theorem tw_215 : Cond.methodLink RX11 50 yX11_between ∈ wsL_law := List.mem_of_getElem? (i := 215) (by decide +kernel)
theorem tw_216 : Cond.static yX11_between ∈ wsL_law := List.mem_of_getElem? (i := 216) (by decide +kernel)
theorem tw_217 : Cond.code yX11_between cX11_between 3 (some .boolean) ∈ wsL_law := List.mem_of_getElem? (i := 217) (by decide +kernel)
theorem dX11_isRing_14 : decode cX11_isRing 14 = .ok (.invokestatic 50, 3) := by decide +kernel
theorem dX11_isRing_17 : decode cX11_isRing 17 = .ok (.ireturn, 1) := by decide +kernel
theorem dX11_cell_0 : decode cX11_cell 0 = .ok (.aload_n 0, 1) := by decide +kernel
theorem dX11_cell_1 : decode cX11_cell 1 = .ok (.iload_n 1, 1) := by decide +kernel
theorem tw_211 : Cond.methodLink RX11 46 yX11_isRing ∈ wsL_law := List.mem_of_getElem? (i := 211) (by decide +kernel)
theorem tw_212 : Cond.instanceMethod yX11_isRing ∈ wsL_law := List.mem_of_getElem? (i := 212) (by decide +kernel)
theorem tw_213 : Cond.selects RX11 yX11_isRing yX11_isRing ∈ wsL_law := List.mem_of_getElem? (i := 213) (by decide +kernel)
theorem tw_214 : Cond.code yX11_isRing cX11_isRing 2 (some .boolean) ∈ wsL_law := List.mem_of_getElem? (i := 214) (by decide +kernel)
theorem dX11_cell_2 : decode cX11_cell 2 = .ok (.invokevirtual 46, 3) := by decide +kernel
theorem dX11_cell_71 : decode cX11_cell 71 = .ok (.istore 7, 2) := by decide +kernel
theorem dX11_cell_73 : decode cX11_cell 73 = .ok (.iload 7, 2) := by decide +kernel
theorem dX11_cell_103 : decode cX11_cell 103 = .ok (.iconst (-1), 1) := by decide +kernel
theorem dX11_cell_104 : decode cX11_cell 104 = .ok (.ireturn, 1) := by decide +kernel
theorem dX11_cell_75 : decode cX11_cell 75 = .ok (.ifCond .eq 28, 3) := by decide +kernel
theorem dX11_cell_78 : decode cX11_cell 78 = .ok (.aload_n 0, 1) := by decide +kernel
theorem dX11_cell_79 : decode cX11_cell 79 = .ok (.getfield 10, 3) := by decide +kernel
theorem tw_209 : Cond.fieldLink RX11 54 "RingsUnder$World" "clock" "I" ∈ wsL_law := List.mem_of_getElem? (i := 209) (by decide +kernel)
theorem dX11_cell_82 : decode cX11_cell 82 = .ok (.getfield 54, 3) := by decide +kernel
theorem dX11_cell_85 : decode cX11_cell 85 = .ok (.ifCond .gt 18, 3) := by decide +kernel
theorem dX11_cell_88 : decode cX11_cell 88 = .ok (.aload_n 0, 1) := by decide +kernel
theorem dX11_cell_89 : decode cX11_cell 89 = .ok (.getfield 10, 3) := by decide +kernel
theorem dX11_cell_92 : decode cX11_cell 92 = .ok (.getfield 36, 3) := by decide +kernel
theorem tw_210 : Cond.fieldLink RX11 57 "RingsUnder$Land" "cells" "I" ∈ wsL_law := List.mem_of_getElem? (i := 210) (by decide +kernel)
theorem dX11_cell_95 : decode cX11_cell 95 = .ok (.getfield 57, 3) := by decide +kernel
theorem dX11_cell_98 : decode cX11_cell 98 = .ok (.bipush 40, 2) := by decide +kernel
theorem dX11_cell_100 : decode cX11_cell 100 = .ok (.if_icmp .lt 5, 3) := by decide +kernel
theorem dX11_cell_105 : decode cX11_cell 105 = .ok (.aload_n 0, 1) := by decide +kernel
theorem dX11_cell_106 : decode cX11_cell 106 = .ok (.getfield 10, 3) := by decide +kernel
theorem dX11_cell_109 : decode cX11_cell 109 = .ok (.getfield 36, 3) := by decide +kernel
theorem dX11_cell_112 : decode cX11_cell 112 = .ok (.iload_n 1, 1) := by decide +kernel
theorem dX11_cell_113 : decode cX11_cell 113 = .ok (.iload_n 2, 1) := by decide +kernel
theorem dX11_cell_114 : decode cX11_cell 114 = .ok (.iload_n 3, 1) := by decide +kernel
theorem dX11_cell_115 : decode cX11_cell 115 = .ok (.iload 4, 2) := by decide +kernel
theorem dX11_cell_117 : decode cX11_cell 117 = .ok (.iload 5, 2) := by decide +kernel
theorem dX11_cell_119 : decode cX11_cell 119 = .ok (.iload 6, 2) := by decide +kernel
theorem tw_218 : Cond.methodLink RX11 60 yX2_addCell ∈ wsL_law := List.mem_of_getElem? (i := 218) (by decide +kernel)
theorem tw_219 : Cond.instanceMethod yX2_addCell ∈ wsL_law := List.mem_of_getElem? (i := 219) (by decide +kernel)
theorem tw_220 : Cond.selects RX2 yX2_addCell yX2_addCell ∈ wsL_law := List.mem_of_getElem? (i := 220) (by decide +kernel)
theorem tw_221 : Cond.code yX2_addCell cX2_addCell 8 (some .int) ∈ wsL_law := List.mem_of_getElem? (i := 221) (by decide +kernel)
theorem dX11_cell_121 : decode cX11_cell 121 = .ok (.invokevirtual 60, 3) := by decide +kernel
theorem dX11_cell_124 : decode cX11_cell 124 = .ok (.ireturn, 1) := by decide +kernel
theorem dX11_cell_70 : decode cX11_cell 70 = .ok (.iconst 0, 1) := by decide +kernel
theorem dX11_cell_5 : decode cX11_cell 5 = .ok (.ifCond .eq 65, 3) := by decide +kernel
theorem dX11_cell_8 : decode cX11_cell 8 = .ok (.iload_n 2, 1) := by decide +kernel
theorem dX11_cell_9 : decode cX11_cell 9 = .ok (.sipush (-500), 3) := by decide +kernel
theorem dX11_cell_12 : decode cX11_cell 12 = .ok (.sipush 3000, 3) := by decide +kernel
theorem dX11_cell_15 : decode cX11_cell 15 = .ok (.invokestatic 50, 3) := by decide +kernel
theorem dX11_cell_18 : decode cX11_cell 18 = .ok (.ifCond .eq 52, 3) := by decide +kernel
theorem dX11_cell_21 : decode cX11_cell 21 = .ok (.iload_n 3, 1) := by decide +kernel
theorem dX11_cell_22 : decode cX11_cell 22 = .ok (.iconst 0, 1) := by decide +kernel
theorem dX11_cell_23 : decode cX11_cell 23 = .ok (.bipush 31, 2) := by decide +kernel
theorem dX11_cell_25 : decode cX11_cell 25 = .ok (.invokestatic 50, 3) := by decide +kernel
theorem dX11_cell_28 : decode cX11_cell 28 = .ok (.ifCond .eq 42, 3) := by decide +kernel
theorem dX11_cell_31 : decode cX11_cell 31 = .ok (.iload 4, 2) := by decide +kernel
theorem dX11_cell_33 : decode cX11_cell 33 = .ok (.iconst 0, 1) := by decide +kernel
theorem dX11_cell_34 : decode cX11_cell 34 = .ok (.bipush 31, 2) := by decide +kernel
theorem dX11_cell_36 : decode cX11_cell 36 = .ok (.invokestatic 50, 3) := by decide +kernel
theorem dX11_cell_39 : decode cX11_cell 39 = .ok (.ifCond .eq 31, 3) := by decide +kernel
theorem dX11_cell_42 : decode cX11_cell 42 = .ok (.iload 5, 2) := by decide +kernel
theorem dX11_cell_44 : decode cX11_cell 44 = .ok (.iconst 0, 1) := by decide +kernel
theorem dX11_cell_45 : decode cX11_cell 45 = .ok (.sipush 500, 3) := by decide +kernel
theorem dX11_cell_48 : decode cX11_cell 48 = .ok (.invokestatic 50, 3) := by decide +kernel
theorem dX11_cell_51 : decode cX11_cell 51 = .ok (.ifCond .eq 19, 3) := by decide +kernel
theorem dX11_cell_54 : decode cX11_cell 54 = .ok (.iload 6, 2) := by decide +kernel
theorem dX11_cell_56 : decode cX11_cell 56 = .ok (.iconst 0, 1) := by decide +kernel
theorem dX11_cell_57 : decode cX11_cell 57 = .ok (.sipush 400, 3) := by decide +kernel
theorem dX11_cell_60 : decode cX11_cell 60 = .ok (.invokestatic 50, 3) := by decide +kernel
theorem dX11_cell_63 : decode cX11_cell 63 = .ok (.ifCond .eq 7, 3) := by decide +kernel
theorem dX11_cell_66 : decode cX11_cell 66 = .ok (.iconst 1, 1) := by decide +kernel
theorem dX11_cell_67 : decode cX11_cell 67 = .ok (.goto 4, 3) := by decide +kernel
set_option maxHeartbeats 4000000 in
set_option maxRecDepth 100000 in
theorem s_X10_goBy (l : Launch) (D : va_G) (t : pq_T) (σ : pq_S) (I : Nat → Nat → Int32) (J : Nat → Nat → Int64) (ri : Nat → Nat → Int32) (rj : Nat → Nat → Int64) (rq : Nat → Nat → Option Nat) (sz : Nat) (tg : Nat → Nat) (hSH : SH σ tg) (hG0 : GS tg σ I ri rq) (this : Nat) (a0 : Int32) (hL_this : this ∈ σ.1) (hK_this : σ.2.1 this = 10) : MetV l yX10_goBy (wa yX10_goBy cX10_goBy 4 none) ({ frames := 5, cells := 0, slots := 0, locals := 143 }) [.ref this, .int a0] D t σ (I, J, ri, rj, rq) sz 0 0 (fun (u : pq_S × pq_M) => ∃ I' : Nat → Nat → Int32, ∃ J' : Nat → Nat → Int64, ∃ ri' : Nat → Nat → Int32, ∃ rj' : Nat → Nat → Int64, u = (σ, I', J', ri', rj', rq) ∧ GX [320] tg σ I I' ri' rq) := by
  refine Met.ofW (cc := cX10_goBy) (maxL := 4) (ret := none) (by decide) rfl ?_
  intro p e s m args below meth c s₁ B hml hv
  obtain ⟨rfl, hsz, hP, hK, hD0, hN⟩ := hv
  have hx := B.exec
  have hb := B.bytes
  have hr := B.returns
  have hts := atoms_spec (ws := (wa yX10_goBy cX10_goBy 4 none)) B.pre
  have hown : s.vm.findClass RX10 = some m.cls := findClass_of_methodNamed B.named
  have hlocks := B.notSynchronized
  subst hsz
  have hD : va_D (pq_B t σ (I, J, ri, rj, rq) s.heap.size) (pq_P t σ (I, J, ri, rj, rq)) := hD0.self
  generalize hAe : pq_B t σ (I, J, ri, rj, rq) s.heap.size = A at hD ⊢
  have hA : ∀ q : Nat, s.heap.size ≤ q → A q := fun q h => by rw [← hAe]; exact Or.inr h
  have hS : va_S A s.heap s.heap [] := va_S.rf
  have hG : GX [320] tg σ I I ri rq := ⟨hG0, fun _ _ _ => rfl⟩
  have hl := lv_entry ([.ref this, .int a0]) (n := 4) (Nat.le_of_ble_eq_true rfl)
  rw [lg_entry_eq]
  generalize (lg_sl ([.ref this, .int a0]) ++ List.replicate (4 - (lg_sl ([.ref this, .int a0])).length) Slot.unset).toArray = ls at hl ⊢
  have hl : lv_has ls 4 [(0, .ref this), (1, .int a0)] := hl
  refine q_gen (fun Q hQ => ?_)
  have go : ∀ (H : Heap) (locs : List Loc) (ls : Array Slot), va_P D vwCl (pq_P t σ (I, J, ri, rj, rq)) H → va_D A (pq_P t σ (I, J, ri, rj, rq)) → va_S A s.heap H locs → lv_has ls 4 [(0, .ref this), (1, .int a0)] → W p l e ({ frames := 5, cells := 0, slots := 0, locals := 143 } : Room) s m (List.toArray ([.ref this, .int a0] : List Value)) below meth c H locs 0 0 Q (F0 m 0 ls []) := by
    intro H locs ls hP hD hS hl
    refine lv_aload_n hx hb dX10_goBy_0 rfl (lv_at hl 0 rfl) ?_
    refine pg_f (v := .int (I 320 this)) (C := RX10) (T := TX10) (N := 13) hx hb hts (tw_i inlX10) hown hK hP hL_this hK_this (by decide) rfl 0 (by decide) (hts _ (tw_c tw_457)) rfl dX10_goBy_1 ?_
    have h_1 : rg (I 320 this) 0 600 := GX.rI hG 320 rfl
    refine lv_sipush (v := 600) hx hb dX10_goBy_4 (by decide) ?_
    refine lv_icmp_lt (tgt := 11) hx hb dX10_goBy_7 (by decide) (fun c_2 => ?_) (fun c_2 => ?_)
    · have h_3 : rg (I 320 this) 0 599 := rg_lt1 c_2 h_1 (rg_k (600 : Int32) 600 rfl) (by decide)
      refine lv_aload_n hx hb dX10_goBy_11 rfl (lv_at hl 0 rfl) ?_
      refine lv_iload_n hx hb dX10_goBy_12 rfl (lv_at hl 1 rfl) ?_
      refine pk_v (va_runV (As := [.int a0]) (rest := []) ⟨hx, hb, hml, hown, hts⟩ (s_X10_nature l D t σ I J ri rj rq H.size tg hSH hG.1 this a0 hL_this hK_this) (cwV 1 hts (tw_V tw_1047 tw_1048 tw_1049 tw_15 tw_1050) rfl rfl rfl (by decide +kernel) ⟨Nat.le_of_ble_eq_true rfl, Nat.le_of_ble_eq_true rfl⟩) ⟨pq_blind, pq_recv hK hP hL_this hK_this (by decide) rfl, pq_pre hK hN hP hD⟩ rfl rfl hl.1 rfl (lv_room (Nat.le_of_ble_eq_true rfl)) dX10_goBy_13 ⟨Nat.le_of_ble_eq_true rfl, Nat.le_of_ble_eq_true rfl⟩) hD hS hA (fun σ1 μ1 H locs hw_5 hP hD hS => ?_)
      obtain ⟨I_6, J_7, ri_8, rj_9, hu_10, hg_11⟩ := hw_5
      obtain ⟨hu_10a, hu_10b⟩ := Prod.mk.inj hu_10
      rw [hu_10a, hu_10b] at hP hD
      have hG := GX.tr hG hg_11 (by decide)
      refine lv_aload_n hx hb dX10_goBy_16 rfl (lv_at hl 0 rfl) ?_
      obtain ⟨w_13, hR_w_13, hL_w_13, hK_w_13⟩ := sh_o hSH 327 (ci := 10) (kd := 2) rfl hL_this hK_this
      refine pg_f (v := .ref w_13) (C := RX10) (T := TX10) (N := 13) hx hb hts (tw_i inlX10) hown hK hP hL_this hK_this (by decide) rfl 7 (by decide) (hts _ (tw_c tw_42)) (pq_hv rfl hR_w_13) dX10_goBy_17 ?_
      obtain ⟨w_14, hR_w_14, hL_w_14, hK_w_14⟩ := sh_o hSH 78 (ci := 2) (kd := 9) rfl hL_w_13 hK_w_13
      refine pg_f (v := .ref w_14) (C := RX2) (T := TX2) (N := 20) hx hb hts (tw_i inlX2) hown hK hP hL_w_13 hK_w_13 (by decide) rfl 14 (by decide) (hts _ (tw_c tw_1043)) (pq_hv rfl hR_w_14) dX10_goBy_20 ?_
      refine lv_aload_n hx hb dX10_goBy_23 rfl (lv_at hl 0 rfl) ?_
      refine pg_f (v := .ref w_13) (C := RX10) (T := TX10) (N := 13) hx hb hts (tw_i inlX10) hown hK hP hL_this hK_this (by decide) rfl 7 (by decide) (hts _ (tw_c tw_42)) (pq_hv rfl hR_w_13) dX10_goBy_24 ?_
      refine pg_f (v := .int (I_6 65 w_13)) (C := RX2) (T := TX2) (N := 20) hx hb hts (tw_i inlX2) hown hK hP hL_w_13 hK_w_13 (by decide) rfl 1 (by decide) (hts _ (tw_c tw_498)) rfl dX10_goBy_27 ?_
      have h_15 : rg (I_6 65 w_13) 0 40 := GX.rI hG 65 rfl
      refine lv_aload_n hx hb dX10_goBy_30 rfl (lv_at hl 0 rfl) ?_
      refine pg_f (v := .ref w_13) (C := RX10) (T := TX10) (N := 13) hx hb hts (tw_i inlX10) hown hK hP hL_this hK_this (by decide) rfl 7 (by decide) (hts _ (tw_c tw_42)) (pq_hv rfl hR_w_13) dX10_goBy_31 ?_
      refine pg_f (v := .long (J_7 67 w_13)) (C := RX2) (T := TX2) (N := 20) hx hb hts (tw_i inlX2) hown hK hP hL_w_13 hK_w_13 (by decide) rfl 3 (by decide) (hts _ (tw_c tw_1044)) rfl dX10_goBy_34 ?_
      refine lv_aload_n hx hb dX10_goBy_37 rfl (lv_at hl 0 rfl) ?_
      obtain ⟨w_16, hR_w_16, hL_w_16, hK_w_16⟩ := sh_o hSH 326 (ci := 10) (kd := 7) rfl hL_this hK_this
      refine pg_f (v := .ref w_16) (C := RX10) (T := TX10) (N := 13) hx hb hts (tw_i inlX10) hown hK hP hL_this hK_this (by decide) rfl 6 (by decide) (hts _ (tw_c tw_38)) (pq_hv rfl hR_w_16) dX10_goBy_38 ?_
      obtain ⟨w_17, hR_w_17, hL_w_17, hK_w_17, hN_w_17, hT_w_17⟩ := sh_a hSH 233 (ci := 7) (kd := 13) (len := 12) rfl (by decide) hL_w_16 hK_w_16
      refine pg_f (v := .ref w_17) (C := RX7) (T := TX7) (N := 15) hx hb hts (tw_i inlX7) hown hK hP hL_w_16 hK_w_16 (by decide) rfl 9 (by decide) (hts _ (tw_c tw_1045)) (pq_hv rfl hR_w_17) dX10_goBy_41 ?_
      refine lv_aload_n hx hb dX10_goBy_44 rfl (lv_at hl 0 rfl) ?_
      refine pg_f (v := .int (I_6 320 this)) (C := RX10) (T := TX10) (N := 13) hx hb hts (tw_i inlX10) hown hK hP hL_this hK_this (by decide) rfl 0 (by decide) (hts _ (tw_c tw_457)) rfl dX10_goBy_45 ?_
      have h_18 : rg (I_6 320 this) 0 599 := (by rw [hg_11.2 320 (by decide) (by decide)]; exact h_3)
      refine lv_bipush (v := 12) hx hb dX10_goBy_48 (by decide) ?_
      refine lv_irem hx hb dX10_goBy_50 (by decide) ?_
      refine lv_topi (fun x_19 ex_19 => ?_)
      have h_20 : rg x_19 0 11 := rg_of_eq ex_19 (rg_rem h_18 rfl (by decide))
      refine pl_i hx hb hK hP hL_w_17 hK_w_17 hN_w_17 (rg_in h_20 (by decide)) dX10_goBy_51 ?_
      refine lv_topi (fun x_21 ex_21 => ?_)
      refine pk_v (va_runV (As := [.int (I_6 65 w_13), .long (J_7 67 w_13), .int x_21]) (rest := []) ⟨hx, hb, hml, hown, hts⟩ (s_X9_fillUp l D t σ I_6 J_7 ri_8 rj_9 rq H.size tg hSH hG.1 w_14 (I_6 65 w_13) (J_7 67 w_13) x_21 hL_w_14 hK_w_14 (rg_w h_15 (by decide))) (cwV 3 hts (tw_V tw_1083 tw_1084 tw_1085 tw_94 tw_1086) rfl rfl rfl (by decide +kernel) ⟨Nat.le_of_ble_eq_true rfl, Nat.le_of_ble_eq_true rfl⟩) ⟨pq_blind, pq_recv hK hP hL_w_14 hK_w_14 (by decide) rfl, pq_pre hK hN hP hD⟩ rfl rfl hl.1 rfl (lv_room (Nat.le_of_ble_eq_true rfl)) dX10_goBy_52 ⟨Nat.le_of_ble_eq_true rfl, Nat.le_of_ble_eq_true rfl⟩) hD hS hA (fun σ1 μ1 H locs hw_23 hP hD hS => ?_)
      obtain ⟨ri_24, hu_25, hg_26⟩ := hw_23
      obtain ⟨hu_25a, hu_25b⟩ := Prod.mk.inj hu_25
      rw [hu_25a, hu_25b] at hP hD
      have hG := GX.tr hG hg_26 (by decide)
      refine lv_aload_n hx hb dX10_goBy_55 rfl (lv_at hl 0 rfl) ?_
      refine pg_f (v := .ref w_13) (C := RX10) (T := TX10) (N := 13) hx hb hts (tw_i inlX10) hown hK hP hL_this hK_this (by decide) rfl 7 (by decide) (hts _ (tw_c tw_42)) (pq_hv rfl hR_w_13) dX10_goBy_56 ?_
      refine lv_aload_n hx hb dX10_goBy_59 rfl (lv_at hl 0 rfl) ?_
      obtain ⟨w_28, hR_w_28, hL_w_28, hK_w_28, hN_w_28, hT_w_28⟩ := sh_a hSH 332 (ci := 10) (kd := 13) (len := 5) rfl (by decide) hL_this hK_this
      refine pg_f (v := .ref w_28) (C := RX10) (T := TX10) (N := 13) hx hb hts (tw_i inlX10) hown hK hP hL_this hK_this (by decide) rfl 12 (by decide) (hts _ (tw_c tw_56)) (pq_hv rfl hR_w_28) dX10_goBy_60 ?_
      refine lv_iconst (v := 0) hx hb dX10_goBy_63 (by decide) ?_
      refine pk_v (va_runV (As := [.ref w_28, .int 0]) (rest := []) ⟨hx, hb, hml, hown, hts⟩ (s_X2_countBeds_332 l D t σ I_6 J_7 ri_24 rj_9 rq H.size tg hSH hG.1 w_13 w_28 (0 : Int32) hL_w_13 hK_w_13 hL_w_28 hK_w_28 hN_w_28 hT_w_28 (rg_w (rg_k (0 : Int32) 0 rfl) (by decide))) (cwV 2 hts (tw_V tw_1090 tw_1091 tw_1092 tw_41 tw_1093) rfl rfl rfl (by decide +kernel) ⟨Nat.le_of_ble_eq_true rfl, Nat.le_of_ble_eq_true rfl⟩) ⟨pq_blind, pq_recv hK hP hL_w_13 hK_w_13 (by decide) rfl, pq_pre hK hN hP hD⟩ rfl rfl hl.1 rfl (lv_room (Nat.le_of_ble_eq_true rfl)) dX10_goBy_64 ⟨Nat.le_of_ble_eq_true rfl, Nat.le_of_ble_eq_true rfl⟩) hD hS hA (fun σ1 μ1 H locs hw_30 hP hD hS => ?_)
      obtain ⟨ri_31, hu_32, hg_33⟩ := hw_30
      obtain ⟨hu_32a, hu_32b⟩ := Prod.mk.inj hu_32
      rw [hu_32a, hu_32b] at hP hD
      have hG := GX.tr hG hg_33 (by decide)
      refine lv_aload_n hx hb dX10_goBy_67 rfl (lv_at hl 0 rfl) ?_
      obtain ⟨w_35, hR_w_35, hL_w_35, hK_w_35⟩ := sh_o hSH 328 (ci := 10) (kd := 0) rfl hL_this hK_this
      refine pg_f (v := .ref w_35) (C := RX10) (T := TX10) (N := 13) hx hb hts (tw_i inlX10) hown hK hP hL_this hK_this (by decide) rfl 8 (by decide) (hts _ (tw_c tw_46)) (pq_hv rfl hR_w_35) dX10_goBy_68 ?_
      refine lv_aload_n hx hb dX10_goBy_71 rfl (lv_at hl 0 rfl) ?_
      refine pg_f (v := .ref w_13) (C := RX10) (T := TX10) (N := 13) hx hb hts (tw_i inlX10) hown hK hP hL_this hK_this (by decide) rfl 7 (by decide) (hts _ (tw_c tw_42)) (pq_hv rfl hR_w_13) dX10_goBy_72 ?_
      refine pk_i (va_runV (As := [.ref w_13]) (rest := []) ⟨hx, hb, hml, hown, hts⟩ (s_X0_drink l D t σ I_6 J_7 ri_31 rj_9 rq H.size tg hSH hG.1 w_35 w_13 hL_w_35 hK_w_35 hL_w_13 hK_w_13) (cwV 1 hts (tw_V tw_1094 tw_1095 tw_1096 tw_45 tw_1097) rfl rfl rfl (by decide +kernel) ⟨Nat.le_of_ble_eq_true rfl, Nat.le_of_ble_eq_true rfl⟩) ⟨pq_blind, pq_recv hK hP hL_w_35 hK_w_35 (by decide) rfl, pq_pre hK hN hP hD⟩ rfl rfl hl.1 rfl (lv_room (Nat.le_of_ble_eq_true rfl)) dX10_goBy_75 ⟨Nat.le_of_ble_eq_true rfl, Nat.le_of_ble_eq_true rfl⟩) hD hS hA (fun x_36 σ1 μ1 H locs hw_37 hP hD hS => ?_)
      obtain ⟨ri_38, hu_39, hg_40⟩ := hw_37
      obtain ⟨hu_39a, hu_39b⟩ := Prod.mk.inj hu_39
      rw [hu_39a, hu_39b] at hP hD
      have hG := GX.tr hG hg_40 (by decide)
      refine lv_pop hx hb dX10_goBy_78 rfl ?_
      refine lv_aload_n hx hb dX10_goBy_79 rfl (lv_at hl 0 rfl) ?_
      refine pg_f (v := .ref w_35) (C := RX10) (T := TX10) (N := 13) hx hb hts (tw_i inlX10) hown hK hP hL_this hK_this (by decide) rfl 8 (by decide) (hts _ (tw_c tw_46)) (pq_hv rfl hR_w_35) dX10_goBy_80 ?_
      refine lv_aload_n hx hb dX10_goBy_83 rfl (lv_at hl 0 rfl) ?_
      refine pg_f (v := .ref w_28) (C := RX10) (T := TX10) (N := 13) hx hb hts (tw_i inlX10) hown hK hP hL_this hK_this (by decide) rfl 12 (by decide) (hts _ (tw_c tw_56)) (pq_hv rfl hR_w_28) dX10_goBy_84 ?_
      refine lv_iconst (v := 0) hx hb dX10_goBy_87 (by decide) ?_
      refine pk_i (va_runV (As := [.ref w_28, .int 0]) (rest := []) ⟨hx, hb, hml, hown, hts⟩ (s_X0_sleep_332 l D t σ I_6 J_7 ri_38 rj_9 rq H.size tg hSH hG.1 w_35 w_28 (0 : Int32) hL_w_35 hK_w_35 hL_w_28 hK_w_28 hN_w_28 hT_w_28 (rg_w (rg_k (0 : Int32) 0 rfl) (by decide))) (cwV 2 hts (tw_V tw_1120 tw_1121 tw_1122 tw_45 tw_1123) rfl rfl rfl (by decide +kernel) ⟨Nat.le_of_ble_eq_true rfl, Nat.le_of_ble_eq_true rfl⟩) ⟨pq_blind, pq_recv hK hP hL_w_35 hK_w_35 (by decide) rfl, pq_pre hK hN hP hD⟩ rfl rfl hl.1 rfl (lv_room (Nat.le_of_ble_eq_true rfl)) dX10_goBy_88 ⟨Nat.le_of_ble_eq_true rfl, Nat.le_of_ble_eq_true rfl⟩) hD hS hA (fun x_42 σ1 μ1 H locs hw_43 hP hD hS => ?_)
      obtain ⟨ri_44, hu_45, hg_46⟩ := hw_43
      obtain ⟨hu_45a, hu_45b⟩ := Prod.mk.inj hu_45
      rw [hu_45a, hu_45b] at hP hD
      have hG := GX.tr hG hg_46 (by decide)
      refine lv_pop hx hb dX10_goBy_91 rfl ?_
      refine lv_aload_n hx hb dX10_goBy_92 rfl (lv_at hl 0 rfl) ?_
      refine pk_v (va_runV (As := []) (rest := []) ⟨hx, hb, hml, hown, hts⟩ (s_X10_reckon l D t σ I_6 J_7 ri_44 rj_9 rq H.size tg hSH hG.1 this hL_this hK_this) (cwV 0 hts (tw_V tw_1125 tw_1126 tw_1127 tw_15 tw_1128) rfl rfl rfl (by decide +kernel) ⟨Nat.le_of_ble_eq_true rfl, Nat.le_of_ble_eq_true rfl⟩) ⟨pq_blind, pq_recv hK hP hL_this hK_this (by decide) rfl, pq_pre hK hN hP hD⟩ rfl rfl hl.1 rfl (lv_room (Nat.le_of_ble_eq_true rfl)) dX10_goBy_93 ⟨Nat.le_of_ble_eq_true rfl, Nat.le_of_ble_eq_true rfl⟩) hD hS hA (fun σ1 μ1 H locs hw_49 hP hD hS => ?_)
      obtain ⟨I_50, ri_51, hu_52, hg_53⟩ := hw_49
      obtain ⟨hu_52a, hu_52b⟩ := Prod.mk.inj hu_52
      rw [hu_52a, hu_52b] at hP hD
      have hG := GX.tr hG hg_53 (by decide)
      refine lv_aload_n hx hb dX10_goBy_96 rfl (lv_at hl 0 rfl) ?_
      refine pg_f (v := .int (I_50 322 this)) (C := RX10) (T := TX10) (N := 13) hx hb hts (tw_i inlX10) hown hK hP hL_this hK_this (by decide) rfl 2 (by decide) (hts _ (tw_c tw_1046)) rfl dX10_goBy_97 ?_
      have K_90 : ∀  (ri_85 : Nat → Nat → Int32) (H : Heap) (locs : List Loc) (ls : Array Slot), GX [320] tg σ I I_50 ri_85 rq → va_P D vwCl (pq_P t σ (I_50, J_7, ri_85, rj_9, rq)) H → va_D A (pq_P t σ (I_50, J_7, ri_85, rj_9, rq)) → va_S A s.heap H locs → lv_has ls 4 [(0, .ref this)] → W p l e ({ frames := 5, cells := 0, slots := 0, locals := 143 } : Room) s m (List.toArray ([.ref this, .int a0] : List Value)) below meth c H locs 0 0 Q (F0 m 174 ls []) := by
        intro ri_85 H locs ls hG hP hD hS hl
        refine lv_aload_n hx hb dX10_goBy_174 rfl (lv_at hl 0 rfl) ?_
        refine lv_dup hx hb dX10_goBy_175 rfl ?_
        refine pg_f (v := .int (I_50 320 this)) (C := RX10) (T := TX10) (N := 13) hx hb hts (tw_i inlX10) hown hK hP hL_this hK_this (by decide) rfl 0 (by decide) (hts _ (tw_c tw_457)) rfl dX10_goBy_176 ?_
        have h_91 : rg (I_50 320 this) 0 599 := (by rw [hg_53.2 320 (by decide) (by decide)]; exact h_18)
        refine lv_iconst (v := 1) hx hb dX10_goBy_179 (by decide) ?_
        refine lv_iadd hx hb dX10_goBy_180 ?_
        refine lv_topi (fun x_92 ex_92 => ?_)
        have h_93 : rg x_92 1 600 := rg_of_eq ex_92 (rg_add h_91 (rg_k (1 : Int32) 1 rfl) (by decide))
        refine pp_i (v := x_92) (ty := .int) (C := RX10) (T := TX10) (N := 13) hx hb hts (tw_i inlX10) tyX10 tyX10_ok nmX10 hown hK hP hD hS hL_this hK_this (by decide) rfl 0 320 (by decide) (hts _ (tw_c tw_457)) rfl (by decide +kernel) rfl rfl (Nat.le_of_ble_eq_true rfl) (ps_320 _ _ _ _ _) dX10_goBy_181 (fun I_94 H locs eI_94 hP hD hS => ?_)
        have hG := GX.wI hG 320 rfl eI_94 (rg_w h_93 (by decide)) (by decide)
        subst hQ
        exact W.vret hx hb hr (fun t1 ht hW => ⟨⟨(σ, I_94, J_7, ri_85, rj_9, rq), rfl, ⟨I_94, J_7, ri_85, rj_9, rfl, hG⟩, by rw [ht]; exact hP, va_K.moved hW.alike hK, hD⟩, hS.F ht⟩) hS.2.2 dX10_goBy_184
      refine lv_if_le (tgt := 174) hx hb dX10_goBy_100 (by decide) (fun c_95 => ?_) (fun c_95 => ?_)
      · have h_96 : rg (I_50 322 this) (-2147483648) 0 := rg_le1 c_95 (rg_full _) (rg_k (0 : Int32) 0 rfl) (by decide)
        exact K_90 ri_51 _ _ _ hG hP hD hS (lv_sub hl [0] rfl)
      · have h_97 : rg (I_50 322 this) 1 2147483647 := rg_lt2 (nle c_95) (rg_k (0 : Int32) 0 rfl) (rg_full _) (by decide)
        refine lv_aload_n hx hb dX10_goBy_103 rfl (lv_at hl 0 rfl) ?_
        obtain ⟨w_98, hR_w_98, hL_w_98, hK_w_98⟩ := sh_o hSH 329 (ci := 10) (kd := 3) rfl hL_this hK_this
        refine pg_f (v := .ref w_98) (C := RX10) (T := TX10) (N := 13) hx hb hts (tw_i inlX10) hown hK hP hL_this hK_this (by decide) rfl 9 (by decide) (hts _ (tw_c tw_50)) (pq_hv rfl hR_w_98) dX10_goBy_104 ?_
        refine lv_iconst (v := 4) hx hb dX10_goBy_107 (by decide) ?_
        refine lv_aload_n hx hb dX10_goBy_108 rfl (lv_at hl 0 rfl) ?_
        refine pg_f (v := .int (I_50 320 this)) (C := RX10) (T := TX10) (N := 13) hx hb hts (tw_i inlX10) hown hK hP hL_this hK_this (by decide) rfl 0 (by decide) (hts _ (tw_c tw_457)) rfl dX10_goBy_109 ?_
        have h_99 : rg (I_50 320 this) 0 599 := (by rw [hg_53.2 320 (by decide) (by decide)]; exact h_18)
        refine lv_aload_n hx hb dX10_goBy_112 rfl (lv_at hl 0 rfl) ?_
        refine pg_f (v := .ref w_35) (C := RX10) (T := TX10) (N := 13) hx hb hts (tw_i inlX10) hown hK hP hL_this hK_this (by decide) rfl 8 (by decide) (hts _ (tw_c tw_46)) (pq_hv rfl hR_w_35) dX10_goBy_113 ?_
        refine lv_aload_n hx hb dX10_goBy_116 rfl (lv_at hl 0 rfl) ?_
        obtain ⟨w_100, hR_w_100, hL_w_100, hK_w_100, hN_w_100, hT_w_100⟩ := sh_a hSH 331 (ci := 10) (kd := 13) (len := 40) rfl (by decide) hL_this hK_this
        refine pg_f (v := .ref w_100) (C := RX10) (T := TX10) (N := 13) hx hb hts (tw_i inlX10) hown hK hP hL_this hK_this (by decide) rfl 11 (by decide) (hts _ (tw_c tw_55)) (pq_hv rfl hR_w_100) dX10_goBy_117 ?_
        refine pk_v (va_runV (As := [.int 4, .int (I_50 320 this), .ref w_35, .ref w_100]) (rest := []) ⟨hx, hb, hml, hown, hts⟩ (s_X3_line_331 l D t σ I_50 J_7 ri_51 rj_9 rq H.size tg hSH hG.1 w_98 (4 : Int32) (I_50 320 this) w_35 w_100 hL_w_98 hK_w_98 hL_w_35 hK_w_35 hL_w_100 hK_w_100 hN_w_100 hT_w_100) (cwV 4 hts (tw_V tw_461 tw_462 tw_463 tw_49 tw_464) rfl rfl rfl (by decide +kernel) ⟨Nat.le_of_ble_eq_true rfl, Nat.le_of_ble_eq_true rfl⟩) ⟨pq_blind, pq_recv hK hP hL_w_98 hK_w_98 (by decide) rfl, pq_pre hK hN hP hD⟩ rfl rfl hl.1 rfl (lv_room (Nat.le_of_ble_eq_true rfl)) dX10_goBy_120 ⟨Nat.le_of_ble_eq_true rfl, Nat.le_of_ble_eq_true rfl⟩) hD hS hA (fun σ1 μ1 H locs hw_102 hP hD hS => ?_)
        obtain ⟨ri_103, hu_104, hg_105⟩ := hw_102
        obtain ⟨hu_104a, hu_104b⟩ := Prod.mk.inj hu_104
        rw [hu_104a, hu_104b] at hP hD
        have hG := GX.tr hG hg_105 (by decide)
        refine lv_aload_n hx hb dX10_goBy_123 rfl (lv_at hl 0 rfl) ?_
        refine pg_f (v := .ref w_98) (C := RX10) (T := TX10) (N := 13) hx hb hts (tw_i inlX10) hown hK hP hL_this hK_this (by decide) rfl 9 (by decide) (hts _ (tw_c tw_50)) (pq_hv rfl hR_w_98) dX10_goBy_124 ?_
        refine lv_iconst (v := 2) hx hb dX10_goBy_127 (by decide) ?_
        refine lv_aload_n hx hb dX10_goBy_128 rfl (lv_at hl 0 rfl) ?_
        refine pg_f (v := .int (I_50 320 this)) (C := RX10) (T := TX10) (N := 13) hx hb hts (tw_i inlX10) hown hK hP hL_this hK_this (by decide) rfl 0 (by decide) (hts _ (tw_c tw_457)) rfl dX10_goBy_129 ?_
        refine lv_aload_n hx hb dX10_goBy_132 rfl (lv_at hl 0 rfl) ?_
        refine pg_f (v := .ref w_35) (C := RX10) (T := TX10) (N := 13) hx hb hts (tw_i inlX10) hown hK hP hL_this hK_this (by decide) rfl 8 (by decide) (hts _ (tw_c tw_46)) (pq_hv rfl hR_w_35) dX10_goBy_133 ?_
        refine lv_aload_n hx hb dX10_goBy_136 rfl (lv_at hl 0 rfl) ?_
        refine pg_f (v := .ref w_35) (C := RX10) (T := TX10) (N := 13) hx hb hts (tw_i inlX10) hown hK hP hL_this hK_this (by decide) rfl 8 (by decide) (hts _ (tw_c tw_46)) (pq_hv rfl hR_w_35) dX10_goBy_137 ?_
        refine pk_l (va_runV (As := []) (rest := [.ref w_35, .int (I_50 320 this), .int 2, .ref w_98]) ⟨hx, hb, hml, hown, hts⟩ (s_X0_onRings l D t σ I_50 J_7 ri_103 rj_9 rq H.size tg hSH hG.1 w_35 hL_w_35 hK_w_35) (cwV 0 hts (tw_V tw_1162 tw_1163 tw_1164 tw_45 tw_1165) rfl rfl rfl (by decide +kernel) ⟨Nat.le_of_ble_eq_true rfl, Nat.le_of_ble_eq_true rfl⟩) ⟨pq_blind, pq_recv hK hP hL_w_35 hK_w_35 (by decide) rfl, pq_pre hK hN hP hD⟩ rfl rfl hl.1 rfl (lv_room (Nat.le_of_ble_eq_true rfl)) dX10_goBy_140 ⟨Nat.le_of_ble_eq_true rfl, Nat.le_of_ble_eq_true rfl⟩) hD hS hA (fun x_107 σ1 μ1 H locs hw_108 hP hD hS => ?_)
        have hu_109 := hw_108
        obtain ⟨hu_109a, hu_109b⟩ := Prod.mk.inj hu_109
        rw [hu_109a, hu_109b] at hP hD
        refine pk_l (va_runV (As := [.int 2, .int (I_50 320 this), .ref w_35, .long x_107]) (rest := []) ⟨hx, hb, hml, hown, hts⟩ (s_X3_whoIsSo l D t σ I_50 J_7 ri_103 rj_9 rq H.size tg hSH hG.1 w_98 (2 : Int32) (I_50 320 this) w_35 x_107 hL_w_98 hK_w_98 hL_w_35 hK_w_35) (cwV 4 hts (tw_V tw_1166 tw_964 tw_965 tw_49 tw_966) rfl rfl rfl (by decide +kernel) ⟨Nat.le_of_ble_eq_true rfl, Nat.le_of_ble_eq_true rfl⟩) ⟨pq_blind, pq_recv hK hP hL_w_98 hK_w_98 (by decide) rfl, pq_pre hK hN hP hD⟩ rfl rfl hl.1 rfl (lv_room (Nat.le_of_ble_eq_true rfl)) dX10_goBy_143 ⟨Nat.le_of_ble_eq_true rfl, Nat.le_of_ble_eq_true rfl⟩) hD hS hA (fun x_112 σ1 μ1 H locs hw_113 hP hD hS => ?_)
        obtain ⟨ri_114, hu_115, hg_116⟩ := hw_113
        obtain ⟨hu_115a, hu_115b⟩ := Prod.mk.inj hu_115
        rw [hu_115a, hu_115b] at hP hD
        have hG := GX.tr hG hg_116 (by decide)
        refine lv_lstore_n (lv' := [(2, .long x_112), (0, .ref this), (1, .int a0)]) hx hb dX10_goBy_146 rfl hl (by decide) rfl (fun ls hl => ?_)
        refine lv_aload_n hx hb dX10_goBy_147 rfl (lv_at hl 1 rfl) ?_
        refine pg_f (v := .ref w_35) (C := RX10) (T := TX10) (N := 13) hx hb hts (tw_i inlX10) hown hK hP hL_this hK_this (by decide) rfl 8 (by decide) (hts _ (tw_c tw_46)) (pq_hv rfl hR_w_35) dX10_goBy_148 ?_
        refine lv_lload_n hx hb dX10_goBy_151 rfl (lv_at hl 0 rfl) ?_
        refine lv_aload_n hx hb dX10_goBy_152 rfl (lv_at hl 1 rfl) ?_
        refine pg_f (v := .ref w_100) (C := RX10) (T := TX10) (N := 13) hx hb hts (tw_i inlX10) hown hK hP hL_this hK_this (by decide) rfl 11 (by decide) (hts _ (tw_c tw_55)) (pq_hv rfl hR_w_100) dX10_goBy_153 ?_
        refine lv_aload_n hx hb dX10_goBy_156 rfl (lv_at hl 1 rfl) ?_
        refine pg_f (v := .ref w_35) (C := RX10) (T := TX10) (N := 13) hx hb hts (tw_i inlX10) hown hK hP hL_this hK_this (by decide) rfl 8 (by decide) (hts _ (tw_c tw_46)) (pq_hv rfl hR_w_35) dX10_goBy_157 ?_
        refine pg_f (v := .int (I_50 0 w_35)) (C := RX0) (T := TX0) (N := 16) hx hb hts (tw_i inlX0) hown hK hP hL_w_35 hK_w_35 (by decide) rfl 0 (by decide) (hts _ (tw_c tw_458)) rfl dX10_goBy_160 ?_
        have h_118 : rg (I_50 0 w_35) 0 40 := GX.rI hG 0 rfl
        refine lv_aload_n hx hb dX10_goBy_163 rfl (lv_at hl 1 rfl) ?_
        refine pg_f (v := .int (I_50 322 this)) (C := RX10) (T := TX10) (N := 13) hx hb hts (tw_i inlX10) hown hK hP hL_this hK_this (by decide) rfl 2 (by decide) (hts _ (tw_c tw_1046)) rfl dX10_goBy_164 ?_
        refine lv_aload_n hx hb dX10_goBy_167 rfl (lv_at hl 1 rfl) ?_
        refine pg_f (v := .int (I_50 320 this)) (C := RX10) (T := TX10) (N := 13) hx hb hts (tw_i inlX10) hown hK hP hL_this hK_this (by decide) rfl 0 (by decide) (hts _ (tw_c tw_457)) rfl dX10_goBy_168 ?_
        refine pk_v (va_runV (As := [.long x_112, .ref w_100, .int (I_50 0 w_35), .int (I_50 322 this), .int (I_50 320 this)]) (rest := []) ⟨hx, hb, hml, hown, hts⟩ (s_X0_board_331 l D t σ I_50 J_7 ri_114 rj_9 rq H.size tg hSH hG.1 w_35 x_112 w_100 (I_50 0 w_35) (I_50 322 this) (I_50 320 this) hL_w_35 hK_w_35 hL_w_100 hK_w_100 hN_w_100 hT_w_100) (cwV 5 hts (tw_V tw_1167 tw_1168 tw_1169 tw_45 tw_1170) rfl rfl rfl (by decide +kernel) ⟨Nat.le_of_ble_eq_true rfl, Nat.le_of_ble_eq_true rfl⟩) ⟨pq_blind, pq_recv hK hP hL_w_35 hK_w_35 (by decide) rfl, pq_pre hK hN hP hD⟩ rfl rfl hl.1 rfl (lv_room (Nat.le_of_ble_eq_true rfl)) dX10_goBy_171 ⟨Nat.le_of_ble_eq_true rfl, Nat.le_of_ble_eq_true rfl⟩) hD hS hA (fun σ1 μ1 H locs hw_120 hP hD hS => ?_)
        obtain ⟨ri_121, hu_122, hg_123⟩ := hw_120
        obtain ⟨hu_122a, hu_122b⟩ := Prod.mk.inj hu_122
        rw [hu_122a, hu_122b] at hP hD
        have hG := GX.tr hG hg_123 (by decide)
        exact K_90 ri_121 _ _ _ hG hP hD hS (lv_sub hl [1] rfl)
    · have h_125 : rg (I 320 this) 600 600 := rg_le2 (nlt c_2) (rg_k (600 : Int32) 600 rfl) h_1 (by decide)
      subst hQ
      exact W.vret hx hb hr (fun t1 ht hW => ⟨⟨(σ, I, J, ri, rj, rq), rfl, ⟨I, J, ri, rj, rfl, hG⟩, by rw [ht]; exact hP, va_K.moved hW.alike hK, hD⟩, hS.F ht⟩) hS.2.2 dX10_goBy_10
  exact go _ _ _ hP hD hS hl

set_option maxHeartbeats 4000000 in
set_option maxRecDepth 100000 in
theorem s_X10_sandBehind (l : Launch) (D : va_G) (t : pq_T) (σ : pq_S) (I : Nat → Nat → Int32) (J : Nat → Nat → Int64) (ri : Nat → Nat → Int32) (rj : Nat → Nat → Int64) (rq : Nat → Nat → Option Nat) (sz : Nat) (tg : Nat → Nat) (hSH : SH σ tg) (hG0 : GS tg σ I ri rq) (this : Nat) (a0 : Int32) (a1 : Int32) (hL_this : this ∈ σ.1) (hK_this : σ.2.1 this = 10) (h_a0 : rg a0 0 60) (h_a1 : rg a1 0 39) : MetI l yX10_sandBehind (wa yX10_sandBehind cX10_sandBehind 4 (some .int)) ({ frames := 2, cells := 0, slots := 0, locals := 62 }) [.ref this, .int a0, .int a1] D t σ (I, J, ri, rj, rq) sz 0 0 (fun (r : Int32) (u : pq_S × pq_M) => ∃ I' : Nat → Nat → Int32, ∃ ri' : Nat → Nat → Int32, u = (σ, I', J, ri', rj, rq) ∧ GX [] tg σ I I' ri' rq) := by
  refine Met.ofW (cc := cX10_sandBehind) (maxL := 4) (ret := (some .int)) (by decide) rfl ?_
  intro p e s m args below meth c s₁ B hml hv
  obtain ⟨rfl, hsz, hP, hK, hD0, hN⟩ := hv
  have hx := B.exec
  have hb := B.bytes
  have hr := B.returns
  have hts := atoms_spec (ws := (wa yX10_sandBehind cX10_sandBehind 4 (some .int))) B.pre
  have hown : s.vm.findClass RX10 = some m.cls := findClass_of_methodNamed B.named
  have hlocks := B.notSynchronized
  subst hsz
  have hD : va_D (pq_B t σ (I, J, ri, rj, rq) s.heap.size) (pq_P t σ (I, J, ri, rj, rq)) := hD0.self
  generalize hAe : pq_B t σ (I, J, ri, rj, rq) s.heap.size = A at hD ⊢
  have hA : ∀ q : Nat, s.heap.size ≤ q → A q := fun q h => by rw [← hAe]; exact Or.inr h
  have hS : va_S A s.heap s.heap [] := va_S.rf
  have hG : GX [] tg σ I I ri rq := ⟨hG0, fun _ _ _ => rfl⟩
  have hl := lv_entry ([.ref this, .int a0, .int a1]) (n := 4) (Nat.le_of_ble_eq_true rfl)
  rw [lg_entry_eq]
  generalize (lg_sl ([.ref this, .int a0, .int a1]) ++ List.replicate (4 - (lg_sl ([.ref this, .int a0, .int a1])).length) Slot.unset).toArray = ls at hl ⊢
  have hl : lv_has ls 4 [(0, .ref this), (1, .int a0), (2, .int a1)] := hl
  refine q_gen (fun Q hQ => ?_)
  have go : ∀ (H : Heap) (locs : List Loc) (ls : Array Slot), va_P D vwCl (pq_P t σ (I, J, ri, rj, rq)) H → va_D A (pq_P t σ (I, J, ri, rj, rq)) → va_S A s.heap H locs → lv_has ls 4 [(0, .ref this), (1, .int a0), (2, .int a1)] → W p l e ({ frames := 2, cells := 0, slots := 0, locals := 62 } : Room) s m (List.toArray ([.ref this, .int a0, .int a1] : List Value)) below meth c H locs 0 0 Q (F0 m 0 ls []) := by
    intro H locs ls hP hD hS hl
    refine lv_iconst (v := 0) hx hb dX10_sandBehind_0 (by decide) ?_
    refine lv_istore_n (lv' := [(3, .int 0), (0, .ref this), (1, .int a0), (2, .int a1)]) hx hb dX10_sandBehind_1 rfl hl (by decide) rfl (fun ls hl => ?_)
    have L_419 : ∀ (n_418 : Nat) (x_389 : Int32) (I_390 : Nat → Nat → Int32) (ri_391 : Nat → Nat → Int32) (H : Heap) (locs : List Loc) (ls : Array Slot), rg x_389 0 60 → (60 - (x_389).toInt).toNat < n_418 → GX [] tg σ I I_390 ri_391 rq → va_P D vwCl (pq_P t σ (I_390, J, ri_391, rj, rq)) H → va_D A (pq_P t σ (I_390, J, ri_391, rj, rq)) → va_S A s.heap H locs → lv_has ls 4 [(0, .ref this), (1, .int a0), (2, .int a1), (3, .int x_389)] → W p l e ({ frames := 2, cells := 0, slots := 0, locals := 62 } : Room) s m (List.toArray ([.ref this, .int a0, .int a1] : List Value)) below meth c H locs 0 0 Q (F0 m 2 ls []) := by
      intro n_418
      induction n_418 with
      | zero => intro x_389 I_390 ri_391 H locs ls h_422 hm_417 hG hP hD hS hl; exact absurd hm_417 (Nat.not_lt_zero _)
      | succ n_418 ih_420 =>
        intro x_389 I_390 ri_391 H locs ls h_422 hm_417 hG hP hD hS hl
        refine lv_iload_n hx hb dX10_sandBehind_2 rfl (lv_at hl 3 rfl) ?_
        refine lv_iload_n hx hb dX10_sandBehind_3 rfl (lv_at hl 1 rfl) ?_
        refine lv_icmp_ge (tgt := 37) hx hb dX10_sandBehind_4 (by decide) (fun c_423 => ?_) (fun c_423 => ?_)
        · refine lv_aload_n hx hb dX10_sandBehind_37 rfl (lv_at hl 0 rfl) ?_
          obtain ⟨w_424, hR_w_424, hL_w_424, hK_w_424⟩ := sh_o hSH 327 (ci := 10) (kd := 2) rfl hL_this hK_this
          refine pg_f (v := .ref w_424) (C := RX10) (T := TX10) (N := 13) hx hb hts (tw_i inlX10) hown hK hP hL_this hK_this (by decide) rfl 7 (by decide) (hts _ (tw_c tw_42)) (pq_hv rfl hR_w_424) dX10_sandBehind_38 ?_
          obtain ⟨w_425, hR_w_425, hL_w_425, hK_w_425, hN_w_425, hT_w_425⟩ := sh_a hSH 73 (ci := 2) (kd := 13) (len := 40) rfl (by decide) hL_w_424 hK_w_424
          refine pg_f (v := .ref w_425) (C := RX2) (T := TX2) (N := 20) hx hb hts (tw_i inlX2) hown hK hP hL_w_424 hK_w_424 (by decide) rfl 9 (by decide) (hts _ (tw_c tw_1419)) (pq_hv rfl hR_w_425) dX10_sandBehind_41 ?_
          refine lv_iload_n hx hb dX10_sandBehind_44 rfl (lv_at hl 2 rfl) ?_
          refine pl_i hx hb hK hP hL_w_425 hK_w_425 hN_w_425 (rg_in h_a1 (by decide)) dX10_sandBehind_45 ?_
          refine lv_topi (fun x_426 ex_426 => ?_)
          subst hQ
          exact W.iret (v := x_426) hx hb hr (fun t1 ht hW => ⟨⟨x_426, (σ, I_390, J, ri_391, rj, rq), rfl, ⟨I_390, ri_391, rfl, hG⟩, by rw [ht]; exact hP, va_K.moved hW.alike hK, hD⟩, hS.F ht⟩) hS.2.2 dX10_sandBehind_46
        · have h_427 : rg x_389 0 59 := rg_lt1 (nle c_423) h_422 h_a0 (by decide)
          have h_428 : rg a0 1 60 := rg_lt2 (nle c_423) h_422 h_a0 (by decide)
          refine lv_aload_n hx hb dX10_sandBehind_7 rfl (lv_at hl 0 rfl) ?_
          obtain ⟨w_429, hR_w_429, hL_w_429, hK_w_429⟩ := sh_o hSH 327 (ci := 10) (kd := 2) rfl hL_this hK_this
          refine pg_f (v := .ref w_429) (C := RX10) (T := TX10) (N := 13) hx hb hts (tw_i inlX10) hown hK hP hL_this hK_this (by decide) rfl 7 (by decide) (hts _ (tw_c tw_42)) (pq_hv rfl hR_w_429) dX10_sandBehind_8 ?_
          refine lv_aload_n hx hb dX10_sandBehind_11 rfl (lv_at hl 0 rfl) ?_
          obtain ⟨w_430, hR_w_430, hL_w_430, hK_w_430⟩ := sh_o hSH 326 (ci := 10) (kd := 7) rfl hL_this hK_this
          refine pg_f (v := .ref w_430) (C := RX10) (T := TX10) (N := 13) hx hb hts (tw_i inlX10) hown hK hP hL_this hK_this (by decide) rfl 6 (by decide) (hts _ (tw_c tw_38)) (pq_hv rfl hR_w_430) dX10_sandBehind_12 ?_
          obtain ⟨w_431, hR_w_431, hL_w_431, hK_w_431, hN_w_431, hT_w_431⟩ := sh_a hSH 232 (ci := 7) (kd := 13) (len := 12) rfl (by decide) hL_w_430 hK_w_430
          refine pg_f (v := .ref w_431) (C := RX7) (T := TX7) (N := 15) hx hb hts (tw_i inlX7) hown hK hP hL_w_430 hK_w_430 (by decide) rfl 8 (by decide) (hts _ (tw_c tw_1055)) (pq_hv rfl hR_w_431) dX10_sandBehind_15 ?_
          refine lv_aload_n hx hb dX10_sandBehind_18 rfl (lv_at hl 0 rfl) ?_
          refine pg_f (v := .int (I_390 320 this)) (C := RX10) (T := TX10) (N := 13) hx hb hts (tw_i inlX10) hown hK hP hL_this hK_this (by decide) rfl 0 (by decide) (hts _ (tw_c tw_457)) rfl dX10_sandBehind_19 ?_
          have h_432 : rg (I_390 320 this) 0 600 := GX.rI hG 320 rfl
          refine lv_iload_n hx hb dX10_sandBehind_22 rfl (lv_at hl 3 rfl) ?_
          refine lv_iadd hx hb dX10_sandBehind_23 ?_
          refine lv_topi (fun x_433 ex_433 => ?_)
          have h_434 : rg x_433 0 659 := rg_of_eq ex_433 (rg_add h_432 h_427 (by decide))
          refine lv_bipush (v := 12) hx hb dX10_sandBehind_24 (by decide) ?_
          refine lv_irem hx hb dX10_sandBehind_26 (by decide) ?_
          refine lv_topi (fun x_435 ex_435 => ?_)
          have h_436 : rg x_435 0 11 := rg_of_eq ex_435 (rg_rem h_434 rfl (by decide))
          refine pl_i hx hb hK hP hL_w_431 hK_w_431 hN_w_431 (rg_in h_436 (by decide)) dX10_sandBehind_27 ?_
          refine lv_topi (fun x_437 ex_437 => ?_)
          refine pk_v (va_runV (As := [.int x_437]) (rest := []) ⟨hx, hb, hml, hown, hts⟩ (s_X2_walk l D t σ I_390 J ri_391 rj rq H.size tg hSH hG.1 w_429 x_437 hL_w_429 hK_w_429) (cwV 1 hts (tw_V tw_1065 tw_1066 tw_1067 tw_41 tw_1068) rfl rfl rfl (by decide +kernel) ⟨Nat.le_of_ble_eq_true rfl, Nat.le_of_ble_eq_true rfl⟩) ⟨pq_blind, pq_recv hK hP hL_w_429 hK_w_429 (by decide) rfl, pq_pre hK hN hP hD⟩ rfl rfl hl.1 rfl (lv_room (Nat.le_of_ble_eq_true rfl)) dX10_sandBehind_28 ⟨Nat.le_of_ble_eq_true rfl, Nat.le_of_ble_eq_true rfl⟩) hD hS hA (fun σ1 μ1 H locs hw_439 hP hD hS => ?_)
          obtain ⟨I_440, ri_441, hu_442, hg_443⟩ := hw_439
          obtain ⟨hu_442a, hu_442b⟩ := Prod.mk.inj hu_442
          rw [hu_442a, hu_442b] at hP hD
          have hG := GX.tr hG hg_443 (by decide)
          obtain ⟨x_445, ex_445⟩ : ∃ y : Int32, y = x_389 + Int32.ofInt 1 := ⟨_, rfl⟩
          have h_446 : rg x_445 1 60 := rg_of_eq ex_445 (rg_add h_427 (rg_k (Int32.ofInt 1) 1 rfl) (by decide))
          refine lv_iinc (v := x_445) (lv' := [(3, .int x_445), (0, .ref this), (1, .int a0), (2, .int a1)]) hx hb dX10_sandBehind_31 hl (k := 3) rfl ex_445.symm (by decide) rfl (fun ls hl => ?_)
          refine lv_goto (tgt := 2) hx hb dX10_sandBehind_34 (by decide) ?_
          exact ih_420 x_445 I_440 ri_441 _ _ _ (rg_w h_446 (by decide)) (ms_up 1 hm_417 ex_445 rfl (by decide) h_427 (by decide) (by decide)) hG hP hD hS (lv_sub hl [1, 2, 3, 0] rfl)
    exact L_419 _ (0 : Int32) I ri _ _ _ (rg_w (rg_k (0 : Int32) 0 rfl) (by decide)) (Nat.lt_succ_self _) hG hP hD hS (lv_sub hl [1, 2, 3, 0] rfl)
  exact go _ _ _ hP hD hS hl

set_option maxHeartbeats 4000000 in
set_option maxRecDepth 100000 in
theorem s_X10_wasDry (l : Launch) (D : va_G) (t : pq_T) (σ : pq_S) (I : Nat → Nat → Int32) (J : Nat → Nat → Int64) (ri : Nat → Nat → Int32) (rj : Nat → Nat → Int64) (rq : Nat → Nat → Option Nat) (sz : Nat) (tg : Nat → Nat) (hSH : SH σ tg) (hG0 : GS tg σ I ri rq) (this : Nat) (a0 : Int32) (hL_this : this ∈ σ.1) (hK_this : σ.2.1 this = 10) : MetI l yX10_wasDry (wa yX10_wasDry cX10_wasDry 2 (some .int)) ({ frames := 2, cells := 0, slots := 0, locals := 43 }) [.ref this, .int a0] D t σ (I, J, ri, rj, rq) sz 0 0 (fun (r : Int32) (u : pq_S × pq_M) => u = (σ, I, J, ri, rj, rq) ∧ rg r (-1) 1) := by
  refine Met.ofW (cc := cX10_wasDry) (maxL := 2) (ret := (some .int)) (by decide) rfl ?_
  intro p e s m args below meth c s₁ B hml hv
  obtain ⟨rfl, hsz, hP, hK, hD0, hN⟩ := hv
  have hx := B.exec
  have hb := B.bytes
  have hr := B.returns
  have hts := atoms_spec (ws := (wa yX10_wasDry cX10_wasDry 2 (some .int))) B.pre
  have hown : s.vm.findClass RX10 = some m.cls := findClass_of_methodNamed B.named
  have hlocks := B.notSynchronized
  subst hsz
  have hD : va_D (pq_B t σ (I, J, ri, rj, rq) s.heap.size) (pq_P t σ (I, J, ri, rj, rq)) := hD0.self
  generalize hAe : pq_B t σ (I, J, ri, rj, rq) s.heap.size = A at hD ⊢
  have hA : ∀ q : Nat, s.heap.size ≤ q → A q := fun q h => by rw [← hAe]; exact Or.inr h
  have hS : va_S A s.heap s.heap [] := va_S.rf
  have hG : GX [] tg σ I I ri rq := ⟨hG0, fun _ _ _ => rfl⟩
  have hl := lv_entry ([.ref this, .int a0]) (n := 2) (Nat.le_of_ble_eq_true rfl)
  rw [lg_entry_eq]
  generalize (lg_sl ([.ref this, .int a0]) ++ List.replicate (2 - (lg_sl ([.ref this, .int a0])).length) Slot.unset).toArray = ls at hl ⊢
  have hl : lv_has ls 2 [(0, .ref this), (1, .int a0)] := hl
  refine q_gen (fun Q hQ => ?_)
  have go : ∀ (H : Heap) (locs : List Loc) (ls : Array Slot), va_P D vwCl (pq_P t σ (I, J, ri, rj, rq)) H → va_D A (pq_P t σ (I, J, ri, rj, rq)) → va_S A s.heap H locs → lv_has ls 2 [(0, .ref this), (1, .int a0)] → W p l e ({ frames := 2, cells := 0, slots := 0, locals := 43 } : Room) s m (List.toArray ([.ref this, .int a0] : List Value)) below meth c H locs 0 0 Q (F0 m 0 ls []) := by
    intro H locs ls hP hD hS hl
    refine lv_aload_n hx hb dX10_wasDry_0 rfl (lv_at hl 0 rfl) ?_
    refine pg_f (v := .int (I 320 this)) (C := RX10) (T := TX10) (N := 13) hx hb hts (tw_i inlX10) hown hK hP hL_this hK_this (by decide) rfl 0 (by decide) (hts _ (tw_c tw_457)) rfl dX10_wasDry_1 ?_
    have h_1 : rg (I 320 this) 0 600 := GX.rI hG 320 rfl
    refine lv_if_ne (tgt := 9) hx hb dX10_wasDry_4 (by decide) (fun c_2 => ?_) (fun c_2 => ?_)
    · have h_3 : rg (I 320 this) 1 600 := rg_ne c_2 h_1 0 rfl (by decide)
      refine lv_aload_n hx hb dX10_wasDry_9 rfl (lv_at hl 0 rfl) ?_
      obtain ⟨w_4, hR_w_4, hL_w_4, hK_w_4⟩ := sh_o hSH 327 (ci := 10) (kd := 2) rfl hL_this hK_this
      refine pg_f (v := .ref w_4) (C := RX10) (T := TX10) (N := 13) hx hb hts (tw_i inlX10) hown hK hP hL_this hK_this (by decide) rfl 7 (by decide) (hts _ (tw_c tw_42)) (pq_hv rfl hR_w_4) dX10_wasDry_10 ?_
      refine lv_iload_n hx hb dX10_wasDry_13 rfl (lv_at hl 1 rfl) ?_
      refine pk_i (va_runV (As := [.int a0]) (rest := []) ⟨hx, hb, hml, hown, hts⟩ (s_X2_isDry l D t σ I J ri rj rq H.size tg hSH hG.1 w_4 a0 hL_w_4 hK_w_4) (cwV 1 hts (tw_V tw_554 tw_555 tw_556 tw_41 tw_557) rfl rfl rfl (by decide +kernel) ⟨Nat.le_of_ble_eq_true rfl, Nat.le_of_ble_eq_true rfl⟩) ⟨pq_blind, pq_recv hK hP hL_w_4 hK_w_4 (by decide) rfl, pq_pre hK hN hP hD⟩ rfl rfl hl.1 rfl (lv_room (Nat.le_of_ble_eq_true rfl)) dX10_wasDry_14 ⟨Nat.le_of_ble_eq_true rfl, Nat.le_of_ble_eq_true rfl⟩) hD hS hA (fun x_5 σ1 μ1 H locs hw_6 hP hD hS => ?_)
      obtain ⟨hu_7, hr_9⟩ := hw_6
      obtain ⟨hu_7a, hu_7b⟩ := Prod.mk.inj hu_7
      rw [hu_7a, hu_7b] at hP hD
      have h_10 : rg x_5 0 1 := by rcases hr_9 with ⟨q, -⟩ | ⟨q, -⟩ <;> rw [q] <;> exact ⟨by decide, by decide⟩
      refine lv_if_eq (tgt := 24) hx hb dX10_wasDry_17 (by decide) (fun c_11 => ?_) (fun c_11 => ?_)
      · have h_12 : rg x_5 0 0 := rg_and h_10 (rg_of_eq c_11 (rg_k (0 : Int32) 0 rfl)) (by decide)
        refine lv_iconst (v := 0) hx hb dX10_wasDry_24 (by decide) ?_
        subst hQ
        exact W.iret (v := 0) hx hb hr (fun t1 ht hW => ⟨⟨0, (σ, I, J, ri, rj, rq), rfl, ⟨rfl, (rg_w (rg_k (0 : Int32) 0 rfl) (by decide))⟩, by rw [ht]; exact hP, va_K.moved hW.alike hK, hD⟩, hS.F ht⟩) hS.2.2 dX10_wasDry_25
      · have h_13 : rg x_5 1 1 := rg_ne c_11 h_10 0 rfl (by decide)
        refine lv_iconst (v := 1) hx hb dX10_wasDry_20 (by decide) ?_
        refine lv_goto (tgt := 25) hx hb dX10_wasDry_21 (by decide) ?_
        subst hQ
        exact W.iret (v := 1) hx hb hr (fun t1 ht hW => ⟨⟨1, (σ, I, J, ri, rj, rq), rfl, ⟨rfl, (rg_w (rg_k (1 : Int32) 1 rfl) (by decide))⟩, by rw [ht]; exact hP, va_K.moved hW.alike hK, hD⟩, hS.F ht⟩) hS.2.2 dX10_wasDry_25
    · have h_14 : rg (I 320 this) 0 0 := rg_and h_1 (rg_of_eq c_2 (rg_k (0 : Int32) 0 rfl)) (by decide)
      refine lv_iconst (v := (-1)) hx hb dX10_wasDry_7 (by decide) ?_
      subst hQ
      exact W.iret (v := (-1)) hx hb hr (fun t1 ht hW => ⟨⟨(-1), (σ, I, J, ri, rj, rq), rfl, ⟨rfl, (rg_w (rg_k (-1 : Int32) (-1) rfl) (by decide))⟩, by rw [ht]; exact hP, va_K.moved hW.alike hK, hD⟩, hS.F ht⟩) hS.2.2 dX10_wasDry_8
  exact go _ _ _ hP hD hS hl

set_option maxHeartbeats 4000000 in
set_option maxRecDepth 100000 in
theorem s_X10_wasRock (l : Launch) (D : va_G) (t : pq_T) (σ : pq_S) (I : Nat → Nat → Int32) (J : Nat → Nat → Int64) (ri : Nat → Nat → Int32) (rj : Nat → Nat → Int64) (rq : Nat → Nat → Option Nat) (sz : Nat) (tg : Nat → Nat) (hSH : SH σ tg) (hG0 : GS tg σ I ri rq) (this : Nat) (a0 : Int32) (hL_this : this ∈ σ.1) (hK_this : σ.2.1 this = 10) : MetI l yX10_wasRock (wa yX10_wasRock cX10_wasRock 2 (some .int)) ({ frames := 1, cells := 0, slots := 0, locals := 22 }) [.ref this, .int a0] D t σ (I, J, ri, rj, rq) sz 0 0 (fun (r : Int32) (u : pq_S × pq_M) => u = (σ, I, J, ri, rj, rq) ∧ rg r (-1) 1) := by
  refine Met.ofW (cc := cX10_wasRock) (maxL := 2) (ret := (some .int)) (by decide) rfl ?_
  intro p e s m args below meth c s₁ B hml hv
  obtain ⟨rfl, hsz, hP, hK, hD0, hN⟩ := hv
  have hx := B.exec
  have hb := B.bytes
  have hr := B.returns
  have hts := atoms_spec (ws := (wa yX10_wasRock cX10_wasRock 2 (some .int))) B.pre
  have hown : s.vm.findClass RX10 = some m.cls := findClass_of_methodNamed B.named
  have hlocks := B.notSynchronized
  subst hsz
  have hD : va_D (pq_B t σ (I, J, ri, rj, rq) s.heap.size) (pq_P t σ (I, J, ri, rj, rq)) := hD0.self
  generalize hAe : pq_B t σ (I, J, ri, rj, rq) s.heap.size = A at hD ⊢
  have hA : ∀ q : Nat, s.heap.size ≤ q → A q := fun q h => by rw [← hAe]; exact Or.inr h
  have hS : va_S A s.heap s.heap [] := va_S.rf
  have hG : GX [] tg σ I I ri rq := ⟨hG0, fun _ _ _ => rfl⟩
  have hl := lv_entry ([.ref this, .int a0]) (n := 2) (Nat.le_of_ble_eq_true rfl)
  rw [lg_entry_eq]
  generalize (lg_sl ([.ref this, .int a0]) ++ List.replicate (2 - (lg_sl ([.ref this, .int a0])).length) Slot.unset).toArray = ls at hl ⊢
  have hl : lv_has ls 2 [(0, .ref this), (1, .int a0)] := hl
  refine q_gen (fun Q hQ => ?_)
  have go : ∀ (H : Heap) (locs : List Loc) (ls : Array Slot), va_P D vwCl (pq_P t σ (I, J, ri, rj, rq)) H → va_D A (pq_P t σ (I, J, ri, rj, rq)) → va_S A s.heap H locs → lv_has ls 2 [(0, .ref this), (1, .int a0)] → W p l e ({ frames := 1, cells := 0, slots := 0, locals := 22 } : Room) s m (List.toArray ([.ref this, .int a0] : List Value)) below meth c H locs 0 0 Q (F0 m 0 ls []) := by
    intro H locs ls hP hD hS hl
    refine lv_aload_n hx hb dX10_wasRock_0 rfl (lv_at hl 0 rfl) ?_
    refine pg_f (v := .int (I 320 this)) (C := RX10) (T := TX10) (N := 13) hx hb hts (tw_i inlX10) hown hK hP hL_this hK_this (by decide) rfl 0 (by decide) (hts _ (tw_c tw_457)) rfl dX10_wasRock_1 ?_
    have h_1 : rg (I 320 this) 0 600 := GX.rI hG 320 rfl
    refine lv_if_ne (tgt := 9) hx hb dX10_wasRock_4 (by decide) (fun c_2 => ?_) (fun c_2 => ?_)
    · have h_3 : rg (I 320 this) 1 600 := rg_ne c_2 h_1 0 rfl (by decide)
      refine lv_aload_n hx hb dX10_wasRock_9 rfl (lv_at hl 0 rfl) ?_
      obtain ⟨w_4, hR_w_4, hL_w_4, hK_w_4⟩ := sh_o hSH 327 (ci := 10) (kd := 2) rfl hL_this hK_this
      refine pg_f (v := .ref w_4) (C := RX10) (T := TX10) (N := 13) hx hb hts (tw_i inlX10) hown hK hP hL_this hK_this (by decide) rfl 7 (by decide) (hts _ (tw_c tw_42)) (pq_hv rfl hR_w_4) dX10_wasRock_10 ?_
      obtain ⟨w_5, hR_w_5, hL_w_5, hK_w_5, hN_w_5, hT_w_5⟩ := sh_a hSH 68 (ci := 2) (kd := 14) (len := 600) rfl (by decide) hL_w_4 hK_w_4
      refine pg_f (v := .ref w_5) (C := RX2) (T := TX2) (N := 20) hx hb hts (tw_i inlX2) hown hK hP hL_w_4 hK_w_4 (by decide) rfl 4 (by decide) (hts _ (tw_c tw_1129)) (pq_hv rfl hR_w_5) dX10_wasRock_13 ?_
      refine lv_aload_n hx hb dX10_wasRock_16 rfl (lv_at hl 0 rfl) ?_
      refine pg_f (v := .int (I 320 this)) (C := RX10) (T := TX10) (N := 13) hx hb hts (tw_i inlX10) hown hK hP hL_this hK_this (by decide) rfl 0 (by decide) (hts _ (tw_c tw_457)) rfl dX10_wasRock_17 ?_
      refine lv_iconst (v := 1) hx hb dX10_wasRock_20 (by decide) ?_
      refine lv_isub hx hb dX10_wasRock_21 ?_
      refine lv_topi (fun x_6 ex_6 => ?_)
      have h_7 : rg x_6 0 599 := rg_of_eq ex_6 (rg_sub h_3 (rg_k (1 : Int32) 1 rfl) (by decide))
      refine pl_l hx hb hK hP hL_w_5 hK_w_5 hN_w_5 (rg_in h_7 (by decide)) dX10_wasRock_22 ?_
      refine lv_topl (fun x_8 ex_8 => ?_)
      refine lv_iload_n hx hb dX10_wasRock_23 rfl (lv_at hl 1 rfl) ?_
      refine pk_i (va_runSN (As := [.long x_8, .int a0]) (rest := []) ⟨hx, hb, hml, hown, hts⟩ (s_X11_hasBit l D t σ I J ri rj rq H.size tg hSH hG.1 x_8 a0) ⟨va_cnB (host := "RingsUnder") 2 hts (tw_W tw_560) rfl rfl rfl (nl_24 hN) (hts _ (tw_c tw_2)) (by decide +kernel) ⟨Nat.le_of_ble_eq_true rfl, Nat.le_of_ble_eq_true rfl⟩, hts (.static yX11_hasBit) (by decide +kernel), trivial⟩ ⟨pq_blind, pq_pre hK hN hP hD⟩ rfl rfl hl.1 rfl (lv_room (Nat.le_of_ble_eq_true rfl)) dX10_wasRock_24 ⟨Nat.le_of_ble_eq_true rfl, Nat.le_of_ble_eq_true rfl⟩) hD hS hA (fun x_9 σ1 μ1 H locs hw_10 hP hD hS => ?_)
      obtain ⟨hu_11, hr_13⟩ := hw_10
      obtain ⟨hu_11a, hu_11b⟩ := Prod.mk.inj hu_11
      rw [hu_11a, hu_11b] at hP hD
      have h_14 : rg x_9 0 1 := by rcases hr_13 with ⟨q, -⟩ | ⟨q, -⟩ <;> rw [q] <;> exact ⟨by decide, by decide⟩
      refine lv_if_eq (tgt := 34) hx hb dX10_wasRock_27 (by decide) (fun c_15 => ?_) (fun c_15 => ?_)
      · have h_16 : rg x_9 0 0 := rg_and h_14 (rg_of_eq c_15 (rg_k (0 : Int32) 0 rfl)) (by decide)
        refine lv_iconst (v := 0) hx hb dX10_wasRock_34 (by decide) ?_
        subst hQ
        exact W.iret (v := 0) hx hb hr (fun t1 ht hW => ⟨⟨0, (σ, I, J, ri, rj, rq), rfl, ⟨rfl, (rg_w (rg_k (0 : Int32) 0 rfl) (by decide))⟩, by rw [ht]; exact hP, va_K.moved hW.alike hK, hD⟩, hS.F ht⟩) hS.2.2 dX10_wasRock_35
      · have h_17 : rg x_9 1 1 := rg_ne c_15 h_14 0 rfl (by decide)
        refine lv_iconst (v := 1) hx hb dX10_wasRock_30 (by decide) ?_
        refine lv_goto (tgt := 35) hx hb dX10_wasRock_31 (by decide) ?_
        subst hQ
        exact W.iret (v := 1) hx hb hr (fun t1 ht hW => ⟨⟨1, (σ, I, J, ri, rj, rq), rfl, ⟨rfl, (rg_w (rg_k (1 : Int32) 1 rfl) (by decide))⟩, by rw [ht]; exact hP, va_K.moved hW.alike hK, hD⟩, hS.F ht⟩) hS.2.2 dX10_wasRock_35
    · have h_18 : rg (I 320 this) 0 0 := rg_and h_1 (rg_of_eq c_2 (rg_k (0 : Int32) 0 rfl)) (by decide)
      refine lv_iconst (v := (-1)) hx hb dX10_wasRock_7 (by decide) ?_
      subst hQ
      exact W.iret (v := (-1)) hx hb hr (fun t1 ht hW => ⟨⟨(-1), (σ, I, J, ri, rj, rq), rfl, ⟨rfl, (rg_w (rg_k (-1 : Int32) (-1) rfl) (by decide))⟩, by rw [ht]; exact hP, va_K.moved hW.alike hK, hD⟩, hS.F ht⟩) hS.2.2 dX10_wasRock_8
  exact go _ _ _ hP hD hS hl

set_option maxHeartbeats 4000000 in
set_option maxRecDepth 100000 in
theorem s_X10_titleStands (l : Launch) (D : va_G) (t : pq_T) (σ : pq_S) (I : Nat → Nat → Int32) (J : Nat → Nat → Int64) (ri : Nat → Nat → Int32) (rj : Nat → Nat → Int64) (rq : Nat → Nat → Option Nat) (sz : Nat) (tg : Nat → Nat) (hSH : SH σ tg) (hG0 : GS tg σ I ri rq) (this : Nat) (a0 : Int32) (hL_this : this ∈ σ.1) (hK_this : σ.2.1 this = 10) (h_a0 : rg a0 0 39) : MetI l yX10_titleStands (wa yX10_titleStands cX10_titleStands 3 (some .boolean)) ({ frames := 5, cells := 0, slots := 0, locals := 139 }) [.ref this, .int a0] D t σ (I, J, ri, rj, rq) sz 0 0 (fun (r : Int32) (u : pq_S × pq_M) => ∃ ri' : Nat → Nat → Int32, u = (σ, I, J, ri', rj, rq) ∧ GX [] tg σ I I ri' rq ∧ ((r = 1 ∧ True) ∨ (r = 0 ∧ True))) := by
  refine Met.ofW (cc := cX10_titleStands) (maxL := 3) (ret := (some .boolean)) (by decide) rfl ?_
  intro p e s m args below meth c s₁ B hml hv
  obtain ⟨rfl, hsz, hP, hK, hD0, hN⟩ := hv
  have hx := B.exec
  have hb := B.bytes
  have hr := B.returns
  have hts := atoms_spec (ws := (wa yX10_titleStands cX10_titleStands 3 (some .boolean))) B.pre
  have hown : s.vm.findClass RX10 = some m.cls := findClass_of_methodNamed B.named
  have hlocks := B.notSynchronized
  subst hsz
  have hD : va_D (pq_B t σ (I, J, ri, rj, rq) s.heap.size) (pq_P t σ (I, J, ri, rj, rq)) := hD0.self
  generalize hAe : pq_B t σ (I, J, ri, rj, rq) s.heap.size = A at hD ⊢
  have hA : ∀ q : Nat, s.heap.size ≤ q → A q := fun q h => by rw [← hAe]; exact Or.inr h
  have hS : va_S A s.heap s.heap [] := va_S.rf
  have hG : GX [] tg σ I I ri rq := ⟨hG0, fun _ _ _ => rfl⟩
  have hl := lv_entry ([.ref this, .int a0]) (n := 3) (Nat.le_of_ble_eq_true rfl)
  rw [lg_entry_eq]
  generalize (lg_sl ([.ref this, .int a0]) ++ List.replicate (3 - (lg_sl ([.ref this, .int a0])).length) Slot.unset).toArray = ls at hl ⊢
  have hl : lv_has ls 3 [(0, .ref this), (1, .int a0)] := hl
  refine q_gen (fun Q hQ => ?_)
  have go : ∀ (H : Heap) (locs : List Loc) (ls : Array Slot), va_P D vwCl (pq_P t σ (I, J, ri, rj, rq)) H → va_D A (pq_P t σ (I, J, ri, rj, rq)) → va_S A s.heap H locs → lv_has ls 3 [(0, .ref this), (1, .int a0)] → W p l e ({ frames := 5, cells := 0, slots := 0, locals := 139 } : Room) s m (List.toArray ([.ref this, .int a0] : List Value)) below meth c H locs 0 0 Q (F0 m 0 ls []) := by
    intro H locs ls hP hD hS hl
    refine lv_aload_n hx hb dX10_titleStands_0 rfl (lv_at hl 0 rfl) ?_
    obtain ⟨w_1, hR_w_1, hL_w_1, hK_w_1, hN_w_1, hT_w_1⟩ := sh_a hSH 325 (ci := 10) (kd := 13) (len := 40) rfl (by decide) hL_this hK_this
    refine pg_f (v := .ref w_1) (C := RX10) (T := TX10) (N := 13) hx hb hts (tw_i inlX10) hown hK hP hL_this hK_this (by decide) rfl 5 (by decide) (hts _ (tw_c tw_34)) (pq_hv rfl hR_w_1) dX10_titleStands_1 ?_
    refine lv_iload_n hx hb dX10_titleStands_4 rfl (lv_at hl 1 rfl) ?_
    refine pl_i hx hb hK hP hL_w_1 hK_w_1 hN_w_1 (rg_in h_a0 (by decide)) dX10_titleStands_5 ?_
    refine lv_topi (fun x_2 ex_2 => ?_)
    have h_3 : rg x_2 (-1) 39 := rg_of_eq ex_2 (GX.rR hG hT_w_1 rfl)
    refine lv_istore_n (lv' := [(2, .int x_2), (0, .ref this), (1, .int a0)]) hx hb dX10_titleStands_6 rfl hl (by decide) rfl (fun ls hl => ?_)
    refine lv_iload_n hx hb dX10_titleStands_7 rfl (lv_at hl 0 rfl) ?_
    refine lv_iconst (v := (-1)) hx hb dX10_titleStands_8 (by decide) ?_
    refine lv_icmp_ne (tgt := 14) hx hb dX10_titleStands_9 (by decide) (fun c_4 => ?_) (fun c_4 => ?_)
    · have h_5 : rg x_2 0 39 := rg_ne c_4 h_3 (-1) rfl (by decide)
      refine lv_aload_n hx hb dX10_titleStands_14 rfl (lv_at hl 1 rfl) ?_
      refine lv_iload_n hx hb dX10_titleStands_15 rfl (lv_at hl 2 rfl) ?_
      refine pk_i (va_runV (As := [.int a0]) (rest := []) ⟨hx, hb, hml, hown, hts⟩ (s_X10_wasDry l D t σ I J ri rj rq H.size tg hSH hG.1 this a0 hL_this hK_this) (cwV 1 hts (tw_V tw_550 tw_551 tw_552 tw_15 tw_553) rfl rfl rfl (by decide +kernel) ⟨Nat.le_of_ble_eq_true rfl, Nat.le_of_ble_eq_true rfl⟩) ⟨pq_blind, pq_recv hK hP hL_this hK_this (by decide) rfl, pq_pre hK hN hP hD⟩ rfl rfl hl.1 rfl (lv_room (Nat.le_of_ble_eq_true rfl)) dX10_titleStands_16 ⟨Nat.le_of_ble_eq_true rfl, Nat.le_of_ble_eq_true rfl⟩) hD hS hA (fun x_6 σ1 μ1 H locs hw_7 hP hD hS => ?_)
      obtain ⟨hu_8, hr_10⟩ := hw_7
      obtain ⟨hu_8a, hu_8b⟩ := Prod.mk.inj hu_8
      rw [hu_8a, hu_8b] at hP hD
      have K_30 : ∀  (ri_29 : Nat → Nat → Int32) (H : Heap) (locs : List Loc) (ls : Array Slot), GX [] tg σ I I ri_29 rq → va_P D vwCl (pq_P t σ (I, J, ri_29, rj, rq)) H → va_D A (pq_P t σ (I, J, ri_29, rj, rq)) → va_S A s.heap H locs → lv_has ls 3 [] → W p l e ({ frames := 5, cells := 0, slots := 0, locals := 139 } : Room) s m (List.toArray ([.ref this, .int a0] : List Value)) below meth c H locs 0 0 Q (F0 m 50 ls []) := by
        intro ri_29 H locs ls hG hP hD hS hl
        refine lv_iconst (v := 1) hx hb dX10_titleStands_50 (by decide) ?_
        refine lv_goto (tgt := 55) hx hb dX10_titleStands_51 (by decide) ?_
        subst hQ
        exact W.zret (v := 1) hx hb hr (by decide) (fun t1 ht hW => ⟨⟨1, (σ, I, J, ri_29, rj, rq), rfl, ⟨ri_29, rfl, hG, (Or.inl ⟨rfl, trivial⟩)⟩, by rw [ht]; exact hP, va_K.moved hW.alike hK, hD⟩, hS.F ht⟩) hS.2.2 dX10_titleStands_55
      refine lv_if_ne (tgt := 50) hx hb dX10_titleStands_19 (by decide) (fun c_31 => ?_) (fun c_31 => ?_)
      · exact K_30 ri _ _ _ hG hP hD hS (lv_sub hl [] rfl)
      · have h_32 : rg x_6 0 0 := rg_and hr_10 (rg_of_eq c_31 (rg_k (0 : Int32) 0 rfl)) (by decide)
        refine lv_aload_n hx hb dX10_titleStands_22 rfl (lv_at hl 1 rfl) ?_
        obtain ⟨w_33, hR_w_33, hL_w_33, hK_w_33⟩ := sh_o hSH 329 (ci := 10) (kd := 3) rfl hL_this hK_this
        refine pg_f (v := .ref w_33) (C := RX10) (T := TX10) (N := 13) hx hb hts (tw_i inlX10) hown hK hP hL_this hK_this (by decide) rfl 9 (by decide) (hts _ (tw_c tw_50)) (pq_hv rfl hR_w_33) dX10_titleStands_23 ?_
        refine lv_aload_n hx hb dX10_titleStands_26 rfl (lv_at hl 1 rfl) ?_
        refine pg_f (v := .int (I 320 this)) (C := RX10) (T := TX10) (N := 13) hx hb hts (tw_i inlX10) hown hK hP hL_this hK_this (by decide) rfl 0 (by decide) (hts _ (tw_c tw_457)) rfl dX10_titleStands_27 ?_
        have h_34 : rg (I 320 this) 0 600 := GX.rI hG 320 rfl
        refine lv_aload_n hx hb dX10_titleStands_30 rfl (lv_at hl 1 rfl) ?_
        obtain ⟨w_35, hR_w_35, hL_w_35, hK_w_35⟩ := sh_o hSH 328 (ci := 10) (kd := 0) rfl hL_this hK_this
        refine pg_f (v := .ref w_35) (C := RX10) (T := TX10) (N := 13) hx hb hts (tw_i inlX10) hown hK hP hL_this hK_this (by decide) rfl 8 (by decide) (hts _ (tw_c tw_46)) (pq_hv rfl hR_w_35) dX10_titleStands_31 ?_
        refine lv_iload_n hx hb dX10_titleStands_34 rfl (lv_at hl 0 rfl) ?_
        refine lv_aload_n hx hb dX10_titleStands_35 rfl (lv_at hl 1 rfl) ?_
        obtain ⟨w_36, hR_w_36, hL_w_36, hK_w_36⟩ := sh_o hSH 327 (ci := 10) (kd := 2) rfl hL_this hK_this
        refine pg_f (v := .ref w_36) (C := RX10) (T := TX10) (N := 13) hx hb hts (tw_i inlX10) hown hK hP hL_this hK_this (by decide) rfl 7 (by decide) (hts _ (tw_c tw_42)) (pq_hv rfl hR_w_36) dX10_titleStands_36 ?_
        obtain ⟨w_37, hR_w_37, hL_w_37, hK_w_37, hN_w_37, hT_w_37⟩ := sh_a hSH 77 (ci := 2) (kd := 13) (len := 40) rfl (by decide) hL_w_36 hK_w_36
        refine pg_f (v := .ref w_37) (C := RX2) (T := TX2) (N := 20) hx hb hts (tw_i inlX2) hown hK hP hL_w_36 hK_w_36 (by decide) rfl 13 (by decide) (hts _ (tw_c tw_549)) (pq_hv rfl hR_w_37) dX10_titleStands_39 ?_
        refine lv_iload_n hx hb dX10_titleStands_42 rfl (lv_at hl 2 rfl) ?_
        refine pl_i hx hb hK hP hL_w_37 hK_w_37 hN_w_37 (rg_in h_a0 (by decide)) dX10_titleStands_43 ?_
        refine lv_topi (fun x_38 ex_38 => ?_)
        refine pk_i (va_runV (As := [.int (I 320 this), .ref w_35, .int x_2, .int x_38]) (rest := []) ⟨hx, hb, hml, hown, hts⟩ (s_X3_lastsFor l D t σ I J ri rj rq H.size tg hSH hG.1 w_33 (I 320 this) w_35 x_2 x_38 hL_w_33 hK_w_33 hL_w_35 hK_w_35 (rg_w h_5 (by decide))) (cwV 4 hts (tw_V tw_561 tw_562 tw_563 tw_49 tw_564) rfl rfl rfl (by decide +kernel) ⟨Nat.le_of_ble_eq_true rfl, Nat.le_of_ble_eq_true rfl⟩) ⟨pq_blind, pq_recv hK hP hL_w_33 hK_w_33 (by decide) rfl, pq_pre hK hN hP hD⟩ rfl rfl hl.1 rfl (lv_room (Nat.le_of_ble_eq_true rfl)) dX10_titleStands_44 ⟨Nat.le_of_ble_eq_true rfl, Nat.le_of_ble_eq_true rfl⟩) hD hS hA (fun x_39 σ1 μ1 H locs hw_40 hP hD hS => ?_)
        obtain ⟨ri_41, hu_42, hg_43, hr_44⟩ := hw_40
        obtain ⟨hu_42a, hu_42b⟩ := Prod.mk.inj hu_42
        rw [hu_42a, hu_42b] at hP hD
        have hG := GX.tr hG hg_43 (by decide)
        have h_45 : rg x_39 0 1 := by rcases hr_44 with ⟨q, -⟩ | ⟨q, -⟩ <;> rw [q] <;> exact ⟨by decide, by decide⟩
        refine lv_if_eq (tgt := 54) hx hb dX10_titleStands_47 (by decide) (fun c_46 => ?_) (fun c_46 => ?_)
        · have h_47 : rg x_39 0 0 := rg_and h_45 (rg_of_eq c_46 (rg_k (0 : Int32) 0 rfl)) (by decide)
          refine lv_iconst (v := 0) hx hb dX10_titleStands_54 (by decide) ?_
          subst hQ
          exact W.zret (v := 0) hx hb hr (by decide) (fun t1 ht hW => ⟨⟨0, (σ, I, J, ri_41, rj, rq), rfl, ⟨ri_41, rfl, hG, (Or.inr ⟨rfl, trivial⟩)⟩, by rw [ht]; exact hP, va_K.moved hW.alike hK, hD⟩, hS.F ht⟩) hS.2.2 dX10_titleStands_55
        · have h_48 : rg x_39 1 1 := rg_ne c_46 h_45 0 rfl (by decide)
          exact K_30 ri_41 _ _ _ hG hP hD hS (lv_sub hl [] rfl)
    · have h_49 : rg x_2 (-1) (-1) := rg_and h_3 (rg_of_eq c_4 (rg_k (-1 : Int32) (-1) rfl)) (by decide)
      refine lv_iconst (v := 0) hx hb dX10_titleStands_12 (by decide) ?_
      subst hQ
      exact W.zret (v := 0) hx hb hr (by decide) (fun t1 ht hW => ⟨⟨0, (σ, I, J, ri, rj, rq), rfl, ⟨ri, rfl, hG, (Or.inr ⟨rfl, trivial⟩)⟩, by rw [ht]; exact hP, va_K.moved hW.alike hK, hD⟩, hS.F ht⟩) hS.2.2 dX10_titleStands_13
  exact go _ _ _ hP hD hS hl

set_option maxHeartbeats 4000000 in
set_option maxRecDepth 100000 in
theorem s_X10_heirOf (l : Launch) (D : va_G) (t : pq_T) (σ : pq_S) (I : Nat → Nat → Int32) (J : Nat → Nat → Int64) (ri : Nat → Nat → Int32) (rj : Nat → Nat → Int64) (rq : Nat → Nat → Option Nat) (sz : Nat) (tg : Nat → Nat) (hSH : SH σ tg) (hG0 : GS tg σ I ri rq) (this : Nat) (a0 : Int32) (hL_this : this ∈ σ.1) (hK_this : σ.2.1 this = 10) (h_a0 : rg a0 0 39) : MetI l yX10_heirOf (wa yX10_heirOf cX10_heirOf 4 (some .int)) ({ frames := 3, cells := 0, slots := 0, locals := 97 }) [.ref this, .int a0] D t σ (I, J, ri, rj, rq) sz 0 0 (fun (r : Int32) (u : pq_S × pq_M) => ∃ ri' : Nat → Nat → Int32, u = (σ, I, J, ri', rj, rq) ∧ GX [] tg σ I I ri' rq ∧ rg r (-1) 39) := by
  refine Met.ofW (cc := cX10_heirOf) (maxL := 4) (ret := (some .int)) (by decide) rfl ?_
  intro p e s m args below meth c s₁ B hml hv
  obtain ⟨rfl, hsz, hP, hK, hD0, hN⟩ := hv
  have hx := B.exec
  have hb := B.bytes
  have hr := B.returns
  have hts := atoms_spec (ws := (wa yX10_heirOf cX10_heirOf 4 (some .int))) B.pre
  have hown : s.vm.findClass RX10 = some m.cls := findClass_of_methodNamed B.named
  have hlocks := B.notSynchronized
  subst hsz
  have hD : va_D (pq_B t σ (I, J, ri, rj, rq) s.heap.size) (pq_P t σ (I, J, ri, rj, rq)) := hD0.self
  generalize hAe : pq_B t σ (I, J, ri, rj, rq) s.heap.size = A at hD ⊢
  have hA : ∀ q : Nat, s.heap.size ≤ q → A q := fun q h => by rw [← hAe]; exact Or.inr h
  have hS : va_S A s.heap s.heap [] := va_S.rf
  have hG : GX [] tg σ I I ri rq := ⟨hG0, fun _ _ _ => rfl⟩
  have hl := lv_entry ([.ref this, .int a0]) (n := 4) (Nat.le_of_ble_eq_true rfl)
  rw [lg_entry_eq]
  generalize (lg_sl ([.ref this, .int a0]) ++ List.replicate (4 - (lg_sl ([.ref this, .int a0])).length) Slot.unset).toArray = ls at hl ⊢
  have hl : lv_has ls 4 [(0, .ref this), (1, .int a0)] := hl
  refine q_gen (fun Q hQ => ?_)
  have go : ∀ (H : Heap) (locs : List Loc) (ls : Array Slot), va_P D vwCl (pq_P t σ (I, J, ri, rj, rq)) H → va_D A (pq_P t σ (I, J, ri, rj, rq)) → va_S A s.heap H locs → lv_has ls 4 [(0, .ref this), (1, .int a0)] → W p l e ({ frames := 3, cells := 0, slots := 0, locals := 97 } : Room) s m (List.toArray ([.ref this, .int a0] : List Value)) below meth c H locs 0 0 Q (F0 m 0 ls []) := by
    intro H locs ls hP hD hS hl
    refine lv_aload_n hx hb dX10_heirOf_0 rfl (lv_at hl 0 rfl) ?_
    obtain ⟨w_1, hR_w_1, hL_w_1, hK_w_1⟩ := sh_o hSH 329 (ci := 10) (kd := 3) rfl hL_this hK_this
    refine pg_f (v := .ref w_1) (C := RX10) (T := TX10) (N := 13) hx hb hts (tw_i inlX10) hown hK hP hL_this hK_this (by decide) rfl 9 (by decide) (hts _ (tw_c tw_50)) (pq_hv rfl hR_w_1) dX10_heirOf_1 ?_
    refine lv_iconst (v := 5) hx hb dX10_heirOf_4 (by decide) ?_
    refine lv_aload_n hx hb dX10_heirOf_5 rfl (lv_at hl 0 rfl) ?_
    refine pg_f (v := .int (I 320 this)) (C := RX10) (T := TX10) (N := 13) hx hb hts (tw_i inlX10) hown hK hP hL_this hK_this (by decide) rfl 0 (by decide) (hts _ (tw_c tw_457)) rfl dX10_heirOf_6 ?_
    have h_2 : rg (I 320 this) 0 600 := GX.rI hG 320 rfl
    refine lv_aload_n hx hb dX10_heirOf_9 rfl (lv_at hl 0 rfl) ?_
    obtain ⟨w_3, hR_w_3, hL_w_3, hK_w_3⟩ := sh_o hSH 328 (ci := 10) (kd := 0) rfl hL_this hK_this
    refine pg_f (v := .ref w_3) (C := RX10) (T := TX10) (N := 13) hx hb hts (tw_i inlX10) hown hK hP hL_this hK_this (by decide) rfl 8 (by decide) (hts _ (tw_c tw_46)) (pq_hv rfl hR_w_3) dX10_heirOf_10 ?_
    refine lv_aload_n hx hb dX10_heirOf_13 rfl (lv_at hl 0 rfl) ?_
    obtain ⟨w_4, hR_w_4, hL_w_4, hK_w_4, hN_w_4, hT_w_4⟩ := sh_a hSH 331 (ci := 10) (kd := 13) (len := 40) rfl (by decide) hL_this hK_this
    refine pg_f (v := .ref w_4) (C := RX10) (T := TX10) (N := 13) hx hb hts (tw_i inlX10) hown hK hP hL_this hK_this (by decide) rfl 11 (by decide) (hts _ (tw_c tw_55)) (pq_hv rfl hR_w_4) dX10_heirOf_14 ?_
    refine pk_v (va_runV (As := [.int 5, .int (I 320 this), .ref w_3, .ref w_4]) (rest := []) ⟨hx, hb, hml, hown, hts⟩ (s_X3_line_331 l D t σ I J ri rj rq H.size tg hSH hG.1 w_1 (5 : Int32) (I 320 this) w_3 w_4 hL_w_1 hK_w_1 hL_w_3 hK_w_3 hL_w_4 hK_w_4 hN_w_4 hT_w_4) (cwV 4 hts (tw_V tw_461 tw_462 tw_463 tw_49 tw_464) rfl rfl rfl (by decide +kernel) ⟨Nat.le_of_ble_eq_true rfl, Nat.le_of_ble_eq_true rfl⟩) ⟨pq_blind, pq_recv hK hP hL_w_1 hK_w_1 (by decide) rfl, pq_pre hK hN hP hD⟩ rfl rfl hl.1 rfl (lv_room (Nat.le_of_ble_eq_true rfl)) dX10_heirOf_17 ⟨Nat.le_of_ble_eq_true rfl, Nat.le_of_ble_eq_true rfl⟩) hD hS hA (fun σ1 μ1 H locs hw_6 hP hD hS => ?_)
    obtain ⟨ri_7, hu_8, hg_9⟩ := hw_6
    obtain ⟨hu_8a, hu_8b⟩ := Prod.mk.inj hu_8
    rw [hu_8a, hu_8b] at hP hD
    have hG := GX.tr hG hg_9 (by decide)
    refine lv_iconst (v := 0) hx hb dX10_heirOf_20 (by decide) ?_
    refine lv_istore_n (lv' := [(2, .int 0), (0, .ref this), (1, .int a0)]) hx hb dX10_heirOf_21 rfl hl (by decide) rfl (fun ls hl => ?_)
    have L_297 : ∀ (n_296 : Nat) (x_273 : Int32) (H : Heap) (locs : List Loc) (ls : Array Slot), rg x_273 0 40 → (40 - (x_273).toInt).toNat < n_296 → GX [] tg σ I I ri_7 rq → va_P D vwCl (pq_P t σ (I, J, ri_7, rj, rq)) H → va_D A (pq_P t σ (I, J, ri_7, rj, rq)) → va_S A s.heap H locs → lv_has ls 4 [(0, .ref this), (1, .int a0), (2, .int x_273)] → W p l e ({ frames := 3, cells := 0, slots := 0, locals := 97 } : Room) s m (List.toArray ([.ref this, .int a0] : List Value)) below meth c H locs 0 0 Q (F0 m 22 ls []) := by
      intro n_296
      induction n_296 with
      | zero => intro x_273 H locs ls h_300 hm_295 hG hP hD hS hl; exact absurd hm_295 (Nat.not_lt_zero _)
      | succ n_296 ih_298 =>
        intro x_273 H locs ls h_300 hm_295 hG hP hD hS hl
        refine lv_iload_n hx hb dX10_heirOf_22 rfl (lv_at hl 2 rfl) ?_
        refine lv_aload_n hx hb dX10_heirOf_23 rfl (lv_at hl 0 rfl) ?_
        refine pg_f (v := .ref w_3) (C := RX10) (T := TX10) (N := 13) hx hb hts (tw_i inlX10) hown hK hP hL_this hK_this (by decide) rfl 8 (by decide) (hts _ (tw_c tw_46)) (pq_hv rfl hR_w_3) dX10_heirOf_24 ?_
        refine pg_f (v := .int (I 0 w_3)) (C := RX0) (T := TX0) (N := 16) hx hb hts (tw_i inlX0) hown hK hP hL_w_3 hK_w_3 (by decide) rfl 0 (by decide) (hts _ (tw_c tw_458)) rfl dX10_heirOf_27 ?_
        have h_301 : rg (I 0 w_3) 0 40 := GX.rI hG 0 rfl
        refine lv_icmp_ge (tgt := 84) hx hb dX10_heirOf_30 (by decide) (fun c_302 => ?_) (fun c_302 => ?_)
        · refine lv_iconst (v := (-1)) hx hb dX10_heirOf_84 (by decide) ?_
          subst hQ
          exact W.iret (v := (-1)) hx hb hr (fun t1 ht hW => ⟨⟨(-1), (σ, I, J, ri_7, rj, rq), rfl, ⟨ri_7, rfl, hG, (rg_w (rg_k (-1 : Int32) (-1) rfl) (by decide))⟩, by rw [ht]; exact hP, va_K.moved hW.alike hK, hD⟩, hS.F ht⟩) hS.2.2 dX10_heirOf_85
        · have h_303 : rg x_273 0 39 := rg_lt1 (nle c_302) h_300 h_301 (by decide)
          have h_304 : rg (I 0 w_3) 1 40 := rg_lt2 (nle c_302) h_300 h_301 (by decide)
          refine lv_aload_n hx hb dX10_heirOf_33 rfl (lv_at hl 0 rfl) ?_
          refine pg_f (v := .ref w_4) (C := RX10) (T := TX10) (N := 13) hx hb hts (tw_i inlX10) hown hK hP hL_this hK_this (by decide) rfl 11 (by decide) (hts _ (tw_c tw_55)) (pq_hv rfl hR_w_4) dX10_heirOf_34 ?_
          refine lv_iload_n hx hb dX10_heirOf_37 rfl (lv_at hl 2 rfl) ?_
          refine pl_i hx hb hK hP hL_w_4 hK_w_4 hN_w_4 (rg_in h_303 (by decide)) dX10_heirOf_38 ?_
          refine lv_topi (fun x_305 ex_305 => ?_)
          have h_306 : rg x_305 0 39 := rg_of_eq ex_305 (GX.rR hG hT_w_4 rfl)
          refine lv_istore_n (lv' := [(3, .int x_305), (0, .ref this), (1, .int a0), (2, .int x_273)]) hx hb dX10_heirOf_39 rfl hl (by decide) rfl (fun ls hl => ?_)
          refine lv_aload_n hx hb dX10_heirOf_40 rfl (lv_at hl 1 rfl) ?_
          refine pg_f (v := .ref w_3) (C := RX10) (T := TX10) (N := 13) hx hb hts (tw_i inlX10) hown hK hP hL_this hK_this (by decide) rfl 8 (by decide) (hts _ (tw_c tw_46)) (pq_hv rfl hR_w_3) dX10_heirOf_41 ?_
          obtain ⟨w_307, hR_w_307, hL_w_307, hK_w_307, hN_w_307, hT_w_307⟩ := sh_a hSH 1 (ci := 0) (kd := 13) (len := 40) rfl (by decide) hL_w_3 hK_w_3
          refine pg_f (v := .ref w_307) (C := RX0) (T := TX0) (N := 16) hx hb hts (tw_i inlX0) hown hK hP hL_w_3 hK_w_3 (by decide) rfl 1 (by decide) (hts _ (tw_c tw_459)) (pq_hv rfl hR_w_307) dX10_heirOf_44 ?_
          refine lv_iload_n hx hb dX10_heirOf_47 rfl (lv_at hl 0 rfl) ?_
          refine pl_i hx hb hK hP hL_w_307 hK_w_307 hN_w_307 (rg_in h_306 (by decide)) dX10_heirOf_48 ?_
          refine lv_topi (fun x_308 ex_308 => ?_)
          have h_309 : rg x_308 0 9 := rg_of_eq ex_308 (GX.rR hG hT_w_307 rfl)
          refine lv_aload_n hx hb dX10_heirOf_49 rfl (lv_at hl 1 rfl) ?_
          refine pg_f (v := .ref w_3) (C := RX10) (T := TX10) (N := 13) hx hb hts (tw_i inlX10) hown hK hP hL_this hK_this (by decide) rfl 8 (by decide) (hts _ (tw_c tw_46)) (pq_hv rfl hR_w_3) dX10_heirOf_50 ?_
          refine pg_f (v := .ref w_307) (C := RX0) (T := TX0) (N := 16) hx hb hts (tw_i inlX0) hown hK hP hL_w_3 hK_w_3 (by decide) rfl 1 (by decide) (hts _ (tw_c tw_459)) (pq_hv rfl hR_w_307) dX10_heirOf_53 ?_
          refine lv_iload_n hx hb dX10_heirOf_56 rfl (lv_at hl 2 rfl) ?_
          refine pl_i hx hb hK hP hL_w_307 hK_w_307 hN_w_307 (rg_in h_a0 (by decide)) dX10_heirOf_57 ?_
          refine lv_topi (fun x_310 ex_310 => ?_)
          have h_311 : rg x_310 0 9 := rg_of_eq ex_310 (GX.rR hG hT_w_307 rfl)
          have K_321 : ∀  (H : Heap) (locs : List Loc) (ls : Array Slot), GX [] tg σ I I ri_7 rq → va_P D vwCl (pq_P t σ (I, J, ri_7, rj, rq)) H → va_D A (pq_P t σ (I, J, ri_7, rj, rq)) → va_S A s.heap H locs → lv_has ls 4 [(0, .ref this), (1, .int a0), (2, .int x_273)] → W p l e ({ frames := 3, cells := 0, slots := 0, locals := 97 } : Room) s m (List.toArray ([.ref this, .int a0] : List Value)) below meth c H locs 0 0 Q (F0 m 78 ls []) := by
            intro H locs ls hG hP hD hS hl
            obtain ⟨x_322, ex_322⟩ : ∃ y : Int32, y = x_273 + Int32.ofInt 1 := ⟨_, rfl⟩
            have h_323 : rg x_322 1 40 := rg_of_eq ex_322 (rg_add h_303 (rg_k (Int32.ofInt 1) 1 rfl) (by decide))
            refine lv_iinc (v := x_322) (lv' := [(2, .int x_322), (0, .ref this), (1, .int a0)]) hx hb dX10_heirOf_78 hl (k := 2) rfl ex_322.symm (by decide) rfl (fun ls hl => ?_)
            refine lv_goto (tgt := 22) hx hb dX10_heirOf_81 (by decide) ?_
            exact ih_298 x_322 _ _ _ (rg_w h_323 (by decide)) (ms_up 1 hm_295 ex_322 rfl (by decide) h_303 (by decide) (by decide)) hG hP hD hS (lv_sub hl [1, 2, 0] rfl)
          refine lv_icmp_ne (tgt := 78) hx hb dX10_heirOf_58 (by decide) (fun c_324 => ?_) (fun c_324 => ?_)
          · exact K_321 _ _ _ hG hP hD hS (lv_sub hl [1, 2, 3] rfl)
          · refine lv_aload_n hx hb dX10_heirOf_61 rfl (lv_at hl 1 rfl) ?_
            refine pg_f (v := .ref w_3) (C := RX10) (T := TX10) (N := 13) hx hb hts (tw_i inlX10) hown hK hP hL_this hK_this (by decide) rfl 8 (by decide) (hts _ (tw_c tw_46)) (pq_hv rfl hR_w_3) dX10_heirOf_62 ?_
            obtain ⟨w_325, hR_w_325, hL_w_325, hK_w_325, hN_w_325, hT_w_325⟩ := sh_a hSH 5 (ci := 0) (kd := 13) (len := 40) rfl (by decide) hL_w_3 hK_w_3
            refine pg_f (v := .ref w_325) (C := RX0) (T := TX0) (N := 16) hx hb hts (tw_i inlX0) hown hK hP hL_w_3 hK_w_3 (by decide) rfl 5 (by decide) (hts _ (tw_c tw_460)) (pq_hv rfl hR_w_325) dX10_heirOf_65 ?_
            refine lv_iload_n hx hb dX10_heirOf_68 rfl (lv_at hl 0 rfl) ?_
            refine pl_i hx hb hK hP hL_w_325 hK_w_325 hN_w_325 (rg_in h_306 (by decide)) dX10_heirOf_69 ?_
            refine lv_topi (fun x_326 ex_326 => ?_)
            have h_327 : rg x_326 0 300 := rg_of_eq ex_326 (GX.rR hG hT_w_325 rfl)
            refine lv_sipush (v := 300) hx hb dX10_heirOf_70 (by decide) ?_
            refine lv_icmp_eq (tgt := 78) hx hb dX10_heirOf_73 (by decide) (fun c_328 => ?_) (fun c_328 => ?_)
            · have h_329 : rg x_326 300 300 := rg_and h_327 (rg_of_eq c_328 (rg_k (300 : Int32) 300 rfl)) (by decide)
              exact K_321 _ _ _ hG hP hD hS (lv_sub hl [1, 2, 3] rfl)
            · have h_330 : rg x_326 0 299 := rg_ne c_328 h_327 300 rfl (by decide)
              refine lv_iload_n hx hb dX10_heirOf_76 rfl (lv_at hl 0 rfl) ?_
              subst hQ
              exact W.iret (v := x_305) hx hb hr (fun t1 ht hW => ⟨⟨x_305, (σ, I, J, ri_7, rj, rq), rfl, ⟨ri_7, rfl, hG, (rg_w h_306 (by decide))⟩, by rw [ht]; exact hP, va_K.moved hW.alike hK, hD⟩, hS.F ht⟩) hS.2.2 dX10_heirOf_77
    exact L_297 _ (0 : Int32) _ _ _ (rg_w (rg_k (0 : Int32) 0 rfl) (by decide)) (Nat.lt_succ_self _) hG hP hD hS (lv_sub hl [1, 2, 0] rfl)
  exact go _ _ _ hP hD hS hl

set_option maxHeartbeats 4000000 in
set_option maxRecDepth 100000 in
theorem s_X10_passTitles (l : Launch) (D : va_G) (t : pq_T) (σ : pq_S) (I : Nat → Nat → Int32) (J : Nat → Nat → Int64) (ri : Nat → Nat → Int32) (rj : Nat → Nat → Int64) (rq : Nat → Nat → Option Nat) (sz : Nat) (tg : Nat → Nat) (hSH : SH σ tg) (hG0 : GS tg σ I ri rq) (this : Nat) (a0 : Int32) (a1 : Int32) (hL_this : this ∈ σ.1) (hK_this : σ.2.1 this = 10) (h_a1 : rg a1 (-1) 39) : MetI l yX10_passTitles (wa yX10_passTitles cX10_passTitles 5 (some .int)) ({ frames := 0, cells := 0, slots := 0, locals := 0 }) [.ref this, .int a0, .int a1] D t σ (I, J, ri, rj, rq) sz 0 0 (fun (r : Int32) (u : pq_S × pq_M) => ∃ ri' : Nat → Nat → Int32, u = (σ, I, J, ri', rj, rq) ∧ GX [] tg σ I I ri' rq) := by
  refine Met.ofW (cc := cX10_passTitles) (maxL := 5) (ret := (some .int)) (by decide) rfl ?_
  intro p e s m args below meth c s₁ B hml hv
  obtain ⟨rfl, hsz, hP, hK, hD0, hN⟩ := hv
  have hx := B.exec
  have hb := B.bytes
  have hr := B.returns
  have hts := atoms_spec (ws := (wa yX10_passTitles cX10_passTitles 5 (some .int))) B.pre
  have hown : s.vm.findClass RX10 = some m.cls := findClass_of_methodNamed B.named
  have hlocks := B.notSynchronized
  subst hsz
  have hD : va_D (pq_B t σ (I, J, ri, rj, rq) s.heap.size) (pq_P t σ (I, J, ri, rj, rq)) := hD0.self
  generalize hAe : pq_B t σ (I, J, ri, rj, rq) s.heap.size = A at hD ⊢
  have hA : ∀ q : Nat, s.heap.size ≤ q → A q := fun q h => by rw [← hAe]; exact Or.inr h
  have hS : va_S A s.heap s.heap [] := va_S.rf
  have hG : GX [] tg σ I I ri rq := ⟨hG0, fun _ _ _ => rfl⟩
  have hl := lv_entry ([.ref this, .int a0, .int a1]) (n := 5) (Nat.le_of_ble_eq_true rfl)
  rw [lg_entry_eq]
  generalize (lg_sl ([.ref this, .int a0, .int a1]) ++ List.replicate (5 - (lg_sl ([.ref this, .int a0, .int a1])).length) Slot.unset).toArray = ls at hl ⊢
  have hl : lv_has ls 5 [(0, .ref this), (1, .int a0), (2, .int a1)] := hl
  refine q_gen (fun Q hQ => ?_)
  have go : ∀ (H : Heap) (locs : List Loc) (ls : Array Slot), va_P D vwCl (pq_P t σ (I, J, ri, rj, rq)) H → va_D A (pq_P t σ (I, J, ri, rj, rq)) → va_S A s.heap H locs → lv_has ls 5 [(0, .ref this), (1, .int a0), (2, .int a1)] → W p l e ({ frames := 0, cells := 0, slots := 0, locals := 0 } : Room) s m (List.toArray ([.ref this, .int a0, .int a1] : List Value)) below meth c H locs 0 0 Q (F0 m 0 ls []) := by
    intro H locs ls hP hD hS hl
    refine lv_iconst (v := 0) hx hb dX10_passTitles_0 (by decide) ?_
    refine lv_istore_n (lv' := [(3, .int 0), (0, .ref this), (1, .int a0), (2, .int a1)]) hx hb dX10_passTitles_1 rfl hl (by decide) rfl (fun ls hl => ?_)
    refine lv_iconst (v := 0) hx hb dX10_passTitles_2 (by decide) ?_
    refine lv_istore (lv' := [(4, .int 0), (3, .int 0), (0, .ref this), (1, .int a0), (2, .int a1)]) hx hb dX10_passTitles_3 hl (by decide) rfl (fun ls hl => ?_)
    have L_562 : ∀ (n_561 : Nat) (x_540 : Int32) (x_541 : Int32) (ri_542 : Nat → Nat → Int32) (H : Heap) (locs : List Loc) (ls : Array Slot), rg x_541 0 40 → (40 - (x_541).toInt).toNat < n_561 → GX [] tg σ I I ri_542 rq → va_P D vwCl (pq_P t σ (I, J, ri_542, rj, rq)) H → va_D A (pq_P t σ (I, J, ri_542, rj, rq)) → va_S A s.heap H locs → lv_has ls 5 [(0, .ref this), (1, .int a0), (2, .int a1), (3, .int x_540), (4, .int x_541)] → W p l e ({ frames := 0, cells := 0, slots := 0, locals := 0 } : Room) s m (List.toArray ([.ref this, .int a0, .int a1] : List Value)) below meth c H locs 0 0 Q (F0 m 5 ls []) := by
      intro n_561
      induction n_561 with
      | zero => intro x_540 x_541 ri_542 H locs ls h_565 hm_560 hG hP hD hS hl; exact absurd hm_560 (Nat.not_lt_zero _)
      | succ n_561 ih_563 =>
        intro x_540 x_541 ri_542 H locs ls h_565 hm_560 hG hP hD hS hl
        refine lv_iload hx hb dX10_passTitles_5 (lv_at hl 4 rfl) ?_
        refine lv_aload_n hx hb dX10_passTitles_7 rfl (lv_at hl 0 rfl) ?_
        obtain ⟨w_566, hR_w_566, hL_w_566, hK_w_566⟩ := sh_o hSH 327 (ci := 10) (kd := 2) rfl hL_this hK_this
        refine pg_f (v := .ref w_566) (C := RX10) (T := TX10) (N := 13) hx hb hts (tw_i inlX10) hown hK hP hL_this hK_this (by decide) rfl 7 (by decide) (hts _ (tw_c tw_42)) (pq_hv rfl hR_w_566) dX10_passTitles_8 ?_
        refine pg_f (v := .int (I 65 w_566)) (C := RX2) (T := TX2) (N := 20) hx hb hts (tw_i inlX2) hown hK hP hL_w_566 hK_w_566 (by decide) rfl 1 (by decide) (hts _ (tw_c tw_498)) rfl dX10_passTitles_11 ?_
        have h_567 : rg (I 65 w_566) 0 40 := GX.rI hG 65 rfl
        refine lv_icmp_ge (tgt := 45) hx hb dX10_passTitles_14 (by decide) (fun c_568 => ?_) (fun c_568 => ?_)
        · refine lv_iload_n hx hb dX10_passTitles_45 rfl (lv_at hl 3 rfl) ?_
          subst hQ
          exact W.iret (v := x_540) hx hb hr (fun t1 ht hW => ⟨⟨x_540, (σ, I, J, ri_542, rj, rq), rfl, ⟨ri_542, rfl, hG⟩, by rw [ht]; exact hP, va_K.moved hW.alike hK, hD⟩, hS.F ht⟩) hS.2.2 dX10_passTitles_46
        · have h_569 : rg x_541 0 39 := rg_lt1 (nle c_568) h_565 h_567 (by decide)
          have h_570 : rg (I 65 w_566) 1 40 := rg_lt2 (nle c_568) h_565 h_567 (by decide)
          refine lv_aload_n hx hb dX10_passTitles_17 rfl (lv_at hl 0 rfl) ?_
          obtain ⟨w_571, hR_w_571, hL_w_571, hK_w_571, hN_w_571, hT_w_571⟩ := sh_a hSH 325 (ci := 10) (kd := 13) (len := 40) rfl (by decide) hL_this hK_this
          refine pg_f (v := .ref w_571) (C := RX10) (T := TX10) (N := 13) hx hb hts (tw_i inlX10) hown hK hP hL_this hK_this (by decide) rfl 5 (by decide) (hts _ (tw_c tw_34)) (pq_hv rfl hR_w_571) dX10_passTitles_18 ?_
          refine lv_iload hx hb dX10_passTitles_21 (lv_at hl 4 rfl) ?_
          refine pl_i hx hb hK hP hL_w_571 hK_w_571 hN_w_571 (rg_in h_569 (by decide)) dX10_passTitles_23 ?_
          refine lv_topi (fun x_572 ex_572 => ?_)
          have h_573 : rg x_572 (-1) 39 := rg_of_eq ex_572 (GX.rR hG hT_w_571 rfl)
          refine lv_iload_n hx hb dX10_passTitles_24 rfl (lv_at hl 1 rfl) ?_
          have K_582 : ∀  (x_578 : Int32) (ri_579 : Nat → Nat → Int32) (H : Heap) (locs : List Loc) (ls : Array Slot), GX [] tg σ I I ri_579 rq → va_P D vwCl (pq_P t σ (I, J, ri_579, rj, rq)) H → va_D A (pq_P t σ (I, J, ri_579, rj, rq)) → va_S A s.heap H locs → lv_has ls 5 [(0, .ref this), (1, .int a0), (2, .int a1), (3, .int x_578), (4, .int x_541)] → W p l e ({ frames := 0, cells := 0, slots := 0, locals := 0 } : Room) s m (List.toArray ([.ref this, .int a0, .int a1] : List Value)) below meth c H locs 0 0 Q (F0 m 39 ls []) := by
            intro x_578 ri_579 H locs ls hG hP hD hS hl
            obtain ⟨x_583, ex_583⟩ : ∃ y : Int32, y = x_541 + Int32.ofInt 1 := ⟨_, rfl⟩
            have h_584 : rg x_583 1 40 := rg_of_eq ex_583 (rg_add h_569 (rg_k (Int32.ofInt 1) 1 rfl) (by decide))
            refine lv_iinc (v := x_583) (lv' := [(4, .int x_583), (0, .ref this), (1, .int a0), (2, .int a1), (3, .int x_578)]) hx hb dX10_passTitles_39 hl (k := 4) rfl ex_583.symm (by decide) rfl (fun ls hl => ?_)
            refine lv_goto (tgt := 5) hx hb dX10_passTitles_42 (by decide) ?_
            exact ih_563 x_578 x_583 ri_579 _ _ _ (rg_w h_584 (by decide)) (ms_up 1 hm_560 ex_583 rfl (by decide) h_569 (by decide) (by decide)) hG hP hD hS (lv_sub hl [1, 2, 3, 4, 0] rfl)
          refine lv_icmp_ne (tgt := 39) hx hb dX10_passTitles_25 (by decide) (fun c_585 => ?_) (fun c_585 => ?_)
          · exact K_582 x_540 ri_542 _ _ _ hG hP hD hS (lv_sub hl [0, 1, 2, 3, 4] rfl)
          · have h_586 : rg a0 (-1) 39 := rg_and (rg_full _) (rg_of_eq c_585.symm h_573) (by decide)
            refine lv_aload_n hx hb dX10_passTitles_28 rfl (lv_at hl 0 rfl) ?_
            refine pg_f (v := .ref w_571) (C := RX10) (T := TX10) (N := 13) hx hb hts (tw_i inlX10) hown hK hP hL_this hK_this (by decide) rfl 5 (by decide) (hts _ (tw_c tw_34)) (pq_hv rfl hR_w_571) dX10_passTitles_29 ?_
            refine lv_iload hx hb dX10_passTitles_32 (lv_at hl 4 rfl) ?_
            refine lv_iload_n hx hb dX10_passTitles_34 rfl (lv_at hl 2 rfl) ?_
            refine pt_i hx hb hK hP hD hS hL_w_571 hK_w_571 hN_w_571 (rg_in h_569 (by decide)) dX10_passTitles_35 (fun r_587 H locs er_587 hP hD hS => ?_)
            have hG := GX.wR hG hSH hT_w_571 rfl er_587 (rg_w h_a1 (by decide)) (by decide)
            obtain ⟨x_588, ex_588⟩ : ∃ y : Int32, y = x_540 + Int32.ofInt 1 := ⟨_, rfl⟩
            refine lv_iinc (v := x_588) (lv' := [(3, .int x_588), (0, .ref this), (1, .int a0), (2, .int a1), (4, .int x_541)]) hx hb dX10_passTitles_36 hl (k := 3) rfl ex_588.symm (by decide) rfl (fun ls hl => ?_)
            exact K_582 x_588 r_587 _ _ _ hG hP hD hS (lv_sub hl [1, 2, 3, 0, 4] rfl)
    exact L_562 _ (0 : Int32) (0 : Int32) ri _ _ _ (rg_w (rg_k (0 : Int32) 0 rfl) (by decide)) (Nat.lt_succ_self _) hG hP hD hS (lv_sub hl [2, 3, 4, 1, 0] rfl)
  exact go _ _ _ hP hD hS hl

set_option maxHeartbeats 4000000 in
set_option maxRecDepth 100000 in
theorem s_J13_bitCount_95d88 (l : Launch) (D : va_G) (t : pq_T) (σ : pq_S) (I : Nat → Nat → Int32) (J : Nat → Nat → Int64) (ri : Nat → Nat → Int32) (rj : Nat → Nat → Int64) (rq : Nat → Nat → Option Nat) (sz : Nat) (tg : Nat → Nat) (hSH : SH σ tg) (hG0 : GS tg σ I ri rq) (a0 : Int64) : MetI l yJ13_bitCount_95d88 (wa yJ13_bitCount_95d88 cJ13_bitCount_95d88 2 (some .int)) ({ frames := 0, cells := 0, slots := 0, locals := 0 }) [.long a0] D t σ (I, J, ri, rj, rq) sz 0 0 (fun (r : Int32) (u : pq_S × pq_M) => u = (σ, I, J, ri, rj, rq)) := by
  refine Met.ofW (cc := cJ13_bitCount_95d88) (maxL := 2) (ret := (some .int)) (by decide) rfl ?_
  intro p e s m args below meth c s₁ B hml hv
  obtain ⟨rfl, hsz, hP, hK, hD0, hN⟩ := hv
  have hx := B.exec
  have hb := B.bytes
  have hr := B.returns
  have hts := atoms_spec (ws := (wa yJ13_bitCount_95d88 cJ13_bitCount_95d88 2 (some .int))) B.pre
  have hown : s.vm.findClass RJ13 = some m.cls := findClass_of_methodNamed B.named
  have hlocks := B.notSynchronized
  subst hsz
  have hD : va_D (pq_B t σ (I, J, ri, rj, rq) s.heap.size) (pq_P t σ (I, J, ri, rj, rq)) := hD0.self
  generalize hAe : pq_B t σ (I, J, ri, rj, rq) s.heap.size = A at hD ⊢
  have hA : ∀ q : Nat, s.heap.size ≤ q → A q := fun q h => by rw [← hAe]; exact Or.inr h
  have hS : va_S A s.heap s.heap [] := va_S.rf
  have hG : GX [] tg σ I I ri rq := ⟨hG0, fun _ _ _ => rfl⟩
  have hl := lv_entry ([.long a0]) (n := 2) (Nat.le_of_ble_eq_true rfl)
  rw [lg_entry_eq]
  generalize (lg_sl ([.long a0]) ++ List.replicate (2 - (lg_sl ([.long a0])).length) Slot.unset).toArray = ls at hl ⊢
  have hl : lv_has ls 2 [(0, .long a0)] := hl
  refine q_gen (fun Q hQ => ?_)
  have go : ∀ (H : Heap) (locs : List Loc) (ls : Array Slot), va_P D vwCl (pq_P t σ (I, J, ri, rj, rq)) H → va_D A (pq_P t σ (I, J, ri, rj, rq)) → va_S A s.heap H locs → lv_has ls 2 [(0, .long a0)] → W p l e ({ frames := 0, cells := 0, slots := 0, locals := 0 } : Room) s m (List.toArray ([.long a0] : List Value)) below meth c H locs 0 0 Q (F0 m 0 ls []) := by
    intro H locs ls hP hD hS hl
    refine lv_lload_n hx hb dJ13_bitCount_95d88_0 rfl (lv_at hl 0 rfl) ?_
    refine lv_lload_n hx hb dJ13_bitCount_95d88_1 rfl (lv_at hl 0 rfl) ?_
    refine lv_iconst (v := 1) hx hb dJ13_bitCount_95d88_2 (by decide) ?_
    refine lv_lushr hx hb dJ13_bitCount_95d88_3 rfl ?_
    refine lv_topl (fun x_1 ex_1 => ?_)
    refine lv_ldc2 hx hb hown (hts _ (tw_c tw_1346)) dJ13_bitCount_95d88_4 ?_
    refine lv_land hx hb dJ13_bitCount_95d88_7 ?_
    refine lv_topl (fun x_2 ex_2 => ?_)
    refine lv_lsub hx hb dJ13_bitCount_95d88_8 ?_
    refine lv_topl (fun x_3 ex_3 => ?_)
    refine lv_lstore_n (lv' := [(0, .long x_3)]) hx hb dJ13_bitCount_95d88_9 rfl hl (by decide) rfl (fun ls hl => ?_)
    refine lv_lload_n hx hb dJ13_bitCount_95d88_10 rfl (lv_at hl 0 rfl) ?_
    refine lv_ldc2 hx hb hown (hts _ (tw_c tw_1347)) dJ13_bitCount_95d88_11 ?_
    refine lv_land hx hb dJ13_bitCount_95d88_14 ?_
    refine lv_topl (fun x_4 ex_4 => ?_)
    refine lv_lload_n hx hb dJ13_bitCount_95d88_15 rfl (lv_at hl 0 rfl) ?_
    refine lv_iconst (v := 2) hx hb dJ13_bitCount_95d88_16 (by decide) ?_
    refine lv_lushr hx hb dJ13_bitCount_95d88_17 rfl ?_
    refine lv_topl (fun x_5 ex_5 => ?_)
    refine lv_ldc2 hx hb hown (hts _ (tw_c tw_1347)) dJ13_bitCount_95d88_18 ?_
    refine lv_land hx hb dJ13_bitCount_95d88_21 ?_
    refine lv_topl (fun x_6 ex_6 => ?_)
    refine lv_ladd hx hb dJ13_bitCount_95d88_22 ?_
    refine lv_topl (fun x_7 ex_7 => ?_)
    refine lv_lstore_n (lv' := [(0, .long x_7)]) hx hb dJ13_bitCount_95d88_23 rfl hl (by decide) rfl (fun ls hl => ?_)
    refine lv_lload_n hx hb dJ13_bitCount_95d88_24 rfl (lv_at hl 0 rfl) ?_
    refine lv_lload_n hx hb dJ13_bitCount_95d88_25 rfl (lv_at hl 0 rfl) ?_
    refine lv_iconst (v := 4) hx hb dJ13_bitCount_95d88_26 (by decide) ?_
    refine lv_lushr hx hb dJ13_bitCount_95d88_27 rfl ?_
    refine lv_topl (fun x_8 ex_8 => ?_)
    refine lv_ladd hx hb dJ13_bitCount_95d88_28 ?_
    refine lv_topl (fun x_9 ex_9 => ?_)
    refine lv_ldc2 hx hb hown (hts _ (tw_c tw_1348)) dJ13_bitCount_95d88_29 ?_
    refine lv_land hx hb dJ13_bitCount_95d88_32 ?_
    refine lv_topl (fun x_10 ex_10 => ?_)
    refine lv_lstore_n (lv' := [(0, .long x_10)]) hx hb dJ13_bitCount_95d88_33 rfl hl (by decide) rfl (fun ls hl => ?_)
    refine lv_lload_n hx hb dJ13_bitCount_95d88_34 rfl (lv_at hl 0 rfl) ?_
    refine lv_lload_n hx hb dJ13_bitCount_95d88_35 rfl (lv_at hl 0 rfl) ?_
    refine lv_bipush (v := 8) hx hb dJ13_bitCount_95d88_36 (by decide) ?_
    refine lv_lushr hx hb dJ13_bitCount_95d88_38 rfl ?_
    refine lv_topl (fun x_11 ex_11 => ?_)
    refine lv_ladd hx hb dJ13_bitCount_95d88_39 ?_
    refine lv_topl (fun x_12 ex_12 => ?_)
    refine lv_lstore_n (lv' := [(0, .long x_12)]) hx hb dJ13_bitCount_95d88_40 rfl hl (by decide) rfl (fun ls hl => ?_)
    refine lv_lload_n hx hb dJ13_bitCount_95d88_41 rfl (lv_at hl 0 rfl) ?_
    refine lv_lload_n hx hb dJ13_bitCount_95d88_42 rfl (lv_at hl 0 rfl) ?_
    refine lv_bipush (v := 16) hx hb dJ13_bitCount_95d88_43 (by decide) ?_
    refine lv_lushr hx hb dJ13_bitCount_95d88_45 rfl ?_
    refine lv_topl (fun x_13 ex_13 => ?_)
    refine lv_ladd hx hb dJ13_bitCount_95d88_46 ?_
    refine lv_topl (fun x_14 ex_14 => ?_)
    refine lv_lstore_n (lv' := [(0, .long x_14)]) hx hb dJ13_bitCount_95d88_47 rfl hl (by decide) rfl (fun ls hl => ?_)
    refine lv_lload_n hx hb dJ13_bitCount_95d88_48 rfl (lv_at hl 0 rfl) ?_
    refine lv_lload_n hx hb dJ13_bitCount_95d88_49 rfl (lv_at hl 0 rfl) ?_
    refine lv_bipush (v := 32) hx hb dJ13_bitCount_95d88_50 (by decide) ?_
    refine lv_lushr hx hb dJ13_bitCount_95d88_52 rfl ?_
    refine lv_topl (fun x_15 ex_15 => ?_)
    refine lv_ladd hx hb dJ13_bitCount_95d88_53 ?_
    refine lv_topl (fun x_16 ex_16 => ?_)
    refine lv_lstore_n (lv' := [(0, .long x_16)]) hx hb dJ13_bitCount_95d88_54 rfl hl (by decide) rfl (fun ls hl => ?_)
    refine lv_lload_n hx hb dJ13_bitCount_95d88_55 rfl (lv_at hl 0 rfl) ?_
    refine lv_l2i hx hb dJ13_bitCount_95d88_56 rfl ?_
    refine lv_topi (fun x_17 ex_17 => ?_)
    refine lv_bipush (v := 127) hx hb dJ13_bitCount_95d88_57 (by decide) ?_
    refine lv_iand hx hb dJ13_bitCount_95d88_59 ?_
    refine lv_topi (fun x_18 ex_18 => ?_)
    subst hQ
    exact W.iret (v := x_18) hx hb hr (fun t1 ht hW => ⟨⟨x_18, (σ, I, J, ri, rj, rq), rfl, rfl, by rw [ht]; exact hP, va_K.moved hW.alike hK, hD⟩, hS.F ht⟩) hS.2.2 dJ13_bitCount_95d88_60
  exact go _ _ _ hP hD hS hl

set_option maxHeartbeats 4000000 in
set_option maxRecDepth 100000 in
theorem s_X10_decide (l : Launch) (D : va_G) (t : pq_T) (σ : pq_S) (I : Nat → Nat → Int32) (J : Nat → Nat → Int64) (ri : Nat → Nat → Int32) (rj : Nat → Nat → Int64) (rq : Nat → Nat → Option Nat) (sz : Nat) (tg : Nat → Nat) (hSH : SH σ tg) (hG0 : GS tg σ I ri rq) (this : Nat) (a0 : Int64) (hL_this : this ∈ σ.1) (hK_this : σ.2.1 this = 10) : MetI l yX10_decide (wa yX10_decide cX10_decide 8 (some .int)) ({ frames := 5, cells := 0, slots := 0, locals := 143 }) [.ref this, .long a0] D t σ (I, J, ri, rj, rq) sz 0 0 (fun (r : Int32) (u : pq_S × pq_M) => ∃ ri' : Nat → Nat → Int32, u = (σ, I, J, ri', rj, rq) ∧ GX [] tg σ I I ri' rq ∧ rg r 0 2) := by
  refine Met.ofW (cc := cX10_decide) (maxL := 8) (ret := (some .int)) (by decide) rfl ?_
  intro p e s m args below meth c s₁ B hml hv
  obtain ⟨rfl, hsz, hP, hK, hD0, hN⟩ := hv
  have hx := B.exec
  have hb := B.bytes
  have hr := B.returns
  have hts := atoms_spec (ws := (wa yX10_decide cX10_decide 8 (some .int))) B.pre
  have hown : s.vm.findClass RX10 = some m.cls := findClass_of_methodNamed B.named
  have hlocks := B.notSynchronized
  subst hsz
  have hD : va_D (pq_B t σ (I, J, ri, rj, rq) s.heap.size) (pq_P t σ (I, J, ri, rj, rq)) := hD0.self
  generalize hAe : pq_B t σ (I, J, ri, rj, rq) s.heap.size = A at hD ⊢
  have hA : ∀ q : Nat, s.heap.size ≤ q → A q := fun q h => by rw [← hAe]; exact Or.inr h
  have hS : va_S A s.heap s.heap [] := va_S.rf
  have hG : GX [] tg σ I I ri rq := ⟨hG0, fun _ _ _ => rfl⟩
  have hl := lv_entry ([.ref this, .long a0]) (n := 8) (Nat.le_of_ble_eq_true rfl)
  rw [lg_entry_eq]
  generalize (lg_sl ([.ref this, .long a0]) ++ List.replicate (8 - (lg_sl ([.ref this, .long a0])).length) Slot.unset).toArray = ls at hl ⊢
  have hl : lv_has ls 8 [(0, .ref this), (1, .long a0)] := hl
  refine q_gen (fun Q hQ => ?_)
  have go : ∀ (H : Heap) (locs : List Loc) (ls : Array Slot), va_P D vwCl (pq_P t σ (I, J, ri, rj, rq)) H → va_D A (pq_P t σ (I, J, ri, rj, rq)) → va_S A s.heap H locs → lv_has ls 8 [(0, .ref this), (1, .long a0)] → W p l e ({ frames := 5, cells := 0, slots := 0, locals := 143 } : Room) s m (List.toArray ([.ref this, .long a0] : List Value)) below meth c H locs 0 0 Q (F0 m 0 ls []) := by
    intro H locs ls hP hD hS hl
    refine lv_aload_n hx hb dX10_decide_0 rfl (lv_at hl 0 rfl) ?_
    obtain ⟨w_1, hR_w_1, hL_w_1, hK_w_1⟩ := sh_o hSH 328 (ci := 10) (kd := 0) rfl hL_this hK_this
    refine pg_f (v := .ref w_1) (C := RX10) (T := TX10) (N := 13) hx hb hts (tw_i inlX10) hown hK hP hL_this hK_this (by decide) rfl 8 (by decide) (hts _ (tw_c tw_46)) (pq_hv rfl hR_w_1) dX10_decide_1 ?_
    refine pk_l (va_runV (As := []) (rest := []) ⟨hx, hb, hml, hown, hts⟩ (s_X0_notDead l D t σ I J ri rj rq H.size tg hSH hG.1 w_1 hL_w_1 hK_w_1) (cwV 0 hts (tw_V tw_1338 tw_1339 tw_1340 tw_45 tw_1341) rfl rfl rfl (by decide +kernel) ⟨Nat.le_of_ble_eq_true rfl, Nat.le_of_ble_eq_true rfl⟩) ⟨pq_blind, pq_recv hK hP hL_w_1 hK_w_1 (by decide) rfl, pq_pre hK hN hP hD⟩ rfl rfl hl.1 rfl (lv_room (Nat.le_of_ble_eq_true rfl)) dX10_decide_4 ⟨Nat.le_of_ble_eq_true rfl, Nat.le_of_ble_eq_true rfl⟩) hD hS hA (fun x_2 σ1 μ1 H locs hw_3 hP hD hS => ?_)
    have hu_4 := hw_3
    obtain ⟨hu_4a, hu_4b⟩ := Prod.mk.inj hu_4
    rw [hu_4a, hu_4b] at hP hD
    refine lv_lstore_n (lv' := [(3, .long x_2), (0, .ref this), (1, .long a0)]) hx hb dX10_decide_7 rfl hl (by decide) rfl (fun ls hl => ?_)
    refine lv_aload_n hx hb dX10_decide_8 rfl (lv_at hl 1 rfl) ?_
    obtain ⟨w_7, hR_w_7, hL_w_7, hK_w_7⟩ := sh_o hSH 329 (ci := 10) (kd := 3) rfl hL_this hK_this
    refine pg_f (v := .ref w_7) (C := RX10) (T := TX10) (N := 13) hx hb hts (tw_i inlX10) hown hK hP hL_this hK_this (by decide) rfl 9 (by decide) (hts _ (tw_c tw_50)) (pq_hv rfl hR_w_7) dX10_decide_9 ?_
    refine lv_iconst (v := 1) hx hb dX10_decide_12 (by decide) ?_
    refine lv_aload_n hx hb dX10_decide_13 rfl (lv_at hl 1 rfl) ?_
    refine pg_f (v := .int (I 320 this)) (C := RX10) (T := TX10) (N := 13) hx hb hts (tw_i inlX10) hown hK hP hL_this hK_this (by decide) rfl 0 (by decide) (hts _ (tw_c tw_457)) rfl dX10_decide_14 ?_
    have h_8 : rg (I 320 this) 0 600 := GX.rI hG 320 rfl
    refine lv_aload_n hx hb dX10_decide_17 rfl (lv_at hl 1 rfl) ?_
    refine pg_f (v := .ref w_1) (C := RX10) (T := TX10) (N := 13) hx hb hts (tw_i inlX10) hown hK hP hL_this hK_this (by decide) rfl 8 (by decide) (hts _ (tw_c tw_46)) (pq_hv rfl hR_w_1) dX10_decide_18 ?_
    refine lv_lload_n hx hb dX10_decide_21 rfl (lv_at hl 0 rfl) ?_
    refine pk_l (va_runV (As := [.int 1, .int (I 320 this), .ref w_1, .long x_2]) (rest := []) ⟨hx, hb, hml, hown, hts⟩ (s_X3_whoIsSo l D t σ I J ri rj rq H.size tg hSH hG.1 w_7 (1 : Int32) (I 320 this) w_1 x_2 hL_w_7 hK_w_7 hL_w_1 hK_w_1) (cwV 4 hts (tw_V tw_1166 tw_964 tw_965 tw_49 tw_966) rfl rfl rfl (by decide +kernel) ⟨Nat.le_of_ble_eq_true rfl, Nat.le_of_ble_eq_true rfl⟩) ⟨pq_blind, pq_recv hK hP hL_w_7 hK_w_7 (by decide) rfl, pq_pre hK hN hP hD⟩ rfl rfl hl.1 rfl (lv_room (Nat.le_of_ble_eq_true rfl)) dX10_decide_22 ⟨Nat.le_of_ble_eq_true rfl, Nat.le_of_ble_eq_true rfl⟩) hD hS hA (fun x_9 σ1 μ1 H locs hw_10 hP hD hS => ?_)
    obtain ⟨ri_11, hu_12, hg_13⟩ := hw_10
    obtain ⟨hu_12a, hu_12b⟩ := Prod.mk.inj hu_12
    rw [hu_12a, hu_12b] at hP hD
    have hG := GX.tr hG hg_13 (by decide)
    refine lv_aload_n hx hb dX10_decide_25 rfl (lv_at hl 1 rfl) ?_
    refine pg_f (v := .ref w_7) (C := RX10) (T := TX10) (N := 13) hx hb hts (tw_i inlX10) hown hK hP hL_this hK_this (by decide) rfl 9 (by decide) (hts _ (tw_c tw_50)) (pq_hv rfl hR_w_7) dX10_decide_26 ?_
    refine lv_iconst (v := 3) hx hb dX10_decide_29 (by decide) ?_
    refine lv_aload_n hx hb dX10_decide_30 rfl (lv_at hl 1 rfl) ?_
    refine pg_f (v := .int (I 320 this)) (C := RX10) (T := TX10) (N := 13) hx hb hts (tw_i inlX10) hown hK hP hL_this hK_this (by decide) rfl 0 (by decide) (hts _ (tw_c tw_457)) rfl dX10_decide_31 ?_
    refine lv_aload_n hx hb dX10_decide_34 rfl (lv_at hl 1 rfl) ?_
    refine pg_f (v := .ref w_1) (C := RX10) (T := TX10) (N := 13) hx hb hts (tw_i inlX10) hown hK hP hL_this hK_this (by decide) rfl 8 (by decide) (hts _ (tw_c tw_46)) (pq_hv rfl hR_w_1) dX10_decide_35 ?_
    refine lv_lload_n hx hb dX10_decide_38 rfl (lv_at hl 0 rfl) ?_
    refine pk_l (va_runV (As := [.int 3, .int (I 320 this), .ref w_1, .long x_2]) (rest := [.long x_9]) ⟨hx, hb, hml, hown, hts⟩ (s_X3_whoIsSo l D t σ I J ri_11 rj rq H.size tg hSH hG.1 w_7 (3 : Int32) (I 320 this) w_1 x_2 hL_w_7 hK_w_7 hL_w_1 hK_w_1) (cwV 4 hts (tw_V tw_1166 tw_964 tw_965 tw_49 tw_966) rfl rfl rfl (by decide +kernel) ⟨Nat.le_of_ble_eq_true rfl, Nat.le_of_ble_eq_true rfl⟩) ⟨pq_blind, pq_recv hK hP hL_w_7 hK_w_7 (by decide) rfl, pq_pre hK hN hP hD⟩ rfl rfl hl.1 rfl (lv_room (Nat.le_of_ble_eq_true rfl)) dX10_decide_39 ⟨Nat.le_of_ble_eq_true rfl, Nat.le_of_ble_eq_true rfl⟩) hD hS hA (fun x_15 σ1 μ1 H locs hw_16 hP hD hS => ?_)
    obtain ⟨ri_17, hu_18, hg_19⟩ := hw_16
    obtain ⟨hu_18a, hu_18b⟩ := Prod.mk.inj hu_18
    rw [hu_18a, hu_18b] at hP hD
    have hG := GX.tr hG hg_19 (by decide)
    refine lv_land hx hb dX10_decide_42 ?_
    refine lv_topl (fun x_21 ex_21 => ?_)
    refine lv_lstore (lv' := [(5, .long x_21), (3, .long x_2), (0, .ref this), (1, .long a0)]) hx hb dX10_decide_43 hl (by decide) rfl (fun ls hl => ?_)
    refine lv_lload hx hb dX10_decide_45 (lv_at hl 0 rfl) ?_
    refine lv_lload_n hx hb dX10_decide_47 rfl (lv_at hl 3 rfl) ?_
    refine lv_land hx hb dX10_decide_48 ?_
    refine lv_topl (fun x_22 ex_22 => ?_)
    refine pk_i (va_runS (As := [.long x_22]) (rest := []) ⟨hx, hb, hml, hown, hts⟩ (s_J13_bitCount_95d88 l D t σ I J ri_17 rj rq H.size tg hSH hG.1 x_22) (va_cwS 1 hts (tw_S tw_1342 tw_1343 tw_1344 tw_1345) rfl rfl rfl (by decide +kernel) ⟨Nat.le_of_ble_eq_true rfl, Nat.le_of_ble_eq_true rfl⟩) ⟨pq_blind, pq_pre hK hN hP hD⟩ rfl rfl hl.1 rfl (lv_room (Nat.le_of_ble_eq_true rfl)) dX10_decide_49 ⟨Nat.le_of_ble_eq_true rfl, Nat.le_of_ble_eq_true rfl⟩) hD hS hA (fun x_23 σ1 μ1 H locs hw_24 hP hD hS => ?_)
    have hu_25 := hw_24
    obtain ⟨hu_25a, hu_25b⟩ := Prod.mk.inj hu_25
    rw [hu_25a, hu_25b] at hP hD
    refine lv_istore (lv' := [(7, .int x_23), (5, .long x_21), (3, .long x_2), (0, .ref this), (1, .long a0)]) hx hb dX10_decide_52 hl (by decide) rfl (fun ls hl => ?_)
    refine lv_bipush (v := 100) hx hb dX10_decide_54 (by decide) ?_
    refine lv_iload hx hb dX10_decide_56 (lv_at hl 0 rfl) ?_
    refine lv_imul hx hb dX10_decide_58 ?_
    refine lv_topi (fun x_28 ex_28 => ?_)
    refine lv_aload_n hx hb dX10_decide_59 rfl (lv_at hl 3 rfl) ?_
    refine pg_f (v := .ref w_7) (C := RX10) (T := TX10) (N := 13) hx hb hts (tw_i inlX10) hown hK hP hL_this hK_this (by decide) rfl 9 (by decide) (hts _ (tw_c tw_50)) (pq_hv rfl hR_w_7) dX10_decide_60 ?_
    refine lv_aload_n hx hb dX10_decide_63 rfl (lv_at hl 3 rfl) ?_
    refine pg_f (v := .int (I 320 this)) (C := RX10) (T := TX10) (N := 13) hx hb hts (tw_i inlX10) hown hK hP hL_this hK_this (by decide) rfl 0 (by decide) (hts _ (tw_c tw_457)) rfl dX10_decide_64 ?_
    refine pk_i (va_runV (As := [.int (I 320 this)]) (rest := [.int x_28]) ⟨hx, hb, hml, hown, hts⟩ (s_X3_councilIn l D t σ I J ri_17 rj rq H.size tg hSH hG.1 w_7 (I 320 this) hL_w_7 hK_w_7) (cwV 1 hts (tw_V tw_1349 tw_992 tw_993 tw_49 tw_994) rfl rfl rfl (by decide +kernel) ⟨Nat.le_of_ble_eq_true rfl, Nat.le_of_ble_eq_true rfl⟩) ⟨pq_blind, pq_recv hK hP hL_w_7 hK_w_7 (by decide) rfl, pq_pre hK hN hP hD⟩ rfl rfl hl.1 rfl (lv_room (Nat.le_of_ble_eq_true rfl)) dX10_decide_67 ⟨Nat.le_of_ble_eq_true rfl, Nat.le_of_ble_eq_true rfl⟩) hD hS hA (fun x_29 σ1 μ1 H locs hw_30 hP hD hS => ?_)
    have hu_31 := hw_30
    obtain ⟨hu_31a, hu_31b⟩ := Prod.mk.inj hu_31
    rw [hu_31a, hu_31b] at hP hD
    refine lv_lload hx hb dX10_decide_70 (lv_at hl 1 rfl) ?_
    refine pk_i (va_runS (As := [.long x_21]) (rest := [.int x_29, .int x_28]) ⟨hx, hb, hml, hown, hts⟩ (s_J13_bitCount_95d88 l D t σ I J ri_17 rj rq H.size tg hSH hG.1 x_21) (va_cwS 1 hts (tw_S tw_1342 tw_1343 tw_1344 tw_1345) rfl rfl rfl (by decide +kernel) ⟨Nat.le_of_ble_eq_true rfl, Nat.le_of_ble_eq_true rfl⟩) ⟨pq_blind, pq_pre hK hN hP hD⟩ rfl rfl hl.1 rfl (lv_room (Nat.le_of_ble_eq_true rfl)) dX10_decide_72 ⟨Nat.le_of_ble_eq_true rfl, Nat.le_of_ble_eq_true rfl⟩) hD hS hA (fun x_34 σ1 μ1 H locs hw_35 hP hD hS => ?_)
    have hu_36 := hw_35
    obtain ⟨hu_36a, hu_36b⟩ := Prod.mk.inj hu_36
    rw [hu_36a, hu_36b] at hP hD
    refine lv_imul hx hb dX10_decide_75 ?_
    refine lv_topi (fun x_39 ex_39 => ?_)
    refine lv_icmp_ge (tgt := 81) hx hb dX10_decide_76 (by decide) (fun c_40 => ?_) (fun c_40 => ?_)
    · refine lv_aload_n hx hb dX10_decide_81 rfl (lv_at hl 3 rfl) ?_
      refine pg_f (v := .ref w_1) (C := RX10) (T := TX10) (N := 13) hx hb hts (tw_i inlX10) hown hK hP hL_this hK_this (by decide) rfl 8 (by decide) (hts _ (tw_c tw_46)) (pq_hv rfl hR_w_1) dX10_decide_82 ?_
      refine lv_lload hx hb dX10_decide_85 (lv_at hl 1 rfl) ?_
      refine lv_lload_n hx hb dX10_decide_87 rfl (lv_at hl 4 rfl) ?_
      refine lv_land hx hb dX10_decide_88 ?_
      refine lv_topl (fun x_41 ex_41 => ?_)
      refine lv_iconst (v := 1) hx hb dX10_decide_89 (by decide) ?_
      refine pk_i (va_runV (As := [.long x_41, .int 1]) (rest := []) ⟨hx, hb, hml, hown, hts⟩ (s_X0_countVotes l D t σ I J ri_17 rj rq H.size tg hSH hG.1 w_1 x_41 (1 : Int32) hL_w_1 hK_w_1) (cwV 2 hts (tw_V tw_1350 tw_1351 tw_1352 tw_45 tw_1353) rfl rfl rfl (by decide +kernel) ⟨Nat.le_of_ble_eq_true rfl, Nat.le_of_ble_eq_true rfl⟩) ⟨pq_blind, pq_recv hK hP hL_w_1 hK_w_1 (by decide) rfl, pq_pre hK hN hP hD⟩ rfl rfl hl.1 rfl (lv_room (Nat.le_of_ble_eq_true rfl)) dX10_decide_90 ⟨Nat.le_of_ble_eq_true rfl, Nat.le_of_ble_eq_true rfl⟩) hD hS hA (fun x_42 σ1 μ1 H locs hw_43 hP hD hS => ?_)
      have hu_44 := hw_43
      obtain ⟨hu_44a, hu_44b⟩ := Prod.mk.inj hu_44
      rw [hu_44a, hu_44b] at hP hD
      refine lv_aload_n hx hb dX10_decide_93 rfl (lv_at hl 3 rfl) ?_
      refine pg_f (v := .ref w_1) (C := RX10) (T := TX10) (N := 13) hx hb hts (tw_i inlX10) hown hK hP hL_this hK_this (by decide) rfl 8 (by decide) (hts _ (tw_c tw_46)) (pq_hv rfl hR_w_1) dX10_decide_94 ?_
      refine lv_lload hx hb dX10_decide_97 (lv_at hl 1 rfl) ?_
      refine lv_lload_n hx hb dX10_decide_99 rfl (lv_at hl 4 rfl) ?_
      refine lv_land hx hb dX10_decide_100 ?_
      refine lv_topl (fun x_47 ex_47 => ?_)
      refine lv_iconst (v := 0) hx hb dX10_decide_101 (by decide) ?_
      refine pk_i (va_runV (As := [.long x_47, .int 0]) (rest := [.int x_42]) ⟨hx, hb, hml, hown, hts⟩ (s_X0_countVotes l D t σ I J ri_17 rj rq H.size tg hSH hG.1 w_1 x_47 (0 : Int32) hL_w_1 hK_w_1) (cwV 2 hts (tw_V tw_1350 tw_1351 tw_1352 tw_45 tw_1353) rfl rfl rfl (by decide +kernel) ⟨Nat.le_of_ble_eq_true rfl, Nat.le_of_ble_eq_true rfl⟩) ⟨pq_blind, pq_recv hK hP hL_w_1 hK_w_1 (by decide) rfl, pq_pre hK hN hP hD⟩ rfl rfl hl.1 rfl (lv_room (Nat.le_of_ble_eq_true rfl)) dX10_decide_102 ⟨Nat.le_of_ble_eq_true rfl, Nat.le_of_ble_eq_true rfl⟩) hD hS hA (fun x_48 σ1 μ1 H locs hw_49 hP hD hS => ?_)
      have hu_50 := hw_49
      obtain ⟨hu_50a, hu_50b⟩ := Prod.mk.inj hu_50
      rw [hu_50a, hu_50b] at hP hD
      refine lv_icmp_le (tgt := 112) hx hb dX10_decide_105 (by decide) (fun c_53 => ?_) (fun c_53 => ?_)
      · refine lv_iconst (v := 0) hx hb dX10_decide_112 (by decide) ?_
        subst hQ
        exact W.iret (v := 0) hx hb hr (fun t1 ht hW => ⟨⟨0, (σ, I, J, ri_17, rj, rq), rfl, ⟨ri_17, rfl, hG, (rg_w (rg_k (0 : Int32) 0 rfl) (by decide))⟩, by rw [ht]; exact hP, va_K.moved hW.alike hK, hD⟩, hS.F ht⟩) hS.2.2 dX10_decide_113
      · have h_54 : rg x_48 (-2147483648) 2147483646 := rg_lt1 (nle c_53) (rg_full _) (rg_full _) (by decide)
        have h_55 : rg x_42 (-2147483647) 2147483647 := rg_lt2 (nle c_53) (rg_full _) (rg_full _) (by decide)
        refine lv_iconst (v := 1) hx hb dX10_decide_108 (by decide) ?_
        refine lv_goto (tgt := 113) hx hb dX10_decide_109 (by decide) ?_
        subst hQ
        exact W.iret (v := 1) hx hb hr (fun t1 ht hW => ⟨⟨1, (σ, I, J, ri_17, rj, rq), rfl, ⟨ri_17, rfl, hG, (rg_w (rg_k (1 : Int32) 1 rfl) (by decide))⟩, by rw [ht]; exact hP, va_K.moved hW.alike hK, hD⟩, hS.F ht⟩) hS.2.2 dX10_decide_113
    · have h_56 : rg x_28 (-2147483648) 2147483646 := rg_lt1 (nle c_40) (rg_full _) (rg_full _) (by decide)
      have h_57 : rg x_39 (-2147483647) 2147483647 := rg_lt2 (nle c_40) (rg_full _) (rg_full _) (by decide)
      refine lv_iconst (v := 2) hx hb dX10_decide_79 (by decide) ?_
      subst hQ
      exact W.iret (v := 2) hx hb hr (fun t1 ht hW => ⟨⟨2, (σ, I, J, ri_17, rj, rq), rfl, ⟨ri_17, rfl, hG, (rg_w (rg_k (2 : Int32) 2 rfl) (by decide))⟩, by rw [ht]; exact hP, va_K.moved hW.alike hK, hD⟩, hS.F ht⟩) hS.2.2 dX10_decide_80
  exact go _ _ _ hP hD hS hl

set_option maxHeartbeats 4000000 in
set_option maxRecDepth 100000 in
theorem s_X11_ring (l : Launch) (D : va_G) (t : pq_T) (σ : pq_S) (I : Nat → Nat → Int32) (J : Nat → Nat → Int64) (ri : Nat → Nat → Int32) (rj : Nat → Nat → Int64) (rq : Nat → Nat → Option Nat) (sz : Nat) (tg : Nat → Nat) (hSH : SH σ tg) (hG0 : GS tg σ I ri rq) (this : Nat) (hL_this : this ∈ σ.1) (hK_this : σ.2.1 this = 11) : MetI l yX11_ring (wa yX11_ring cX11_ring 2 (some .int)) ({ frames := 0, cells := 0, slots := 0, locals := 0 }) [.ref this] D t σ (I, J, ri, rj, rq) sz 0 0 (fun (r : Int32) (u : pq_S × pq_M) => ∃ I' : Nat → Nat → Int32, u = (σ, I', J, ri, rj, rq) ∧ GX [64] tg σ I I' ri rq ∧ rg r (-1) 4) := by
  refine Met.ofW (cc := cX11_ring) (maxL := 2) (ret := (some .int)) (by decide) rfl ?_
  intro p e s m args below meth c s₁ B hml hv
  obtain ⟨rfl, hsz, hP, hK, hD0, hN⟩ := hv
  have hx := B.exec
  have hb := B.bytes
  have hr := B.returns
  have hts := atoms_spec (ws := (wa yX11_ring cX11_ring 2 (some .int))) B.pre
  have hown : s.vm.findClass RX11 = some m.cls := findClass_of_methodNamed B.named
  have hlocks := B.notSynchronized
  subst hsz
  have hD : va_D (pq_B t σ (I, J, ri, rj, rq) s.heap.size) (pq_P t σ (I, J, ri, rj, rq)) := hD0.self
  generalize hAe : pq_B t σ (I, J, ri, rj, rq) s.heap.size = A at hD ⊢
  have hA : ∀ q : Nat, s.heap.size ≤ q → A q := fun q h => by rw [← hAe]; exact Or.inr h
  have hS : va_S A s.heap s.heap [] := va_S.rf
  have hG : GX [64] tg σ I I ri rq := ⟨hG0, fun _ _ _ => rfl⟩
  have hl := lv_entry ([.ref this]) (n := 2) (Nat.le_of_ble_eq_true rfl)
  rw [lg_entry_eq]
  generalize (lg_sl ([.ref this]) ++ List.replicate (2 - (lg_sl ([.ref this])).length) Slot.unset).toArray = ls at hl ⊢
  have hl : lv_has ls 2 [(0, .ref this)] := hl
  refine q_gen (fun Q hQ => ?_)
  have go : ∀ (H : Heap) (locs : List Loc) (ls : Array Slot), va_P D vwCl (pq_P t σ (I, J, ri, rj, rq)) H → va_D A (pq_P t σ (I, J, ri, rj, rq)) → va_S A s.heap H locs → lv_has ls 2 [(0, .ref this)] → W p l e ({ frames := 0, cells := 0, slots := 0, locals := 0 } : Room) s m (List.toArray ([.ref this] : List Value)) below meth c H locs 0 0 Q (F0 m 0 ls []) := by
    intro H locs ls hP hD hS hl
    refine lv_aload_n hx hb dX11_ring_0 rfl (lv_at hl 0 rfl) ?_
    obtain ⟨w_1, hR_w_1, hL_w_1, hK_w_1⟩ := sh_o hSH 352 (ci := 11) (kd := 10) rfl hL_this hK_this
    refine pg_f (v := .ref w_1) (C := RX11) (T := TX11) (N := 5) hx hb hts (tw_i inlX11) hown hK hP hL_this hK_this (by decide) rfl 0 (by decide) (hts _ (tw_c tw_16)) (pq_hv rfl hR_w_1) dX11_ring_1 ?_
    obtain ⟨w_2, hR_w_2, hL_w_2, hK_w_2⟩ := sh_o hSH 327 (ci := 10) (kd := 2) rfl hL_w_1 hK_w_1
    refine pg_f (v := .ref w_2) (C := RX10) (T := TX10) (N := 13) hx hb hts (tw_i inlX10) hown hK hP hL_w_1 hK_w_1 (by decide) rfl 7 (by decide) (hts _ (tw_c tw_199)) (pq_hv rfl hR_w_2) dX11_ring_4 ?_
    refine lv_astore_n (lv' := [(1, .ref w_2), (0, .ref this)]) hx hb dX11_ring_7 rfl hl (by decide) rfl (fun ls hl => ?_)
    refine lv_aload_n hx hb dX11_ring_8 rfl (lv_at hl 0 rfl) ?_
    refine pg_f (v := .int (I 64 w_2)) (C := RX2) (T := TX2) (N := 20) hx hb hts (tw_i inlX2) hown hK hP hL_w_2 hK_w_2 (by decide) rfl 0 (by decide) (hts _ (tw_c tw_200)) rfl dX11_ring_9 ?_
    have h_3 : rg (I 64 w_2) 0 5 := GX.rI hG 64 rfl
    refine lv_iconst (v := 5) hx hb dX11_ring_12 (by decide) ?_
    refine lv_icmp_lt (tgt := 18) hx hb dX11_ring_13 (by decide) (fun c_4 => ?_) (fun c_4 => ?_)
    · have h_5 : rg (I 64 w_2) 0 4 := rg_lt1 c_4 h_3 (rg_k (5 : Int32) 5 rfl) (by decide)
      refine lv_aload_n hx hb dX11_ring_18 rfl (lv_at hl 0 rfl) ?_
      refine lv_dup hx hb dX11_ring_19 rfl ?_
      refine pg_f (v := .int (I 64 w_2)) (C := RX2) (T := TX2) (N := 20) hx hb hts (tw_i inlX2) hown hK hP hL_w_2 hK_w_2 (by decide) rfl 0 (by decide) (hts _ (tw_c tw_200)) rfl dX11_ring_20 ?_
      refine lv_iconst (v := 1) hx hb dX11_ring_23 (by decide) ?_
      refine lv_iadd hx hb dX11_ring_24 ?_
      refine lv_topi (fun x_6 ex_6 => ?_)
      have h_7 : rg x_6 1 5 := rg_of_eq ex_6 (rg_add h_5 (rg_k (1 : Int32) 1 rfl) (by decide))
      refine pp_i (v := x_6) (ty := .int) (C := RX2) (T := TX2) (N := 20) hx hb hts (tw_i inlX2) tyX2 tyX2_ok nmX2 hown hK hP hD hS hL_w_2 hK_w_2 (by decide) rfl 0 64 (by decide) (hts _ (tw_c tw_200)) rfl (by decide +kernel) rfl rfl (Nat.le_of_ble_eq_true rfl) (ps_64 _ _ _ _ _) dX11_ring_25 (fun I_8 H locs eI_8 hP hD hS => ?_)
      have hG := GX.wI hG 64 rfl eI_8 (rg_w h_7 (by decide)) (by decide)
      refine lv_aload_n hx hb dX11_ring_28 rfl (lv_at hl 0 rfl) ?_
      refine pg_f (v := .int (I_8 64 w_2)) (C := RX2) (T := TX2) (N := 20) hx hb hts (tw_i inlX2) hown hK hP hL_w_2 hK_w_2 (by decide) rfl 0 (by decide) (hts _ (tw_c tw_200)) rfl dX11_ring_29 ?_
      have h_9 : rg (I_8 64 w_2) 1 5 := (by rw [eI_8, pq_us]; exact h_7)
      refine lv_iconst (v := 1) hx hb dX11_ring_32 (by decide) ?_
      refine lv_isub hx hb dX11_ring_33 ?_
      refine lv_topi (fun x_10 ex_10 => ?_)
      have h_11 : rg x_10 0 4 := rg_of_eq ex_10 (rg_sub h_9 (rg_k (1 : Int32) 1 rfl) (by decide))
      subst hQ
      exact W.iret (v := x_10) hx hb hr (fun t1 ht hW => ⟨⟨x_10, (σ, I_8, J, ri, rj, rq), rfl, ⟨I_8, rfl, hG, (rg_w h_11 (by decide))⟩, by rw [ht]; exact hP, va_K.moved hW.alike hK, hD⟩, hS.F ht⟩) hS.2.2 dX11_ring_34
    · have h_12 : rg (I 64 w_2) 5 5 := rg_le2 (nlt c_4) (rg_k (5 : Int32) 5 rfl) h_3 (by decide)
      refine lv_iconst (v := (-1)) hx hb dX11_ring_16 (by decide) ?_
      subst hQ
      exact W.iret (v := (-1)) hx hb hr (fun t1 ht hW => ⟨⟨(-1), (σ, I, J, ri, rj, rq), rfl, ⟨I, rfl, hG, (rg_w (rg_k (-1 : Int32) (-1) rfl) (by decide))⟩, by rw [ht]; exact hP, va_K.moved hW.alike hK, hD⟩, hS.F ht⟩) hS.2.2 dX11_ring_17
  exact go _ _ _ hP hD hS hl

set_option maxHeartbeats 4000000 in
set_option maxRecDepth 100000 in
theorem s_X11_between (l : Launch) (D : va_G) (t : pq_T) (σ : pq_S) (I : Nat → Nat → Int32) (J : Nat → Nat → Int64) (ri : Nat → Nat → Int32) (rj : Nat → Nat → Int64) (rq : Nat → Nat → Option Nat) (sz : Nat) (tg : Nat → Nat) (hSH : SH σ tg) (hG0 : GS tg σ I ri rq) (a0 : Int32) (a1 : Int32) (a2 : Int32) : MetI l yX11_between (wa yX11_between cX11_between 3 (some .boolean)) ({ frames := 0, cells := 0, slots := 0, locals := 0 }) [.int a0, .int a1, .int a2] D t σ (I, J, ri, rj, rq) sz 0 0 (fun (r : Int32) (u : pq_S × pq_M) => u = (σ, I, J, ri, rj, rq) ∧ ((r = 1 ∧ a1 ≤ a0 ∧ a0 ≤ a2) ∨ (r = 0 ∧ True))) := by
  refine Met.ofW (cc := cX11_between) (maxL := 3) (ret := (some .boolean)) (by decide) rfl ?_
  intro p e s m args below meth c s₁ B hml hv
  obtain ⟨rfl, hsz, hP, hK, hD0, hN⟩ := hv
  have hx := B.exec
  have hb := B.bytes
  have hr := B.returns
  have hts := atoms_spec (ws := (wa yX11_between cX11_between 3 (some .boolean))) B.pre
  have hown : s.vm.findClass RX11 = some m.cls := findClass_of_methodNamed B.named
  have hlocks := B.notSynchronized
  subst hsz
  have hD : va_D (pq_B t σ (I, J, ri, rj, rq) s.heap.size) (pq_P t σ (I, J, ri, rj, rq)) := hD0.self
  generalize hAe : pq_B t σ (I, J, ri, rj, rq) s.heap.size = A at hD ⊢
  have hA : ∀ q : Nat, s.heap.size ≤ q → A q := fun q h => by rw [← hAe]; exact Or.inr h
  have hS : va_S A s.heap s.heap [] := va_S.rf
  have hG : GX [] tg σ I I ri rq := ⟨hG0, fun _ _ _ => rfl⟩
  have hl := lv_entry ([.int a0, .int a1, .int a2]) (n := 3) (Nat.le_of_ble_eq_true rfl)
  rw [lg_entry_eq]
  generalize (lg_sl ([.int a0, .int a1, .int a2]) ++ List.replicate (3 - (lg_sl ([.int a0, .int a1, .int a2])).length) Slot.unset).toArray = ls at hl ⊢
  have hl : lv_has ls 3 [(0, .int a0), (1, .int a1), (2, .int a2)] := hl
  refine q_gen (fun Q hQ => ?_)
  have go : ∀ (H : Heap) (locs : List Loc) (ls : Array Slot), va_P D vwCl (pq_P t σ (I, J, ri, rj, rq)) H → va_D A (pq_P t σ (I, J, ri, rj, rq)) → va_S A s.heap H locs → lv_has ls 3 [(0, .int a0), (1, .int a1), (2, .int a2)] → W p l e ({ frames := 0, cells := 0, slots := 0, locals := 0 } : Room) s m (List.toArray ([.int a0, .int a1, .int a2] : List Value)) below meth c H locs 0 0 Q (F0 m 0 ls []) := by
    intro H locs ls hP hD hS hl
    refine lv_iload_n hx hb dX11_between_0 rfl (lv_at hl 0 rfl) ?_
    refine lv_iload_n hx hb dX11_between_1 rfl (lv_at hl 1 rfl) ?_
    have K_7 : ∀  (H : Heap) (locs : List Loc) (ls : Array Slot), GX [] tg σ I I ri rq → va_P D vwCl (pq_P t σ (I, J, ri, rj, rq)) H → va_D A (pq_P t σ (I, J, ri, rj, rq)) → va_S A s.heap H locs → lv_has ls 3 [] → W p l e ({ frames := 0, cells := 0, slots := 0, locals := 0 } : Room) s m (List.toArray ([.int a0, .int a1, .int a2] : List Value)) below meth c H locs 0 0 Q (F0 m 14 ls []) := by
      intro H locs ls hG hP hD hS hl
      refine lv_iconst (v := 0) hx hb dX11_between_14 (by decide) ?_
      subst hQ
      exact W.zret (v := 0) hx hb hr (by decide) (fun t1 ht hW => ⟨⟨0, (σ, I, J, ri, rj, rq), rfl, ⟨rfl, (Or.inr ⟨rfl, trivial⟩)⟩, by rw [ht]; exact hP, va_K.moved hW.alike hK, hD⟩, hS.F ht⟩) hS.2.2 dX11_between_15
    refine lv_icmp_lt (tgt := 14) hx hb dX11_between_2 (by decide) (fun c_8 => ?_) (fun c_8 => ?_)
    · have h_9 : rg a0 (-2147483648) 2147483646 := rg_lt1 c_8 (rg_full _) (rg_full _) (by decide)
      have h_10 : rg a1 (-2147483647) 2147483647 := rg_lt2 c_8 (rg_full _) (rg_full _) (by decide)
      exact K_7 _ _ _ hG hP hD hS (lv_sub hl [] rfl)
    · refine lv_iload_n hx hb dX11_between_5 rfl (lv_at hl 0 rfl) ?_
      refine lv_iload_n hx hb dX11_between_6 rfl (lv_at hl 2 rfl) ?_
      refine lv_icmp_gt (tgt := 14) hx hb dX11_between_7 (by decide) (fun c_11 => ?_) (fun c_11 => ?_)
      · have h_12 : rg a2 (-2147483648) 2147483646 := rg_lt1 c_11 (rg_full _) (rg_full _) (by decide)
        have h_13 : rg a0 (-2147483647) 2147483647 := rg_lt2 c_11 (rg_full _) (rg_full _) (by decide)
        exact K_7 _ _ _ hG hP hD hS (lv_sub hl [] rfl)
      · refine lv_iconst (v := 1) hx hb dX11_between_10 (by decide) ?_
        refine lv_goto (tgt := 15) hx hb dX11_between_11 (by decide) ?_
        subst hQ
        exact W.zret (v := 1) hx hb hr (by decide) (fun t1 ht hW => ⟨⟨1, (σ, I, J, ri, rj, rq), rfl, ⟨rfl, (Or.inl ⟨rfl, (nlt c_8), (nlt c_11)⟩)⟩, by rw [ht]; exact hP, va_K.moved hW.alike hK, hD⟩, hS.F ht⟩) hS.2.2 dX11_between_15
  exact go _ _ _ hP hD hS hl

set_option maxHeartbeats 4000000 in
set_option maxRecDepth 100000 in
theorem s_X11_isRing (l : Launch) (D : va_G) (t : pq_T) (σ : pq_S) (I : Nat → Nat → Int32) (J : Nat → Nat → Int64) (ri : Nat → Nat → Int32) (rj : Nat → Nat → Int64) (rq : Nat → Nat → Option Nat) (sz : Nat) (tg : Nat → Nat) (hSH : SH σ tg) (hG0 : GS tg σ I ri rq) (this : Nat) (a0 : Int32) (hL_this : this ∈ σ.1) (hK_this : σ.2.1 this = 11) : MetI l yX11_isRing (wa yX11_isRing cX11_isRing 2 (some .boolean)) ({ frames := 1, cells := 0, slots := 0, locals := 22 }) [.ref this, .int a0] D t σ (I, J, ri, rj, rq) sz 0 0 (fun (r : Int32) (u : pq_S × pq_M) => u = (σ, I, J, ri, rj, rq) ∧ ((r = 1 ∧ rg a0 0 4) ∨ (r = 0 ∧ True))) := by
  refine Met.ofW (cc := cX11_isRing) (maxL := 2) (ret := (some .boolean)) (by decide) rfl ?_
  intro p e s m args below meth c s₁ B hml hv
  obtain ⟨rfl, hsz, hP, hK, hD0, hN⟩ := hv
  have hx := B.exec
  have hb := B.bytes
  have hr := B.returns
  have hts := atoms_spec (ws := (wa yX11_isRing cX11_isRing 2 (some .boolean))) B.pre
  have hown : s.vm.findClass RX11 = some m.cls := findClass_of_methodNamed B.named
  have hlocks := B.notSynchronized
  subst hsz
  have hD : va_D (pq_B t σ (I, J, ri, rj, rq) s.heap.size) (pq_P t σ (I, J, ri, rj, rq)) := hD0.self
  generalize hAe : pq_B t σ (I, J, ri, rj, rq) s.heap.size = A at hD ⊢
  have hA : ∀ q : Nat, s.heap.size ≤ q → A q := fun q h => by rw [← hAe]; exact Or.inr h
  have hS : va_S A s.heap s.heap [] := va_S.rf
  have hG : GX [] tg σ I I ri rq := ⟨hG0, fun _ _ _ => rfl⟩
  have hl := lv_entry ([.ref this, .int a0]) (n := 2) (Nat.le_of_ble_eq_true rfl)
  rw [lg_entry_eq]
  generalize (lg_sl ([.ref this, .int a0]) ++ List.replicate (2 - (lg_sl ([.ref this, .int a0])).length) Slot.unset).toArray = ls at hl ⊢
  have hl : lv_has ls 2 [(0, .ref this), (1, .int a0)] := hl
  refine q_gen (fun Q hQ => ?_)
  have go : ∀ (H : Heap) (locs : List Loc) (ls : Array Slot), va_P D vwCl (pq_P t σ (I, J, ri, rj, rq)) H → va_D A (pq_P t σ (I, J, ri, rj, rq)) → va_S A s.heap H locs → lv_has ls 2 [(0, .ref this), (1, .int a0)] → W p l e ({ frames := 1, cells := 0, slots := 0, locals := 22 } : Room) s m (List.toArray ([.ref this, .int a0] : List Value)) below meth c H locs 0 0 Q (F0 m 0 ls []) := by
    intro H locs ls hP hD hS hl
    refine lv_iload_n hx hb dX11_isRing_0 rfl (lv_at hl 1 rfl) ?_
    refine lv_iconst (v := 0) hx hb dX11_isRing_1 (by decide) ?_
    refine lv_aload_n hx hb dX11_isRing_2 rfl (lv_at hl 0 rfl) ?_
    obtain ⟨w_1, hR_w_1, hL_w_1, hK_w_1⟩ := sh_o hSH 352 (ci := 11) (kd := 10) rfl hL_this hK_this
    refine pg_f (v := .ref w_1) (C := RX11) (T := TX11) (N := 5) hx hb hts (tw_i inlX11) hown hK hP hL_this hK_this (by decide) rfl 0 (by decide) (hts _ (tw_c tw_16)) (pq_hv rfl hR_w_1) dX11_isRing_3 ?_
    obtain ⟨w_2, hR_w_2, hL_w_2, hK_w_2⟩ := sh_o hSH 327 (ci := 10) (kd := 2) rfl hL_w_1 hK_w_1
    refine pg_f (v := .ref w_2) (C := RX10) (T := TX10) (N := 13) hx hb hts (tw_i inlX10) hown hK hP hL_w_1 hK_w_1 (by decide) rfl 7 (by decide) (hts _ (tw_c tw_199)) (pq_hv rfl hR_w_2) dX11_isRing_6 ?_
    refine pg_f (v := .int (I 64 w_2)) (C := RX2) (T := TX2) (N := 20) hx hb hts (tw_i inlX2) hown hK hP hL_w_2 hK_w_2 (by decide) rfl 0 (by decide) (hts _ (tw_c tw_200)) rfl dX11_isRing_9 ?_
    have h_3 : rg (I 64 w_2) 0 5 := GX.rI hG 64 rfl
    refine lv_iconst (v := 1) hx hb dX11_isRing_12 (by decide) ?_
    refine lv_isub hx hb dX11_isRing_13 ?_
    refine lv_topi (fun x_4 ex_4 => ?_)
    have h_5 : rg x_4 (-1) 4 := rg_of_eq ex_4 (rg_sub h_3 (rg_k (1 : Int32) 1 rfl) (by decide))
    refine pk_i (va_runS (As := [.int a0, .int 0, .int x_4]) (rest := []) ⟨hx, hb, hml, hown, hts⟩ (s_X11_between l D t σ I J ri rj rq H.size tg hSH hG.1 a0 (0 : Int32) x_4) (va_cwS 3 hts (tw_S tw_215 tw_216 tw_2 tw_217) rfl rfl rfl (by decide +kernel) ⟨Nat.le_of_ble_eq_true rfl, Nat.le_of_ble_eq_true rfl⟩) ⟨pq_blind, pq_pre hK hN hP hD⟩ rfl rfl hl.1 rfl (lv_room (Nat.le_of_ble_eq_true rfl)) dX11_isRing_14 ⟨Nat.le_of_ble_eq_true rfl, Nat.le_of_ble_eq_true rfl⟩) hD hS hA (fun x_6 σ1 μ1 H locs hw_7 hP hD hS => ?_)
    obtain ⟨hu_8, hr_10⟩ := hw_7
    obtain ⟨hu_8a, hu_8b⟩ := Prod.mk.inj hu_8
    rw [hu_8a, hu_8b] at hP hD
    have h_11 : rg x_6 0 1 := by rcases hr_10 with ⟨q, -⟩ | ⟨q, -⟩ <;> rw [q] <;> exact ⟨by decide, by decide⟩
    rcases hr_10 with ⟨e_15, f_12, f_13⟩ | ⟨e_15, f_14⟩
    · refine lv_tov 1 e_15 ?_
      have h_16 : rg a0 0 2147483647 := rg_le2 f_12 (rg_k (0 : Int32) 0 rfl) (rg_full _) (by decide)
      have h_17 : rg a0 0 4 := rg_le1 f_13 h_16 h_5 (by decide)
      have h_18 : rg x_4 0 4 := rg_le2 f_13 h_16 h_5 (by decide)
      subst hQ
      exact W.zret (v := 1) hx hb hr (by decide) (fun t1 ht hW => ⟨⟨1, (σ, I, J, ri, rj, rq), rfl, ⟨rfl, (Or.inl ⟨rfl, (rg_w h_17 (by decide))⟩)⟩, by rw [ht]; exact hP, va_K.moved hW.alike hK, hD⟩, hS.F ht⟩) hS.2.2 dX11_isRing_17
    · refine lv_tov 0 e_15 ?_
      subst hQ
      exact W.zret (v := 0) hx hb hr (by decide) (fun t1 ht hW => ⟨⟨0, (σ, I, J, ri, rj, rq), rfl, ⟨rfl, (Or.inr ⟨rfl, trivial⟩)⟩, by rw [ht]; exact hP, va_K.moved hW.alike hK, hD⟩, hS.F ht⟩) hS.2.2 dX11_isRing_17
  exact go _ _ _ hP hD hS hl

set_option maxHeartbeats 4000000 in
set_option maxRecDepth 100000 in
theorem s_X11_cell (l : Launch) (D : va_G) (t : pq_T) (σ : pq_S) (I : Nat → Nat → Int32) (J : Nat → Nat → Int64) (ri : Nat → Nat → Int32) (rj : Nat → Nat → Int64) (rq : Nat → Nat → Option Nat) (sz : Nat) (tg : Nat → Nat) (hSH : SH σ tg) (hG0 : GS tg σ I ri rq) (this : Nat) (a0 : Int32) (a1 : Int32) (a2 : Int32) (a3 : Int32) (a4 : Int32) (a5 : Int32) (hL_this : this ∈ σ.1) (hK_this : σ.2.1 this = 11) : MetI l yX11_cell (wa yX11_cell cX11_cell 8 (some .int)) ({ frames := 2, cells := 0, slots := 0, locals := 51 }) [.ref this, .int a0, .int a1, .int a2, .int a3, .int a4, .int a5] D t σ (I, J, ri, rj, rq) sz 0 0 (fun (r : Int32) (u : pq_S × pq_M) => ∃ I' : Nat → Nat → Int32, ∃ ri' : Nat → Nat → Int32, u = (σ, I', J, ri', rj, rq) ∧ GX [65] tg σ I I' ri' rq ∧ rg r (-1) 39) := by
  refine Met.ofW (cc := cX11_cell) (maxL := 8) (ret := (some .int)) (by decide) rfl ?_
  intro p e s m args below meth c s₁ B hml hv
  obtain ⟨rfl, hsz, hP, hK, hD0, hN⟩ := hv
  have hx := B.exec
  have hb := B.bytes
  have hr := B.returns
  have hts := atoms_spec (ws := (wa yX11_cell cX11_cell 8 (some .int))) B.pre
  have hown : s.vm.findClass RX11 = some m.cls := findClass_of_methodNamed B.named
  have hlocks := B.notSynchronized
  subst hsz
  have hD : va_D (pq_B t σ (I, J, ri, rj, rq) s.heap.size) (pq_P t σ (I, J, ri, rj, rq)) := hD0.self
  generalize hAe : pq_B t σ (I, J, ri, rj, rq) s.heap.size = A at hD ⊢
  have hA : ∀ q : Nat, s.heap.size ≤ q → A q := fun q h => by rw [← hAe]; exact Or.inr h
  have hS : va_S A s.heap s.heap [] := va_S.rf
  have hG : GX [65] tg σ I I ri rq := ⟨hG0, fun _ _ _ => rfl⟩
  have hl := lv_entry ([.ref this, .int a0, .int a1, .int a2, .int a3, .int a4, .int a5]) (n := 8) (Nat.le_of_ble_eq_true rfl)
  rw [lg_entry_eq]
  generalize (lg_sl ([.ref this, .int a0, .int a1, .int a2, .int a3, .int a4, .int a5]) ++ List.replicate (8 - (lg_sl ([.ref this, .int a0, .int a1, .int a2, .int a3, .int a4, .int a5])).length) Slot.unset).toArray = ls at hl ⊢
  have hl : lv_has ls 8 [(0, .ref this), (1, .int a0), (2, .int a1), (3, .int a2), (4, .int a3), (5, .int a4), (6, .int a5)] := hl
  refine q_gen (fun Q hQ => ?_)
  have go : ∀ (H : Heap) (locs : List Loc) (ls : Array Slot), va_P D vwCl (pq_P t σ (I, J, ri, rj, rq)) H → va_D A (pq_P t σ (I, J, ri, rj, rq)) → va_S A s.heap H locs → lv_has ls 8 [(0, .ref this), (1, .int a0), (2, .int a1), (3, .int a2), (4, .int a3), (5, .int a4), (6, .int a5)] → W p l e ({ frames := 2, cells := 0, slots := 0, locals := 51 } : Room) s m (List.toArray ([.ref this, .int a0, .int a1, .int a2, .int a3, .int a4, .int a5] : List Value)) below meth c H locs 0 0 Q (F0 m 0 ls []) := by
    intro H locs ls hP hD hS hl
    refine lv_aload_n hx hb dX11_cell_0 rfl (lv_at hl 0 rfl) ?_
    refine lv_iload_n hx hb dX11_cell_1 rfl (lv_at hl 1 rfl) ?_
    refine pk_i (va_runV (As := [.int a0]) (rest := []) ⟨hx, hb, hml, hown, hts⟩ (s_X11_isRing l D t σ I J ri rj rq H.size tg hSH hG.1 this a0 hL_this hK_this) (cwV 1 hts (tw_V tw_211 tw_212 tw_213 tw_2 tw_214) rfl rfl rfl (by decide +kernel) ⟨Nat.le_of_ble_eq_true rfl, Nat.le_of_ble_eq_true rfl⟩) ⟨pq_blind, pq_recv hK hP hL_this hK_this (by decide) rfl, pq_pre hK hN hP hD⟩ rfl rfl hl.1 rfl (lv_room (Nat.le_of_ble_eq_true rfl)) dX11_cell_2 ⟨Nat.le_of_ble_eq_true rfl, Nat.le_of_ble_eq_true rfl⟩) hD hS hA (fun x_1 σ1 μ1 H locs hw_2 hP hD hS => ?_)
    obtain ⟨hu_3, hr_5⟩ := hw_2
    obtain ⟨hu_3a, hu_3b⟩ := Prod.mk.inj hu_3
    rw [hu_3a, hu_3b] at hP hD
    have h_6 : rg x_1 0 1 := by rcases hr_5 with ⟨q, -⟩ | ⟨q, -⟩ <;> rw [q] <;> exact ⟨by decide, by decide⟩
    have K_108 : ∀  (H : Heap) (locs : List Loc) (ls : Array Slot), rg (a0) 0 4 → rg (a1) (-500) 3000 → rg (a2) 0 31 → rg (a3) 0 31 → rg (a4) 0 500 → rg (a5) 0 400 → rg (x_1) 1 1 → GX [65] tg σ I I ri rq → va_P D vwCl (pq_P t σ (I, J, ri, rj, rq)) H → va_D A (pq_P t σ (I, J, ri, rj, rq)) → va_S A s.heap H locs → lv_has ls 8 [(0, .ref this), (1, .int a0), (2, .int a1), (3, .int a2), (4, .int a3), (5, .int a4), (6, .int a5)] → W p l e ({ frames := 2, cells := 0, slots := 0, locals := 51 } : Room) s m (List.toArray ([.ref this, .int a0, .int a1, .int a2, .int a3, .int a4, .int a5] : List Value)) below meth c H locs 0 0 Q (F0 m 71 ls [.int 1]) := by
      intro H locs ls h_116 h_117 h_118 h_119 h_120 h_121 h_122 hG hP hD hS hl
      refine lv_istore (lv' := [(7, .int 1), (0, .ref this), (1, .int a0), (2, .int a1), (3, .int a2), (4, .int a3), (5, .int a4), (6, .int a5)]) hx hb dX11_cell_71 hl (by decide) rfl (fun ls hl => ?_)
      refine lv_iload hx hb dX11_cell_73 (lv_at hl 0 rfl) ?_
      have K_141 : ∀  (H : Heap) (locs : List Loc) (ls : Array Slot), GX [65] tg σ I I ri rq → va_P D vwCl (pq_P t σ (I, J, ri, rj, rq)) H → va_D A (pq_P t σ (I, J, ri, rj, rq)) → va_S A s.heap H locs → lv_has ls 8 [] → W p l e ({ frames := 2, cells := 0, slots := 0, locals := 51 } : Room) s m (List.toArray ([.ref this, .int a0, .int a1, .int a2, .int a3, .int a4, .int a5] : List Value)) below meth c H locs 0 0 Q (F0 m 103 ls []) := by
        intro H locs ls hG hP hD hS hl
        refine lv_iconst (v := (-1)) hx hb dX11_cell_103 (by decide) ?_
        subst hQ
        exact W.iret (v := (-1)) hx hb hr (fun t1 ht hW => ⟨⟨(-1), (σ, I, J, ri, rj, rq), rfl, ⟨I, ri, rfl, hG, (rg_w (rg_k (-1 : Int32) (-1) rfl) (by decide))⟩, by rw [ht]; exact hP, va_K.moved hW.alike hK, hD⟩, hS.F ht⟩) hS.2.2 dX11_cell_104
      refine lv_if_eq (tgt := 103) hx hb dX11_cell_75 (by decide) (fun c_142 => absurd c_142 (by decide)) (fun c_142 => ?_)
      refine lv_aload_n hx hb dX11_cell_78 rfl (lv_at hl 1 rfl) ?_
      obtain ⟨w_143, hR_w_143, hL_w_143, hK_w_143⟩ := sh_o hSH 352 (ci := 11) (kd := 10) rfl hL_this hK_this
      refine pg_f (v := .ref w_143) (C := RX11) (T := TX11) (N := 5) hx hb hts (tw_i inlX11) hown hK hP hL_this hK_this (by decide) rfl 0 (by decide) (hts _ (tw_c tw_16)) (pq_hv rfl hR_w_143) dX11_cell_79 ?_
      refine pg_f (v := .int (I 320 w_143)) (C := RX10) (T := TX10) (N := 13) hx hb hts (tw_i inlX10) hown hK hP hL_w_143 hK_w_143 (by decide) rfl 0 (by decide) (hts _ (tw_c tw_209)) rfl dX11_cell_82 ?_
      have h_144 : rg (I 320 w_143) 0 600 := GX.rI hG 320 rfl
      refine lv_if_gt (tgt := 103) hx hb dX11_cell_85 (by decide) (fun c_145 => ?_) (fun c_145 => ?_)
      · have h_146 : rg (I 320 w_143) 1 600 := rg_lt2 c_145 (rg_k (0 : Int32) 0 rfl) h_144 (by decide)
        exact K_141 _ _ _ hG hP hD hS (lv_sub hl [] rfl)
      · have h_147 : rg (I 320 w_143) 0 0 := rg_le1 (nlt c_145) h_144 (rg_k (0 : Int32) 0 rfl) (by decide)
        refine lv_aload_n hx hb dX11_cell_88 rfl (lv_at hl 1 rfl) ?_
        refine pg_f (v := .ref w_143) (C := RX11) (T := TX11) (N := 5) hx hb hts (tw_i inlX11) hown hK hP hL_this hK_this (by decide) rfl 0 (by decide) (hts _ (tw_c tw_16)) (pq_hv rfl hR_w_143) dX11_cell_89 ?_
        obtain ⟨w_148, hR_w_148, hL_w_148, hK_w_148⟩ := sh_o hSH 327 (ci := 10) (kd := 2) rfl hL_w_143 hK_w_143
        refine pg_f (v := .ref w_148) (C := RX10) (T := TX10) (N := 13) hx hb hts (tw_i inlX10) hown hK hP hL_w_143 hK_w_143 (by decide) rfl 7 (by decide) (hts _ (tw_c tw_199)) (pq_hv rfl hR_w_148) dX11_cell_92 ?_
        refine pg_f (v := .int (I 65 w_148)) (C := RX2) (T := TX2) (N := 20) hx hb hts (tw_i inlX2) hown hK hP hL_w_148 hK_w_148 (by decide) rfl 1 (by decide) (hts _ (tw_c tw_210)) rfl dX11_cell_95 ?_
        have h_149 : rg (I 65 w_148) 0 40 := GX.rI hG 65 rfl
        refine lv_bipush (v := 40) hx hb dX11_cell_98 (by decide) ?_
        refine lv_icmp_lt (tgt := 105) hx hb dX11_cell_100 (by decide) (fun c_150 => ?_) (fun c_150 => ?_)
        · have h_151 : rg (I 65 w_148) 0 39 := rg_lt1 c_150 h_149 (rg_k (40 : Int32) 40 rfl) (by decide)
          refine lv_aload_n hx hb dX11_cell_105 rfl (lv_at hl 1 rfl) ?_
          refine pg_f (v := .ref w_143) (C := RX11) (T := TX11) (N := 5) hx hb hts (tw_i inlX11) hown hK hP hL_this hK_this (by decide) rfl 0 (by decide) (hts _ (tw_c tw_16)) (pq_hv rfl hR_w_143) dX11_cell_106 ?_
          refine pg_f (v := .ref w_148) (C := RX10) (T := TX10) (N := 13) hx hb hts (tw_i inlX10) hown hK hP hL_w_143 hK_w_143 (by decide) rfl 7 (by decide) (hts _ (tw_c tw_199)) (pq_hv rfl hR_w_148) dX11_cell_109 ?_
          refine lv_iload_n hx hb dX11_cell_112 rfl (lv_at hl 2 rfl) ?_
          refine lv_iload_n hx hb dX11_cell_113 rfl (lv_at hl 3 rfl) ?_
          refine lv_iload_n hx hb dX11_cell_114 rfl (lv_at hl 4 rfl) ?_
          refine lv_iload hx hb dX11_cell_115 (lv_at hl 5 rfl) ?_
          refine lv_iload hx hb dX11_cell_117 (lv_at hl 6 rfl) ?_
          refine lv_iload hx hb dX11_cell_119 (lv_at hl 7 rfl) ?_
          refine pk_i (va_runV (As := [.int a0, .int a1, .int a2, .int a3, .int a4, .int a5]) (rest := []) ⟨hx, hb, hml, hown, hts⟩ (s_X2_addCell l D t σ I J ri rj rq H.size tg hSH hG.1 w_148 a0 a1 a2 a3 a4 a5 hL_w_148 hK_w_148 (rg_w h_116 (by decide)) (rg_w h_118 (by decide)) (rg_w h_119 (by decide))) (cwV 6 hts (tw_V tw_218 tw_219 tw_220 tw_41 tw_221) rfl rfl rfl (by decide +kernel) ⟨Nat.le_of_ble_eq_true rfl, Nat.le_of_ble_eq_true rfl⟩) ⟨pq_blind, pq_recv hK hP hL_w_148 hK_w_148 (by decide) rfl, pq_pre hK hN hP hD⟩ rfl rfl hl.1 rfl (lv_room (Nat.le_of_ble_eq_true rfl)) dX11_cell_121 ⟨Nat.le_of_ble_eq_true rfl, Nat.le_of_ble_eq_true rfl⟩) hD hS hA (fun x_152 σ1 μ1 H locs hw_153 hP hD hS => ?_)
          obtain ⟨I_154, ri_155, hu_156, hg_157, hr_158⟩ := hw_153
          obtain ⟨hu_156a, hu_156b⟩ := Prod.mk.inj hu_156
          rw [hu_156a, hu_156b] at hP hD
          have hG := GX.tr hG hg_157 (by decide)
          subst hQ
          exact W.iret (v := x_152) hx hb hr (fun t1 ht hW => ⟨⟨x_152, (σ, I_154, J, ri_155, rj, rq), rfl, ⟨I_154, ri_155, rfl, hG, (rg_w hr_158 (by decide))⟩, by rw [ht]; exact hP, va_K.moved hW.alike hK, hD⟩, hS.F ht⟩) hS.2.2 dX11_cell_124
        · have h_159 : rg (I 65 w_148) 40 40 := rg_le2 (nlt c_150) (rg_k (40 : Int32) 40 rfl) h_149 (by decide)
          exact K_141 _ _ _ hG hP hD hS (lv_sub hl [] rfl)
    have K_160 : ∀  (H : Heap) (locs : List Loc) (ls : Array Slot), GX [65] tg σ I I ri rq → va_P D vwCl (pq_P t σ (I, J, ri, rj, rq)) H → va_D A (pq_P t σ (I, J, ri, rj, rq)) → va_S A s.heap H locs → lv_has ls 8 [(0, .ref this), (1, .int a0), (2, .int a1), (3, .int a2), (4, .int a3), (5, .int a4), (6, .int a5)] → W p l e ({ frames := 2, cells := 0, slots := 0, locals := 51 } : Room) s m (List.toArray ([.ref this, .int a0, .int a1, .int a2, .int a3, .int a4, .int a5] : List Value)) below meth c H locs 0 0 Q (F0 m 71 ls [.int 0]) := by
      intro H locs ls hG hP hD hS hl
      refine lv_istore (lv' := [(7, .int 0), (0, .ref this), (1, .int a0), (2, .int a1), (3, .int a2), (4, .int a3), (5, .int a4), (6, .int a5)]) hx hb dX11_cell_71 hl (by decide) rfl (fun ls hl => ?_)
      refine lv_iload hx hb dX11_cell_73 (lv_at hl 0 rfl) ?_
      have K_162 : ∀  (H : Heap) (locs : List Loc) (ls : Array Slot), GX [65] tg σ I I ri rq → va_P D vwCl (pq_P t σ (I, J, ri, rj, rq)) H → va_D A (pq_P t σ (I, J, ri, rj, rq)) → va_S A s.heap H locs → lv_has ls 8 [] → W p l e ({ frames := 2, cells := 0, slots := 0, locals := 51 } : Room) s m (List.toArray ([.ref this, .int a0, .int a1, .int a2, .int a3, .int a4, .int a5] : List Value)) below meth c H locs 0 0 Q (F0 m 103 ls []) := by
        intro H locs ls hG hP hD hS hl
        refine lv_iconst (v := (-1)) hx hb dX11_cell_103 (by decide) ?_
        subst hQ
        exact W.iret (v := (-1)) hx hb hr (fun t1 ht hW => ⟨⟨(-1), (σ, I, J, ri, rj, rq), rfl, ⟨I, ri, rfl, hG, (rg_w (rg_k (-1 : Int32) (-1) rfl) (by decide))⟩, by rw [ht]; exact hP, va_K.moved hW.alike hK, hD⟩, hS.F ht⟩) hS.2.2 dX11_cell_104
      refine lv_if_eq (tgt := 103) hx hb dX11_cell_75 (by decide) (fun c_163 => ?_) (fun c_163 => absurd c_163 (by decide))
      exact K_162 _ _ _ hG hP hD hS (lv_sub hl [] rfl)
    have K_164 : ∀  (H : Heap) (locs : List Loc) (ls : Array Slot), GX [65] tg σ I I ri rq → va_P D vwCl (pq_P t σ (I, J, ri, rj, rq)) H → va_D A (pq_P t σ (I, J, ri, rj, rq)) → va_S A s.heap H locs → lv_has ls 8 [(0, .ref this), (1, .int a0), (2, .int a1), (3, .int a2), (4, .int a3), (5, .int a4), (6, .int a5)] → W p l e ({ frames := 2, cells := 0, slots := 0, locals := 51 } : Room) s m (List.toArray ([.ref this, .int a0, .int a1, .int a2, .int a3, .int a4, .int a5] : List Value)) below meth c H locs 0 0 Q (F0 m 70 ls []) := by
      intro H locs ls hG hP hD hS hl
      refine lv_iconst (v := 0) hx hb dX11_cell_70 (by decide) ?_
      exact K_160 _ _ _ hG hP hD hS (lv_sub hl [0, 1, 2, 3, 4, 5, 6] rfl)
    refine lv_if_eq (tgt := 70) hx hb dX11_cell_5 (by decide) (fun c_165 => ?_) (fun c_165 => ?_)
    · have f_166 := (hr_5.resolve_left (fun q => absurd (q.1.symm.trans c_165) (by decide))).2
      have h_167 : rg x_1 0 0 := rg_and h_6 (rg_of_eq c_165 (rg_k (0 : Int32) 0 rfl)) (by decide)
      exact K_164 _ _ _ hG hP hD hS (lv_sub hl [0, 1, 2, 3, 4, 5, 6] rfl)
    · have f_168 := (hr_5.resolve_right (fun q => c_165 q.1)).2
      have h_169 : rg x_1 1 1 := rg_ne c_165 h_6 0 rfl (by decide)
      refine lv_iload_n hx hb dX11_cell_8 rfl (lv_at hl 2 rfl) ?_
      refine lv_sipush (v := (-500)) hx hb dX11_cell_9 (by decide) ?_
      refine lv_sipush (v := 3000) hx hb dX11_cell_12 (by decide) ?_
      refine pk_i (va_runS (As := [.int a1, .int (-500), .int 3000]) (rest := []) ⟨hx, hb, hml, hown, hts⟩ (s_X11_between l D t σ I J ri rj rq H.size tg hSH hG.1 a1 (-500 : Int32) (3000 : Int32)) (va_cwS 3 hts (tw_S tw_215 tw_216 tw_2 tw_217) rfl rfl rfl (by decide +kernel) ⟨Nat.le_of_ble_eq_true rfl, Nat.le_of_ble_eq_true rfl⟩) ⟨pq_blind, pq_pre hK hN hP hD⟩ rfl rfl hl.1 rfl (lv_room (Nat.le_of_ble_eq_true rfl)) dX11_cell_15 ⟨Nat.le_of_ble_eq_true rfl, Nat.le_of_ble_eq_true rfl⟩) hD hS hA (fun x_170 σ1 μ1 H locs hw_171 hP hD hS => ?_)
      obtain ⟨hu_172, hr_174⟩ := hw_171
      obtain ⟨hu_172a, hu_172b⟩ := Prod.mk.inj hu_172
      rw [hu_172a, hu_172b] at hP hD
      have h_175 : rg x_170 0 1 := by rcases hr_174 with ⟨q, -⟩ | ⟨q, -⟩ <;> rw [q] <;> exact ⟨by decide, by decide⟩
      refine lv_if_eq (tgt := 70) hx hb dX11_cell_18 (by decide) (fun c_176 => ?_) (fun c_176 => ?_)
      · have f_177 := (hr_174.resolve_left (fun q => absurd (q.1.symm.trans c_176) (by decide))).2
        have h_178 : rg x_170 0 0 := rg_and h_175 (rg_of_eq c_176 (rg_k (0 : Int32) 0 rfl)) (by decide)
        exact K_164 _ _ _ hG hP hD hS (lv_sub hl [0, 1, 2, 3, 4, 5, 6] rfl)
      · obtain ⟨f_179, f_180⟩ := (hr_174.resolve_right (fun q => c_176 q.1)).2
        have h_181 : rg a1 (-500) 2147483647 := rg_le2 f_179 (rg_k (-500 : Int32) (-500) rfl) (rg_full _) (by decide)
        have h_182 : rg a1 (-500) 3000 := rg_le1 f_180 h_181 (rg_k (3000 : Int32) 3000 rfl) (by decide)
        have h_183 : rg x_170 1 1 := rg_ne c_176 h_175 0 rfl (by decide)
        refine lv_iload_n hx hb dX11_cell_21 rfl (lv_at hl 3 rfl) ?_
        refine lv_iconst (v := 0) hx hb dX11_cell_22 (by decide) ?_
        refine lv_bipush (v := 31) hx hb dX11_cell_23 (by decide) ?_
        refine pk_i (va_runS (As := [.int a2, .int 0, .int 31]) (rest := []) ⟨hx, hb, hml, hown, hts⟩ (s_X11_between l D t σ I J ri rj rq H.size tg hSH hG.1 a2 (0 : Int32) (31 : Int32)) (va_cwS 3 hts (tw_S tw_215 tw_216 tw_2 tw_217) rfl rfl rfl (by decide +kernel) ⟨Nat.le_of_ble_eq_true rfl, Nat.le_of_ble_eq_true rfl⟩) ⟨pq_blind, pq_pre hK hN hP hD⟩ rfl rfl hl.1 rfl (lv_room (Nat.le_of_ble_eq_true rfl)) dX11_cell_25 ⟨Nat.le_of_ble_eq_true rfl, Nat.le_of_ble_eq_true rfl⟩) hD hS hA (fun x_184 σ1 μ1 H locs hw_185 hP hD hS => ?_)
        obtain ⟨hu_186, hr_188⟩ := hw_185
        obtain ⟨hu_186a, hu_186b⟩ := Prod.mk.inj hu_186
        rw [hu_186a, hu_186b] at hP hD
        have h_189 : rg x_184 0 1 := by rcases hr_188 with ⟨q, -⟩ | ⟨q, -⟩ <;> rw [q] <;> exact ⟨by decide, by decide⟩
        refine lv_if_eq (tgt := 70) hx hb dX11_cell_28 (by decide) (fun c_190 => ?_) (fun c_190 => ?_)
        · have f_191 := (hr_188.resolve_left (fun q => absurd (q.1.symm.trans c_190) (by decide))).2
          have h_192 : rg x_184 0 0 := rg_and h_189 (rg_of_eq c_190 (rg_k (0 : Int32) 0 rfl)) (by decide)
          exact K_164 _ _ _ hG hP hD hS (lv_sub hl [0, 1, 2, 3, 4, 5, 6] rfl)
        · obtain ⟨f_193, f_194⟩ := (hr_188.resolve_right (fun q => c_190 q.1)).2
          have h_195 : rg a2 0 2147483647 := rg_le2 f_193 (rg_k (0 : Int32) 0 rfl) (rg_full _) (by decide)
          have h_196 : rg a2 0 31 := rg_le1 f_194 h_195 (rg_k (31 : Int32) 31 rfl) (by decide)
          have h_197 : rg x_184 1 1 := rg_ne c_190 h_189 0 rfl (by decide)
          refine lv_iload hx hb dX11_cell_31 (lv_at hl 4 rfl) ?_
          refine lv_iconst (v := 0) hx hb dX11_cell_33 (by decide) ?_
          refine lv_bipush (v := 31) hx hb dX11_cell_34 (by decide) ?_
          refine pk_i (va_runS (As := [.int a3, .int 0, .int 31]) (rest := []) ⟨hx, hb, hml, hown, hts⟩ (s_X11_between l D t σ I J ri rj rq H.size tg hSH hG.1 a3 (0 : Int32) (31 : Int32)) (va_cwS 3 hts (tw_S tw_215 tw_216 tw_2 tw_217) rfl rfl rfl (by decide +kernel) ⟨Nat.le_of_ble_eq_true rfl, Nat.le_of_ble_eq_true rfl⟩) ⟨pq_blind, pq_pre hK hN hP hD⟩ rfl rfl hl.1 rfl (lv_room (Nat.le_of_ble_eq_true rfl)) dX11_cell_36 ⟨Nat.le_of_ble_eq_true rfl, Nat.le_of_ble_eq_true rfl⟩) hD hS hA (fun x_198 σ1 μ1 H locs hw_199 hP hD hS => ?_)
          obtain ⟨hu_200, hr_202⟩ := hw_199
          obtain ⟨hu_200a, hu_200b⟩ := Prod.mk.inj hu_200
          rw [hu_200a, hu_200b] at hP hD
          have h_203 : rg x_198 0 1 := by rcases hr_202 with ⟨q, -⟩ | ⟨q, -⟩ <;> rw [q] <;> exact ⟨by decide, by decide⟩
          refine lv_if_eq (tgt := 70) hx hb dX11_cell_39 (by decide) (fun c_204 => ?_) (fun c_204 => ?_)
          · have f_205 := (hr_202.resolve_left (fun q => absurd (q.1.symm.trans c_204) (by decide))).2
            have h_206 : rg x_198 0 0 := rg_and h_203 (rg_of_eq c_204 (rg_k (0 : Int32) 0 rfl)) (by decide)
            exact K_164 _ _ _ hG hP hD hS (lv_sub hl [0, 1, 2, 3, 4, 5, 6] rfl)
          · obtain ⟨f_207, f_208⟩ := (hr_202.resolve_right (fun q => c_204 q.1)).2
            have h_209 : rg a3 0 2147483647 := rg_le2 f_207 (rg_k (0 : Int32) 0 rfl) (rg_full _) (by decide)
            have h_210 : rg a3 0 31 := rg_le1 f_208 h_209 (rg_k (31 : Int32) 31 rfl) (by decide)
            have h_211 : rg x_198 1 1 := rg_ne c_204 h_203 0 rfl (by decide)
            refine lv_iload hx hb dX11_cell_42 (lv_at hl 5 rfl) ?_
            refine lv_iconst (v := 0) hx hb dX11_cell_44 (by decide) ?_
            refine lv_sipush (v := 500) hx hb dX11_cell_45 (by decide) ?_
            refine pk_i (va_runS (As := [.int a4, .int 0, .int 500]) (rest := []) ⟨hx, hb, hml, hown, hts⟩ (s_X11_between l D t σ I J ri rj rq H.size tg hSH hG.1 a4 (0 : Int32) (500 : Int32)) (va_cwS 3 hts (tw_S tw_215 tw_216 tw_2 tw_217) rfl rfl rfl (by decide +kernel) ⟨Nat.le_of_ble_eq_true rfl, Nat.le_of_ble_eq_true rfl⟩) ⟨pq_blind, pq_pre hK hN hP hD⟩ rfl rfl hl.1 rfl (lv_room (Nat.le_of_ble_eq_true rfl)) dX11_cell_48 ⟨Nat.le_of_ble_eq_true rfl, Nat.le_of_ble_eq_true rfl⟩) hD hS hA (fun x_212 σ1 μ1 H locs hw_213 hP hD hS => ?_)
            obtain ⟨hu_214, hr_216⟩ := hw_213
            obtain ⟨hu_214a, hu_214b⟩ := Prod.mk.inj hu_214
            rw [hu_214a, hu_214b] at hP hD
            have h_217 : rg x_212 0 1 := by rcases hr_216 with ⟨q, -⟩ | ⟨q, -⟩ <;> rw [q] <;> exact ⟨by decide, by decide⟩
            refine lv_if_eq (tgt := 70) hx hb dX11_cell_51 (by decide) (fun c_218 => ?_) (fun c_218 => ?_)
            · have f_219 := (hr_216.resolve_left (fun q => absurd (q.1.symm.trans c_218) (by decide))).2
              have h_220 : rg x_212 0 0 := rg_and h_217 (rg_of_eq c_218 (rg_k (0 : Int32) 0 rfl)) (by decide)
              exact K_164 _ _ _ hG hP hD hS (lv_sub hl [0, 1, 2, 3, 4, 5, 6] rfl)
            · obtain ⟨f_221, f_222⟩ := (hr_216.resolve_right (fun q => c_218 q.1)).2
              have h_223 : rg a4 0 2147483647 := rg_le2 f_221 (rg_k (0 : Int32) 0 rfl) (rg_full _) (by decide)
              have h_224 : rg a4 0 500 := rg_le1 f_222 h_223 (rg_k (500 : Int32) 500 rfl) (by decide)
              have h_225 : rg x_212 1 1 := rg_ne c_218 h_217 0 rfl (by decide)
              refine lv_iload hx hb dX11_cell_54 (lv_at hl 6 rfl) ?_
              refine lv_iconst (v := 0) hx hb dX11_cell_56 (by decide) ?_
              refine lv_sipush (v := 400) hx hb dX11_cell_57 (by decide) ?_
              refine pk_i (va_runS (As := [.int a5, .int 0, .int 400]) (rest := []) ⟨hx, hb, hml, hown, hts⟩ (s_X11_between l D t σ I J ri rj rq H.size tg hSH hG.1 a5 (0 : Int32) (400 : Int32)) (va_cwS 3 hts (tw_S tw_215 tw_216 tw_2 tw_217) rfl rfl rfl (by decide +kernel) ⟨Nat.le_of_ble_eq_true rfl, Nat.le_of_ble_eq_true rfl⟩) ⟨pq_blind, pq_pre hK hN hP hD⟩ rfl rfl hl.1 rfl (lv_room (Nat.le_of_ble_eq_true rfl)) dX11_cell_60 ⟨Nat.le_of_ble_eq_true rfl, Nat.le_of_ble_eq_true rfl⟩) hD hS hA (fun x_226 σ1 μ1 H locs hw_227 hP hD hS => ?_)
              obtain ⟨hu_228, hr_230⟩ := hw_227
              obtain ⟨hu_228a, hu_228b⟩ := Prod.mk.inj hu_228
              rw [hu_228a, hu_228b] at hP hD
              have h_231 : rg x_226 0 1 := by rcases hr_230 with ⟨q, -⟩ | ⟨q, -⟩ <;> rw [q] <;> exact ⟨by decide, by decide⟩
              refine lv_if_eq (tgt := 70) hx hb dX11_cell_63 (by decide) (fun c_232 => ?_) (fun c_232 => ?_)
              · have f_233 := (hr_230.resolve_left (fun q => absurd (q.1.symm.trans c_232) (by decide))).2
                have h_234 : rg x_226 0 0 := rg_and h_231 (rg_of_eq c_232 (rg_k (0 : Int32) 0 rfl)) (by decide)
                exact K_164 _ _ _ hG hP hD hS (lv_sub hl [0, 1, 2, 3, 4, 5, 6] rfl)
              · obtain ⟨f_235, f_236⟩ := (hr_230.resolve_right (fun q => c_232 q.1)).2
                have h_237 : rg a5 0 2147483647 := rg_le2 f_235 (rg_k (0 : Int32) 0 rfl) (rg_full _) (by decide)
                have h_238 : rg a5 0 400 := rg_le1 f_236 h_237 (rg_k (400 : Int32) 400 rfl) (by decide)
                have h_239 : rg x_226 1 1 := rg_ne c_232 h_231 0 rfl (by decide)
                refine lv_iconst (v := 1) hx hb dX11_cell_66 (by decide) ?_
                refine lv_goto (tgt := 71) hx hb dX11_cell_67 (by decide) ?_
                exact K_108 _ _ _ (rg_w f_168 (by decide)) (rg_w h_182 (by decide)) (rg_w h_196 (by decide)) (rg_w h_210 (by decide)) (rg_w h_224 (by decide)) (rg_w h_238 (by decide)) (rg_w h_169 (by decide)) hG hP hD hS (lv_sub hl [0, 1, 2, 3, 4, 5, 6] rfl)
  exact go _ _ _ hP hD hS hl
