theorem dX7_known_0 : decode cX7_known 0 = .ok (.sipush (-6000), 3) := by decide +kernel
theorem dX7_known_3 : decode cX7_known 3 = .ok (.istore 4, 2) := by decide +kernel
theorem dX7_known_5 : decode cX7_known 5 = .ok (.sipush (-6000), 3) := by decide +kernel
theorem dX7_known_8 : decode cX7_known 8 = .ok (.istore 5, 2) := by decide +kernel
theorem dX7_known_10 : decode cX7_known 10 = .ok (.sipush (-6000), 3) := by decide +kernel
theorem dX7_known_13 : decode cX7_known 13 = .ok (.istore 6, 2) := by decide +kernel
theorem dX7_known_15 : decode cX7_known 15 = .ok (.sipush (-6000), 3) := by decide +kernel
theorem dX7_known_18 : decode cX7_known 18 = .ok (.istore 7, 2) := by decide +kernel
theorem dX7_known_20 : decode cX7_known 20 = .ok (.iconst 0, 1) := by decide +kernel
theorem dX7_known_21 : decode cX7_known 21 = .ok (.istore 8, 2) := by decide +kernel
theorem dX7_known_23 : decode cX7_known 23 = .ok (.iload 8, 2) := by decide +kernel
theorem dX7_known_25 : decode cX7_known 25 = .ok (.aload_n 0, 1) := by decide +kernel
theorem tw_254 : Cond.fieldLink RX7 59 "RingsUnder$Seas" "levels" "I" ∈ wsL_law := List.mem_of_getElem? (i := 254) (by decide +kernel)
theorem dX7_known_26 : decode cX7_known 26 = .ok (.getfield 59, 3) := by decide +kernel
theorem dX7_known_29 : decode cX7_known 29 = .ok (.if_icmp .ge 115, 3) := by decide +kernel
theorem dX7_known_144 : decode cX7_known 144 = .ok (.iload 4, 2) := by decide +kernel
theorem dX7_known_146 : decode cX7_known 146 = .ok (.invokestatic 72, 3) := by decide +kernel
theorem dX7_known_149 : decode cX7_known 149 = .ok (.ifCond .eq 6, 3) := by decide +kernel
theorem dX7_known_155 : decode cX7_known 155 = .ok (.iload 4, 2) := by decide +kernel
theorem dX7_known_157 : decode cX7_known 157 = .ok (.sipush (-5000), 3) := by decide +kernel
theorem dX7_known_187 : decode cX7_known 187 = .ok (.iload 7, 2) := by decide +kernel
theorem dX7_known_189 : decode cX7_known 189 = .ok (.invokestatic 72, 3) := by decide +kernel
theorem dX7_known_192 : decode cX7_known 192 = .ok (.ifCond .eq 8, 3) := by decide +kernel
theorem dX7_known_200 : decode cX7_known 200 = .ok (.iconst 0, 1) := by decide +kernel
theorem dX7_known_201 : decode cX7_known 201 = .ok (.ireturn, 1) := by decide +kernel
theorem dX7_known_195 : decode cX7_known 195 = .ok (.iload 7, 2) := by decide +kernel
theorem dX7_known_197 : decode cX7_known 197 = .ok (.goto 4, 3) := by decide +kernel
theorem dX7_known_160 : decode cX7_known 160 = .ok (.if_icmp .ne 27, 3) := by decide +kernel
theorem dX7_known_163 : decode cX7_known 163 = .ok (.iload 5, 2) := by decide +kernel
theorem dX7_known_165 : decode cX7_known 165 = .ok (.invokestatic 72, 3) := by decide +kernel
theorem dX7_known_179 : decode cX7_known 179 = .ok (.iload 5, 2) := by decide +kernel
theorem dX7_known_181 : decode cX7_known 181 = .ok (.iload 6, 2) := by decide +kernel
theorem tw_281 : Cond.methodLink RX7 76 yX7_meanOfNumbers ∈ wsL_law := List.mem_of_getElem? (i := 281) (by decide +kernel)
theorem tw_282 : Cond.static yX7_meanOfNumbers ∈ wsL_law := List.mem_of_getElem? (i := 282) (by decide +kernel)
theorem tw_283 : Cond.code yX7_meanOfNumbers cX7_meanOfNumbers 2 (some .int) ∈ wsL_law := List.mem_of_getElem? (i := 283) (by decide +kernel)
theorem dX7_known_183 : decode cX7_known 183 = .ok (.invokestatic 76, 3) := by decide +kernel
theorem dX7_known_186 : decode cX7_known 186 = .ok (.ireturn, 1) := by decide +kernel
theorem dX7_known_168 : decode cX7_known 168 = .ok (.ifCond .ne 11, 3) := by decide +kernel
theorem dX7_known_171 : decode cX7_known 171 = .ok (.iload 6, 2) := by decide +kernel
theorem dX7_known_173 : decode cX7_known 173 = .ok (.invokestatic 72, 3) := by decide +kernel
theorem dX7_known_176 : decode cX7_known 176 = .ok (.ifCond .eq 11, 3) := by decide +kernel
theorem dX7_known_152 : decode cX7_known 152 = .ok (.iload 4, 2) := by decide +kernel
theorem dX7_known_154 : decode cX7_known 154 = .ok (.ireturn, 1) := by decide +kernel
theorem dX7_known_32 : decode cX7_known 32 = .ok (.aload_n 0, 1) := by decide +kernel
theorem tw_61 : Cond.fieldLink RX7 9 "RingsUnder$Seas" "rise" "[I" ∈ wsL_law := List.mem_of_getElem? (i := 61) (by decide +kernel)
theorem dX7_known_33 : decode cX7_known 33 = .ok (.getfield 9, 3) := by decide +kernel
theorem dX7_known_36 : decode cX7_known 36 = .ok (.iload 8, 2) := by decide +kernel
theorem dX7_known_38 : decode cX7_known 38 = .ok (.iaload, 1) := by decide +kernel
theorem dX7_known_39 : decode cX7_known 39 = .ok (.iload_n 1, 1) := by decide +kernel
theorem dX7_known_138 : decode cX7_known 138 = .ok (.iinc 8 1, 3) := by decide +kernel
theorem dX7_known_141 : decode cX7_known 141 = .ok (.goto (-118), 3) := by decide +kernel
theorem dX7_known_40 : decode cX7_known 40 = .ok (.if_icmp .ne 98, 3) := by decide +kernel
theorem dX7_known_43 : decode cX7_known 43 = .ok (.aload_n 0, 1) := by decide +kernel
theorem tw_64 : Cond.fieldLink RX7 21 "RingsUnder$Seas" "told" "[I" ∈ wsL_law := List.mem_of_getElem? (i := 64) (by decide +kernel)
theorem dX7_known_44 : decode cX7_known 44 = .ok (.getfield 21, 3) := by decide +kernel
theorem dX7_known_47 : decode cX7_known 47 = .ok (.iload 8, 2) := by decide +kernel
theorem dX7_known_49 : decode cX7_known 49 = .ok (.iaload, 1) := by decide +kernel
theorem dX7_known_50 : decode cX7_known 50 = .ok (.iload_n 3, 1) := by decide +kernel
theorem dX7_known_51 : decode cX7_known 51 = .ok (.if_icmp .gt 87, 3) := by decide +kernel
theorem dX7_known_54 : decode cX7_known 54 = .ok (.iload 7, 2) := by decide +kernel
theorem dX7_known_56 : decode cX7_known 56 = .ok (.aload_n 0, 1) := by decide +kernel
theorem tw_63 : Cond.fieldLink RX7 18 "RingsUnder$Seas" "value" "[I" ∈ wsL_law := List.mem_of_getElem? (i := 63) (by decide +kernel)
theorem dX7_known_57 : decode cX7_known 57 = .ok (.getfield 18, 3) := by decide +kernel
theorem dX7_known_60 : decode cX7_known 60 = .ok (.iload 8, 2) := by decide +kernel
theorem dX7_known_62 : decode cX7_known 62 = .ok (.iaload, 1) := by decide +kernel
theorem tw_274 : Cond.methodLink RX7 66 Lib.Math.max.name ∈ wsL_law := List.mem_of_getElem? (i := 274) (by decide +kernel)
theorem dX7_known_63 : decode cX7_known 63 = .ok (.invokestatic 66, 3) := by decide +kernel
theorem dX7_known_66 : decode cX7_known 66 = .ok (.istore 7, 2) := by decide +kernel
theorem dX7_known_68 : decode cX7_known 68 = .ok (.aload_n 0, 1) := by decide +kernel
theorem tw_62 : Cond.fieldLink RX7 15 "RingsUnder$Seas" "month" "[I" ∈ wsL_law := List.mem_of_getElem? (i := 62) (by decide +kernel)
theorem dX7_known_69 : decode cX7_known 69 = .ok (.getfield 15, 3) := by decide +kernel
theorem dX7_known_72 : decode cX7_known 72 = .ok (.iload 8, 2) := by decide +kernel
theorem dX7_known_74 : decode cX7_known 74 = .ok (.iaload, 1) := by decide +kernel
theorem dX7_known_75 : decode cX7_known 75 = .ok (.iload_n 2, 1) := by decide +kernel
theorem dX7_known_76 : decode cX7_known 76 = .ok (.if_icmp .ne 15, 3) := by decide +kernel
theorem dX7_known_91 : decode cX7_known 91 = .ok (.aload_n 0, 1) := by decide +kernel
theorem dX7_known_92 : decode cX7_known 92 = .ok (.getfield 15, 3) := by decide +kernel
theorem dX7_known_95 : decode cX7_known 95 = .ok (.iload 8, 2) := by decide +kernel
theorem dX7_known_97 : decode cX7_known 97 = .ok (.iaload, 1) := by decide +kernel
theorem dX7_known_98 : decode cX7_known 98 = .ok (.iload_n 2, 1) := by decide +kernel
theorem dX7_known_99 : decode cX7_known 99 = .ok (.iconst 1, 1) := by decide +kernel
theorem dX7_known_100 : decode cX7_known 100 = .ok (.isub, 1) := by decide +kernel
theorem dX7_known_101 : decode cX7_known 101 = .ok (.if_icmp .ne 15, 3) := by decide +kernel
theorem dX7_known_116 : decode cX7_known 116 = .ok (.aload_n 0, 1) := by decide +kernel
theorem dX7_known_117 : decode cX7_known 117 = .ok (.getfield 15, 3) := by decide +kernel
theorem dX7_known_120 : decode cX7_known 120 = .ok (.iload 8, 2) := by decide +kernel
theorem dX7_known_122 : decode cX7_known 122 = .ok (.iaload, 1) := by decide +kernel
theorem dX7_known_123 : decode cX7_known 123 = .ok (.iload_n 2, 1) := by decide +kernel
theorem dX7_known_124 : decode cX7_known 124 = .ok (.iconst 1, 1) := by decide +kernel
theorem dX7_known_125 : decode cX7_known 125 = .ok (.iadd, 1) := by decide +kernel
theorem dX7_known_126 : decode cX7_known 126 = .ok (.if_icmp .ne 12, 3) := by decide +kernel
theorem dX7_known_129 : decode cX7_known 129 = .ok (.aload_n 0, 1) := by decide +kernel
theorem dX7_known_130 : decode cX7_known 130 = .ok (.getfield 18, 3) := by decide +kernel
theorem dX7_known_133 : decode cX7_known 133 = .ok (.iload 8, 2) := by decide +kernel
theorem dX7_known_135 : decode cX7_known 135 = .ok (.iaload, 1) := by decide +kernel
theorem dX7_known_136 : decode cX7_known 136 = .ok (.istore 6, 2) := by decide +kernel
theorem dX7_known_104 : decode cX7_known 104 = .ok (.aload_n 0, 1) := by decide +kernel
theorem dX7_known_105 : decode cX7_known 105 = .ok (.getfield 18, 3) := by decide +kernel
theorem dX7_known_108 : decode cX7_known 108 = .ok (.iload 8, 2) := by decide +kernel
theorem dX7_known_110 : decode cX7_known 110 = .ok (.iaload, 1) := by decide +kernel
theorem dX7_known_111 : decode cX7_known 111 = .ok (.istore 5, 2) := by decide +kernel
theorem dX7_known_113 : decode cX7_known 113 = .ok (.goto 25, 3) := by decide +kernel
theorem dX7_known_79 : decode cX7_known 79 = .ok (.aload_n 0, 1) := by decide +kernel
theorem dX7_known_80 : decode cX7_known 80 = .ok (.getfield 18, 3) := by decide +kernel
theorem dX7_known_83 : decode cX7_known 83 = .ok (.iload 8, 2) := by decide +kernel
theorem dX7_known_85 : decode cX7_known 85 = .ok (.iaload, 1) := by decide +kernel
theorem dX7_known_86 : decode cX7_known 86 = .ok (.istore 4, 2) := by decide +kernel
theorem dX7_known_88 : decode cX7_known 88 = .ok (.goto 50, 3) := by decide +kernel
theorem dX10_nature_0 : decode cX10_nature 0 = .ok (.aload_n 0, 1) := by decide +kernel
theorem tw_457 : Cond.fieldLink RX10 67 "RingsUnder$World" "clock" "I" ∈ wsL_law := List.mem_of_getElem? (i := 457) (by decide +kernel)
theorem dX10_nature_1 : decode cX10_nature 1 = .ok (.getfield 67, 3) := by decide +kernel
theorem dX10_nature_4 : decode cX10_nature 4 = .ok (.sipush 600, 3) := by decide +kernel
theorem dX10_nature_7 : decode cX10_nature 7 = .ok (.if_icmp .lt 4, 3) := by decide +kernel
theorem dX10_nature_11 : decode cX10_nature 11 = .ok (.aload_n 0, 1) := by decide +kernel
theorem dX10_nature_12 : decode cX10_nature 12 = .ok (.getfield 67, 3) := by decide +kernel
theorem dX10_nature_15 : decode cX10_nature 15 = .ok (.bipush 12, 2) := by decide +kernel
theorem dX10_nature_17 : decode cX10_nature 17 = .ok (.irem, 1) := by decide +kernel
theorem dX10_nature_18 : decode cX10_nature 18 = .ok (.istore_n 2, 1) := by decide +kernel
theorem dX10_nature_19 : decode cX10_nature 19 = .ok (.aload_n 0, 1) := by decide +kernel
theorem tw_38 : Cond.fieldLink RX10 25 "RingsUnder$World" "seas" "LRingsUnder$Seas;" ∈ wsL_law := List.mem_of_getElem? (i := 38) (by decide +kernel)
theorem dX10_nature_20 : decode cX10_nature 20 = .ok (.getfield 25, 3) := by decide +kernel
theorem dX10_nature_23 : decode cX10_nature 23 = .ok (.iload_n 1, 1) := by decide +kernel
theorem dX10_nature_24 : decode cX10_nature 24 = .ok (.aload_n 0, 1) := by decide +kernel
theorem dX10_nature_25 : decode cX10_nature 25 = .ok (.getfield 67, 3) := by decide +kernel
theorem dX10_nature_28 : decode cX10_nature 28 = .ok (.aload_n 0, 1) := by decide +kernel
theorem dX10_nature_29 : decode cX10_nature 29 = .ok (.getfield 67, 3) := by decide +kernel
theorem tw_1058 : Cond.methodLink RX10 153 yX7_known ∈ wsL_law := List.mem_of_getElem? (i := 1058) (by decide +kernel)
theorem tw_271 : Cond.instanceMethod yX7_known ∈ wsL_law := List.mem_of_getElem? (i := 271) (by decide +kernel)
theorem tw_272 : Cond.selects RX7 yX7_known yX7_known ∈ wsL_law := List.mem_of_getElem? (i := 272) (by decide +kernel)
theorem tw_273 : Cond.code yX7_known cX7_known 9 (some .int) ∈ wsL_law := List.mem_of_getElem? (i := 273) (by decide +kernel)
theorem dX10_nature_32 : decode cX10_nature 32 = .ok (.invokevirtual 153, 3) := by decide +kernel
theorem dX10_nature_35 : decode cX10_nature 35 = .ok (.istore_n 3, 1) := by decide +kernel
theorem dX10_nature_36 : decode cX10_nature 36 = .ok (.aload_n 0, 1) := by decide +kernel
theorem tw_42 : Cond.fieldLink RX10 32 "RingsUnder$World" "land" "LRingsUnder$Land;" ∈ wsL_law := List.mem_of_getElem? (i := 42) (by decide +kernel)
theorem dX10_nature_37 : decode cX10_nature 37 = .ok (.getfield 32, 3) := by decide +kernel
theorem dX10_nature_40 : decode cX10_nature 40 = .ok (.aload_n 0, 1) := by decide +kernel
theorem dX10_nature_41 : decode cX10_nature 41 = .ok (.getfield 25, 3) := by decide +kernel
theorem tw_1051 : Cond.fieldLink RX10 157 "RingsUnder$Seas" "warm" "[I" ∈ wsL_law := List.mem_of_getElem? (i := 1051) (by decide +kernel)
theorem dX10_nature_44 : decode cX10_nature 44 = .ok (.getfield 157, 3) := by decide +kernel
theorem dX10_nature_47 : decode cX10_nature 47 = .ok (.iload_n 2, 1) := by decide +kernel
theorem dX10_nature_48 : decode cX10_nature 48 = .ok (.iaload, 1) := by decide +kernel
theorem dX10_nature_49 : decode cX10_nature 49 = .ok (.aload_n 0, 1) := by decide +kernel
theorem dX10_nature_50 : decode cX10_nature 50 = .ok (.getfield 25, 3) := by decide +kernel
theorem tw_1052 : Cond.fieldLink RX10 160 "RingsUnder$Seas" "bear" "I" ∈ wsL_law := List.mem_of_getElem? (i := 1052) (by decide +kernel)
theorem dX10_nature_53 : decode cX10_nature 53 = .ok (.getfield 160, 3) := by decide +kernel
theorem tw_1059 : Cond.methodLink RX10 169 yX2_growReef ∈ wsL_law := List.mem_of_getElem? (i := 1059) (by decide +kernel)
theorem tw_1060 : Cond.instanceMethod yX2_growReef ∈ wsL_law := List.mem_of_getElem? (i := 1060) (by decide +kernel)
theorem tw_1061 : Cond.selects RX2 yX2_growReef yX2_growReef ∈ wsL_law := List.mem_of_getElem? (i := 1061) (by decide +kernel)
theorem tw_1062 : Cond.code yX2_growReef cX2_growReef 3 none ∈ wsL_law := List.mem_of_getElem? (i := 1062) (by decide +kernel)
theorem dX10_nature_77 : decode cX10_nature 77 = .ok (.invokevirtual 169, 3) := by decide +kernel
theorem dX10_nature_80 : decode cX10_nature 80 = .ok (.aload_n 0, 1) := by decide +kernel
theorem dX10_nature_81 : decode cX10_nature 81 = .ok (.getfield 32, 3) := by decide +kernel
theorem dX10_nature_84 : decode cX10_nature 84 = .ok (.aload_n 0, 1) := by decide +kernel
theorem dX10_nature_85 : decode cX10_nature 85 = .ok (.getfield 25, 3) := by decide +kernel
theorem tw_1055 : Cond.fieldLink RX10 172 "RingsUnder$Seas" "drift" "[I" ∈ wsL_law := List.mem_of_getElem? (i := 1055) (by decide +kernel)
theorem dX10_nature_88 : decode cX10_nature 88 = .ok (.getfield 172, 3) := by decide +kernel
theorem dX10_nature_91 : decode cX10_nature 91 = .ok (.iload_n 2, 1) := by decide +kernel
theorem dX10_nature_92 : decode cX10_nature 92 = .ok (.iaload, 1) := by decide +kernel
theorem tw_1065 : Cond.methodLink RX10 175 yX2_walk ∈ wsL_law := List.mem_of_getElem? (i := 1065) (by decide +kernel)
theorem tw_1066 : Cond.instanceMethod yX2_walk ∈ wsL_law := List.mem_of_getElem? (i := 1066) (by decide +kernel)
theorem tw_1067 : Cond.selects RX2 yX2_walk yX2_walk ∈ wsL_law := List.mem_of_getElem? (i := 1067) (by decide +kernel)
theorem tw_1068 : Cond.code yX2_walk cX2_walk 3 none ∈ wsL_law := List.mem_of_getElem? (i := 1068) (by decide +kernel)
theorem dX10_nature_93 : decode cX10_nature 93 = .ok (.invokevirtual 175, 3) := by decide +kernel
theorem dX10_nature_96 : decode cX10_nature 96 = .ok (.aload_n 0, 1) := by decide +kernel
theorem dX10_nature_97 : decode cX10_nature 97 = .ok (.getfield 32, 3) := by decide +kernel
theorem dX10_nature_100 : decode cX10_nature 100 = .ok (.aload_n 0, 1) := by decide +kernel
theorem dX10_nature_101 : decode cX10_nature 101 = .ok (.getfield 67, 3) := by decide +kernel
theorem dX10_nature_104 : decode cX10_nature 104 = .ok (.iload_n 3, 1) := by decide +kernel
theorem dX10_nature_105 : decode cX10_nature 105 = .ok (.aload_n 0, 1) := by decide +kernel
theorem dX10_nature_106 : decode cX10_nature 106 = .ok (.getfield 25, 3) := by decide +kernel
theorem tw_1056 : Cond.fieldLink RX10 178 "RingsUnder$Seas" "high" "[I" ∈ wsL_law := List.mem_of_getElem? (i := 1056) (by decide +kernel)
theorem dX10_nature_109 : decode cX10_nature 109 = .ok (.getfield 178, 3) := by decide +kernel
theorem dX10_nature_112 : decode cX10_nature 112 = .ok (.iload_n 2, 1) := by decide +kernel
theorem dX10_nature_113 : decode cX10_nature 113 = .ok (.iaload, 1) := by decide +kernel
theorem dX10_nature_114 : decode cX10_nature 114 = .ok (.iadd, 1) := by decide +kernel
theorem dX10_nature_115 : decode cX10_nature 115 = .ok (.iload_n 3, 1) := by decide +kernel
theorem dX10_nature_116 : decode cX10_nature 116 = .ok (.aload_n 0, 1) := by decide +kernel
theorem dX10_nature_117 : decode cX10_nature 117 = .ok (.getfield 25, 3) := by decide +kernel
theorem tw_1057 : Cond.fieldLink RX10 181 "RingsUnder$Seas" "low" "[I" ∈ wsL_law := List.mem_of_getElem? (i := 1057) (by decide +kernel)
theorem dX10_nature_120 : decode cX10_nature 120 = .ok (.getfield 181, 3) := by decide +kernel
theorem dX10_nature_123 : decode cX10_nature 123 = .ok (.iload_n 2, 1) := by decide +kernel
theorem dX10_nature_124 : decode cX10_nature 124 = .ok (.iaload, 1) := by decide +kernel
theorem dX10_nature_125 : decode cX10_nature 125 = .ok (.iadd, 1) := by decide +kernel
theorem tw_1070 : Cond.methodLink RX10 184 yX2_tide ∈ wsL_law := List.mem_of_getElem? (i := 1070) (by decide +kernel)
theorem tw_1071 : Cond.instanceMethod yX2_tide ∈ wsL_law := List.mem_of_getElem? (i := 1071) (by decide +kernel)
theorem tw_1072 : Cond.selects RX2 yX2_tide yX2_tide ∈ wsL_law := List.mem_of_getElem? (i := 1072) (by decide +kernel)
theorem tw_1073 : Cond.code yX2_tide cX2_tide 8 none ∈ wsL_law := List.mem_of_getElem? (i := 1073) (by decide +kernel)
theorem dX10_nature_126 : decode cX10_nature 126 = .ok (.invokevirtual 184, 3) := by decide +kernel
theorem dX10_nature_129 : decode cX10_nature 129 = .ok (.aload_n 0, 1) := by decide +kernel
theorem dX10_nature_130 : decode cX10_nature 130 = .ok (.getfield 32, 3) := by decide +kernel
theorem tw_1078 : Cond.methodLink RX10 188 yX2_giveUpBeds ∈ wsL_law := List.mem_of_getElem? (i := 1078) (by decide +kernel)
theorem tw_1079 : Cond.instanceMethod yX2_giveUpBeds ∈ wsL_law := List.mem_of_getElem? (i := 1079) (by decide +kernel)
theorem tw_1080 : Cond.selects RX2 yX2_giveUpBeds yX2_giveUpBeds ∈ wsL_law := List.mem_of_getElem? (i := 1080) (by decide +kernel)
theorem tw_1081 : Cond.code yX2_giveUpBeds cX2_giveUpBeds 2 none ∈ wsL_law := List.mem_of_getElem? (i := 1081) (by decide +kernel)
theorem dX10_nature_133 : decode cX10_nature 133 = .ok (.invokevirtual 188, 3) := by decide +kernel
theorem dX10_nature_136 : decode cX10_nature 136 = .ok (.return_, 1) := by decide +kernel
theorem dX10_nature_56 : decode cX10_nature 56 = .ok (.if_icmp .gt 13, 3) := by decide +kernel
theorem dX10_nature_69 : decode cX10_nature 69 = .ok (.aload_n 0, 1) := by decide +kernel
theorem dX10_nature_70 : decode cX10_nature 70 = .ok (.getfield 25, 3) := by decide +kernel
theorem tw_1054 : Cond.fieldLink RX10 166 "RingsUnder$Seas" "die" "I" ∈ wsL_law := List.mem_of_getElem? (i := 1054) (by decide +kernel)
theorem dX10_nature_73 : decode cX10_nature 73 = .ok (.getfield 166, 3) := by decide +kernel
theorem dX10_nature_76 : decode cX10_nature 76 = .ok (.ineg, 1) := by decide +kernel
theorem dX10_nature_59 : decode cX10_nature 59 = .ok (.aload_n 0, 1) := by decide +kernel
theorem dX10_nature_60 : decode cX10_nature 60 = .ok (.getfield 25, 3) := by decide +kernel
theorem tw_1053 : Cond.fieldLink RX10 163 "RingsUnder$Seas" "grow" "I" ∈ wsL_law := List.mem_of_getElem? (i := 1053) (by decide +kernel)
theorem dX10_nature_63 : decode cX10_nature 63 = .ok (.getfield 163, 3) := by decide +kernel
theorem dX10_nature_66 : decode cX10_nature 66 = .ok (.goto 11, 3) := by decide +kernel
theorem dX10_nature_10 : decode cX10_nature 10 = .ok (.return_, 1) := by decide +kernel
theorem dX2_countBeds_0 : decode cX2_countBeds 0 = .ok (.iload_n 2, 1) := by decide +kernel
theorem dX2_countBeds_1 : decode cX2_countBeds 1 = .ok (.ifCond .lt 11, 3) := by decide +kernel
theorem dX2_countBeds_4 : decode cX2_countBeds 4 = .ok (.iload_n 2, 1) := by decide +kernel
theorem dX2_countBeds_5 : decode cX2_countBeds 5 = .ok (.iconst 5, 1) := by decide +kernel
theorem dX2_countBeds_6 : decode cX2_countBeds 6 = .ok (.iadd, 1) := by decide +kernel
theorem dX2_countBeds_7 : decode cX2_countBeds 7 = .ok (.aload_n 1, 1) := by decide +kernel
theorem dX2_countBeds_8 : decode cX2_countBeds 8 = .ok (.arraylength, 1) := by decide +kernel
theorem dX2_countBeds_9 : decode cX2_countBeds 9 = .ok (.if_icmp .le 4, 3) := by decide +kernel
theorem dX2_countBeds_13 : decode cX2_countBeds 13 = .ok (.iconst 0, 1) := by decide +kernel
theorem dX2_countBeds_14 : decode cX2_countBeds 14 = .ok (.istore_n 3, 1) := by decide +kernel
theorem dX2_countBeds_15 : decode cX2_countBeds 15 = .ok (.iload_n 3, 1) := by decide +kernel
theorem dX2_countBeds_16 : decode cX2_countBeds 16 = .ok (.iconst 5, 1) := by decide +kernel
theorem dX2_countBeds_17 : decode cX2_countBeds 17 = .ok (.if_icmp .ge 15, 3) := by decide +kernel
theorem dX2_countBeds_32 : decode cX2_countBeds 32 = .ok (.iconst 0, 1) := by decide +kernel
theorem dX2_countBeds_33 : decode cX2_countBeds 33 = .ok (.istore_n 3, 1) := by decide +kernel
theorem dX2_countBeds_34 : decode cX2_countBeds 34 = .ok (.iload_n 3, 1) := by decide +kernel
theorem dX2_countBeds_35 : decode cX2_countBeds 35 = .ok (.aload_n 0, 1) := by decide +kernel
theorem dX2_countBeds_36 : decode cX2_countBeds 36 = .ok (.getfield 73, 3) := by decide +kernel
theorem dX2_countBeds_39 : decode cX2_countBeds 39 = .ok (.if_icmp .ge 28, 3) := by decide +kernel
theorem dX2_countBeds_67 : decode cX2_countBeds 67 = .ok (.return_, 1) := by decide +kernel
theorem dX2_countBeds_42 : decode cX2_countBeds 42 = .ok (.aload_n 1, 1) := by decide +kernel
theorem dX2_countBeds_43 : decode cX2_countBeds 43 = .ok (.iload_n 2, 1) := by decide +kernel
theorem dX2_countBeds_44 : decode cX2_countBeds 44 = .ok (.aload_n 0, 1) := by decide +kernel
theorem dX2_countBeds_45 : decode cX2_countBeds 45 = .ok (.getfield 15, 3) := by decide +kernel
theorem dX2_countBeds_48 : decode cX2_countBeds 48 = .ok (.iload_n 3, 1) := by decide +kernel
theorem dX2_countBeds_49 : decode cX2_countBeds 49 = .ok (.iaload, 1) := by decide +kernel
theorem dX2_countBeds_50 : decode cX2_countBeds 50 = .ok (.iadd, 1) := by decide +kernel
theorem dX2_countBeds_51 : decode cX2_countBeds 51 = .ok (.dup2, 1) := by decide +kernel
theorem dX2_countBeds_52 : decode cX2_countBeds 52 = .ok (.iaload, 1) := by decide +kernel
theorem dX2_countBeds_53 : decode cX2_countBeds 53 = .ok (.aload_n 0, 1) := by decide +kernel
theorem dX2_countBeds_54 : decode cX2_countBeds 54 = .ok (.getfield 37, 3) := by decide +kernel
theorem dX2_countBeds_57 : decode cX2_countBeds 57 = .ok (.iload_n 3, 1) := by decide +kernel
theorem dX2_countBeds_58 : decode cX2_countBeds 58 = .ok (.iaload, 1) := by decide +kernel
theorem dX2_countBeds_59 : decode cX2_countBeds 59 = .ok (.iadd, 1) := by decide +kernel
theorem dX2_countBeds_60 : decode cX2_countBeds 60 = .ok (.iastore, 1) := by decide +kernel
theorem dX2_countBeds_61 : decode cX2_countBeds 61 = .ok (.iinc 3 1, 3) := by decide +kernel
theorem dX2_countBeds_64 : decode cX2_countBeds 64 = .ok (.goto (-30), 3) := by decide +kernel
theorem dX2_countBeds_20 : decode cX2_countBeds 20 = .ok (.aload_n 1, 1) := by decide +kernel
theorem dX2_countBeds_21 : decode cX2_countBeds 21 = .ok (.iload_n 2, 1) := by decide +kernel
theorem dX2_countBeds_22 : decode cX2_countBeds 22 = .ok (.iload_n 3, 1) := by decide +kernel
theorem dX2_countBeds_23 : decode cX2_countBeds 23 = .ok (.iadd, 1) := by decide +kernel
theorem dX2_countBeds_24 : decode cX2_countBeds 24 = .ok (.iconst 0, 1) := by decide +kernel
theorem dX2_countBeds_25 : decode cX2_countBeds 25 = .ok (.iastore, 1) := by decide +kernel
theorem dX2_countBeds_26 : decode cX2_countBeds 26 = .ok (.iinc 3 1, 3) := by decide +kernel
theorem dX2_countBeds_29 : decode cX2_countBeds 29 = .ok (.goto (-14), 3) := by decide +kernel
theorem dX5_foresee_0 : decode cX5_foresee 0 = .ok (.aload_n 1, 1) := by decide +kernel
theorem tw_1446 : Cond.fieldLink RX5 68 "RingsUnder$World" "folk" "LRingsUnder$Folk;" ∈ wsL_law := List.mem_of_getElem? (i := 1446) (by decide +kernel)
theorem dX5_foresee_1 : decode cX5_foresee 1 = .ok (.getfield 68, 3) := by decide +kernel
theorem tw_1450 : Cond.methodLink RX5 72 yX0_onRings ∈ wsL_law := List.mem_of_getElem? (i := 1450) (by decide +kernel)
theorem tw_1163 : Cond.instanceMethod yX0_onRings ∈ wsL_law := List.mem_of_getElem? (i := 1163) (by decide +kernel)
theorem tw_1164 : Cond.selects RX0 yX0_onRings yX0_onRings ∈ wsL_law := List.mem_of_getElem? (i := 1164) (by decide +kernel)
theorem tw_1165 : Cond.code yX0_onRings cX0_onRings 4 (some .long) ∈ wsL_law := List.mem_of_getElem? (i := 1165) (by decide +kernel)
theorem dX5_foresee_4 : decode cX5_foresee 4 = .ok (.invokevirtual 72, 3) := by decide +kernel
theorem dX5_foresee_7 : decode cX5_foresee 7 = .ok (.lstore 4, 2) := by decide +kernel
theorem dX5_foresee_9 : decode cX5_foresee 9 = .ok (.iconst 0, 1) := by decide +kernel
theorem dX5_foresee_10 : decode cX5_foresee 10 = .ok (.istore 6, 2) := by decide +kernel
theorem dX5_foresee_12 : decode cX5_foresee 12 = .ok (.iload 6, 2) := by decide +kernel
theorem dX5_foresee_14 : decode cX5_foresee 14 = .ok (.iload_n 3, 1) := by decide +kernel
theorem dX5_foresee_15 : decode cX5_foresee 15 = .ok (.if_icmp .ge 78, 3) := by decide +kernel
theorem dX5_foresee_93 : decode cX5_foresee 93 = .ok (.return_, 1) := by decide +kernel
theorem dX5_foresee_18 : decode cX5_foresee 18 = .ok (.aload_n 1, 1) := by decide +kernel
theorem dX5_foresee_19 : decode cX5_foresee 19 = .ok (.iload_n 2, 1) := by decide +kernel
theorem tw_1451 : Cond.methodLink RX5 78 yX10_nature ∈ wsL_law := List.mem_of_getElem? (i := 1451) (by decide +kernel)
theorem tw_1048 : Cond.instanceMethod yX10_nature ∈ wsL_law := List.mem_of_getElem? (i := 1048) (by decide +kernel)
theorem tw_1049 : Cond.selects RX10 yX10_nature yX10_nature ∈ wsL_law := List.mem_of_getElem? (i := 1049) (by decide +kernel)
theorem tw_15 : Cond.initialized RX10 ∈ wsL_law := List.mem_of_getElem? (i := 15) (by decide +kernel)
theorem tw_1050 : Cond.code yX10_nature cX10_nature 4 none ∈ wsL_law := List.mem_of_getElem? (i := 1050) (by decide +kernel)
theorem dX5_foresee_20 : decode cX5_foresee 20 = .ok (.invokevirtual 78, 3) := by decide +kernel
theorem dX5_foresee_23 : decode cX5_foresee 23 = .ok (.aload_n 0, 1) := by decide +kernel
theorem tw_145 : Cond.fieldLink RX5 21 "RingsUnder$RingOrders" "dry" "[J" ∈ wsL_law := List.mem_of_getElem? (i := 145) (by decide +kernel)
theorem dX5_foresee_24 : decode cX5_foresee 24 = .ok (.getfield 21, 3) := by decide +kernel
theorem dX5_foresee_27 : decode cX5_foresee 27 = .ok (.iload 6, 2) := by decide +kernel
theorem dX5_foresee_29 : decode cX5_foresee 29 = .ok (.aload_n 1, 1) := by decide +kernel
theorem tw_1438 : Cond.fieldLink RX5 31 "RingsUnder$World" "land" "LRingsUnder$Land;" ∈ wsL_law := List.mem_of_getElem? (i := 1438) (by decide +kernel)
theorem dX5_foresee_30 : decode cX5_foresee 30 = .ok (.getfield 31, 3) := by decide +kernel
theorem tw_1447 : Cond.fieldLink RX5 82 "RingsUnder$Land" "dry" "J" ∈ wsL_law := List.mem_of_getElem? (i := 1447) (by decide +kernel)
theorem dX5_foresee_33 : decode cX5_foresee 33 = .ok (.getfield 82, 3) := by decide +kernel
theorem dX5_foresee_36 : decode cX5_foresee 36 = .ok (.lastore, 1) := by decide +kernel
theorem dX5_foresee_37 : decode cX5_foresee 37 = .ok (.aload_n 1, 1) := by decide +kernel
theorem dX5_foresee_38 : decode cX5_foresee 38 = .ok (.getfield 31, 3) := by decide +kernel
theorem dX5_foresee_41 : decode cX5_foresee 41 = .ok (.aload_n 0, 1) := by decide +kernel
theorem tw_146 : Cond.fieldLink RX5 25 "RingsUnder$RingOrders" "beds" "[I" ∈ wsL_law := List.mem_of_getElem? (i := 146) (by decide +kernel)
theorem dX5_foresee_42 : decode cX5_foresee 42 = .ok (.getfield 25, 3) := by decide +kernel
theorem dX5_foresee_45 : decode cX5_foresee 45 = .ok (.iload 6, 2) := by decide +kernel
theorem dX5_foresee_47 : decode cX5_foresee 47 = .ok (.iconst 5, 1) := by decide +kernel
theorem dX5_foresee_48 : decode cX5_foresee 48 = .ok (.imul, 1) := by decide +kernel
theorem tw_1452 : Cond.methodLink RX5 85 yX2_countBeds ∈ wsL_law := List.mem_of_getElem? (i := 1452) (by decide +kernel)
theorem tw_1091 : Cond.instanceMethod yX2_countBeds ∈ wsL_law := List.mem_of_getElem? (i := 1091) (by decide +kernel)
theorem tw_1092 : Cond.selects RX2 yX2_countBeds yX2_countBeds ∈ wsL_law := List.mem_of_getElem? (i := 1092) (by decide +kernel)
theorem tw_1093 : Cond.code yX2_countBeds cX2_countBeds 4 none ∈ wsL_law := List.mem_of_getElem? (i := 1093) (by decide +kernel)
theorem dX5_foresee_49 : decode cX5_foresee 49 = .ok (.invokevirtual 85, 3) := by decide +kernel
theorem dX5_foresee_52 : decode cX5_foresee 52 = .ok (.aload_n 0, 1) := by decide +kernel
theorem tw_147 : Cond.fieldLink RX5 28 "RingsUnder$RingOrders" "may" "[J" ∈ wsL_law := List.mem_of_getElem? (i := 147) (by decide +kernel)
theorem dX5_foresee_53 : decode cX5_foresee 53 = .ok (.getfield 28, 3) := by decide +kernel
theorem dX5_foresee_56 : decode cX5_foresee 56 = .ok (.iload 6, 2) := by decide +kernel
theorem dX5_foresee_58 : decode cX5_foresee 58 = .ok (.aload_n 1, 1) := by decide +kernel
theorem tw_1448 : Cond.fieldLink RX5 89 "RingsUnder$World" "law" "LRingsUnder$Law;" ∈ wsL_law := List.mem_of_getElem? (i := 1448) (by decide +kernel)
theorem dX5_foresee_59 : decode cX5_foresee 59 = .ok (.getfield 89, 3) := by decide +kernel
theorem dX5_foresee_62 : decode cX5_foresee 62 = .ok (.iconst 2, 1) := by decide +kernel
theorem dX5_foresee_63 : decode cX5_foresee 63 = .ok (.aload_n 1, 1) := by decide +kernel
theorem tw_1449 : Cond.fieldLink RX5 93 "RingsUnder$World" "clock" "I" ∈ wsL_law := List.mem_of_getElem? (i := 1449) (by decide +kernel)
theorem dX5_foresee_64 : decode cX5_foresee 64 = .ok (.getfield 93, 3) := by decide +kernel
theorem dX5_foresee_67 : decode cX5_foresee 67 = .ok (.aload_n 1, 1) := by decide +kernel
theorem dX5_foresee_68 : decode cX5_foresee 68 = .ok (.getfield 68, 3) := by decide +kernel
theorem dX5_foresee_71 : decode cX5_foresee 71 = .ok (.lload 4, 2) := by decide +kernel
theorem tw_1453 : Cond.methodLink RX5 96 yX3_whoIsSo ∈ wsL_law := List.mem_of_getElem? (i := 1453) (by decide +kernel)
theorem tw_964 : Cond.instanceMethod yX3_whoIsSo ∈ wsL_law := List.mem_of_getElem? (i := 964) (by decide +kernel)
theorem tw_965 : Cond.selects RX3 yX3_whoIsSo yX3_whoIsSo ∈ wsL_law := List.mem_of_getElem? (i := 965) (by decide +kernel)
theorem tw_966 : Cond.code yX3_whoIsSo cX3_whoIsSo 10 (some .long) ∈ wsL_law := List.mem_of_getElem? (i := 966) (by decide +kernel)
theorem dX5_foresee_73 : decode cX5_foresee 73 = .ok (.invokevirtual 96, 3) := by decide +kernel
theorem dX5_foresee_76 : decode cX5_foresee 76 = .ok (.lastore, 1) := by decide +kernel
theorem dX5_foresee_77 : decode cX5_foresee 77 = .ok (.aload_n 1, 1) := by decide +kernel
theorem dX5_foresee_78 : decode cX5_foresee 78 = .ok (.dup, 1) := by decide +kernel
theorem dX5_foresee_79 : decode cX5_foresee 79 = .ok (.getfield 93, 3) := by decide +kernel
theorem dX5_foresee_82 : decode cX5_foresee 82 = .ok (.iconst 1, 1) := by decide +kernel
theorem dX5_foresee_83 : decode cX5_foresee 83 = .ok (.iadd, 1) := by decide +kernel
theorem dX5_foresee_84 : decode cX5_foresee 84 = .ok (.putfield 93, 3) := by decide +kernel
theorem dX5_foresee_87 : decode cX5_foresee 87 = .ok (.iinc 6 1, 3) := by decide +kernel
theorem dX5_foresee_90 : decode cX5_foresee 90 = .ok (.goto (-78), 3) := by decide +kernel
theorem dX5_lineUp_0 : decode cX5_lineUp 0 = .ok (.aload_n 0, 1) := by decide +kernel
theorem dX5_lineUp_1 : decode cX5_lineUp 1 = .ok (.iconst 0, 1) := by decide +kernel
theorem tw_1464 : Cond.fieldLink RX5 146 "RingsUnder$RingOrders" "queued" "I" ∈ wsL_law := List.mem_of_getElem? (i := 1464) (by decide +kernel)
theorem dX5_lineUp_2 : decode cX5_lineUp 2 = .ok (.putfield 146, 3) := by decide +kernel
theorem dX5_lineUp_5 : decode cX5_lineUp 5 = .ok (.iconst 0, 1) := by decide +kernel
theorem dX5_lineUp_6 : decode cX5_lineUp 6 = .ok (.istore_n 3, 1) := by decide +kernel
theorem dX5_lineUp_7 : decode cX5_lineUp 7 = .ok (.iload_n 3, 1) := by decide +kernel
theorem dX5_lineUp_8 : decode cX5_lineUp 8 = .ok (.iload_n 2, 1) := by decide +kernel
theorem dX5_lineUp_9 : decode cX5_lineUp 9 = .ok (.if_icmp .ge 73, 3) := by decide +kernel
theorem dX5_lineUp_82 : decode cX5_lineUp 82 = .ok (.return_, 1) := by decide +kernel
theorem dX5_lineUp_12 : decode cX5_lineUp 12 = .ok (.iconst 0, 1) := by decide +kernel
theorem dX5_lineUp_13 : decode cX5_lineUp 13 = .ok (.istore 4, 2) := by decide +kernel
theorem dX5_lineUp_15 : decode cX5_lineUp 15 = .ok (.iload 4, 2) := by decide +kernel
theorem dX5_lineUp_17 : decode cX5_lineUp 17 = .ok (.aload_n 1, 1) := by decide +kernel
theorem tw_1470 : Cond.fieldLink RX5 153 "RingsUnder$Folk" "persons" "I" ∈ wsL_law := List.mem_of_getElem? (i := 1470) (by decide +kernel)
theorem dX5_lineUp_18 : decode cX5_lineUp 18 = .ok (.getfield 153, 3) := by decide +kernel
theorem dX5_lineUp_76 : decode cX5_lineUp 76 = .ok (.iinc 3 1, 3) := by decide +kernel
theorem dX5_lineUp_79 : decode cX5_lineUp 79 = .ok (.goto (-72), 3) := by decide +kernel
theorem dX5_lineUp_21 : decode cX5_lineUp 21 = .ok (.if_icmp .ge 55, 3) := by decide +kernel
theorem dX5_lineUp_24 : decode cX5_lineUp 24 = .ok (.aload_n 0, 1) := by decide +kernel
theorem dX5_lineUp_25 : decode cX5_lineUp 25 = .ok (.getfield 146, 3) := by decide +kernel
theorem dX5_lineUp_28 : decode cX5_lineUp 28 = .ok (.bipush 40, 2) := by decide +kernel
theorem dX5_lineUp_30 : decode cX5_lineUp 30 = .ok (.if_icmp .ge 46, 3) := by decide +kernel
theorem dX5_lineUp_33 : decode cX5_lineUp 33 = .ok (.aload_n 1, 1) := by decide +kernel
theorem tw_1459 : Cond.fieldLink RX5 112 "RingsUnder$Folk" "place" "[I" ∈ wsL_law := List.mem_of_getElem? (i := 1459) (by decide +kernel)
theorem dX5_lineUp_34 : decode cX5_lineUp 34 = .ok (.getfield 112, 3) := by decide +kernel
theorem dX5_lineUp_37 : decode cX5_lineUp 37 = .ok (.iload 4, 2) := by decide +kernel
theorem dX5_lineUp_39 : decode cX5_lineUp 39 = .ok (.iaload, 1) := by decide +kernel
theorem dX5_lineUp_40 : decode cX5_lineUp 40 = .ok (.aload_n 0, 1) := by decide +kernel
theorem tw_143 : Cond.fieldLink RX5 15 "RingsUnder$RingOrders" "order" "[I" ∈ wsL_law := List.mem_of_getElem? (i := 143) (by decide +kernel)
theorem dX5_lineUp_41 : decode cX5_lineUp 41 = .ok (.getfield 15, 3) := by decide +kernel
theorem dX5_lineUp_44 : decode cX5_lineUp 44 = .ok (.iload_n 3, 1) := by decide +kernel
theorem dX5_lineUp_45 : decode cX5_lineUp 45 = .ok (.iaload, 1) := by decide +kernel
theorem dX5_lineUp_70 : decode cX5_lineUp 70 = .ok (.iinc 4 1, 3) := by decide +kernel
theorem dX5_lineUp_73 : decode cX5_lineUp 73 = .ok (.goto (-58), 3) := by decide +kernel
theorem dX5_lineUp_46 : decode cX5_lineUp 46 = .ok (.if_icmp .ne 24, 3) := by decide +kernel
theorem dX5_lineUp_49 : decode cX5_lineUp 49 = .ok (.aload_n 0, 1) := by decide +kernel
theorem tw_144 : Cond.fieldLink RX5 18 "RingsUnder$RingOrders" "queue" "[I" ∈ wsL_law := List.mem_of_getElem? (i := 144) (by decide +kernel)
theorem dX5_lineUp_50 : decode cX5_lineUp 50 = .ok (.getfield 18, 3) := by decide +kernel
theorem dX5_lineUp_53 : decode cX5_lineUp 53 = .ok (.aload_n 0, 1) := by decide +kernel
theorem dX5_lineUp_54 : decode cX5_lineUp 54 = .ok (.getfield 146, 3) := by decide +kernel
theorem dX5_lineUp_57 : decode cX5_lineUp 57 = .ok (.iload 4, 2) := by decide +kernel
theorem dX5_lineUp_59 : decode cX5_lineUp 59 = .ok (.iastore, 1) := by decide +kernel
theorem dX5_lineUp_60 : decode cX5_lineUp 60 = .ok (.aload_n 0, 1) := by decide +kernel
theorem dX5_lineUp_61 : decode cX5_lineUp 61 = .ok (.dup, 1) := by decide +kernel
theorem dX5_lineUp_62 : decode cX5_lineUp 62 = .ok (.getfield 146, 3) := by decide +kernel
theorem dX5_lineUp_65 : decode cX5_lineUp 65 = .ok (.iconst 1, 1) := by decide +kernel
theorem dX5_lineUp_66 : decode cX5_lineUp 66 = .ok (.iadd, 1) := by decide +kernel
theorem dX5_lineUp_67 : decode cX5_lineUp 67 = .ok (.putfield 146, 3) := by decide +kernel
theorem dX9_fillUp_0 : decode cX9_fillUp 0 = .ok (.iconst 0, 1) := by decide +kernel
theorem dX9_fillUp_1 : decode cX9_fillUp 1 = .ok (.istore 5, 2) := by decide +kernel
theorem dX9_fillUp_3 : decode cX9_fillUp 3 = .ok (.iload 5, 2) := by decide +kernel
theorem dX9_fillUp_5 : decode cX9_fillUp 5 = .ok (.iload_n 1, 1) := by decide +kernel
theorem dX9_fillUp_6 : decode cX9_fillUp 6 = .ok (.if_icmp .ge 106, 3) := by decide +kernel
theorem dX9_fillUp_112 : decode cX9_fillUp 112 = .ok (.return_, 1) := by decide +kernel
theorem dX9_fillUp_9 : decode cX9_fillUp 9 = .ok (.aload_n 0, 1) := by decide +kernel
theorem dX9_fillUp_10 : decode cX9_fillUp 10 = .ok (.iload 5, 2) := by decide +kernel
theorem dX9_fillUp_12 : decode cX9_fillUp 12 = .ok (.invokevirtual 25, 3) := by decide +kernel
theorem dX9_fillUp_106 : decode cX9_fillUp 106 = .ok (.iinc 5 1, 3) := by decide +kernel
theorem dX9_fillUp_109 : decode cX9_fillUp 109 = .ok (.goto (-106), 3) := by decide +kernel
theorem dX9_fillUp_15 : decode cX9_fillUp 15 = .ok (.ifCond .ne 6, 3) := by decide +kernel
theorem dX9_fillUp_21 : decode cX9_fillUp 21 = .ok (.lload_n 2, 1) := by decide +kernel
theorem dX9_fillUp_22 : decode cX9_fillUp 22 = .ok (.iload 5, 2) := by decide +kernel
theorem dX9_fillUp_24 : decode cX9_fillUp 24 = .ok (.invokestatic 29, 3) := by decide +kernel
theorem dX9_fillUp_27 : decode cX9_fillUp 27 = .ok (.ifCond .eq 57, 3) := by decide +kernel
theorem dX9_fillUp_84 : decode cX9_fillUp 84 = .ok (.aload_n 0, 1) := by decide +kernel
theorem dX9_fillUp_85 : decode cX9_fillUp 85 = .ok (.getfield 18, 3) := by decide +kernel
theorem dX9_fillUp_88 : decode cX9_fillUp 88 = .ok (.iload 5, 2) := by decide +kernel
theorem dX9_fillUp_90 : decode cX9_fillUp 90 = .ok (.bipush 100, 2) := by decide +kernel
theorem dX9_fillUp_92 : decode cX9_fillUp 92 = .ok (.aload_n 0, 1) := by decide +kernel
theorem dX9_fillUp_93 : decode cX9_fillUp 93 = .ok (.getfield 18, 3) := by decide +kernel
theorem dX9_fillUp_96 : decode cX9_fillUp 96 = .ok (.iload 5, 2) := by decide +kernel
theorem dX9_fillUp_98 : decode cX9_fillUp 98 = .ok (.iaload, 1) := by decide +kernel
theorem dX9_fillUp_99 : decode cX9_fillUp 99 = .ok (.bipush 10, 2) := by decide +kernel
theorem dX9_fillUp_101 : decode cX9_fillUp 101 = .ok (.iadd, 1) := by decide +kernel
theorem tw_1087 : Cond.methodLink RX9 33 Lib.Math.min.name ∈ wsL_law := List.mem_of_getElem? (i := 1087) (by decide +kernel)
theorem dX9_fillUp_102 : decode cX9_fillUp 102 = .ok (.invokestatic 33, 3) := by decide +kernel
theorem dX9_fillUp_105 : decode cX9_fillUp 105 = .ok (.iastore, 1) := by decide +kernel
theorem dX9_fillUp_30 : decode cX9_fillUp 30 = .ok (.aload_n 0, 1) := by decide +kernel
theorem dX9_fillUp_31 : decode cX9_fillUp 31 = .ok (.getfield 15, 3) := by decide +kernel
theorem dX9_fillUp_34 : decode cX9_fillUp 34 = .ok (.iload 5, 2) := by decide +kernel
theorem dX9_fillUp_36 : decode cX9_fillUp 36 = .ok (.sipush 10000, 3) := by decide +kernel
theorem dX9_fillUp_39 : decode cX9_fillUp 39 = .ok (.aload_n 0, 1) := by decide +kernel
theorem dX9_fillUp_40 : decode cX9_fillUp 40 = .ok (.getfield 15, 3) := by decide +kernel
theorem dX9_fillUp_43 : decode cX9_fillUp 43 = .ok (.iload 5, 2) := by decide +kernel
theorem dX9_fillUp_45 : decode cX9_fillUp 45 = .ok (.iaload, 1) := by decide +kernel
theorem dX9_fillUp_46 : decode cX9_fillUp 46 = .ok (.iload 4, 2) := by decide +kernel
theorem dX9_fillUp_48 : decode cX9_fillUp 48 = .ok (.aload_n 0, 1) := by decide +kernel
theorem dX9_fillUp_49 : decode cX9_fillUp 49 = .ok (.getfield 9, 3) := by decide +kernel
theorem dX9_fillUp_52 : decode cX9_fillUp 52 = .ok (.iload 5, 2) := by decide +kernel
theorem dX9_fillUp_54 : decode cX9_fillUp 54 = .ok (.iaload, 1) := by decide +kernel
theorem dX9_fillUp_55 : decode cX9_fillUp 55 = .ok (.imul, 1) := by decide +kernel
theorem dX9_fillUp_56 : decode cX9_fillUp 56 = .ok (.iadd, 1) := by decide +kernel
theorem dX9_fillUp_57 : decode cX9_fillUp 57 = .ok (.invokestatic 33, 3) := by decide +kernel
theorem dX9_fillUp_60 : decode cX9_fillUp 60 = .ok (.iastore, 1) := by decide +kernel
theorem dX9_fillUp_61 : decode cX9_fillUp 61 = .ok (.aload_n 0, 1) := by decide +kernel
theorem dX9_fillUp_62 : decode cX9_fillUp 62 = .ok (.getfield 18, 3) := by decide +kernel
theorem dX9_fillUp_65 : decode cX9_fillUp 65 = .ok (.iload 5, 2) := by decide +kernel
theorem dX9_fillUp_67 : decode cX9_fillUp 67 = .ok (.iconst 0, 1) := by decide +kernel
theorem dX9_fillUp_68 : decode cX9_fillUp 68 = .ok (.aload_n 0, 1) := by decide +kernel
theorem dX9_fillUp_69 : decode cX9_fillUp 69 = .ok (.getfield 18, 3) := by decide +kernel
theorem dX9_fillUp_72 : decode cX9_fillUp 72 = .ok (.iload 5, 2) := by decide +kernel
theorem dX9_fillUp_74 : decode cX9_fillUp 74 = .ok (.iaload, 1) := by decide +kernel
theorem dX9_fillUp_75 : decode cX9_fillUp 75 = .ok (.iconst 1, 1) := by decide +kernel
theorem dX9_fillUp_76 : decode cX9_fillUp 76 = .ok (.isub, 1) := by decide +kernel
theorem tw_1088 : Cond.methodLink RX9 39 Lib.Math.max.name ∈ wsL_law := List.mem_of_getElem? (i := 1088) (by decide +kernel)
theorem dX9_fillUp_77 : decode cX9_fillUp 77 = .ok (.invokestatic 39, 3) := by decide +kernel
theorem dX9_fillUp_80 : decode cX9_fillUp 80 = .ok (.iastore, 1) := by decide +kernel
theorem dX9_fillUp_81 : decode cX9_fillUp 81 = .ok (.goto 25, 3) := by decide +kernel
theorem dX9_fillUp_18 : decode cX9_fillUp 18 = .ok (.goto 88, 3) := by decide +kernel
theorem dX0_sleep_0 : decode cX0_sleep 0 = .ok (.iload_n 2, 1) := by decide +kernel
theorem dX0_sleep_1 : decode cX0_sleep 1 = .ok (.ifCond .lt 11, 3) := by decide +kernel
theorem dX0_sleep_4 : decode cX0_sleep 4 = .ok (.iload_n 2, 1) := by decide +kernel
theorem dX0_sleep_5 : decode cX0_sleep 5 = .ok (.iconst 5, 1) := by decide +kernel
theorem dX0_sleep_6 : decode cX0_sleep 6 = .ok (.iadd, 1) := by decide +kernel
theorem dX0_sleep_7 : decode cX0_sleep 7 = .ok (.aload_n 1, 1) := by decide +kernel
theorem dX0_sleep_8 : decode cX0_sleep 8 = .ok (.arraylength, 1) := by decide +kernel
theorem dX0_sleep_9 : decode cX0_sleep 9 = .ok (.if_icmp .le 5, 3) := by decide +kernel
theorem dX0_sleep_14 : decode cX0_sleep 14 = .ok (.aload_n 1, 1) := by decide +kernel
theorem dX0_sleep_15 : decode cX0_sleep 15 = .ok (.iload_n 2, 1) := by decide +kernel
theorem dX0_sleep_16 : decode cX0_sleep 16 = .ok (.aload_n 0, 1) := by decide +kernel
theorem dX0_sleep_17 : decode cX0_sleep 17 = .ok (.getfield 42, 3) := by decide +kernel
theorem dX0_sleep_20 : decode cX0_sleep 20 = .ok (.iconst 0, 1) := by decide +kernel
theorem dX0_sleep_21 : decode cX0_sleep 21 = .ok (.iconst 5, 1) := by decide +kernel
theorem tw_1124 : Cond.methodLink RX0 94 arraycopyName ∈ wsL_law := List.mem_of_getElem? (i := 1124) (by decide +kernel)
theorem dX0_sleep_22 : decode cX0_sleep 22 = .ok (.invokestatic 94, 3) := by decide +kernel
theorem dX0_sleep_25 : decode cX0_sleep 25 = .ok (.iconst 0, 1) := by decide +kernel
theorem dX0_sleep_26 : decode cX0_sleep 26 = .ok (.istore_n 3, 1) := by decide +kernel
theorem dX0_sleep_27 : decode cX0_sleep 27 = .ok (.iconst 0, 1) := by decide +kernel
theorem dX0_sleep_28 : decode cX0_sleep 28 = .ok (.istore 4, 2) := by decide +kernel
theorem dX0_sleep_30 : decode cX0_sleep 30 = .ok (.iload 4, 2) := by decide +kernel
theorem dX0_sleep_32 : decode cX0_sleep 32 = .ok (.aload_n 0, 1) := by decide +kernel
theorem dX0_sleep_33 : decode cX0_sleep 33 = .ok (.getfield 54, 3) := by decide +kernel
theorem dX0_sleep_36 : decode cX0_sleep 36 = .ok (.if_icmp .ge 66, 3) := by decide +kernel
theorem dX0_sleep_102 : decode cX0_sleep 102 = .ok (.iload_n 3, 1) := by decide +kernel
theorem dX0_sleep_103 : decode cX0_sleep 103 = .ok (.ireturn, 1) := by decide +kernel
theorem dX0_sleep_39 : decode cX0_sleep 39 = .ok (.aload_n 0, 1) := by decide +kernel
theorem dX0_sleep_40 : decode cX0_sleep 40 = .ok (.iload 4, 2) := by decide +kernel
theorem dX0_sleep_42 : decode cX0_sleep 42 = .ok (.invokevirtual 65, 3) := by decide +kernel
theorem dX0_sleep_96 : decode cX0_sleep 96 = .ok (.iinc 4 1, 3) := by decide +kernel
theorem dX0_sleep_99 : decode cX0_sleep 99 = .ok (.goto (-69), 3) := by decide +kernel
theorem dX0_sleep_45 : decode cX0_sleep 45 = .ok (.ifCond .eq 51, 3) := by decide +kernel
theorem dX0_sleep_48 : decode cX0_sleep 48 = .ok (.aload_n 0, 1) := by decide +kernel
theorem dX0_sleep_49 : decode cX0_sleep 49 = .ok (.getfield 42, 3) := by decide +kernel
theorem dX0_sleep_52 : decode cX0_sleep 52 = .ok (.aload_n 0, 1) := by decide +kernel
theorem dX0_sleep_53 : decode cX0_sleep 53 = .ok (.getfield 24, 3) := by decide +kernel
theorem dX0_sleep_56 : decode cX0_sleep 56 = .ok (.iload 4, 2) := by decide +kernel
theorem dX0_sleep_58 : decode cX0_sleep 58 = .ok (.iaload, 1) := by decide +kernel
theorem dX0_sleep_59 : decode cX0_sleep 59 = .ok (.iaload, 1) := by decide +kernel
theorem dX0_sleep_60 : decode cX0_sleep 60 = .ok (.ifCond .le 22, 3) := by decide +kernel
theorem dX0_sleep_82 : decode cX0_sleep 82 = .ok (.aload_n 0, 1) := by decide +kernel
theorem dX0_sleep_83 : decode cX0_sleep 83 = .ok (.getfield 30, 3) := by decide +kernel
theorem dX0_sleep_86 : decode cX0_sleep 86 = .ok (.iload 4, 2) := by decide +kernel
theorem dX0_sleep_88 : decode cX0_sleep 88 = .ok (.dup2, 1) := by decide +kernel
theorem dX0_sleep_89 : decode cX0_sleep 89 = .ok (.iaload, 1) := by decide +kernel
theorem dX0_sleep_90 : decode cX0_sleep 90 = .ok (.iconst 1, 1) := by decide +kernel
theorem dX0_sleep_91 : decode cX0_sleep 91 = .ok (.iadd, 1) := by decide +kernel
theorem dX0_sleep_92 : decode cX0_sleep 92 = .ok (.iastore, 1) := by decide +kernel
theorem dX0_sleep_93 : decode cX0_sleep 93 = .ok (.iinc 3 1, 3) := by decide +kernel
theorem dX0_sleep_63 : decode cX0_sleep 63 = .ok (.aload_n 0, 1) := by decide +kernel
theorem dX0_sleep_64 : decode cX0_sleep 64 = .ok (.getfield 42, 3) := by decide +kernel
theorem dX0_sleep_67 : decode cX0_sleep 67 = .ok (.aload_n 0, 1) := by decide +kernel
theorem dX0_sleep_68 : decode cX0_sleep 68 = .ok (.getfield 24, 3) := by decide +kernel
theorem dX0_sleep_71 : decode cX0_sleep 71 = .ok (.iload 4, 2) := by decide +kernel
theorem dX0_sleep_73 : decode cX0_sleep 73 = .ok (.iaload, 1) := by decide +kernel
theorem dX0_sleep_74 : decode cX0_sleep 74 = .ok (.dup2, 1) := by decide +kernel
theorem dX0_sleep_75 : decode cX0_sleep 75 = .ok (.iaload, 1) := by decide +kernel
theorem dX0_sleep_76 : decode cX0_sleep 76 = .ok (.iconst 1, 1) := by decide +kernel
theorem dX0_sleep_77 : decode cX0_sleep 77 = .ok (.isub, 1) := by decide +kernel
theorem dX0_sleep_78 : decode cX0_sleep 78 = .ok (.iastore, 1) := by decide +kernel
theorem dX0_sleep_79 : decode cX0_sleep 79 = .ok (.goto 17, 3) := by decide +kernel
theorem dX0_board_0 : decode cX0_board 0 = .ok (.aload_n 0, 1) := by decide +kernel
theorem dX0_board_1 : decode cX0_board 1 = .ok (.lload_n 1, 1) := by decide +kernel
theorem tw_1172 : Cond.methodLink RX0 100 yX0_countGroups ∈ wsL_law := List.mem_of_getElem? (i := 1172) (by decide +kernel)
theorem tw_1173 : Cond.instanceMethod yX0_countGroups ∈ wsL_law := List.mem_of_getElem? (i := 1173) (by decide +kernel)
theorem tw_1174 : Cond.selects RX0 yX0_countGroups yX0_countGroups ∈ wsL_law := List.mem_of_getElem? (i := 1174) (by decide +kernel)
theorem tw_1175 : Cond.code yX0_countGroups cX0_countGroups 4 none ∈ wsL_law := List.mem_of_getElem? (i := 1175) (by decide +kernel)
theorem dX0_board_2 : decode cX0_board 2 = .ok (.invokevirtual 100, 3) := by decide +kernel
theorem dX0_board_5 : decode cX0_board 5 = .ok (.iconst 0, 1) := by decide +kernel
theorem dX0_board_6 : decode cX0_board 6 = .ok (.istore 7, 2) := by decide +kernel
theorem dX0_board_8 : decode cX0_board 8 = .ok (.iload 7, 2) := by decide +kernel
theorem dX0_board_10 : decode cX0_board 10 = .ok (.aload_n 0, 1) := by decide +kernel
theorem dX0_board_11 : decode cX0_board 11 = .ok (.getfield 62, 3) := by decide +kernel
theorem dX0_board_14 : decode cX0_board 14 = .ok (.if_icmp .ge 22, 3) := by decide +kernel
theorem dX0_board_36 : decode cX0_board 36 = .ok (.iload 5, 2) := by decide +kernel
theorem dX0_board_38 : decode cX0_board 38 = .ok (.istore 7, 2) := by decide +kernel
theorem dX0_board_40 : decode cX0_board 40 = .ok (.iconst 0, 1) := by decide +kernel
theorem dX0_board_41 : decode cX0_board 41 = .ok (.istore 8, 2) := by decide +kernel
theorem dX0_board_43 : decode cX0_board 43 = .ok (.iload 8, 2) := by decide +kernel
theorem dX0_board_45 : decode cX0_board 45 = .ok (.iload 4, 2) := by decide +kernel
theorem dX0_board_47 : decode cX0_board 47 = .ok (.if_icmp .ge 161, 3) := by decide +kernel
theorem dX0_board_208 : decode cX0_board 208 = .ok (.return_, 1) := by decide +kernel
theorem dX0_board_50 : decode cX0_board 50 = .ok (.iload 8, 2) := by decide +kernel
theorem dX0_board_52 : decode cX0_board 52 = .ok (.aload_n 3, 1) := by decide +kernel
theorem dX0_board_53 : decode cX0_board 53 = .ok (.arraylength, 1) := by decide +kernel
theorem dX0_board_54 : decode cX0_board 54 = .ok (.if_icmp .ge 154, 3) := by decide +kernel
theorem dX0_board_57 : decode cX0_board 57 = .ok (.aload_n 3, 1) := by decide +kernel
theorem dX0_board_58 : decode cX0_board 58 = .ok (.iload 8, 2) := by decide +kernel
theorem dX0_board_60 : decode cX0_board 60 = .ok (.iaload, 1) := by decide +kernel
theorem dX0_board_61 : decode cX0_board 61 = .ok (.istore 9, 2) := by decide +kernel
theorem dX0_board_63 : decode cX0_board 63 = .ok (.lload_n 1, 1) := by decide +kernel
theorem dX0_board_64 : decode cX0_board 64 = .ok (.iload 9, 2) := by decide +kernel
theorem dX0_board_66 : decode cX0_board 66 = .ok (.invokestatic 73, 3) := by decide +kernel
theorem dX0_board_202 : decode cX0_board 202 = .ok (.iinc 8 1, 3) := by decide +kernel
theorem dX0_board_205 : decode cX0_board 205 = .ok (.goto (-162), 3) := by decide +kernel
theorem dX0_board_69 : decode cX0_board 69 = .ok (.ifCond .eq 133, 3) := by decide +kernel
theorem dX0_board_72 : decode cX0_board 72 = .ok (.aload_n 0, 1) := by decide +kernel
theorem dX0_board_73 : decode cX0_board 73 = .ok (.iload 9, 2) := by decide +kernel
theorem dX0_board_75 : decode cX0_board 75 = .ok (.invokevirtual 65, 3) := by decide +kernel
theorem dX0_board_78 : decode cX0_board 78 = .ok (.ifCond .ne 6, 3) := by decide +kernel
theorem dX0_board_84 : decode cX0_board 84 = .ok (.aload_n 0, 1) := by decide +kernel
theorem dX0_board_85 : decode cX0_board 85 = .ok (.iload 9, 2) := by decide +kernel
theorem dX0_board_87 : decode cX0_board 87 = .ok (.invokevirtual 107, 3) := by decide +kernel
theorem dX0_board_90 : decode cX0_board 90 = .ok (.istore 10, 2) := by decide +kernel
theorem dX0_board_92 : decode cX0_board 92 = .ok (.aload_n 0, 1) := by decide +kernel
theorem dX0_board_93 : decode cX0_board 93 = .ok (.getfield 51, 3) := by decide +kernel
theorem dX0_board_96 : decode cX0_board 96 = .ok (.iload 10, 2) := by decide +kernel
theorem dX0_board_98 : decode cX0_board 98 = .ok (.iaload, 1) := by decide +kernel
theorem dX0_board_99 : decode cX0_board 99 = .ok (.bipush (-2), 2) := by decide +kernel
theorem dX0_board_165 : decode cX0_board 165 = .ok (.aload_n 0, 1) := by decide +kernel
theorem dX0_board_166 : decode cX0_board 166 = .ok (.getfield 51, 3) := by decide +kernel
theorem dX0_board_169 : decode cX0_board 169 = .ok (.iload 10, 2) := by decide +kernel
theorem dX0_board_171 : decode cX0_board 171 = .ok (.iaload, 1) := by decide +kernel
theorem dX0_board_172 : decode cX0_board 172 = .ok (.iconst (-1), 1) := by decide +kernel
theorem dX0_board_173 : decode cX0_board 173 = .ok (.if_icmp .eq 29, 3) := by decide +kernel
theorem dX0_board_176 : decode cX0_board 176 = .ok (.aload_n 0, 1) := by decide +kernel
theorem dX0_board_177 : decode cX0_board 177 = .ok (.getfield 24, 3) := by decide +kernel
theorem dX0_board_180 : decode cX0_board 180 = .ok (.iload 9, 2) := by decide +kernel
theorem dX0_board_182 : decode cX0_board 182 = .ok (.bipush 100, 2) := by decide +kernel
theorem dX0_board_184 : decode cX0_board 184 = .ok (.aload_n 0, 1) := by decide +kernel
theorem dX0_board_185 : decode cX0_board 185 = .ok (.getfield 51, 3) := by decide +kernel
theorem dX0_board_188 : decode cX0_board 188 = .ok (.iload 10, 2) := by decide +kernel
theorem dX0_board_190 : decode cX0_board 190 = .ok (.iaload, 1) := by decide +kernel
theorem dX0_board_191 : decode cX0_board 191 = .ok (.iadd, 1) := by decide +kernel
theorem dX0_board_192 : decode cX0_board 192 = .ok (.iastore, 1) := by decide +kernel
theorem dX0_board_193 : decode cX0_board 193 = .ok (.aload_n 0, 1) := by decide +kernel
theorem dX0_board_194 : decode cX0_board 194 = .ok (.getfield 33, 3) := by decide +kernel
theorem dX0_board_197 : decode cX0_board 197 = .ok (.iload 9, 2) := by decide +kernel
theorem dX0_board_199 : decode cX0_board 199 = .ok (.iload 6, 2) := by decide +kernel
theorem dX0_board_201 : decode cX0_board 201 = .ok (.iastore, 1) := by decide +kernel
theorem dX0_board_101 : decode cX0_board 101 = .ok (.if_icmp .ne 64, 3) := by decide +kernel
theorem dX0_board_104 : decode cX0_board 104 = .ok (.aload_n 0, 1) := by decide +kernel
theorem dX0_board_105 : decode cX0_board 105 = .ok (.getfield 51, 3) := by decide +kernel
theorem dX0_board_108 : decode cX0_board 108 = .ok (.iload 10, 2) := by decide +kernel
theorem dX0_board_110 : decode cX0_board 110 = .ok (.aload_n 0, 1) := by decide +kernel
theorem dX0_board_111 : decode cX0_board 111 = .ok (.getfield 48, 3) := by decide +kernel
theorem dX0_board_114 : decode cX0_board 114 = .ok (.iload 10, 2) := by decide +kernel
theorem dX0_board_116 : decode cX0_board 116 = .ok (.iaload, 1) := by decide +kernel
theorem dX0_board_117 : decode cX0_board 117 = .ok (.iload 7, 2) := by decide +kernel
theorem dX0_board_137 : decode cX0_board 137 = .ok (.iastore, 1) := by decide +kernel
theorem dX0_board_138 : decode cX0_board 138 = .ok (.iload 7, 2) := by decide +kernel
theorem dX0_board_140 : decode cX0_board 140 = .ok (.aload_n 0, 1) := by decide +kernel
theorem dX0_board_141 : decode cX0_board 141 = .ok (.getfield 51, 3) := by decide +kernel
theorem dX0_board_144 : decode cX0_board 144 = .ok (.iload 10, 2) := by decide +kernel
theorem dX0_board_146 : decode cX0_board 146 = .ok (.iaload, 1) := by decide +kernel
theorem dX0_board_147 : decode cX0_board 147 = .ok (.iconst (-1), 1) := by decide +kernel
theorem dX0_board_162 : decode cX0_board 162 = .ok (.isub, 1) := by decide +kernel
theorem dX0_board_163 : decode cX0_board 163 = .ok (.istore 7, 2) := by decide +kernel
theorem dX0_board_148 : decode cX0_board 148 = .ok (.if_icmp .ne 7, 3) := by decide +kernel
theorem dX0_board_155 : decode cX0_board 155 = .ok (.aload_n 0, 1) := by decide +kernel
theorem dX0_board_156 : decode cX0_board 156 = .ok (.getfield 48, 3) := by decide +kernel
theorem dX0_board_159 : decode cX0_board 159 = .ok (.iload 10, 2) := by decide +kernel
theorem dX0_board_161 : decode cX0_board 161 = .ok (.iaload, 1) := by decide +kernel
theorem dX0_board_151 : decode cX0_board 151 = .ok (.iconst 0, 1) := by decide +kernel
theorem dX0_board_152 : decode cX0_board 152 = .ok (.goto 10, 3) := by decide +kernel
theorem dX0_board_119 : decode cX0_board 119 = .ok (.if_icmp .gt 17, 3) := by decide +kernel
theorem dX0_board_136 : decode cX0_board 136 = .ok (.iconst (-1), 1) := by decide +kernel
theorem dX0_board_122 : decode cX0_board 122 = .ok (.aload_n 0, 1) := by decide +kernel
theorem dX0_board_123 : decode cX0_board 123 = .ok (.aload_n 0, 1) := by decide +kernel
theorem dX0_board_124 : decode cX0_board 124 = .ok (.getfield 48, 3) := by decide +kernel
theorem dX0_board_127 : decode cX0_board 127 = .ok (.iload 10, 2) := by decide +kernel
theorem dX0_board_129 : decode cX0_board 129 = .ok (.iaload, 1) := by decide +kernel
theorem tw_1181 : Cond.methodLink RX0 110 yX0_takeLot ∈ wsL_law := List.mem_of_getElem? (i := 1181) (by decide +kernel)
theorem tw_1182 : Cond.instanceMethod yX0_takeLot ∈ wsL_law := List.mem_of_getElem? (i := 1182) (by decide +kernel)
theorem tw_1183 : Cond.selects RX0 yX0_takeLot yX0_takeLot ∈ wsL_law := List.mem_of_getElem? (i := 1183) (by decide +kernel)
theorem tw_1184 : Cond.code yX0_takeLot cX0_takeLot 3 (some .int) ∈ wsL_law := List.mem_of_getElem? (i := 1184) (by decide +kernel)
theorem dX0_board_130 : decode cX0_board 130 = .ok (.invokevirtual 110, 3) := by decide +kernel
theorem dX0_board_133 : decode cX0_board 133 = .ok (.goto 4, 3) := by decide +kernel
theorem dX0_board_81 : decode cX0_board 81 = .ok (.goto 121, 3) := by decide +kernel
theorem dX0_board_17 : decode cX0_board 17 = .ok (.aload_n 0, 1) := by decide +kernel
theorem dX0_board_18 : decode cX0_board 18 = .ok (.getfield 45, 3) := by decide +kernel
theorem dX0_board_21 : decode cX0_board 21 = .ok (.iload 7, 2) := by decide +kernel
theorem dX0_board_23 : decode cX0_board 23 = .ok (.aload_n 0, 1) := by decide +kernel
theorem dX0_board_24 : decode cX0_board 24 = .ok (.iload 7, 2) := by decide +kernel
theorem tw_1180 : Cond.methodLink RX0 104 yX0_freeBeds ∈ wsL_law := List.mem_of_getElem? (i := 1180) (by decide +kernel)
theorem tw_414 : Cond.instanceMethod yX0_freeBeds ∈ wsL_law := List.mem_of_getElem? (i := 414) (by decide +kernel)
theorem tw_415 : Cond.selects RX0 yX0_freeBeds yX0_freeBeds ∈ wsL_law := List.mem_of_getElem? (i := 415) (by decide +kernel)
theorem tw_416 : Cond.code yX0_freeBeds cX0_freeBeds 2 (some .int) ∈ wsL_law := List.mem_of_getElem? (i := 416) (by decide +kernel)
theorem dX0_board_26 : decode cX0_board 26 = .ok (.invokevirtual 104, 3) := by decide +kernel
theorem dX0_board_29 : decode cX0_board 29 = .ok (.iastore, 1) := by decide +kernel
theorem dX0_board_30 : decode cX0_board 30 = .ok (.iinc 7 1, 3) := by decide +kernel
theorem dX0_board_33 : decode cX0_board 33 = .ok (.goto (-25), 3) := by decide +kernel
set_option maxHeartbeats 4000000 in
set_option maxRecDepth 100000 in
theorem s_X7_known (l : Launch) (D : va_G) (t : pq_T) (σ : pq_S) (I : Nat → Nat → Int32) (J : Nat → Nat → Int64) (ri : Nat → Nat → Int32) (rj : Nat → Nat → Int64) (rq : Nat → Nat → Option Nat) (sz : Nat) (tg : Nat → Nat) (hSH : SH σ tg) (hG0 : GS tg σ I ri rq) (this : Nat) (a0 : Int32) (a1 : Int32) (a2 : Int32) (hL_this : this ∈ σ.1) (hK_this : σ.2.1 this = 7) : MetI l yX7_known (wa yX7_known cX7_known 9 (some .int)) ({ frames := 2, cells := 0, slots := 0, locals := 41 }) [.ref this, .int a0, .int a1, .int a2] D t σ (I, J, ri, rj, rq) sz 0 0 (fun (r : Int32) (u : pq_S × pq_M) => u = (σ, I, J, ri, rj, rq)) := by
  refine Met.ofW (cc := cX7_known) (maxL := 9) (ret := (some .int)) (by decide) rfl ?_
  intro p e s m args below meth c s₁ B hml hv
  obtain ⟨rfl, hsz, hP, hK, hD0, hN⟩ := hv
  have hx := B.exec
  have hb := B.bytes
  have hr := B.returns
  have hts := atoms_spec (ws := (wa yX7_known cX7_known 9 (some .int))) B.pre
  have hown : s.vm.findClass RX7 = some m.cls := findClass_of_methodNamed B.named
  have hlocks := B.notSynchronized
  subst hsz
  have hD : va_D (pq_B t σ (I, J, ri, rj, rq) s.heap.size) (pq_P t σ (I, J, ri, rj, rq)) := hD0.self
  generalize hAe : pq_B t σ (I, J, ri, rj, rq) s.heap.size = A at hD ⊢
  have hA : ∀ q : Nat, s.heap.size ≤ q → A q := fun q h => by rw [← hAe]; exact Or.inr h
  have hS : va_S A s.heap s.heap [] := va_S.rf
  have hG : GX [] tg σ I I ri rq := ⟨hG0, fun _ _ _ => rfl⟩
  have hl := lv_entry ([.ref this, .int a0, .int a1, .int a2]) (n := 9) (Nat.le_of_ble_eq_true rfl)
  rw [lg_entry_eq]
  generalize (lg_sl ([.ref this, .int a0, .int a1, .int a2]) ++ List.replicate (9 - (lg_sl ([.ref this, .int a0, .int a1, .int a2])).length) Slot.unset).toArray = ls at hl ⊢
  have hl : lv_has ls 9 [(0, .ref this), (1, .int a0), (2, .int a1), (3, .int a2)] := hl
  refine q_gen (fun Q hQ => ?_)
  have go : ∀ (H : Heap) (locs : List Loc) (ls : Array Slot), va_P D vwCl (pq_P t σ (I, J, ri, rj, rq)) H → va_D A (pq_P t σ (I, J, ri, rj, rq)) → va_S A s.heap H locs → lv_has ls 9 [(0, .ref this), (1, .int a0), (2, .int a1), (3, .int a2)] → W p l e ({ frames := 2, cells := 0, slots := 0, locals := 41 } : Room) s m (List.toArray ([.ref this, .int a0, .int a1, .int a2] : List Value)) below meth c H locs 0 0 Q (F0 m 0 ls []) := by
    intro H locs ls hP hD hS hl
    refine lv_sipush (v := (-6000)) hx hb dX7_known_0 (by decide) ?_
    refine lv_istore (lv' := [(4, .int (-6000)), (0, .ref this), (1, .int a0), (2, .int a1), (3, .int a2)]) hx hb dX7_known_3 hl (by decide) rfl (fun ls hl => ?_)
    refine lv_sipush (v := (-6000)) hx hb dX7_known_5 (by decide) ?_
    refine lv_istore (lv' := [(5, .int (-6000)), (4, .int (-6000)), (0, .ref this), (1, .int a0), (2, .int a1), (3, .int a2)]) hx hb dX7_known_8 hl (by decide) rfl (fun ls hl => ?_)
    refine lv_sipush (v := (-6000)) hx hb dX7_known_10 (by decide) ?_
    refine lv_istore (lv' := [(6, .int (-6000)), (5, .int (-6000)), (4, .int (-6000)), (0, .ref this), (1, .int a0), (2, .int a1), (3, .int a2)]) hx hb dX7_known_13 hl (by decide) rfl (fun ls hl => ?_)
    refine lv_sipush (v := (-6000)) hx hb dX7_known_15 (by decide) ?_
    refine lv_istore (lv' := [(7, .int (-6000)), (6, .int (-6000)), (5, .int (-6000)), (4, .int (-6000)), (0, .ref this), (1, .int a0), (2, .int a1), (3, .int a2)]) hx hb dX7_known_18 hl (by decide) rfl (fun ls hl => ?_)
    refine lv_iconst (v := 0) hx hb dX7_known_20 (by decide) ?_
    refine lv_istore (lv' := [(8, .int 0), (7, .int (-6000)), (6, .int (-6000)), (5, .int (-6000)), (4, .int (-6000)), (0, .ref this), (1, .int a0), (2, .int a1), (3, .int a2)]) hx hb dX7_known_21 hl (by decide) rfl (fun ls hl => ?_)
    have L_1553 : ∀ (n_ : Nat) (x_1463 : Int32) (x_1464 : Int32) (x_1465 : Int32) (x_1466 : Int32) (x_1467 : Int32) (H : Heap) (locs : List Loc) (ls : Array Slot), rg x_1466 (-6000) 2147483647 → rg x_1467 0 200 → (200 - (x_1467).toInt).toNat < n_ → GX [] tg σ I I ri rq → va_P D vwCl (pq_P t σ (I, J, ri, rj, rq)) H → va_D A (pq_P t σ (I, J, ri, rj, rq)) → va_S A s.heap H locs → lv_has ls 9 [(0, .ref this), (1, .int a0), (2, .int a1), (3, .int a2), (4, .int x_1463), (5, .int x_1464), (6, .int x_1465), (7, .int x_1466), (8, .int x_1467)] → W p l e ({ frames := 2, cells := 0, slots := 0, locals := 41 } : Room) s m (List.toArray ([.ref this, .int a0, .int a1, .int a2] : List Value)) below meth c H locs 0 0 Q (F0 m 23 ls []) := by
      intro n_
      induction n_ with
      | zero => intro x_1463 x_1464 x_1465 x_1466 x_1467 H locs ls h_1557 h_1558 hm hG hP hD hS hl; exact absurd hm (Nat.not_lt_zero _)
      | succ n_ ih_1554 =>
        intro x_1463 x_1464 x_1465 x_1466 x_1467 H locs ls h_1557 h_1558 hm hG hP hD hS hl
        refine lv_iload hx hb dX7_known_23 (lv_at hl 8 rfl) ?_
        refine lv_aload_n hx hb dX7_known_25 rfl (lv_at hl 0 rfl) ?_
        refine pg_f (v := .int (I 224 this)) (C := RX7) (T := TX7) (N := 15) hx hb hts (tw_i inlX7) hown hK hP hL_this hK_this (by decide) rfl 0 (by decide) (hts _ (tw_c tw_254)) rfl dX7_known_26 ?_
        have h_1559 : rg (I 224 this) 0 200 := GX.rI hG 224 rfl
        refine lv_icmp_ge (tgt := 144) hx hb dX7_known_29 (by decide) (fun c_1560 => ?_) (fun c_1560 => ?_)
        · refine lv_iload hx hb dX7_known_144 (lv_at hl 4 rfl) ?_
          refine pk_i (va_runS (As := [.int x_1463]) (rest := []) ⟨hx, hb, hml, hown, hts⟩ (s_X7_isNumber l D t σ I J ri rj rq H.size tg hSH hG.1 x_1463) (va_cwS 1 hts (tw_S tw_278 tw_279 tw_37 tw_280) rfl rfl rfl (by decide +kernel) ⟨Nat.le_of_ble_eq_true rfl, Nat.le_of_ble_eq_true rfl⟩) ⟨pq_blind, pq_pre hK hN hP hD⟩ rfl rfl hl.1 rfl (lv_room (Nat.le_of_ble_eq_true rfl)) dX7_known_146 ⟨Nat.le_of_ble_eq_true rfl, Nat.le_of_ble_eq_true rfl⟩) hD hS hA (fun x_1561 σ1 μ1 H locs hw_1562 hP hD hS => ?_)
          obtain ⟨hu_1563, hr_1565⟩ := hw_1562
          obtain ⟨hu_1563a, hu_1563b⟩ := Prod.mk.inj hu_1563
          rw [hu_1563a, hu_1563b] at hP hD
          have h_1566 : rg x_1561 0 1 := by rcases hr_1565 with ⟨q, -⟩ | ⟨q, -⟩ <;> rw [q] <;> exact ⟨by decide, by decide⟩
          refine lv_if_eq (tgt := 155) hx hb dX7_known_149 (by decide) (fun c_1567 => ?_) (fun c_1567 => ?_)
          · have f_1568 := (hr_1565.resolve_left (fun q => absurd (q.1.symm.trans c_1567) (by decide))).2
            have h_1569 : rg x_1561 0 0 := rg_and h_1566 (rg_of_eq c_1567 (rg_k (0 : Int32) 0 rfl)) (by decide)
            refine lv_iload hx hb dX7_known_155 (lv_at hl 4 rfl) ?_
            refine lv_sipush (v := (-5000)) hx hb dX7_known_157 (by decide) ?_
            have K_1612 : ∀  (H : Heap) (locs : List Loc) (ls : Array Slot), GX [] tg σ I I ri rq → va_P D vwCl (pq_P t σ (I, J, ri, rj, rq)) H → va_D A (pq_P t σ (I, J, ri, rj, rq)) → va_S A s.heap H locs → lv_has ls 9 [(7, .int x_1466)] → W p l e ({ frames := 2, cells := 0, slots := 0, locals := 41 } : Room) s m (List.toArray ([.ref this, .int a0, .int a1, .int a2] : List Value)) below meth c H locs 0 0 Q (F0 m 187 ls []) := by
              intro H locs ls hG hP hD hS hl
              refine lv_iload hx hb dX7_known_187 (lv_at hl 0 rfl) ?_
              refine pk_i (va_runS (As := [.int x_1466]) (rest := []) ⟨hx, hb, hml, hown, hts⟩ (s_X7_isNumber l D t σ I J ri rj rq H.size tg hSH hG.1 x_1466) (va_cwS 1 hts (tw_S tw_278 tw_279 tw_37 tw_280) rfl rfl rfl (by decide +kernel) ⟨Nat.le_of_ble_eq_true rfl, Nat.le_of_ble_eq_true rfl⟩) ⟨pq_blind, pq_pre hK hN hP hD⟩ rfl rfl hl.1 rfl (lv_room (Nat.le_of_ble_eq_true rfl)) dX7_known_189 ⟨Nat.le_of_ble_eq_true rfl, Nat.le_of_ble_eq_true rfl⟩) hD hS hA (fun x_1613 σ1 μ1 H locs hw_1614 hP hD hS => ?_)
              obtain ⟨hu_1615, hr_1617⟩ := hw_1614
              obtain ⟨hu_1615a, hu_1615b⟩ := Prod.mk.inj hu_1615
              rw [hu_1615a, hu_1615b] at hP hD
              have h_1618 : rg x_1613 0 1 := by rcases hr_1617 with ⟨q, -⟩ | ⟨q, -⟩ <;> rw [q] <;> exact ⟨by decide, by decide⟩
              refine lv_if_eq (tgt := 200) hx hb dX7_known_192 (by decide) (fun c_1619 => ?_) (fun c_1619 => ?_)
              · have f_1620 := (hr_1617.resolve_left (fun q => absurd (q.1.symm.trans c_1619) (by decide))).2
                have h_1621 : rg x_1466 (-6000) (-5000) := rg_and h_1557 f_1620 (by decide)
                have h_1622 : rg x_1613 0 0 := rg_and h_1618 (rg_of_eq c_1619 (rg_k (0 : Int32) 0 rfl)) (by decide)
                refine lv_iconst (v := 0) hx hb dX7_known_200 (by decide) ?_
                subst hQ
                exact W.iret (v := 0) hx hb hr (fun t1 ht hW => ⟨⟨0, (σ, I, J, ri, rj, rq), rfl, rfl, by rw [ht]; exact hP, va_K.moved hW.alike hK, hD⟩, hS.F ht⟩) hS.2.2 dX7_known_201
              · have f_1623 := (hr_1617.resolve_right (fun q => c_1619 q.1)).2
                have h_1624 : rg x_1613 1 1 := rg_ne c_1619 h_1618 0 rfl (by decide)
                refine lv_iload hx hb dX7_known_195 (lv_at hl 0 rfl) ?_
                refine lv_goto (tgt := 201) hx hb dX7_known_197 (by decide) ?_
                subst hQ
                exact W.iret (v := x_1466) hx hb hr (fun t1 ht hW => ⟨⟨x_1466, (σ, I, J, ri, rj, rq), rfl, rfl, by rw [ht]; exact hP, va_K.moved hW.alike hK, hD⟩, hS.F ht⟩) hS.2.2 dX7_known_201
            refine lv_icmp_ne (tgt := 187) hx hb dX7_known_160 (by decide) (fun c_1625 => ?_) (fun c_1625 => ?_)
            · have h_1626 : rg x_1463 (-2147483648) (-5001) := rg_ne c_1625 f_1568 (-5000) rfl (by decide)
              exact K_1612 _ _ _ hG hP hD hS (lv_sub hl [7] rfl)
            · have h_1627 : rg x_1463 (-5000) (-5000) := rg_and f_1568 (rg_of_eq c_1625 (rg_k (-5000 : Int32) (-5000) rfl)) (by decide)
              refine lv_iload hx hb dX7_known_163 (lv_at hl 5 rfl) ?_
              refine pk_i (va_runS (As := [.int x_1464]) (rest := []) ⟨hx, hb, hml, hown, hts⟩ (s_X7_isNumber l D t σ I J ri rj rq H.size tg hSH hG.1 x_1464) (va_cwS 1 hts (tw_S tw_278 tw_279 tw_37 tw_280) rfl rfl rfl (by decide +kernel) ⟨Nat.le_of_ble_eq_true rfl, Nat.le_of_ble_eq_true rfl⟩) ⟨pq_blind, pq_pre hK hN hP hD⟩ rfl rfl hl.1 rfl (lv_room (Nat.le_of_ble_eq_true rfl)) dX7_known_165 ⟨Nat.le_of_ble_eq_true rfl, Nat.le_of_ble_eq_true rfl⟩) hD hS hA (fun x_1628 σ1 μ1 H locs hw_1629 hP hD hS => ?_)
              obtain ⟨hu_1630, hr_1632⟩ := hw_1629
              obtain ⟨hu_1630a, hu_1630b⟩ := Prod.mk.inj hu_1630
              rw [hu_1630a, hu_1630b] at hP hD
              have h_1633 : rg x_1628 0 1 := by rcases hr_1632 with ⟨q, -⟩ | ⟨q, -⟩ <;> rw [q] <;> exact ⟨by decide, by decide⟩
              have K_1655 : ∀  (H : Heap) (locs : List Loc) (ls : Array Slot), GX [] tg σ I I ri rq → va_P D vwCl (pq_P t σ (I, J, ri, rj, rq)) H → va_D A (pq_P t σ (I, J, ri, rj, rq)) → va_S A s.heap H locs → lv_has ls 9 [(5, .int x_1464), (6, .int x_1465)] → W p l e ({ frames := 2, cells := 0, slots := 0, locals := 41 } : Room) s m (List.toArray ([.ref this, .int a0, .int a1, .int a2] : List Value)) below meth c H locs 0 0 Q (F0 m 179 ls []) := by
                intro H locs ls hG hP hD hS hl
                refine lv_iload hx hb dX7_known_179 (lv_at hl 0 rfl) ?_
                refine lv_iload hx hb dX7_known_181 (lv_at hl 1 rfl) ?_
                refine pk_i (va_runS (As := [.int x_1464, .int x_1465]) (rest := []) ⟨hx, hb, hml, hown, hts⟩ (s_X7_meanOfNumbers l D t σ I J ri rj rq H.size tg hSH hG.1 x_1464 x_1465) (va_cwS 2 hts (tw_S tw_281 tw_282 tw_37 tw_283) rfl rfl rfl (by decide +kernel) ⟨Nat.le_of_ble_eq_true rfl, Nat.le_of_ble_eq_true rfl⟩) ⟨pq_blind, pq_pre hK hN hP hD⟩ rfl rfl hl.1 rfl (lv_room (Nat.le_of_ble_eq_true rfl)) dX7_known_183 ⟨Nat.le_of_ble_eq_true rfl, Nat.le_of_ble_eq_true rfl⟩) hD hS hA (fun x_1656 σ1 μ1 H locs hw_1657 hP hD hS => ?_)
                have hu_1658 := hw_1657
                obtain ⟨hu_1658a, hu_1658b⟩ := Prod.mk.inj hu_1658
                rw [hu_1658a, hu_1658b] at hP hD
                subst hQ
                exact W.iret (v := x_1656) hx hb hr (fun t1 ht hW => ⟨⟨x_1656, (σ, I, J, ri, rj, rq), rfl, rfl, by rw [ht]; exact hP, va_K.moved hW.alike hK, hD⟩, hS.F ht⟩) hS.2.2 dX7_known_186
              refine lv_if_ne (tgt := 179) hx hb dX7_known_168 (by decide) (fun c_1661 => ?_) (fun c_1661 => ?_)
              · have f_1662 := (hr_1632.resolve_right (fun q => c_1661 q.1)).2
                have h_1663 : rg x_1628 1 1 := rg_ne c_1661 h_1633 0 rfl (by decide)
                exact K_1655 _ _ _ hG hP hD hS (lv_sub hl [5, 6] rfl)
              · have f_1664 := (hr_1632.resolve_left (fun q => absurd (q.1.symm.trans c_1661) (by decide))).2
                have h_1665 : rg x_1628 0 0 := rg_and h_1633 (rg_of_eq c_1661 (rg_k (0 : Int32) 0 rfl)) (by decide)
                refine lv_iload hx hb dX7_known_171 (lv_at hl 6 rfl) ?_
                refine pk_i (va_runS (As := [.int x_1465]) (rest := []) ⟨hx, hb, hml, hown, hts⟩ (s_X7_isNumber l D t σ I J ri rj rq H.size tg hSH hG.1 x_1465) (va_cwS 1 hts (tw_S tw_278 tw_279 tw_37 tw_280) rfl rfl rfl (by decide +kernel) ⟨Nat.le_of_ble_eq_true rfl, Nat.le_of_ble_eq_true rfl⟩) ⟨pq_blind, pq_pre hK hN hP hD⟩ rfl rfl hl.1 rfl (lv_room (Nat.le_of_ble_eq_true rfl)) dX7_known_173 ⟨Nat.le_of_ble_eq_true rfl, Nat.le_of_ble_eq_true rfl⟩) hD hS hA (fun x_1666 σ1 μ1 H locs hw_1667 hP hD hS => ?_)
                obtain ⟨hu_1668, hr_1670⟩ := hw_1667
                obtain ⟨hu_1668a, hu_1668b⟩ := Prod.mk.inj hu_1668
                rw [hu_1668a, hu_1668b] at hP hD
                have h_1671 : rg x_1666 0 1 := by rcases hr_1670 with ⟨q, -⟩ | ⟨q, -⟩ <;> rw [q] <;> exact ⟨by decide, by decide⟩
                refine lv_if_eq (tgt := 187) hx hb dX7_known_176 (by decide) (fun c_1672 => ?_) (fun c_1672 => ?_)
                · have f_1673 := (hr_1670.resolve_left (fun q => absurd (q.1.symm.trans c_1672) (by decide))).2
                  have h_1674 : rg x_1666 0 0 := rg_and h_1671 (rg_of_eq c_1672 (rg_k (0 : Int32) 0 rfl)) (by decide)
                  exact K_1612 _ _ _ hG hP hD hS (lv_sub hl [7] rfl)
                · have f_1675 := (hr_1670.resolve_right (fun q => c_1672 q.1)).2
                  have h_1676 : rg x_1666 1 1 := rg_ne c_1672 h_1671 0 rfl (by decide)
                  exact K_1655 _ _ _ hG hP hD hS (lv_sub hl [5, 6] rfl)
          · have f_1677 := (hr_1565.resolve_right (fun q => c_1567 q.1)).2
            have h_1678 : rg x_1561 1 1 := rg_ne c_1567 h_1566 0 rfl (by decide)
            refine lv_iload hx hb dX7_known_152 (lv_at hl 4 rfl) ?_
            subst hQ
            exact W.iret (v := x_1463) hx hb hr (fun t1 ht hW => ⟨⟨x_1463, (σ, I, J, ri, rj, rq), rfl, rfl, by rw [ht]; exact hP, va_K.moved hW.alike hK, hD⟩, hS.F ht⟩) hS.2.2 dX7_known_154
        · have h_1679 : rg x_1467 0 199 := rg_lt1 (nle c_1560) h_1558 h_1559 (by decide)
          have h_1680 : rg (I 224 this) 1 200 := rg_lt2 (nle c_1560) h_1558 h_1559 (by decide)
          refine lv_aload_n hx hb dX7_known_32 rfl (lv_at hl 0 rfl) ?_
          obtain ⟨w_1681, hR_w_1681, hL_w_1681, hK_w_1681, hN_w_1681, hT_w_1681⟩ := sh_a hSH 225 (ci := 7) (kd := 13) (len := 200) rfl (by decide) hL_this hK_this
          refine pg_f (v := .ref w_1681) (C := RX7) (T := TX7) (N := 15) hx hb hts (tw_i inlX7) hown hK hP hL_this hK_this (by decide) rfl 1 (by decide) (hts _ (tw_c tw_61)) (pq_hv rfl hR_w_1681) dX7_known_33 ?_
          refine lv_iload hx hb dX7_known_36 (lv_at hl 8 rfl) ?_
          refine pl_i hx hb hK hP hL_w_1681 hK_w_1681 hN_w_1681 (rg_in h_1679 (by decide)) dX7_known_38 ?_
          refine lv_topi (fun x_1682 ex_1682 => ?_)
          refine lv_iload_n hx hb dX7_known_39 rfl (lv_at hl 1 rfl) ?_
          have K_1707 : ∀  (x_1700 : Int32) (x_1701 : Int32) (x_1702 : Int32) (x_1703 : Int32) (H : Heap) (locs : List Loc) (ls : Array Slot), rg x_1703 (-6000) 2147483647 → GX [] tg σ I I ri rq → va_P D vwCl (pq_P t σ (I, J, ri, rj, rq)) H → va_D A (pq_P t σ (I, J, ri, rj, rq)) → va_S A s.heap H locs → lv_has ls 9 [(0, .ref this), (1, .int a0), (2, .int a1), (3, .int a2), (4, .int x_1700), (5, .int x_1701), (6, .int x_1702), (7, .int x_1703), (8, .int x_1467)] → W p l e ({ frames := 2, cells := 0, slots := 0, locals := 41 } : Room) s m (List.toArray ([.ref this, .int a0, .int a1, .int a2] : List Value)) below meth c H locs 0 0 Q (F0 m 138 ls []) := by
            intro x_1700 x_1701 x_1702 x_1703 H locs ls h_1709 hG hP hD hS hl
            obtain ⟨x_1710, ex_1710⟩ : ∃ y : Int32, y = x_1467 + Int32.ofInt 1 := ⟨_, rfl⟩
            have h_1711 : rg x_1710 1 200 := rg_of_eq ex_1710 (rg_add h_1679 (rg_k (Int32.ofInt 1) 1 rfl) (by decide))
            refine lv_iinc (v := x_1710) (lv' := [(8, .int x_1710), (0, .ref this), (1, .int a0), (2, .int a1), (3, .int a2), (4, .int x_1700), (5, .int x_1701), (6, .int x_1702), (7, .int x_1703)]) hx hb dX7_known_138 hl (k := 8) rfl ex_1710.symm (by decide) rfl (fun ls hl => ?_)
            refine lv_goto (tgt := 23) hx hb dX7_known_141 (by decide) ?_
            exact ih_1554 x_1700 x_1701 x_1702 x_1703 x_1710 _ _ _ (rg_w h_1709 (by decide)) (rg_w h_1711 (by decide)) (ms_up 1 hm ex_1710 rfl (by decide) h_1679 (by decide) (by decide)) hG hP hD hS (lv_sub hl [1, 2, 3, 4, 5, 6, 7, 8, 0] rfl)
          refine lv_icmp_ne (tgt := 138) hx hb dX7_known_40 (by decide) (fun c_1712 => ?_) (fun c_1712 => ?_)
          · exact K_1707 x_1463 x_1464 x_1465 x_1466 _ _ _ (rg_w h_1557 (by decide)) hG hP hD hS (lv_sub hl [0, 1, 2, 3, 4, 5, 6, 7, 8] rfl)
          · refine lv_aload_n hx hb dX7_known_43 rfl (lv_at hl 0 rfl) ?_
            obtain ⟨w_1713, hR_w_1713, hL_w_1713, hK_w_1713, hN_w_1713, hT_w_1713⟩ := sh_a hSH 228 (ci := 7) (kd := 13) (len := 200) rfl (by decide) hL_this hK_this
            refine pg_f (v := .ref w_1713) (C := RX7) (T := TX7) (N := 15) hx hb hts (tw_i inlX7) hown hK hP hL_this hK_this (by decide) rfl 4 (by decide) (hts _ (tw_c tw_64)) (pq_hv rfl hR_w_1713) dX7_known_44 ?_
            refine lv_iload hx hb dX7_known_47 (lv_at hl 8 rfl) ?_
            refine pl_i hx hb hK hP hL_w_1713 hK_w_1713 hN_w_1713 (rg_in h_1679 (by decide)) dX7_known_49 ?_
            refine lv_topi (fun x_1714 ex_1714 => ?_)
            refine lv_iload_n hx hb dX7_known_50 rfl (lv_at hl 3 rfl) ?_
            refine lv_icmp_gt (tgt := 138) hx hb dX7_known_51 (by decide) (fun c_1715 => ?_) (fun c_1715 => ?_)
            · have h_1716 : rg a2 (-2147483648) 2147483646 := rg_lt1 c_1715 (rg_full _) (rg_full _) (by decide)
              have h_1717 : rg x_1714 (-2147483647) 2147483647 := rg_lt2 c_1715 (rg_full _) (rg_full _) (by decide)
              exact K_1707 x_1463 x_1464 x_1465 x_1466 _ _ _ (rg_w h_1557 (by decide)) hG hP hD hS (lv_sub hl [0, 1, 2, 3, 4, 5, 6, 7, 8] rfl)
            · refine lv_iload hx hb dX7_known_54 (lv_at hl 7 rfl) ?_
              refine lv_aload_n hx hb dX7_known_56 rfl (lv_at hl 0 rfl) ?_
              obtain ⟨w_1718, hR_w_1718, hL_w_1718, hK_w_1718, hN_w_1718, hT_w_1718⟩ := sh_a hSH 227 (ci := 7) (kd := 13) (len := 200) rfl (by decide) hL_this hK_this
              refine pg_f (v := .ref w_1718) (C := RX7) (T := TX7) (N := 15) hx hb hts (tw_i inlX7) hown hK hP hL_this hK_this (by decide) rfl 3 (by decide) (hts _ (tw_c tw_63)) (pq_hv rfl hR_w_1718) dX7_known_57 ?_
              refine lv_iload hx hb dX7_known_60 (lv_at hl 8 rfl) ?_
              refine pl_i hx hb hK hP hL_w_1718 hK_w_1718 hN_w_1718 (rg_in h_1679 (by decide)) dX7_known_62 ?_
              refine lv_topi (fun x_1719 ex_1719 => ?_)
              refine va_mmax hx hb (hml.trans hl.1.symm) hown (hts _ (tw_c tw_274)) (hts _ (tw_c tw_275)) (hts _ (tw_c tw_276)) (hts _ (tw_c tw_277)) (Nat.le_of_ble_eq_true rfl) (Nat.le_of_ble_eq_true rfl) (Nat.zero_le _) (Nat.zero_le _) dX7_known_63 ?_
              refine lv_topi (fun x_1720 ex_1720 => ?_)
              have h_1721 : rg x_1720 (-6000) 2147483647 := rg_of_eq ex_1720 (rg_max2 h_1557 (rg_full _) (by decide))
              refine lv_istore (lv' := [(7, .int x_1720), (0, .ref this), (1, .int a0), (2, .int a1), (3, .int a2), (4, .int x_1463), (5, .int x_1464), (6, .int x_1465), (8, .int x_1467)]) hx hb dX7_known_66 hl (by decide) rfl (fun ls hl => ?_)
              refine lv_aload_n hx hb dX7_known_68 rfl (lv_at hl 1 rfl) ?_
              obtain ⟨w_1722, hR_w_1722, hL_w_1722, hK_w_1722, hN_w_1722, hT_w_1722⟩ := sh_a hSH 226 (ci := 7) (kd := 13) (len := 200) rfl (by decide) hL_this hK_this
              refine pg_f (v := .ref w_1722) (C := RX7) (T := TX7) (N := 15) hx hb hts (tw_i inlX7) hown hK hP hL_this hK_this (by decide) rfl 2 (by decide) (hts _ (tw_c tw_62)) (pq_hv rfl hR_w_1722) dX7_known_69 ?_
              refine lv_iload hx hb dX7_known_72 (lv_at hl 8 rfl) ?_
              refine pl_i hx hb hK hP hL_w_1722 hK_w_1722 hN_w_1722 (rg_in h_1679 (by decide)) dX7_known_74 ?_
              refine lv_topi (fun x_1723 ex_1723 => ?_)
              refine lv_iload_n hx hb dX7_known_75 rfl (lv_at hl 3 rfl) ?_
              refine lv_icmp_ne (tgt := 91) hx hb dX7_known_76 (by decide) (fun c_1724 => ?_) (fun c_1724 => ?_)
              · refine lv_aload_n hx hb dX7_known_91 rfl (lv_at hl 1 rfl) ?_
                refine pg_f (v := .ref w_1722) (C := RX7) (T := TX7) (N := 15) hx hb hts (tw_i inlX7) hown hK hP hL_this hK_this (by decide) rfl 2 (by decide) (hts _ (tw_c tw_62)) (pq_hv rfl hR_w_1722) dX7_known_92 ?_
                refine lv_iload hx hb dX7_known_95 (lv_at hl 8 rfl) ?_
                refine pl_i hx hb hK hP hL_w_1722 hK_w_1722 hN_w_1722 (rg_in h_1679 (by decide)) dX7_known_97 ?_
                refine lv_tov x_1723 ex_1723.symm ?_
                refine lv_iload_n hx hb dX7_known_98 rfl (lv_at hl 3 rfl) ?_
                refine lv_iconst (v := 1) hx hb dX7_known_99 (by decide) ?_
                refine lv_isub hx hb dX7_known_100 ?_
                refine lv_topi (fun x_1725 ex_1725 => ?_)
                refine lv_icmp_ne (tgt := 116) hx hb dX7_known_101 (by decide) (fun c_1726 => ?_) (fun c_1726 => ?_)
                · refine lv_aload_n hx hb dX7_known_116 rfl (lv_at hl 1 rfl) ?_
                  refine pg_f (v := .ref w_1722) (C := RX7) (T := TX7) (N := 15) hx hb hts (tw_i inlX7) hown hK hP hL_this hK_this (by decide) rfl 2 (by decide) (hts _ (tw_c tw_62)) (pq_hv rfl hR_w_1722) dX7_known_117 ?_
                  refine lv_iload hx hb dX7_known_120 (lv_at hl 8 rfl) ?_
                  refine pl_i hx hb hK hP hL_w_1722 hK_w_1722 hN_w_1722 (rg_in h_1679 (by decide)) dX7_known_122 ?_
                  refine lv_tov x_1723 ex_1723.symm ?_
                  refine lv_iload_n hx hb dX7_known_123 rfl (lv_at hl 3 rfl) ?_
                  refine lv_iconst (v := 1) hx hb dX7_known_124 (by decide) ?_
                  refine lv_iadd hx hb dX7_known_125 ?_
                  refine lv_topi (fun x_1727 ex_1727 => ?_)
                  refine lv_icmp_ne (tgt := 138) hx hb dX7_known_126 (by decide) (fun c_1728 => ?_) (fun c_1728 => ?_)
                  · exact K_1707 x_1463 x_1464 x_1465 x_1720 _ _ _ (rg_w h_1721 (by decide)) hG hP hD hS (lv_sub hl [1, 2, 3, 4, 5, 6, 7, 0, 8] rfl)
                  · refine lv_aload_n hx hb dX7_known_129 rfl (lv_at hl 1 rfl) ?_
                    refine pg_f (v := .ref w_1718) (C := RX7) (T := TX7) (N := 15) hx hb hts (tw_i inlX7) hown hK hP hL_this hK_this (by decide) rfl 3 (by decide) (hts _ (tw_c tw_63)) (pq_hv rfl hR_w_1718) dX7_known_130 ?_
                    refine lv_iload hx hb dX7_known_133 (lv_at hl 8 rfl) ?_
                    refine pl_i hx hb hK hP hL_w_1718 hK_w_1718 hN_w_1718 (rg_in h_1679 (by decide)) dX7_known_135 ?_
                    refine lv_tov x_1719 ex_1719.symm ?_
                    refine lv_istore (lv' := [(6, .int x_1719), (7, .int x_1720), (0, .ref this), (1, .int a0), (2, .int a1), (3, .int a2), (4, .int x_1463), (5, .int x_1464), (8, .int x_1467)]) hx hb dX7_known_136 hl (by decide) rfl (fun ls hl => ?_)
                    exact K_1707 x_1463 x_1464 x_1719 x_1720 _ _ _ (rg_w h_1721 (by decide)) hG hP hD hS (lv_sub hl [2, 3, 4, 5, 6, 7, 0, 1, 8] rfl)
                · refine lv_aload_n hx hb dX7_known_104 rfl (lv_at hl 1 rfl) ?_
                  refine pg_f (v := .ref w_1718) (C := RX7) (T := TX7) (N := 15) hx hb hts (tw_i inlX7) hown hK hP hL_this hK_this (by decide) rfl 3 (by decide) (hts _ (tw_c tw_63)) (pq_hv rfl hR_w_1718) dX7_known_105 ?_
                  refine lv_iload hx hb dX7_known_108 (lv_at hl 8 rfl) ?_
                  refine pl_i hx hb hK hP hL_w_1718 hK_w_1718 hN_w_1718 (rg_in h_1679 (by decide)) dX7_known_110 ?_
                  refine lv_tov x_1719 ex_1719.symm ?_
                  refine lv_istore (lv' := [(5, .int x_1719), (7, .int x_1720), (0, .ref this), (1, .int a0), (2, .int a1), (3, .int a2), (4, .int x_1463), (6, .int x_1465), (8, .int x_1467)]) hx hb dX7_known_111 hl (by decide) rfl (fun ls hl => ?_)
                  refine lv_goto (tgt := 138) hx hb dX7_known_113 (by decide) ?_
                  exact K_1707 x_1463 x_1719 x_1465 x_1720 _ _ _ (rg_w h_1721 (by decide)) hG hP hD hS (lv_sub hl [2, 3, 4, 5, 6, 0, 7, 1, 8] rfl)
              · refine lv_aload_n hx hb dX7_known_79 rfl (lv_at hl 1 rfl) ?_
                refine pg_f (v := .ref w_1718) (C := RX7) (T := TX7) (N := 15) hx hb hts (tw_i inlX7) hown hK hP hL_this hK_this (by decide) rfl 3 (by decide) (hts _ (tw_c tw_63)) (pq_hv rfl hR_w_1718) dX7_known_80 ?_
                refine lv_iload hx hb dX7_known_83 (lv_at hl 8 rfl) ?_
                refine pl_i hx hb hK hP hL_w_1718 hK_w_1718 hN_w_1718 (rg_in h_1679 (by decide)) dX7_known_85 ?_
                refine lv_tov x_1719 ex_1719.symm ?_
                refine lv_istore (lv' := [(4, .int x_1719), (7, .int x_1720), (0, .ref this), (1, .int a0), (2, .int a1), (3, .int a2), (5, .int x_1464), (6, .int x_1465), (8, .int x_1467)]) hx hb dX7_known_86 hl (by decide) rfl (fun ls hl => ?_)
                refine lv_goto (tgt := 138) hx hb dX7_known_88 (by decide) ?_
                exact K_1707 x_1719 x_1464 x_1465 x_1720 _ _ _ (rg_w h_1721 (by decide)) hG hP hD hS (lv_sub hl [2, 3, 4, 5, 0, 6, 7, 1, 8] rfl)
    exact L_1553 _ (-6000 : Int32) (-6000 : Int32) (-6000 : Int32) (-6000 : Int32) (0 : Int32) _ _ _ (rg_w (rg_k (-6000 : Int32) (-6000) rfl) (by decide)) (rg_w (rg_k (0 : Int32) 0 rfl) (by decide)) (Nat.lt_succ_self _) hG hP hD hS (lv_sub hl [5, 6, 7, 8, 4, 3, 2, 1, 0] rfl)
  exact go _ _ _ hP hD hS hl

set_option maxHeartbeats 4000000 in
set_option maxRecDepth 100000 in
theorem s_X10_nature (l : Launch) (D : va_G) (t : pq_T) (σ : pq_S) (I : Nat → Nat → Int32) (J : Nat → Nat → Int64) (ri : Nat → Nat → Int32) (rj : Nat → Nat → Int64) (rq : Nat → Nat → Option Nat) (sz : Nat) (tg : Nat → Nat) (hSH : SH σ tg) (hG0 : GS tg σ I ri rq) (this : Nat) (a0 : Int32) (hL_this : this ∈ σ.1) (hK_this : σ.2.1 this = 10) : MetV l yX10_nature (wa yX10_nature cX10_nature 4 none) ({ frames := 3, cells := 0, slots := 0, locals := 69 }) [.ref this, .int a0] D t σ (I, J, ri, rj, rq) sz 0 0 (fun (u : pq_S × pq_M) => ∃ I' : Nat → Nat → Int32, ∃ J' : Nat → Nat → Int64, ∃ ri' : Nat → Nat → Int32, ∃ rj' : Nat → Nat → Int64, u = (σ, I', J', ri', rj', rq) ∧ GX [] tg σ I I' ri' rq) := by
  refine Met.ofW (cc := cX10_nature) (maxL := 4) (ret := none) (by decide) rfl ?_
  intro p e s m args below meth c s₁ B hml hv
  obtain ⟨rfl, hsz, hP, hK, hD0, hN⟩ := hv
  have hx := B.exec
  have hb := B.bytes
  have hr := B.returns
  have hts := atoms_spec (ws := (wa yX10_nature cX10_nature 4 none)) B.pre
  have hown : s.vm.findClass RX10 = some m.cls := findClass_of_methodNamed B.named
  have hlocks := B.notSynchronized
  subst hsz
  have hD : va_D (pq_B t σ (I, J, ri, rj, rq) s.heap.size) (pq_P t σ (I, J, ri, rj, rq)) := hD0.self
  generalize hAe : pq_B t σ (I, J, ri, rj, rq) s.heap.size = A at hD ⊢
  have hA : ∀ q : Nat, s.heap.size ≤ q → A q := fun q h => by rw [← hAe]; exact Or.inr h
  have hS : va_S A s.heap s.heap [] := va_S.rf
  have hG : GX [] tg σ I I ri rq := ⟨hG0, fun _ _ _ => rfl⟩
  have hl := lv_entry ([.ref this, .int a0]) (n := 4) (Nat.le_of_ble_eq_true rfl)
  rw [lg_entry_eq]
  generalize (lg_sl ([.ref this, .int a0]) ++ List.replicate (4 - (lg_sl ([.ref this, .int a0])).length) Slot.unset).toArray = ls at hl ⊢
  have hl : lv_has ls 4 [(0, .ref this), (1, .int a0)] := hl
  refine q_gen (fun Q hQ => ?_)
  have go : ∀ (H : Heap) (locs : List Loc) (ls : Array Slot), va_P D vwCl (pq_P t σ (I, J, ri, rj, rq)) H → va_D A (pq_P t σ (I, J, ri, rj, rq)) → va_S A s.heap H locs → lv_has ls 4 [(0, .ref this), (1, .int a0)] → W p l e ({ frames := 3, cells := 0, slots := 0, locals := 69 } : Room) s m (List.toArray ([.ref this, .int a0] : List Value)) below meth c H locs 0 0 Q (F0 m 0 ls []) := by
    intro H locs ls hP hD hS hl
    refine lv_aload_n hx hb dX10_nature_0 rfl (lv_at hl 0 rfl) ?_
    refine pg_f (v := .int (I 320 this)) (C := RX10) (T := TX10) (N := 13) hx hb hts (tw_i inlX10) hown hK hP hL_this hK_this (by decide) rfl 0 (by decide) (hts _ (tw_c tw_457)) rfl dX10_nature_1 ?_
    have h_1 : rg (I 320 this) 0 600 := GX.rI hG 320 rfl
    refine lv_sipush (v := 600) hx hb dX10_nature_4 (by decide) ?_
    refine lv_icmp_lt (tgt := 11) hx hb dX10_nature_7 (by decide) (fun c_2 => ?_) (fun c_2 => ?_)
    · have h_3 : rg (I 320 this) 0 599 := rg_lt1 c_2 h_1 (rg_k (600 : Int32) 600 rfl) (by decide)
      refine lv_aload_n hx hb dX10_nature_11 rfl (lv_at hl 0 rfl) ?_
      refine pg_f (v := .int (I 320 this)) (C := RX10) (T := TX10) (N := 13) hx hb hts (tw_i inlX10) hown hK hP hL_this hK_this (by decide) rfl 0 (by decide) (hts _ (tw_c tw_457)) rfl dX10_nature_12 ?_
      refine lv_bipush (v := 12) hx hb dX10_nature_15 (by decide) ?_
      refine lv_irem hx hb dX10_nature_17 (by decide) ?_
      refine lv_topi (fun x_4 ex_4 => ?_)
      have h_5 : rg x_4 0 11 := rg_of_eq ex_4 (rg_rem h_3 rfl (by decide))
      refine lv_istore_n (lv' := [(2, .int x_4), (0, .ref this), (1, .int a0)]) hx hb dX10_nature_18 rfl hl (by decide) rfl (fun ls hl => ?_)
      refine lv_aload_n hx hb dX10_nature_19 rfl (lv_at hl 1 rfl) ?_
      obtain ⟨w_6, hR_w_6, hL_w_6, hK_w_6⟩ := sh_o hSH 326 (ci := 10) (kd := 7) rfl hL_this hK_this
      refine pg_f (v := .ref w_6) (C := RX10) (T := TX10) (N := 13) hx hb hts (tw_i inlX10) hown hK hP hL_this hK_this (by decide) rfl 6 (by decide) (hts _ (tw_c tw_38)) (pq_hv rfl hR_w_6) dX10_nature_20 ?_
      refine lv_iload_n hx hb dX10_nature_23 rfl (lv_at hl 2 rfl) ?_
      refine lv_aload_n hx hb dX10_nature_24 rfl (lv_at hl 1 rfl) ?_
      refine pg_f (v := .int (I 320 this)) (C := RX10) (T := TX10) (N := 13) hx hb hts (tw_i inlX10) hown hK hP hL_this hK_this (by decide) rfl 0 (by decide) (hts _ (tw_c tw_457)) rfl dX10_nature_25 ?_
      refine lv_aload_n hx hb dX10_nature_28 rfl (lv_at hl 1 rfl) ?_
      refine pg_f (v := .int (I 320 this)) (C := RX10) (T := TX10) (N := 13) hx hb hts (tw_i inlX10) hown hK hP hL_this hK_this (by decide) rfl 0 (by decide) (hts _ (tw_c tw_457)) rfl dX10_nature_29 ?_
      refine pk_i (va_runV (As := [.int a0, .int (I 320 this), .int (I 320 this)]) (rest := []) ⟨hx, hb, hml, hown, hts⟩ (s_X7_known l D t σ I J ri rj rq H.size tg hSH hG.1 w_6 a0 (I 320 this) (I 320 this) hL_w_6 hK_w_6) (cwV 3 hts (tw_V tw_1058 tw_271 tw_272 tw_37 tw_273) rfl rfl rfl (by decide +kernel) ⟨Nat.le_of_ble_eq_true rfl, Nat.le_of_ble_eq_true rfl⟩) ⟨pq_blind, pq_recv hK hP hL_w_6 hK_w_6 (by decide) rfl, pq_pre hK hN hP hD⟩ rfl rfl hl.1 rfl (lv_room (Nat.le_of_ble_eq_true rfl)) dX10_nature_32 ⟨Nat.le_of_ble_eq_true rfl, Nat.le_of_ble_eq_true rfl⟩) hD hS hA (fun x_7 σ1 μ1 H locs hw_8 hP hD hS => ?_)
      have hu_9 := hw_8
      obtain ⟨hu_9a, hu_9b⟩ := Prod.mk.inj hu_9
      rw [hu_9a, hu_9b] at hP hD
      refine lv_istore_n (lv' := [(3, .int x_7), (2, .int x_4), (0, .ref this), (1, .int a0)]) hx hb dX10_nature_35 rfl hl (by decide) rfl (fun ls hl => ?_)
      refine lv_aload_n hx hb dX10_nature_36 rfl (lv_at hl 2 rfl) ?_
      obtain ⟨w_12, hR_w_12, hL_w_12, hK_w_12⟩ := sh_o hSH 327 (ci := 10) (kd := 2) rfl hL_this hK_this
      refine pg_f (v := .ref w_12) (C := RX10) (T := TX10) (N := 13) hx hb hts (tw_i inlX10) hown hK hP hL_this hK_this (by decide) rfl 7 (by decide) (hts _ (tw_c tw_42)) (pq_hv rfl hR_w_12) dX10_nature_37 ?_
      refine lv_aload_n hx hb dX10_nature_40 rfl (lv_at hl 2 rfl) ?_
      refine pg_f (v := .ref w_6) (C := RX10) (T := TX10) (N := 13) hx hb hts (tw_i inlX10) hown hK hP hL_this hK_this (by decide) rfl 6 (by decide) (hts _ (tw_c tw_38)) (pq_hv rfl hR_w_6) dX10_nature_41 ?_
      obtain ⟨w_13, hR_w_13, hL_w_13, hK_w_13, hN_w_13, hT_w_13⟩ := sh_a hSH 231 (ci := 7) (kd := 13) (len := 12) rfl (by decide) hL_w_6 hK_w_6
      refine pg_f (v := .ref w_13) (C := RX7) (T := TX7) (N := 15) hx hb hts (tw_i inlX7) hown hK hP hL_w_6 hK_w_6 (by decide) rfl 7 (by decide) (hts _ (tw_c tw_1051)) (pq_hv rfl hR_w_13) dX10_nature_44 ?_
      refine lv_iload_n hx hb dX10_nature_47 rfl (lv_at hl 1 rfl) ?_
      refine pl_i hx hb hK hP hL_w_13 hK_w_13 hN_w_13 (rg_in h_5 (by decide)) dX10_nature_48 ?_
      refine lv_topi (fun x_14 ex_14 => ?_)
      refine lv_aload_n hx hb dX10_nature_49 rfl (lv_at hl 2 rfl) ?_
      refine pg_f (v := .ref w_6) (C := RX10) (T := TX10) (N := 13) hx hb hts (tw_i inlX10) hown hK hP hL_this hK_this (by decide) rfl 6 (by decide) (hts _ (tw_c tw_38)) (pq_hv rfl hR_w_6) dX10_nature_50 ?_
      refine pg_f (v := .int (I 234 w_6)) (C := RX7) (T := TX7) (N := 15) hx hb hts (tw_i inlX7) hown hK hP hL_w_6 hK_w_6 (by decide) rfl 10 (by decide) (hts _ (tw_c tw_1052)) rfl dX10_nature_53 ?_
      have K_56 : ∀  (x_19 : Int32) (H : Heap) (locs : List Loc) (ls : Array Slot), GX [] tg σ I I ri rq → va_P D vwCl (pq_P t σ (I, J, ri, rj, rq)) H → va_D A (pq_P t σ (I, J, ri, rj, rq)) → va_S A s.heap H locs → lv_has ls 4 [(0, .ref this), (2, .int x_4), (3, .int x_7)] → W p l e ({ frames := 3, cells := 0, slots := 0, locals := 69 } : Room) s m (List.toArray ([.ref this, .int a0] : List Value)) below meth c H locs 0 0 Q (F0 m 77 ls [.int x_19, .ref w_12]) := by
        intro x_19 H locs ls hG hP hD hS hl
        refine pk_v (va_runV (As := [.int x_19]) (rest := []) ⟨hx, hb, hml, hown, hts⟩ (s_X2_growReef l D t σ I J ri rj rq H.size tg hSH hG.1 w_12 x_19 hL_w_12 hK_w_12) (cwV 1 hts (tw_V tw_1059 tw_1060 tw_1061 tw_41 tw_1062) rfl rfl rfl (by decide +kernel) ⟨Nat.le_of_ble_eq_true rfl, Nat.le_of_ble_eq_true rfl⟩) ⟨pq_blind, pq_recv hK hP hL_w_12 hK_w_12 (by decide) rfl, pq_pre hK hN hP hD⟩ rfl rfl hl.1 rfl (lv_room (Nat.le_of_ble_eq_true rfl)) dX10_nature_77 ⟨Nat.le_of_ble_eq_true rfl, Nat.le_of_ble_eq_true rfl⟩) hD hS hA (fun σ1 μ1 H locs hw_58 hP hD hS => ?_)
        obtain ⟨ri_59, hu_60, hg_61⟩ := hw_58
        obtain ⟨hu_60a, hu_60b⟩ := Prod.mk.inj hu_60
        rw [hu_60a, hu_60b] at hP hD
        have hG := GX.tr hG hg_61 (by decide)
        refine lv_aload_n hx hb dX10_nature_80 rfl (lv_at hl 0 rfl) ?_
        refine pg_f (v := .ref w_12) (C := RX10) (T := TX10) (N := 13) hx hb hts (tw_i inlX10) hown hK hP hL_this hK_this (by decide) rfl 7 (by decide) (hts _ (tw_c tw_42)) (pq_hv rfl hR_w_12) dX10_nature_81 ?_
        refine lv_aload_n hx hb dX10_nature_84 rfl (lv_at hl 0 rfl) ?_
        refine pg_f (v := .ref w_6) (C := RX10) (T := TX10) (N := 13) hx hb hts (tw_i inlX10) hown hK hP hL_this hK_this (by decide) rfl 6 (by decide) (hts _ (tw_c tw_38)) (pq_hv rfl hR_w_6) dX10_nature_85 ?_
        obtain ⟨w_63, hR_w_63, hL_w_63, hK_w_63, hN_w_63, hT_w_63⟩ := sh_a hSH 232 (ci := 7) (kd := 13) (len := 12) rfl (by decide) hL_w_6 hK_w_6
        refine pg_f (v := .ref w_63) (C := RX7) (T := TX7) (N := 15) hx hb hts (tw_i inlX7) hown hK hP hL_w_6 hK_w_6 (by decide) rfl 8 (by decide) (hts _ (tw_c tw_1055)) (pq_hv rfl hR_w_63) dX10_nature_88 ?_
        refine lv_iload_n hx hb dX10_nature_91 rfl (lv_at hl 1 rfl) ?_
        refine pl_i hx hb hK hP hL_w_63 hK_w_63 hN_w_63 (rg_in h_5 (by decide)) dX10_nature_92 ?_
        refine lv_topi (fun x_64 ex_64 => ?_)
        refine pk_v (va_runV (As := [.int x_64]) (rest := []) ⟨hx, hb, hml, hown, hts⟩ (s_X2_walk l D t σ I J ri_59 rj rq H.size tg hSH hG.1 w_12 x_64 hL_w_12 hK_w_12) (cwV 1 hts (tw_V tw_1065 tw_1066 tw_1067 tw_41 tw_1068) rfl rfl rfl (by decide +kernel) ⟨Nat.le_of_ble_eq_true rfl, Nat.le_of_ble_eq_true rfl⟩) ⟨pq_blind, pq_recv hK hP hL_w_12 hK_w_12 (by decide) rfl, pq_pre hK hN hP hD⟩ rfl rfl hl.1 rfl (lv_room (Nat.le_of_ble_eq_true rfl)) dX10_nature_93 ⟨Nat.le_of_ble_eq_true rfl, Nat.le_of_ble_eq_true rfl⟩) hD hS hA (fun σ1 μ1 H locs hw_66 hP hD hS => ?_)
        obtain ⟨I_67, ri_68, hu_69, hg_70⟩ := hw_66
        obtain ⟨hu_69a, hu_69b⟩ := Prod.mk.inj hu_69
        rw [hu_69a, hu_69b] at hP hD
        have hG := GX.tr hG hg_70 (by decide)
        refine lv_aload_n hx hb dX10_nature_96 rfl (lv_at hl 0 rfl) ?_
        refine pg_f (v := .ref w_12) (C := RX10) (T := TX10) (N := 13) hx hb hts (tw_i inlX10) hown hK hP hL_this hK_this (by decide) rfl 7 (by decide) (hts _ (tw_c tw_42)) (pq_hv rfl hR_w_12) dX10_nature_97 ?_
        refine lv_aload_n hx hb dX10_nature_100 rfl (lv_at hl 0 rfl) ?_
        refine pg_f (v := .int (I_67 320 this)) (C := RX10) (T := TX10) (N := 13) hx hb hts (tw_i inlX10) hown hK hP hL_this hK_this (by decide) rfl 0 (by decide) (hts _ (tw_c tw_457)) rfl dX10_nature_101 ?_
        have h_72 : rg (I_67 320 this) 0 599 := (by rw [hG.2 320 (by decide) (by decide)]; exact h_3)
        refine lv_iload_n hx hb dX10_nature_104 rfl (lv_at hl 2 rfl) ?_
        refine lv_aload_n hx hb dX10_nature_105 rfl (lv_at hl 0 rfl) ?_
        refine pg_f (v := .ref w_6) (C := RX10) (T := TX10) (N := 13) hx hb hts (tw_i inlX10) hown hK hP hL_this hK_this (by decide) rfl 6 (by decide) (hts _ (tw_c tw_38)) (pq_hv rfl hR_w_6) dX10_nature_106 ?_
        obtain ⟨w_73, hR_w_73, hL_w_73, hK_w_73, hN_w_73, hT_w_73⟩ := sh_a hSH 230 (ci := 7) (kd := 13) (len := 12) rfl (by decide) hL_w_6 hK_w_6
        refine pg_f (v := .ref w_73) (C := RX7) (T := TX7) (N := 15) hx hb hts (tw_i inlX7) hown hK hP hL_w_6 hK_w_6 (by decide) rfl 6 (by decide) (hts _ (tw_c tw_1056)) (pq_hv rfl hR_w_73) dX10_nature_109 ?_
        refine lv_iload_n hx hb dX10_nature_112 rfl (lv_at hl 1 rfl) ?_
        refine pl_i hx hb hK hP hL_w_73 hK_w_73 hN_w_73 (rg_in h_5 (by decide)) dX10_nature_113 ?_
        refine lv_topi (fun x_74 ex_74 => ?_)
        refine lv_iadd hx hb dX10_nature_114 ?_
        refine lv_topi (fun x_75 ex_75 => ?_)
        refine lv_iload_n hx hb dX10_nature_115 rfl (lv_at hl 2 rfl) ?_
        refine lv_aload_n hx hb dX10_nature_116 rfl (lv_at hl 0 rfl) ?_
        refine pg_f (v := .ref w_6) (C := RX10) (T := TX10) (N := 13) hx hb hts (tw_i inlX10) hown hK hP hL_this hK_this (by decide) rfl 6 (by decide) (hts _ (tw_c tw_38)) (pq_hv rfl hR_w_6) dX10_nature_117 ?_
        obtain ⟨w_76, hR_w_76, hL_w_76, hK_w_76, hN_w_76, hT_w_76⟩ := sh_a hSH 229 (ci := 7) (kd := 13) (len := 12) rfl (by decide) hL_w_6 hK_w_6
        refine pg_f (v := .ref w_76) (C := RX7) (T := TX7) (N := 15) hx hb hts (tw_i inlX7) hown hK hP hL_w_6 hK_w_6 (by decide) rfl 5 (by decide) (hts _ (tw_c tw_1057)) (pq_hv rfl hR_w_76) dX10_nature_120 ?_
        refine lv_iload_n hx hb dX10_nature_123 rfl (lv_at hl 1 rfl) ?_
        refine pl_i hx hb hK hP hL_w_76 hK_w_76 hN_w_76 (rg_in h_5 (by decide)) dX10_nature_124 ?_
        refine lv_topi (fun x_77 ex_77 => ?_)
        refine lv_iadd hx hb dX10_nature_125 ?_
        refine lv_topi (fun x_78 ex_78 => ?_)
        refine pk_v (va_runV (As := [.int (I_67 320 this), .int x_75, .int x_78]) (rest := []) ⟨hx, hb, hml, hown, hts⟩ (s_X2_tide l D t σ I_67 J ri_68 rj rq H.size tg hSH hG.1 w_12 (I_67 320 this) x_75 x_78 hL_w_12 hK_w_12) (cwV 3 hts (tw_V tw_1070 tw_1071 tw_1072 tw_41 tw_1073) rfl rfl rfl (by decide +kernel) ⟨Nat.le_of_ble_eq_true rfl, Nat.le_of_ble_eq_true rfl⟩) ⟨pq_blind, pq_recv hK hP hL_w_12 hK_w_12 (by decide) rfl, pq_pre hK hN hP hD⟩ rfl rfl hl.1 rfl (lv_room (Nat.le_of_ble_eq_true rfl)) dX10_nature_126 ⟨Nat.le_of_ble_eq_true rfl, Nat.le_of_ble_eq_true rfl⟩) hD hS hA (fun σ1 μ1 H locs hw_80 hP hD hS => ?_)
        obtain ⟨J_81, ri_82, rj_83, hu_84, hg_85⟩ := hw_80
        obtain ⟨hu_84a, hu_84b⟩ := Prod.mk.inj hu_84
        rw [hu_84a, hu_84b] at hP hD
        have hG := GX.tr hG hg_85 (by decide)
        refine lv_aload_n hx hb dX10_nature_129 rfl (lv_at hl 0 rfl) ?_
        refine pg_f (v := .ref w_12) (C := RX10) (T := TX10) (N := 13) hx hb hts (tw_i inlX10) hown hK hP hL_this hK_this (by decide) rfl 7 (by decide) (hts _ (tw_c tw_42)) (pq_hv rfl hR_w_12) dX10_nature_130 ?_
        refine pk_v (va_runV (As := []) (rest := []) ⟨hx, hb, hml, hown, hts⟩ (s_X2_giveUpBeds l D t σ I_67 J_81 ri_82 rj_83 rq H.size tg hSH hG.1 w_12 hL_w_12 hK_w_12) (cwV 0 hts (tw_V tw_1078 tw_1079 tw_1080 tw_41 tw_1081) rfl rfl rfl (by decide +kernel) ⟨Nat.le_of_ble_eq_true rfl, Nat.le_of_ble_eq_true rfl⟩) ⟨pq_blind, pq_recv hK hP hL_w_12 hK_w_12 (by decide) rfl, pq_pre hK hN hP hD⟩ rfl rfl hl.1 rfl (lv_room (Nat.le_of_ble_eq_true rfl)) dX10_nature_133 ⟨Nat.le_of_ble_eq_true rfl, Nat.le_of_ble_eq_true rfl⟩) hD hS hA (fun σ1 μ1 H locs hw_88 hP hD hS => ?_)
        obtain ⟨ri_89, hu_90, hg_91⟩ := hw_88
        obtain ⟨hu_90a, hu_90b⟩ := Prod.mk.inj hu_90
        rw [hu_90a, hu_90b] at hP hD
        have hG := GX.tr hG hg_91 (by decide)
        subst hQ
        exact W.vret hx hb hr (fun t1 ht hW => ⟨⟨(σ, I_67, J_81, ri_89, rj_83, rq), rfl, ⟨I_67, J_81, ri_89, rj_83, rfl, hG⟩, by rw [ht]; exact hP, va_K.moved hW.alike hK, hD⟩, hS.F ht⟩) hS.2.2 dX10_nature_136
      refine lv_icmp_gt (tgt := 69) hx hb dX10_nature_56 (by decide) (fun c_93 => ?_) (fun c_93 => ?_)
      · have h_94 : rg (I 234 w_6) (-2147483648) 2147483646 := rg_lt1 c_93 (rg_full _) (rg_full _) (by decide)
        have h_95 : rg x_14 (-2147483647) 2147483647 := rg_lt2 c_93 (rg_full _) (rg_full _) (by decide)
        refine lv_aload_n hx hb dX10_nature_69 rfl (lv_at hl 2 rfl) ?_
        refine pg_f (v := .ref w_6) (C := RX10) (T := TX10) (N := 13) hx hb hts (tw_i inlX10) hown hK hP hL_this hK_this (by decide) rfl 6 (by decide) (hts _ (tw_c tw_38)) (pq_hv rfl hR_w_6) dX10_nature_70 ?_
        refine pg_f (v := .int (I 236 w_6)) (C := RX7) (T := TX7) (N := 15) hx hb hts (tw_i inlX7) hown hK hP hL_w_6 hK_w_6 (by decide) rfl 12 (by decide) (hts _ (tw_c tw_1054)) rfl dX10_nature_73 ?_
        refine lv_ineg hx hb dX10_nature_76 ?_
        refine lv_topi (fun x_96 ex_96 => ?_)
        exact K_56 x_96 _ _ _ hG hP hD hS (lv_sub hl [2, 1, 0] rfl)
      · refine lv_aload_n hx hb dX10_nature_59 rfl (lv_at hl 2 rfl) ?_
        refine pg_f (v := .ref w_6) (C := RX10) (T := TX10) (N := 13) hx hb hts (tw_i inlX10) hown hK hP hL_this hK_this (by decide) rfl 6 (by decide) (hts _ (tw_c tw_38)) (pq_hv rfl hR_w_6) dX10_nature_60 ?_
        refine pg_f (v := .int (I 235 w_6)) (C := RX7) (T := TX7) (N := 15) hx hb hts (tw_i inlX7) hown hK hP hL_w_6 hK_w_6 (by decide) rfl 11 (by decide) (hts _ (tw_c tw_1053)) rfl dX10_nature_63 ?_
        refine lv_goto (tgt := 77) hx hb dX10_nature_66 (by decide) ?_
        exact K_56 (I 235 w_6) _ _ _ hG hP hD hS (lv_sub hl [2, 1, 0] rfl)
    · have h_97 : rg (I 320 this) 600 600 := rg_le2 (nlt c_2) (rg_k (600 : Int32) 600 rfl) h_1 (by decide)
      subst hQ
      exact W.vret hx hb hr (fun t1 ht hW => ⟨⟨(σ, I, J, ri, rj, rq), rfl, ⟨I, J, ri, rj, rfl, hG⟩, by rw [ht]; exact hP, va_K.moved hW.alike hK, hD⟩, hS.F ht⟩) hS.2.2 dX10_nature_10
  exact go _ _ _ hP hD hS hl

set_option maxHeartbeats 4000000 in
set_option maxRecDepth 100000 in
theorem s_X2_countBeds_166 (l : Launch) (D : va_G) (t : pq_T) (σ : pq_S) (I : Nat → Nat → Int32) (J : Nat → Nat → Int64) (ri : Nat → Nat → Int32) (rj : Nat → Nat → Int64) (rq : Nat → Nat → Option Nat) (sz : Nat) (tg : Nat → Nat) (hSH : SH σ tg) (hG0 : GS tg σ I ri rq) (this : Nat) (a0 : Nat) (a1 : Int32) (hL_this : this ∈ σ.1) (hK_this : σ.2.1 this = 2) (hL_a0 : a0 ∈ σ.1) (hK_a0 : σ.2.1 a0 = 13) (hN_a0 : σ.2.2.2 a0 = 60) (hT_a0 : tg a0 = 166) (h_a1 : rg a1 0 55) : MetV l yX2_countBeds (wa yX2_countBeds cX2_countBeds 4 none) ({ frames := 0, cells := 0, slots := 0, locals := 0 }) [.ref this, .ref a0, .int a1] D t σ (I, J, ri, rj, rq) sz 0 0 (fun (u : pq_S × pq_M) => ∃ ri' : Nat → Nat → Int32, u = (σ, I, J, ri', rj, rq) ∧ GX [] tg σ I I ri' rq) := by
  refine Met.ofW (cc := cX2_countBeds) (maxL := 4) (ret := none) (by decide) rfl ?_
  intro p e s m args below meth c s₁ B hml hv
  obtain ⟨rfl, hsz, hP, hK, hD0, hN⟩ := hv
  have hx := B.exec
  have hb := B.bytes
  have hr := B.returns
  have hts := atoms_spec (ws := (wa yX2_countBeds cX2_countBeds 4 none)) B.pre
  have hown : s.vm.findClass RX2 = some m.cls := findClass_of_methodNamed B.named
  have hlocks := B.notSynchronized
  subst hsz
  have hD : va_D (pq_B t σ (I, J, ri, rj, rq) s.heap.size) (pq_P t σ (I, J, ri, rj, rq)) := hD0.self
  generalize hAe : pq_B t σ (I, J, ri, rj, rq) s.heap.size = A at hD ⊢
  have hA : ∀ q : Nat, s.heap.size ≤ q → A q := fun q h => by rw [← hAe]; exact Or.inr h
  have hS : va_S A s.heap s.heap [] := va_S.rf
  have hG : GX [] tg σ I I ri rq := ⟨hG0, fun _ _ _ => rfl⟩
  have hl := lv_entry ([.ref this, .ref a0, .int a1]) (n := 4) (Nat.le_of_ble_eq_true rfl)
  rw [lg_entry_eq]
  generalize (lg_sl ([.ref this, .ref a0, .int a1]) ++ List.replicate (4 - (lg_sl ([.ref this, .ref a0, .int a1])).length) Slot.unset).toArray = ls at hl ⊢
  have hl : lv_has ls 4 [(0, .ref this), (1, .ref a0), (2, .int a1)] := hl
  refine q_gen (fun Q hQ => ?_)
  have go : ∀ (H : Heap) (locs : List Loc) (ls : Array Slot), va_P D vwCl (pq_P t σ (I, J, ri, rj, rq)) H → va_D A (pq_P t σ (I, J, ri, rj, rq)) → va_S A s.heap H locs → lv_has ls 4 [(0, .ref this), (1, .ref a0), (2, .int a1)] → W p l e ({ frames := 0, cells := 0, slots := 0, locals := 0 } : Room) s m (List.toArray ([.ref this, .ref a0, .int a1] : List Value)) below meth c H locs 0 0 Q (F0 m 0 ls []) := by
    intro H locs ls hP hD hS hl
    refine lv_iload_n hx hb dX2_countBeds_0 rfl (lv_at hl 2 rfl) ?_
    refine lv_if_lt (tgt := 12) hx hb dX2_countBeds_1 (by decide) (fun c_1 => ?_) (fun c_1 => ?_)
    · exact (rg_empty (rg_lt1 c_1 h_a1 (rg_k (0 : Int32) 0 rfl) (lo := 0) (hi := (-1)) (by decide)) (by decide)).elim
    · refine lv_iload_n hx hb dX2_countBeds_4 rfl (lv_at hl 2 rfl) ?_
      refine lv_iconst (v := 5) hx hb dX2_countBeds_5 (by decide) ?_
      refine lv_iadd hx hb dX2_countBeds_6 ?_
      refine lv_topi (fun x_2 ex_2 => ?_)
      have h_3 : rg x_2 5 60 := rg_of_eq ex_2 (rg_add h_a1 (rg_k (5 : Int32) 5 rfl) (by decide))
      refine lv_aload_n hx hb dX2_countBeds_7 rfl (lv_at hl 1 rfl) ?_
      refine pn_i (v := 60) hx hb hK hP hL_a0 hK_a0 hN_a0 (by decide) dX2_countBeds_8 ?_
      refine lv_icmp_le (tgt := 13) hx hb dX2_countBeds_9 (by decide) (fun c_4 => ?_) (fun c_4 => ?_)
      · refine lv_iconst (v := 0) hx hb dX2_countBeds_13 (by decide) ?_
        refine lv_istore_n (lv' := [(3, .int 0), (0, .ref this), (1, .ref a0), (2, .int a1)]) hx hb dX2_countBeds_14 rfl hl (by decide) rfl (fun ls hl => ?_)
        have L_862 : ∀ (n_ : Nat) (x_590 : Int32) (ri_591 : Nat → Nat → Int32) (H : Heap) (locs : List Loc) (ls : Array Slot), rg x_590 0 5 → (5 - (x_590).toInt).toNat < n_ → GX [] tg σ I I ri_591 rq → va_P D vwCl (pq_P t σ (I, J, ri_591, rj, rq)) H → va_D A (pq_P t σ (I, J, ri_591, rj, rq)) → va_S A s.heap H locs → lv_has ls 4 [(0, .ref this), (1, .ref a0), (2, .int a1), (3, .int x_590)] → W p l e ({ frames := 0, cells := 0, slots := 0, locals := 0 } : Room) s m (List.toArray ([.ref this, .ref a0, .int a1] : List Value)) below meth c H locs 0 0 Q (F0 m 15 ls []) := by
          intro n_
          induction n_ with
          | zero => intro x_590 ri_591 H locs ls h_865 hm hG hP hD hS hl; exact absurd hm (Nat.not_lt_zero _)
          | succ n_ ih_863 =>
            intro x_590 ri_591 H locs ls h_865 hm hG hP hD hS hl
            refine lv_iload_n hx hb dX2_countBeds_15 rfl (lv_at hl 3 rfl) ?_
            refine lv_iconst (v := 5) hx hb dX2_countBeds_16 (by decide) ?_
            refine lv_icmp_ge (tgt := 32) hx hb dX2_countBeds_17 (by decide) (fun c_866 => ?_) (fun c_866 => ?_)
            · have h_867 : rg x_590 5 5 := rg_le2 c_866 (rg_k (5 : Int32) 5 rfl) h_865 (by decide)
              refine lv_iconst (v := 0) hx hb dX2_countBeds_32 (by decide) ?_
              refine lv_istore_n (lv' := [(3, .int 0), (0, .ref this), (1, .ref a0), (2, .int a1)]) hx hb dX2_countBeds_33 rfl hl (by decide) rfl (fun ls hl => ?_)
              have L_1112 : ∀ (n_ : Nat) (x_1093 : Int32) (ri_1094 : Nat → Nat → Int32) (H : Heap) (locs : List Loc) (ls : Array Slot), rg x_1093 0 40 → (40 - (x_1093).toInt).toNat < n_ → GX [] tg σ I I ri_1094 rq → va_P D vwCl (pq_P t σ (I, J, ri_1094, rj, rq)) H → va_D A (pq_P t σ (I, J, ri_1094, rj, rq)) → va_S A s.heap H locs → lv_has ls 4 [(0, .ref this), (1, .ref a0), (2, .int a1), (3, .int x_1093)] → W p l e ({ frames := 0, cells := 0, slots := 0, locals := 0 } : Room) s m (List.toArray ([.ref this, .ref a0, .int a1] : List Value)) below meth c H locs 0 0 Q (F0 m 34 ls []) := by
                intro n_
                induction n_ with
                | zero => intro x_1093 ri_1094 H locs ls h_1115 hm hG hP hD hS hl; exact absurd hm (Nat.not_lt_zero _)
                | succ n_ ih_1113 =>
                  intro x_1093 ri_1094 H locs ls h_1115 hm hG hP hD hS hl
                  refine lv_iload_n hx hb dX2_countBeds_34 rfl (lv_at hl 3 rfl) ?_
                  refine lv_aload_n hx hb dX2_countBeds_35 rfl (lv_at hl 0 rfl) ?_
                  refine pg_f (v := .int (I 65 this)) (C := RX2) (T := TX2) (N := 20) hx hb hts (tw_i inlX2) hown hK hP hL_this hK_this (by decide) rfl 1 (by decide) (hts _ (tw_c tw_222)) rfl dX2_countBeds_36 ?_
                  have h_1116 : rg (I 65 this) 0 40 := GX.rI hG 65 rfl
                  refine lv_icmp_ge (tgt := 67) hx hb dX2_countBeds_39 (by decide) (fun c_1117 => ?_) (fun c_1117 => ?_)
                  · subst hQ
                    exact W.vret hx hb hr (fun t1 ht hW => ⟨⟨(σ, I, J, ri_1094, rj, rq), rfl, ⟨ri_1094, rfl, hG⟩, by rw [ht]; exact hP, va_K.moved hW.alike hK, hD⟩, hS.F ht⟩) hS.2.2 dX2_countBeds_67
                  · have h_1118 : rg x_1093 0 39 := rg_lt1 (nle c_1117) h_1115 h_1116 (by decide)
                    have h_1119 : rg (I 65 this) 1 40 := rg_lt2 (nle c_1117) h_1115 h_1116 (by decide)
                    refine lv_aload_n hx hb dX2_countBeds_42 rfl (lv_at hl 1 rfl) ?_
                    refine lv_iload_n hx hb dX2_countBeds_43 rfl (lv_at hl 2 rfl) ?_
                    refine lv_aload_n hx hb dX2_countBeds_44 rfl (lv_at hl 0 rfl) ?_
                    obtain ⟨w_1120, hR_w_1120, hL_w_1120, hK_w_1120, hN_w_1120, hT_w_1120⟩ := sh_a hSH 69 (ci := 2) (kd := 13) (len := 40) rfl (by decide) hL_this hK_this
                    refine pg_f (v := .ref w_1120) (C := RX2) (T := TX2) (N := 20) hx hb hts (tw_i inlX2) hown hK hP hL_this hK_this (by decide) rfl 5 (by decide) (hts _ (tw_c tw_83)) (pq_hv rfl hR_w_1120) dX2_countBeds_45 ?_
                    refine lv_iload_n hx hb dX2_countBeds_48 rfl (lv_at hl 3 rfl) ?_
                    refine pl_i hx hb hK hP hL_w_1120 hK_w_1120 hN_w_1120 (rg_in h_1118 (by decide)) dX2_countBeds_49 ?_
                    refine lv_topi (fun x_1121 ex_1121 => ?_)
                    have h_1122 : rg x_1121 0 4 := rg_of_eq ex_1121 (GX.rR hG hT_w_1120 rfl)
                    refine lv_iadd hx hb dX2_countBeds_50 ?_
                    refine lv_topi (fun x_1123 ex_1123 => ?_)
                    have h_1124 : rg x_1123 0 59 := rg_of_eq ex_1123 (rg_add h_a1 h_1122 (by decide))
                    refine lv_dup2_11 hx hb dX2_countBeds_51 rfl rfl ?_
                    refine pl_i hx hb hK hP hL_a0 hK_a0 hN_a0 (rg_in h_1124 (by decide)) dX2_countBeds_52 ?_
                    refine lv_topi (fun x_1125 ex_1125 => ?_)
                    refine lv_aload_n hx hb dX2_countBeds_53 rfl (lv_at hl 0 rfl) ?_
                    obtain ⟨w_1126, hR_w_1126, hL_w_1126, hK_w_1126, hN_w_1126, hT_w_1126⟩ := sh_a hSH 76 (ci := 2) (kd := 13) (len := 40) rfl (by decide) hL_this hK_this
                    refine pg_f (v := .ref w_1126) (C := RX2) (T := TX2) (N := 20) hx hb hts (tw_i inlX2) hown hK hP hL_this hK_this (by decide) rfl 12 (by decide) (hts _ (tw_c tw_90)) (pq_hv rfl hR_w_1126) dX2_countBeds_54 ?_
                    refine lv_iload_n hx hb dX2_countBeds_57 rfl (lv_at hl 3 rfl) ?_
                    refine pl_i hx hb hK hP hL_w_1126 hK_w_1126 hN_w_1126 (rg_in h_1118 (by decide)) dX2_countBeds_58 ?_
                    refine lv_topi (fun x_1127 ex_1127 => ?_)
                    refine lv_iadd hx hb dX2_countBeds_59 ?_
                    refine lv_topi (fun x_1128 ex_1128 => ?_)
                    refine pt_i hx hb hK hP hD hS hL_a0 hK_a0 hN_a0 (rg_in h_1124 (by decide)) dX2_countBeds_60 (fun r_1129 H locs er_1129 hP hD hS => ?_)
                    have hG := GX.wR hG hSH hT_a0 rfl er_1129 (rg_w (rg_full _) (by decide)) (by decide)
                    obtain ⟨x_1130, ex_1130⟩ : ∃ y : Int32, y = x_1093 + Int32.ofInt 1 := ⟨_, rfl⟩
                    have h_1131 : rg x_1130 1 40 := rg_of_eq ex_1130 (rg_add h_1118 (rg_k (Int32.ofInt 1) 1 rfl) (by decide))
                    refine lv_iinc (v := x_1130) (lv' := [(3, .int x_1130), (0, .ref this), (1, .ref a0), (2, .int a1)]) hx hb dX2_countBeds_61 hl (k := 3) rfl ex_1130.symm (by decide) rfl (fun ls hl => ?_)
                    refine lv_goto (tgt := 34) hx hb dX2_countBeds_64 (by decide) ?_
                    exact ih_1113 x_1130 r_1129 _ _ _ (rg_w h_1131 (by decide)) (ms_up 1 hm ex_1130 rfl (by decide) h_1118 (by decide) (by decide)) hG hP hD hS (lv_sub hl [1, 2, 3, 0] rfl)
              exact L_1112 _ (0 : Int32) ri_591 _ _ _ (rg_w (rg_k (0 : Int32) 0 rfl) (by decide)) (Nat.lt_succ_self _) hG hP hD hS (lv_sub hl [1, 2, 3, 0] rfl)
            · have h_1132 : rg x_590 0 4 := rg_lt1 (nle c_866) h_865 (rg_k (5 : Int32) 5 rfl) (by decide)
              refine lv_aload_n hx hb dX2_countBeds_20 rfl (lv_at hl 1 rfl) ?_
              refine lv_iload_n hx hb dX2_countBeds_21 rfl (lv_at hl 2 rfl) ?_
              refine lv_iload_n hx hb dX2_countBeds_22 rfl (lv_at hl 3 rfl) ?_
              refine lv_iadd hx hb dX2_countBeds_23 ?_
              refine lv_topi (fun x_1133 ex_1133 => ?_)
              have h_1134 : rg x_1133 0 59 := rg_of_eq ex_1133 (rg_add h_a1 h_1132 (by decide))
              refine lv_iconst (v := 0) hx hb dX2_countBeds_24 (by decide) ?_
              refine pt_i hx hb hK hP hD hS hL_a0 hK_a0 hN_a0 (rg_in h_1134 (by decide)) dX2_countBeds_25 (fun r_1135 H locs er_1135 hP hD hS => ?_)
              have hG := GX.wR hG hSH hT_a0 rfl er_1135 (rg_w (rg_k (0 : Int32) 0 rfl) (by decide)) (by decide)
              obtain ⟨x_1136, ex_1136⟩ : ∃ y : Int32, y = x_590 + Int32.ofInt 1 := ⟨_, rfl⟩
              have h_1137 : rg x_1136 1 5 := rg_of_eq ex_1136 (rg_add h_1132 (rg_k (Int32.ofInt 1) 1 rfl) (by decide))
              refine lv_iinc (v := x_1136) (lv' := [(3, .int x_1136), (0, .ref this), (1, .ref a0), (2, .int a1)]) hx hb dX2_countBeds_26 hl (k := 3) rfl ex_1136.symm (by decide) rfl (fun ls hl => ?_)
              refine lv_goto (tgt := 15) hx hb dX2_countBeds_29 (by decide) ?_
              exact ih_863 x_1136 r_1135 _ _ _ (rg_w h_1137 (by decide)) (ms_up 1 hm ex_1136 rfl (by decide) h_1132 (by decide) (by decide)) hG hP hD hS (lv_sub hl [1, 2, 3, 0] rfl)
        exact L_862 _ (0 : Int32) ri _ _ _ (rg_w (rg_k (0 : Int32) 0 rfl) (by decide)) (Nat.lt_succ_self _) hG hP hD hS (lv_sub hl [1, 2, 3, 0] rfl)
      · exact (rg_empty (rg_lt2 (nle c_4) (rg_k (60 : Int32) 60 rfl) h_3 (lo := 61) (hi := 60) (by decide)) (by decide)).elim
  exact go _ _ _ hP hD hS hl

set_option maxHeartbeats 4000000 in
set_option maxRecDepth 100000 in
theorem s_X5_foresee (l : Launch) (D : va_G) (t : pq_T) (σ : pq_S) (I : Nat → Nat → Int32) (J : Nat → Nat → Int64) (ri : Nat → Nat → Int32) (rj : Nat → Nat → Int64) (rq : Nat → Nat → Option Nat) (sz : Nat) (tg : Nat → Nat) (hSH : SH σ tg) (hG0 : GS tg σ I ri rq) (this : Nat) (a0 : Nat) (a1 : Int32) (a2 : Int32) (hL_this : this ∈ σ.1) (hK_this : σ.2.1 this = 5) (hL_a0 : a0 ∈ σ.1) (hK_a0 : σ.2.1 a0 = 10) (h_a2 : rg a2 0 12) (hclk : (I 320 a0).toInt + a2.toInt ≤ 600) : MetV l yX5_foresee (wa yX5_foresee cX5_foresee 7 none) ({ frames := 5, cells := 0, slots := 0, locals := 143 }) [.ref this, .ref a0, .int a1, .int a2] D t σ (I, J, ri, rj, rq) sz 0 0 (fun (u : pq_S × pq_M) => ∃ I' : Nat → Nat → Int32, ∃ J' : Nat → Nat → Int64, ∃ ri' : Nat → Nat → Int32, ∃ rj' : Nat → Nat → Int64, u = (σ, I', J', ri', rj', rq) ∧ GX [320] tg σ I I' ri' rq) := by
  refine Met.ofW (cc := cX5_foresee) (maxL := 7) (ret := none) (by decide) rfl ?_
  intro p e s m args below meth c s₁ B hml hv
  obtain ⟨rfl, hsz, hP, hK, hD0, hN⟩ := hv
  have hx := B.exec
  have hb := B.bytes
  have hr := B.returns
  have hts := atoms_spec (ws := (wa yX5_foresee cX5_foresee 7 none)) B.pre
  have hown : s.vm.findClass RX5 = some m.cls := findClass_of_methodNamed B.named
  have hlocks := B.notSynchronized
  subst hsz
  have hD : va_D (pq_B t σ (I, J, ri, rj, rq) s.heap.size) (pq_P t σ (I, J, ri, rj, rq)) := hD0.self
  generalize hAe : pq_B t σ (I, J, ri, rj, rq) s.heap.size = A at hD ⊢
  have hA : ∀ q : Nat, s.heap.size ≤ q → A q := fun q h => by rw [← hAe]; exact Or.inr h
  have hS : va_S A s.heap s.heap [] := va_S.rf
  have hG : GX [320] tg σ I I ri rq := ⟨hG0, fun _ _ _ => rfl⟩
  have hl := lv_entry ([.ref this, .ref a0, .int a1, .int a2]) (n := 7) (Nat.le_of_ble_eq_true rfl)
  rw [lg_entry_eq]
  generalize (lg_sl ([.ref this, .ref a0, .int a1, .int a2]) ++ List.replicate (7 - (lg_sl ([.ref this, .ref a0, .int a1, .int a2])).length) Slot.unset).toArray = ls at hl ⊢
  have hl : lv_has ls 7 [(0, .ref this), (1, .ref a0), (2, .int a1), (3, .int a2)] := hl
  refine q_gen (fun Q hQ => ?_)
  have go : ∀ (H : Heap) (locs : List Loc) (ls : Array Slot), va_P D vwCl (pq_P t σ (I, J, ri, rj, rq)) H → va_D A (pq_P t σ (I, J, ri, rj, rq)) → va_S A s.heap H locs → lv_has ls 7 [(0, .ref this), (1, .ref a0), (2, .int a1), (3, .int a2)] → W p l e ({ frames := 5, cells := 0, slots := 0, locals := 143 } : Room) s m (List.toArray ([.ref this, .ref a0, .int a1, .int a2] : List Value)) below meth c H locs 0 0 Q (F0 m 0 ls []) := by
    intro H locs ls hP hD hS hl
    refine lv_aload_n hx hb dX5_foresee_0 rfl (lv_at hl 1 rfl) ?_
    obtain ⟨w_1, hR_w_1, hL_w_1, hK_w_1⟩ := sh_o hSH 328 (ci := 10) (kd := 0) rfl hL_a0 hK_a0
    refine pg_f (v := .ref w_1) (C := RX10) (T := TX10) (N := 13) hx hb hts (tw_i inlX10) hown hK hP hL_a0 hK_a0 (by decide) rfl 8 (by decide) (hts _ (tw_c tw_1446)) (pq_hv rfl hR_w_1) dX5_foresee_1 ?_
    refine pk_l (va_runV (As := []) (rest := []) ⟨hx, hb, hml, hown, hts⟩ (s_X0_onRings l D t σ I J ri rj rq H.size tg hSH hG.1 w_1 hL_w_1 hK_w_1) (cwV 0 hts (tw_V tw_1450 tw_1163 tw_1164 tw_45 tw_1165) rfl rfl rfl (by decide +kernel) ⟨Nat.le_of_ble_eq_true rfl, Nat.le_of_ble_eq_true rfl⟩) ⟨pq_blind, pq_recv hK hP hL_w_1 hK_w_1 (by decide) rfl, pq_pre hK hN hP hD⟩ rfl rfl hl.1 rfl (lv_room (Nat.le_of_ble_eq_true rfl)) dX5_foresee_4 ⟨Nat.le_of_ble_eq_true rfl, Nat.le_of_ble_eq_true rfl⟩) hD hS hA (fun x_2 σ1 μ1 H locs hw_3 hP hD hS => ?_)
    have hu_4 := hw_3
    obtain ⟨hu_4a, hu_4b⟩ := Prod.mk.inj hu_4
    rw [hu_4a, hu_4b] at hP hD
    refine lv_lstore (lv' := [(4, .long x_2), (0, .ref this), (1, .ref a0), (2, .int a1), (3, .int a2)]) hx hb dX5_foresee_7 hl (by decide) rfl (fun ls hl => ?_)
    refine lv_iconst (v := 0) hx hb dX5_foresee_9 (by decide) ?_
    refine lv_istore (lv' := [(6, .int 0), (4, .long x_2), (0, .ref this), (1, .ref a0), (2, .int a1), (3, .int a2)]) hx hb dX5_foresee_10 hl (by decide) rfl (fun ls hl => ?_)
    have L_509 : ∀ (n_ : Nat) (x_458 : Int32) (I_459 : Nat → Nat → Int32) (J_460 : Nat → Nat → Int64) (ri_461 : Nat → Nat → Int32) (rj_462 : Nat → Nat → Int64) (H : Heap) (locs : List Loc) (ls : Array Slot), rg x_458 0 12 → ((I_459 320 a0).toInt = (I 320 a0).toInt + (x_458).toInt) → (12 - (x_458).toInt).toNat < n_ → GX [320] tg σ I I_459 ri_461 rq → va_P D vwCl (pq_P t σ (I_459, J_460, ri_461, rj_462, rq)) H → va_D A (pq_P t σ (I_459, J_460, ri_461, rj_462, rq)) → va_S A s.heap H locs → lv_has ls 7 [(0, .ref this), (1, .ref a0), (2, .int a1), (3, .int a2), (4, .long x_2), (6, .int x_458)] → W p l e ({ frames := 5, cells := 0, slots := 0, locals := 143 } : Room) s m (List.toArray ([.ref this, .ref a0, .int a1, .int a2] : List Value)) below meth c H locs 0 0 Q (F0 m 12 ls []) := by
      intro n_
      induction n_ with
      | zero => intro x_458 I_459 J_460 ri_461 rj_462 H locs ls h_513 hrel_514 hm hG hP hD hS hl; exact absurd hm (Nat.not_lt_zero _)
      | succ n_ ih_510 =>
        intro x_458 I_459 J_460 ri_461 rj_462 H locs ls h_513 hrel_514 hm hG hP hD hS hl
        have uh_513 := h_513.1
        have vh_513 := h_513.2
        refine lv_iload hx hb dX5_foresee_12 (lv_at hl 5 rfl) ?_
        refine lv_iload_n hx hb dX5_foresee_14 rfl (lv_at hl 3 rfl) ?_
        refine lv_icmp_ge (tgt := 93) hx hb dX5_foresee_15 (by decide) (fun c_515 => ?_) (fun c_515 => ?_)
        · have tc_516 : (a2).toInt ≤ (x_458).toInt := Int32.le_iff_toInt_le.mp c_515
          subst hQ
          exact W.vret hx hb hr (fun t1 ht hW => ⟨⟨(σ, I_459, J_460, ri_461, rj_462, rq), rfl, ⟨I_459, J_460, ri_461, rj_462, rfl, hG⟩, by rw [ht]; exact hP, va_K.moved hW.alike hK, hD⟩, hS.F ht⟩) hS.2.2 dX5_foresee_93
        · have tc_517 : (x_458).toInt < (a2).toInt := Int32.lt_iff_toInt_lt.mp (nle c_515)
          have h_518 : rg x_458 0 11 := rg_lt1 (nle c_515) h_513 h_a2 (by decide)
          have uh_518 := h_518.1
          have vh_518 := h_518.2
          have h_519 : rg a2 1 12 := rg_lt2 (nle c_515) h_513 h_a2 (by decide)
          have uh_519 := h_519.1
          have vh_519 := h_519.2
          refine lv_aload_n hx hb dX5_foresee_18 rfl (lv_at hl 1 rfl) ?_
          refine lv_iload_n hx hb dX5_foresee_19 rfl (lv_at hl 2 rfl) ?_
          refine pk_v (va_runV (As := [.int a1]) (rest := []) ⟨hx, hb, hml, hown, hts⟩ (s_X10_nature l D t σ I_459 J_460 ri_461 rj_462 rq H.size tg hSH hG.1 a0 a1 hL_a0 hK_a0) (cwV 1 hts (tw_V tw_1451 tw_1048 tw_1049 tw_15 tw_1050) rfl rfl rfl (by decide +kernel) ⟨Nat.le_of_ble_eq_true rfl, Nat.le_of_ble_eq_true rfl⟩) ⟨pq_blind, pq_recv hK hP hL_a0 hK_a0 (by decide) rfl, pq_pre hK hN hP hD⟩ rfl rfl hl.1 rfl (lv_room (Nat.le_of_ble_eq_true rfl)) dX5_foresee_20 ⟨Nat.le_of_ble_eq_true rfl, Nat.le_of_ble_eq_true rfl⟩) hD hS hA (fun σ1 μ1 H locs hw_521 hP hD hS => ?_)
          obtain ⟨I_522, J_523, ri_524, rj_525, hu_526, hg_527⟩ := hw_521
          obtain ⟨hu_526a, hu_526b⟩ := Prod.mk.inj hu_526
          rw [hu_526a, hu_526b] at hP hD
          have hG := GX.tr hG hg_527 (by decide)
          have tt_529 : (I_522 320 a0).toInt = (I_459 320 a0).toInt := by rw [hg_527.2 320 (by decide) (by decide)]
          refine lv_aload_n hx hb dX5_foresee_23 rfl (lv_at hl 0 rfl) ?_
          obtain ⟨w_530, hR_w_530, hL_w_530, hK_w_530, hN_w_530, hT_w_530⟩ := sh_a hSH 165 (ci := 5) (kd := 14) (len := 12) rfl (by decide) hL_this hK_this
          refine pg_f (v := .ref w_530) (C := RX5) (T := TX5) (N := 8) hx hb hts (tw_i inlX5) hown hK hP hL_this hK_this (by decide) rfl 5 (by decide) (hts _ (tw_c tw_145)) (pq_hv rfl hR_w_530) dX5_foresee_24 ?_
          refine lv_iload hx hb dX5_foresee_27 (lv_at hl 5 rfl) ?_
          refine lv_aload_n hx hb dX5_foresee_29 rfl (lv_at hl 1 rfl) ?_
          obtain ⟨w_531, hR_w_531, hL_w_531, hK_w_531⟩ := sh_o hSH 327 (ci := 10) (kd := 2) rfl hL_a0 hK_a0
          refine pg_f (v := .ref w_531) (C := RX10) (T := TX10) (N := 13) hx hb hts (tw_i inlX10) hown hK hP hL_a0 hK_a0 (by decide) rfl 7 (by decide) (hts _ (tw_c tw_1438)) (pq_hv rfl hR_w_531) dX5_foresee_30 ?_
          refine pg_f (v := .long (J_523 67 w_531)) (C := RX2) (T := TX2) (N := 20) hx hb hts (tw_i inlX2) hown hK hP hL_w_531 hK_w_531 (by decide) rfl 3 (by decide) (hts _ (tw_c tw_1447)) rfl dX5_foresee_33 ?_
          refine pt_l hx hb hK hP hD hS hL_w_530 hK_w_530 hN_w_530 (rg_in h_518 (by decide)) dX5_foresee_36 (fun r_532 H locs er_532 hP hD hS => ?_)
          refine lv_aload_n hx hb dX5_foresee_37 rfl (lv_at hl 1 rfl) ?_
          refine pg_f (v := .ref w_531) (C := RX10) (T := TX10) (N := 13) hx hb hts (tw_i inlX10) hown hK hP hL_a0 hK_a0 (by decide) rfl 7 (by decide) (hts _ (tw_c tw_1438)) (pq_hv rfl hR_w_531) dX5_foresee_38 ?_
          refine lv_aload_n hx hb dX5_foresee_41 rfl (lv_at hl 0 rfl) ?_
          obtain ⟨w_533, hR_w_533, hL_w_533, hK_w_533, hN_w_533, hT_w_533⟩ := sh_a hSH 166 (ci := 5) (kd := 13) (len := 60) rfl (by decide) hL_this hK_this
          refine pg_f (v := .ref w_533) (C := RX5) (T := TX5) (N := 8) hx hb hts (tw_i inlX5) hown hK hP hL_this hK_this (by decide) rfl 6 (by decide) (hts _ (tw_c tw_146)) (pq_hv rfl hR_w_533) dX5_foresee_42 ?_
          refine lv_iload hx hb dX5_foresee_45 (lv_at hl 5 rfl) ?_
          refine lv_iconst (v := 5) hx hb dX5_foresee_47 (by decide) ?_
          refine lv_imul hx hb dX5_foresee_48 ?_
          refine lv_topi (fun x_534 ex_534 => ?_)
          have h_535 : rg x_534 0 55 := rg_of_eq ex_534 (rg_mul h_518 (rg_k (5 : Int32) 5 rfl) (by decide))
          have uh_535 := h_535.1
          have vh_535 := h_535.2
          refine pk_v (va_runV (As := [.ref w_533, .int x_534]) (rest := []) ⟨hx, hb, hml, hown, hts⟩ (s_X2_countBeds_166 l D t σ I_522 J_523 ri_524 r_532 rq H.size tg hSH hG.1 w_531 w_533 x_534 hL_w_531 hK_w_531 hL_w_533 hK_w_533 hN_w_533 hT_w_533 (rg_w h_535 (by decide))) (cwV 2 hts (tw_V tw_1452 tw_1091 tw_1092 tw_41 tw_1093) rfl rfl rfl (by decide +kernel) ⟨Nat.le_of_ble_eq_true rfl, Nat.le_of_ble_eq_true rfl⟩) ⟨pq_blind, pq_recv hK hP hL_w_531 hK_w_531 (by decide) rfl, pq_pre hK hN hP hD⟩ rfl rfl hl.1 rfl (lv_room (Nat.le_of_ble_eq_true rfl)) dX5_foresee_49 ⟨Nat.le_of_ble_eq_true rfl, Nat.le_of_ble_eq_true rfl⟩) hD hS hA (fun σ1 μ1 H locs hw_537 hP hD hS => ?_)
          obtain ⟨ri_538, hu_539, hg_540⟩ := hw_537
          obtain ⟨hu_539a, hu_539b⟩ := Prod.mk.inj hu_539
          rw [hu_539a, hu_539b] at hP hD
          have hG := GX.tr hG hg_540 (by decide)
          refine lv_aload_n hx hb dX5_foresee_52 rfl (lv_at hl 0 rfl) ?_
          obtain ⟨w_542, hR_w_542, hL_w_542, hK_w_542, hN_w_542, hT_w_542⟩ := sh_a hSH 167 (ci := 5) (kd := 14) (len := 12) rfl (by decide) hL_this hK_this
          refine pg_f (v := .ref w_542) (C := RX5) (T := TX5) (N := 8) hx hb hts (tw_i inlX5) hown hK hP hL_this hK_this (by decide) rfl 7 (by decide) (hts _ (tw_c tw_147)) (pq_hv rfl hR_w_542) dX5_foresee_53 ?_
          refine lv_iload hx hb dX5_foresee_56 (lv_at hl 5 rfl) ?_
          refine lv_aload_n hx hb dX5_foresee_58 rfl (lv_at hl 1 rfl) ?_
          obtain ⟨w_543, hR_w_543, hL_w_543, hK_w_543⟩ := sh_o hSH 329 (ci := 10) (kd := 3) rfl hL_a0 hK_a0
          refine pg_f (v := .ref w_543) (C := RX10) (T := TX10) (N := 13) hx hb hts (tw_i inlX10) hown hK hP hL_a0 hK_a0 (by decide) rfl 9 (by decide) (hts _ (tw_c tw_1448)) (pq_hv rfl hR_w_543) dX5_foresee_59 ?_
          refine lv_iconst (v := 2) hx hb dX5_foresee_62 (by decide) ?_
          refine lv_aload_n hx hb dX5_foresee_63 rfl (lv_at hl 1 rfl) ?_
          refine pg_f (v := .int (I_522 320 a0)) (C := RX10) (T := TX10) (N := 13) hx hb hts (tw_i inlX10) hown hK hP hL_a0 hK_a0 (by decide) rfl 0 (by decide) (hts _ (tw_c tw_1449)) rfl dX5_foresee_64 ?_
          have h_544 : rg (I_522 320 a0) 0 600 := GX.rI hG 320 rfl
          have uh_544 := h_544.1
          have vh_544 := h_544.2
          refine lv_aload_n hx hb dX5_foresee_67 rfl (lv_at hl 1 rfl) ?_
          refine pg_f (v := .ref w_1) (C := RX10) (T := TX10) (N := 13) hx hb hts (tw_i inlX10) hown hK hP hL_a0 hK_a0 (by decide) rfl 8 (by decide) (hts _ (tw_c tw_1446)) (pq_hv rfl hR_w_1) dX5_foresee_68 ?_
          refine lv_lload hx hb dX5_foresee_71 (lv_at hl 4 rfl) ?_
          refine pk_l (va_runV (As := [.int 2, .int (I_522 320 a0), .ref w_1, .long x_2]) (rest := [.int x_458, .ref w_542]) ⟨hx, hb, hml, hown, hts⟩ (s_X3_whoIsSo l D t σ I_522 J_523 ri_538 r_532 rq H.size tg hSH hG.1 w_543 (2 : Int32) (I_522 320 a0) w_1 x_2 hL_w_543 hK_w_543 hL_w_1 hK_w_1) (cwV 4 hts (tw_V tw_1453 tw_964 tw_965 tw_49 tw_966) rfl rfl rfl (by decide +kernel) ⟨Nat.le_of_ble_eq_true rfl, Nat.le_of_ble_eq_true rfl⟩) ⟨pq_blind, pq_recv hK hP hL_w_543 hK_w_543 (by decide) rfl, pq_pre hK hN hP hD⟩ rfl rfl hl.1 rfl (lv_room (Nat.le_of_ble_eq_true rfl)) dX5_foresee_73 ⟨Nat.le_of_ble_eq_true rfl, Nat.le_of_ble_eq_true rfl⟩) hD hS hA (fun x_545 σ1 μ1 H locs hw_546 hP hD hS => ?_)
          obtain ⟨ri_547, hu_548, hg_549⟩ := hw_546
          obtain ⟨hu_548a, hu_548b⟩ := Prod.mk.inj hu_548
          rw [hu_548a, hu_548b] at hP hD
          have hG := GX.tr hG hg_549 (by decide)
          refine pt_l hx hb hK hP hD hS hL_w_542 hK_w_542 hN_w_542 (rg_in h_518 (by decide)) dX5_foresee_76 (fun r_551 H locs er_551 hP hD hS => ?_)
          refine lv_aload_n hx hb dX5_foresee_77 rfl (lv_at hl 1 rfl) ?_
          refine lv_dup hx hb dX5_foresee_78 rfl ?_
          refine pg_f (v := .int (I_522 320 a0)) (C := RX10) (T := TX10) (N := 13) hx hb hts (tw_i inlX10) hown hK hP hL_a0 hK_a0 (by decide) rfl 0 (by decide) (hts _ (tw_c tw_1449)) rfl dX5_foresee_79 ?_
          refine lv_iconst (v := 1) hx hb dX5_foresee_82 (by decide) ?_
          refine lv_iadd hx hb dX5_foresee_83 ?_
          refine lv_topi (fun x_552 ex_552 => ?_)
          have h_553 : rg x_552 1 601 := rg_of_eq ex_552 (rg_add h_544 (rg_k (1 : Int32) 1 rfl) (by decide))
          have uh_553 := h_553.1
          have vh_553 := h_553.2
          have tx_552 : (x_552).toInt = (I_522 320 a0).toInt + 1 := by rw [ex_552]; exact i_add_rg (a2 := (I_522 320 a0).toInt) (b2 := 1) rfl rfl h_544 (rg_k (1 : Int32) 1 rfl) (by decide)
          refine pp_i (v := x_552) (ty := .int) (C := RX10) (T := TX10) (N := 13) hx hb hts (tw_i inlX10) tyX10 tyX10_ok nmX10 hown hK hP hD hS hL_a0 hK_a0 (by decide) rfl 0 320 (by decide) (hts _ (tw_c tw_1449)) rfl (by decide +kernel) rfl rfl (Nat.le_of_ble_eq_true rfl) (ps_320 _ _ _ _ _) dX5_foresee_84 (fun I_554 H locs eI_554 hP hD hS => ?_)
          have h_555 : rg x_552 1 600 := ⟨by omega, by omega⟩
          have uh_555 := h_555.1
          have vh_555 := h_555.2
          have hG := GX.wI hG 320 rfl eI_554 (rg_w h_555 (by decide)) (by decide)
          have tt_556 : (I_554 320 a0).toInt = (x_552).toInt := by rw [eI_554, pq_us]
          obtain ⟨x_557, ex_557⟩ : ∃ y : Int32, y = x_458 + Int32.ofInt 1 := ⟨_, rfl⟩
          have h_558 : rg x_557 1 12 := rg_of_eq ex_557 (rg_add h_518 (rg_k (Int32.ofInt 1) 1 rfl) (by decide))
          have uh_558 := h_558.1
          have vh_558 := h_558.2
          have tx_557 : (x_557).toInt = (x_458).toInt + 1 := by rw [ex_557]; exact i_add_rg (a2 := (x_458).toInt) (b2 := 1) rfl rfl h_518 (rg_k (Int32.ofInt 1) 1 rfl) (by decide)
          refine lv_iinc (v := x_557) (lv' := [(6, .int x_557), (0, .ref this), (1, .ref a0), (2, .int a1), (3, .int a2), (4, .long x_2)]) hx hb dX5_foresee_87 hl (k := 5) rfl ex_557.symm (by decide) rfl (fun ls hl => ?_)
          refine lv_goto (tgt := 12) hx hb dX5_foresee_90 (by decide) ?_
          exact ih_510 x_557 I_554 J_523 ri_547 r_551 _ _ _ (rg_w h_558 (by decide)) (by omega) (ms_up 1 hm ex_557 rfl (by decide) h_518 (by decide) (by decide)) hG hP hD hS (lv_sub hl [1, 2, 3, 4, 5, 0] rfl)
    exact L_509 _ (0 : Int32) I J ri rj _ _ _ (rg_w (rg_k (0 : Int32) 0 rfl) (by decide)) (by omega) (Nat.lt_succ_self _) hG hP hD hS (lv_sub hl [2, 3, 4, 5, 1, 0] rfl)
  exact go _ _ _ hP hD hS hl

set_option maxHeartbeats 4000000 in
set_option maxRecDepth 100000 in
theorem s_X5_lineUp (l : Launch) (D : va_G) (t : pq_T) (σ : pq_S) (I : Nat → Nat → Int32) (J : Nat → Nat → Int64) (ri : Nat → Nat → Int32) (rj : Nat → Nat → Int64) (rq : Nat → Nat → Option Nat) (sz : Nat) (tg : Nat → Nat) (hSH : SH σ tg) (hG0 : GS tg σ I ri rq) (this : Nat) (a0 : Nat) (a1 : Int32) (hL_this : this ∈ σ.1) (hK_this : σ.2.1 this = 5) (hL_a0 : a0 ∈ σ.1) (hK_a0 : σ.2.1 a0 = 0) (h_a1 : rg a1 0 5) : MetV l yX5_lineUp (wa yX5_lineUp cX5_lineUp 5 none) ({ frames := 0, cells := 0, slots := 0, locals := 0 }) [.ref this, .ref a0, .int a1] D t σ (I, J, ri, rj, rq) sz 0 0 (fun (u : pq_S × pq_M) => ∃ I' : Nat → Nat → Int32, ∃ ri' : Nat → Nat → Int32, u = (σ, I', J, ri', rj, rq) ∧ GX [] tg σ I I' ri' rq) := by
  refine Met.ofW (cc := cX5_lineUp) (maxL := 5) (ret := none) (by decide) rfl ?_
  intro p e s m args below meth c s₁ B hml hv
  obtain ⟨rfl, hsz, hP, hK, hD0, hN⟩ := hv
  have hx := B.exec
  have hb := B.bytes
  have hr := B.returns
  have hts := atoms_spec (ws := (wa yX5_lineUp cX5_lineUp 5 none)) B.pre
  have hown : s.vm.findClass RX5 = some m.cls := findClass_of_methodNamed B.named
  have hlocks := B.notSynchronized
  subst hsz
  have hD : va_D (pq_B t σ (I, J, ri, rj, rq) s.heap.size) (pq_P t σ (I, J, ri, rj, rq)) := hD0.self
  generalize hAe : pq_B t σ (I, J, ri, rj, rq) s.heap.size = A at hD ⊢
  have hA : ∀ q : Nat, s.heap.size ≤ q → A q := fun q h => by rw [← hAe]; exact Or.inr h
  have hS : va_S A s.heap s.heap [] := va_S.rf
  have hG : GX [] tg σ I I ri rq := ⟨hG0, fun _ _ _ => rfl⟩
  have hl := lv_entry ([.ref this, .ref a0, .int a1]) (n := 5) (Nat.le_of_ble_eq_true rfl)
  rw [lg_entry_eq]
  generalize (lg_sl ([.ref this, .ref a0, .int a1]) ++ List.replicate (5 - (lg_sl ([.ref this, .ref a0, .int a1])).length) Slot.unset).toArray = ls at hl ⊢
  have hl : lv_has ls 5 [(0, .ref this), (1, .ref a0), (2, .int a1)] := hl
  refine q_gen (fun Q hQ => ?_)
  have go : ∀ (H : Heap) (locs : List Loc) (ls : Array Slot), va_P D vwCl (pq_P t σ (I, J, ri, rj, rq)) H → va_D A (pq_P t σ (I, J, ri, rj, rq)) → va_S A s.heap H locs → lv_has ls 5 [(0, .ref this), (1, .ref a0), (2, .int a1)] → W p l e ({ frames := 0, cells := 0, slots := 0, locals := 0 } : Room) s m (List.toArray ([.ref this, .ref a0, .int a1] : List Value)) below meth c H locs 0 0 Q (F0 m 0 ls []) := by
    intro H locs ls hP hD hS hl
    refine lv_aload_n hx hb dX5_lineUp_0 rfl (lv_at hl 0 rfl) ?_
    refine lv_iconst (v := 0) hx hb dX5_lineUp_1 (by decide) ?_
    refine pp_i (v := 0) (ty := .int) (C := RX5) (T := TX5) (N := 8) hx hb hts (tw_i inlX5) tyX5 tyX5_ok nmX5 hown hK hP hD hS hL_this hK_this (by decide) rfl 4 164 (by decide) (hts _ (tw_c tw_1464)) rfl (by decide +kernel) rfl rfl (Nat.le_of_ble_eq_true rfl) (ps_164 _ _ _ _ _) dX5_lineUp_2 (fun I_1 H locs eI_1 hP hD hS => ?_)
    have hG := GX.wI hG 164 rfl eI_1 (rg_w (rg_k (0 : Int32) 0 rfl) (by decide)) (by decide)
    refine lv_iconst (v := 0) hx hb dX5_lineUp_5 (by decide) ?_
    refine lv_istore_n (lv' := [(3, .int 0), (0, .ref this), (1, .ref a0), (2, .int a1)]) hx hb dX5_lineUp_6 rfl hl (by decide) rfl (fun ls hl => ?_)
    have L_3134 : ∀ (n_ : Nat) (x_2686 : Int32) (I_2687 : Nat → Nat → Int32) (ri_2688 : Nat → Nat → Int32) (H : Heap) (locs : List Loc) (ls : Array Slot), rg x_2686 0 5 → (5 - (x_2686).toInt).toNat < n_ → GX [] tg σ I I_2687 ri_2688 rq → va_P D vwCl (pq_P t σ (I_2687, J, ri_2688, rj, rq)) H → va_D A (pq_P t σ (I_2687, J, ri_2688, rj, rq)) → va_S A s.heap H locs → lv_has ls 5 [(0, .ref this), (1, .ref a0), (2, .int a1), (3, .int x_2686)] → W p l e ({ frames := 0, cells := 0, slots := 0, locals := 0 } : Room) s m (List.toArray ([.ref this, .ref a0, .int a1] : List Value)) below meth c H locs 0 0 Q (F0 m 7 ls []) := by
      intro n_
      induction n_ with
      | zero => intro x_2686 I_2687 ri_2688 H locs ls h_3137 hm hG hP hD hS hl; exact absurd hm (Nat.not_lt_zero _)
      | succ n_ ih_3135 =>
        intro x_2686 I_2687 ri_2688 H locs ls h_3137 hm hG hP hD hS hl
        refine lv_iload_n hx hb dX5_lineUp_7 rfl (lv_at hl 3 rfl) ?_
        refine lv_iload_n hx hb dX5_lineUp_8 rfl (lv_at hl 2 rfl) ?_
        refine lv_icmp_ge (tgt := 82) hx hb dX5_lineUp_9 (by decide) (fun c_3138 => ?_) (fun c_3138 => ?_)
        · subst hQ
          exact W.vret hx hb hr (fun t1 ht hW => ⟨⟨(σ, I_2687, J, ri_2688, rj, rq), rfl, ⟨I_2687, ri_2688, rfl, hG⟩, by rw [ht]; exact hP, va_K.moved hW.alike hK, hD⟩, hS.F ht⟩) hS.2.2 dX5_lineUp_82
        · have h_3139 : rg x_2686 0 4 := rg_lt1 (nle c_3138) h_3137 h_a1 (by decide)
          have h_3140 : rg a1 1 5 := rg_lt2 (nle c_3138) h_3137 h_a1 (by decide)
          refine lv_iconst (v := 0) hx hb dX5_lineUp_12 (by decide) ?_
          refine lv_istore (lv' := [(4, .int 0), (0, .ref this), (1, .ref a0), (2, .int a1), (3, .int x_2686)]) hx hb dX5_lineUp_13 hl (by decide) rfl (fun ls hl => ?_)
          have L_3553 : ∀ (n_ : Nat) (x_3521 : Int32) (I_3522 : Nat → Nat → Int32) (ri_3523 : Nat → Nat → Int32) (H : Heap) (locs : List Loc) (ls : Array Slot), rg x_3521 0 40 → (40 - (x_3521).toInt).toNat < n_ → GX [] tg σ I I_3522 ri_3523 rq → va_P D vwCl (pq_P t σ (I_3522, J, ri_3523, rj, rq)) H → va_D A (pq_P t σ (I_3522, J, ri_3523, rj, rq)) → va_S A s.heap H locs → lv_has ls 5 [(0, .ref this), (1, .ref a0), (2, .int a1), (3, .int x_2686), (4, .int x_3521)] → W p l e ({ frames := 0, cells := 0, slots := 0, locals := 0 } : Room) s m (List.toArray ([.ref this, .ref a0, .int a1] : List Value)) below meth c H locs 0 0 Q (F0 m 15 ls []) := by
            intro n_
            induction n_ with
            | zero => intro x_3521 I_3522 ri_3523 H locs ls h_3556 hm hG hP hD hS hl; exact absurd hm (Nat.not_lt_zero _)
            | succ n_ ih_3554 =>
              intro x_3521 I_3522 ri_3523 H locs ls h_3556 hm hG hP hD hS hl
              refine lv_iload hx hb dX5_lineUp_15 (lv_at hl 4 rfl) ?_
              refine lv_aload_n hx hb dX5_lineUp_17 rfl (lv_at hl 1 rfl) ?_
              refine pg_f (v := .int (I_3522 0 a0)) (C := RX0) (T := TX0) (N := 16) hx hb hts (tw_i inlX0) hown hK hP hL_a0 hK_a0 (by decide) rfl 0 (by decide) (hts _ (tw_c tw_1470)) rfl dX5_lineUp_18 ?_
              have h_3557 : rg (I_3522 0 a0) 0 40 := GX.rI hG 0 rfl
              have K_3585 : ∀  (H : Heap) (locs : List Loc) (ls : Array Slot), GX [] tg σ I I_3522 ri_3523 rq → va_P D vwCl (pq_P t σ (I_3522, J, ri_3523, rj, rq)) H → va_D A (pq_P t σ (I_3522, J, ri_3523, rj, rq)) → va_S A s.heap H locs → lv_has ls 5 [(0, .ref this), (1, .ref a0), (2, .int a1), (3, .int x_2686)] → W p l e ({ frames := 0, cells := 0, slots := 0, locals := 0 } : Room) s m (List.toArray ([.ref this, .ref a0, .int a1] : List Value)) below meth c H locs 0 0 Q (F0 m 76 ls []) := by
                intro H locs ls hG hP hD hS hl
                obtain ⟨x_3586, ex_3586⟩ : ∃ y : Int32, y = x_2686 + Int32.ofInt 1 := ⟨_, rfl⟩
                have h_3587 : rg x_3586 1 5 := rg_of_eq ex_3586 (rg_add h_3139 (rg_k (Int32.ofInt 1) 1 rfl) (by decide))
                refine lv_iinc (v := x_3586) (lv' := [(3, .int x_3586), (0, .ref this), (1, .ref a0), (2, .int a1)]) hx hb dX5_lineUp_76 hl (k := 3) rfl ex_3586.symm (by decide) rfl (fun ls hl => ?_)
                refine lv_goto (tgt := 7) hx hb dX5_lineUp_79 (by decide) ?_
                exact ih_3135 x_3586 I_3522 ri_3523 _ _ _ (rg_w h_3587 (by decide)) (ms_up 1 hm ex_3586 rfl (by decide) h_3139 (by decide) (by decide)) hG hP hD hS (lv_sub hl [1, 2, 3, 0] rfl)
              refine lv_icmp_ge (tgt := 76) hx hb dX5_lineUp_21 (by decide) (fun c_3588 => ?_) (fun c_3588 => ?_)
              · exact K_3585 _ _ _ hG hP hD hS (lv_sub hl [0, 1, 2, 3] rfl)
              · have h_3589 : rg x_3521 0 39 := rg_lt1 (nle c_3588) h_3556 h_3557 (by decide)
                have h_3590 : rg (I_3522 0 a0) 1 40 := rg_lt2 (nle c_3588) h_3556 h_3557 (by decide)
                refine lv_aload_n hx hb dX5_lineUp_24 rfl (lv_at hl 0 rfl) ?_
                refine pg_f (v := .int (I_3522 164 this)) (C := RX5) (T := TX5) (N := 8) hx hb hts (tw_i inlX5) hown hK hP hL_this hK_this (by decide) rfl 4 (by decide) (hts _ (tw_c tw_1464)) rfl dX5_lineUp_25 ?_
                have h_3591 : rg (I_3522 164 this) 0 40 := GX.rI hG 164 rfl
                refine lv_bipush (v := 40) hx hb dX5_lineUp_28 (by decide) ?_
                refine lv_icmp_ge (tgt := 76) hx hb dX5_lineUp_30 (by decide) (fun c_3592 => ?_) (fun c_3592 => ?_)
                · have h_3593 : rg (I_3522 164 this) 40 40 := rg_le2 c_3592 (rg_k (40 : Int32) 40 rfl) h_3591 (by decide)
                  exact K_3585 _ _ _ hG hP hD hS (lv_sub hl [0, 1, 2, 3] rfl)
                · have h_3594 : rg (I_3522 164 this) 0 39 := rg_lt1 (nle c_3592) h_3591 (rg_k (40 : Int32) 40 rfl) (by decide)
                  refine lv_aload_n hx hb dX5_lineUp_33 rfl (lv_at hl 1 rfl) ?_
                  obtain ⟨w_3595, hR_w_3595, hL_w_3595, hK_w_3595, hN_w_3595, hT_w_3595⟩ := sh_a hSH 5 (ci := 0) (kd := 13) (len := 40) rfl (by decide) hL_a0 hK_a0
                  refine pg_f (v := .ref w_3595) (C := RX0) (T := TX0) (N := 16) hx hb hts (tw_i inlX0) hown hK hP hL_a0 hK_a0 (by decide) rfl 5 (by decide) (hts _ (tw_c tw_1459)) (pq_hv rfl hR_w_3595) dX5_lineUp_34 ?_
                  refine lv_iload hx hb dX5_lineUp_37 (lv_at hl 4 rfl) ?_
                  refine pl_i hx hb hK hP hL_w_3595 hK_w_3595 hN_w_3595 (rg_in h_3589 (by decide)) dX5_lineUp_39 ?_
                  refine lv_topi (fun x_3596 ex_3596 => ?_)
                  have h_3597 : rg x_3596 0 300 := rg_of_eq ex_3596 (GX.rR hG hT_w_3595 rfl)
                  refine lv_aload_n hx hb dX5_lineUp_40 rfl (lv_at hl 0 rfl) ?_
                  obtain ⟨w_3598, hR_w_3598, hL_w_3598, hK_w_3598, hN_w_3598, hT_w_3598⟩ := sh_a hSH 162 (ci := 5) (kd := 13) (len := 5) rfl (by decide) hL_this hK_this
                  refine pg_f (v := .ref w_3598) (C := RX5) (T := TX5) (N := 8) hx hb hts (tw_i inlX5) hown hK hP hL_this hK_this (by decide) rfl 2 (by decide) (hts _ (tw_c tw_143)) (pq_hv rfl hR_w_3598) dX5_lineUp_41 ?_
                  refine lv_iload_n hx hb dX5_lineUp_44 rfl (lv_at hl 3 rfl) ?_
                  refine pl_i hx hb hK hP hL_w_3598 hK_w_3598 hN_w_3598 (rg_in h_3139 (by decide)) dX5_lineUp_45 ?_
                  refine lv_topi (fun x_3599 ex_3599 => ?_)
                  have h_3600 : rg x_3599 0 4 := rg_of_eq ex_3599 (GX.rR hG hT_w_3598 rfl)
                  have K_3613 : ∀  (I_3608 : Nat → Nat → Int32) (ri_3609 : Nat → Nat → Int32) (H : Heap) (locs : List Loc) (ls : Array Slot), rg (I_3608 0 a0) 1 40 → GX [] tg σ I I_3608 ri_3609 rq → va_P D vwCl (pq_P t σ (I_3608, J, ri_3609, rj, rq)) H → va_D A (pq_P t σ (I_3608, J, ri_3609, rj, rq)) → va_S A s.heap H locs → lv_has ls 5 [(0, .ref this), (1, .ref a0), (2, .int a1), (3, .int x_2686), (4, .int x_3521)] → W p l e ({ frames := 0, cells := 0, slots := 0, locals := 0 } : Room) s m (List.toArray ([.ref this, .ref a0, .int a1] : List Value)) below meth c H locs 0 0 Q (F0 m 70 ls []) := by
                    intro I_3608 ri_3609 H locs ls h_3615 hG hP hD hS hl
                    obtain ⟨x_3616, ex_3616⟩ : ∃ y : Int32, y = x_3521 + Int32.ofInt 1 := ⟨_, rfl⟩
                    have h_3617 : rg x_3616 1 40 := rg_of_eq ex_3616 (rg_add h_3589 (rg_k (Int32.ofInt 1) 1 rfl) (by decide))
                    refine lv_iinc (v := x_3616) (lv' := [(4, .int x_3616), (0, .ref this), (1, .ref a0), (2, .int a1), (3, .int x_2686)]) hx hb dX5_lineUp_70 hl (k := 4) rfl ex_3616.symm (by decide) rfl (fun ls hl => ?_)
                    refine lv_goto (tgt := 15) hx hb dX5_lineUp_73 (by decide) ?_
                    exact ih_3554 x_3616 I_3608 ri_3609 _ _ _ (rg_w h_3617 (by decide)) (ms_up 1 hm ex_3616 rfl (by decide) h_3589 (by decide) (by decide)) hG hP hD hS (lv_sub hl [1, 2, 3, 4, 0] rfl)
                  refine lv_icmp_ne (tgt := 70) hx hb dX5_lineUp_46 (by decide) (fun c_3618 => ?_) (fun c_3618 => ?_)
                  · exact K_3613 I_3522 ri_3523 _ _ _ (rg_w h_3590 (by decide)) hG hP hD hS (lv_sub hl [0, 1, 2, 3, 4] rfl)
                  · have h_3619 : rg x_3596 0 4 := rg_and h_3597 (rg_of_eq c_3618 h_3600) (by decide)
                    refine lv_aload_n hx hb dX5_lineUp_49 rfl (lv_at hl 0 rfl) ?_
                    obtain ⟨w_3620, hR_w_3620, hL_w_3620, hK_w_3620, hN_w_3620, hT_w_3620⟩ := sh_a hSH 163 (ci := 5) (kd := 13) (len := 40) rfl (by decide) hL_this hK_this
                    refine pg_f (v := .ref w_3620) (C := RX5) (T := TX5) (N := 8) hx hb hts (tw_i inlX5) hown hK hP hL_this hK_this (by decide) rfl 3 (by decide) (hts _ (tw_c tw_144)) (pq_hv rfl hR_w_3620) dX5_lineUp_50 ?_
                    refine lv_aload_n hx hb dX5_lineUp_53 rfl (lv_at hl 0 rfl) ?_
                    refine pg_f (v := .int (I_3522 164 this)) (C := RX5) (T := TX5) (N := 8) hx hb hts (tw_i inlX5) hown hK hP hL_this hK_this (by decide) rfl 4 (by decide) (hts _ (tw_c tw_1464)) rfl dX5_lineUp_54 ?_
                    refine lv_iload hx hb dX5_lineUp_57 (lv_at hl 4 rfl) ?_
                    refine pt_i hx hb hK hP hD hS hL_w_3620 hK_w_3620 hN_w_3620 (rg_in h_3594 (by decide)) dX5_lineUp_59 (fun r_3621 H locs er_3621 hP hD hS => ?_)
                    have hG := GX.wR hG hSH hT_w_3620 rfl er_3621 (rg_w h_3589 (by decide)) (by decide)
                    refine lv_aload_n hx hb dX5_lineUp_60 rfl (lv_at hl 0 rfl) ?_
                    refine lv_dup hx hb dX5_lineUp_61 rfl ?_
                    refine pg_f (v := .int (I_3522 164 this)) (C := RX5) (T := TX5) (N := 8) hx hb hts (tw_i inlX5) hown hK hP hL_this hK_this (by decide) rfl 4 (by decide) (hts _ (tw_c tw_1464)) rfl dX5_lineUp_62 ?_
                    refine lv_iconst (v := 1) hx hb dX5_lineUp_65 (by decide) ?_
                    refine lv_iadd hx hb dX5_lineUp_66 ?_
                    refine lv_topi (fun x_3622 ex_3622 => ?_)
                    have h_3623 : rg x_3622 1 40 := rg_of_eq ex_3622 (rg_add h_3594 (rg_k (1 : Int32) 1 rfl) (by decide))
                    refine pp_i (v := x_3622) (ty := .int) (C := RX5) (T := TX5) (N := 8) hx hb hts (tw_i inlX5) tyX5 tyX5_ok nmX5 hown hK hP hD hS hL_this hK_this (by decide) rfl 4 164 (by decide) (hts _ (tw_c tw_1464)) rfl (by decide +kernel) rfl rfl (Nat.le_of_ble_eq_true rfl) (ps_164 _ _ _ _ _) dX5_lineUp_67 (fun I_3624 H locs eI_3624 hP hD hS => ?_)
                    have hG := GX.wI hG 164 rfl eI_3624 (rg_w h_3623 (by decide)) (by decide)
                    exact K_3613 I_3624 r_3621 _ _ _ (rg_w (by rw [eI_3624, pq_uf _ _ _ (by decide)]; exact h_3590) (by decide)) hG hP hD hS (lv_sub hl [0, 1, 2, 3, 4] rfl)
          exact L_3553 _ (0 : Int32) I_2687 ri_2688 _ _ _ (rg_w (rg_k (0 : Int32) 0 rfl) (by decide)) (Nat.lt_succ_self _) hG hP hD hS (lv_sub hl [1, 2, 3, 4, 0] rfl)
    exact L_3134 _ (0 : Int32) I_1 ri _ _ _ (rg_w (rg_k (0 : Int32) 0 rfl) (by decide)) (Nat.lt_succ_self _) hG hP hD hS (lv_sub hl [1, 2, 3, 0] rfl)
  exact go _ _ _ hP hD hS hl

set_option maxHeartbeats 4000000 in
set_option maxRecDepth 100000 in
theorem s_X9_fillUp (l : Launch) (D : va_G) (t : pq_T) (σ : pq_S) (I : Nat → Nat → Int32) (J : Nat → Nat → Int64) (ri : Nat → Nat → Int32) (rj : Nat → Nat → Int64) (rq : Nat → Nat → Option Nat) (sz : Nat) (tg : Nat → Nat) (hSH : SH σ tg) (hG0 : GS tg σ I ri rq) (this : Nat) (a0 : Int32) (a1 : Int64) (a2 : Int32) (hL_this : this ∈ σ.1) (hK_this : σ.2.1 this = 9) (h_a0 : rg a0 0 40) : MetV l yX9_fillUp (wa yX9_fillUp cX9_fillUp 6 none) ({ frames := 1, cells := 0, slots := 0, locals := 40 }) [.ref this, .int a0, .long a1, .int a2] D t σ (I, J, ri, rj, rq) sz 0 0 (fun (u : pq_S × pq_M) => ∃ ri' : Nat → Nat → Int32, u = (σ, I, J, ri', rj, rq) ∧ GX [] tg σ I I ri' rq) := by
  refine Met.ofW (cc := cX9_fillUp) (maxL := 6) (ret := none) (by decide) rfl ?_
  intro p e s m args below meth c s₁ B hml hv
  obtain ⟨rfl, hsz, hP, hK, hD0, hN⟩ := hv
  have hx := B.exec
  have hb := B.bytes
  have hr := B.returns
  have hts := atoms_spec (ws := (wa yX9_fillUp cX9_fillUp 6 none)) B.pre
  have hown : s.vm.findClass RX9 = some m.cls := findClass_of_methodNamed B.named
  have hlocks := B.notSynchronized
  subst hsz
  have hD : va_D (pq_B t σ (I, J, ri, rj, rq) s.heap.size) (pq_P t σ (I, J, ri, rj, rq)) := hD0.self
  generalize hAe : pq_B t σ (I, J, ri, rj, rq) s.heap.size = A at hD ⊢
  have hA : ∀ q : Nat, s.heap.size ≤ q → A q := fun q h => by rw [← hAe]; exact Or.inr h
  have hS : va_S A s.heap s.heap [] := va_S.rf
  have hG : GX [] tg σ I I ri rq := ⟨hG0, fun _ _ _ => rfl⟩
  have hl := lv_entry ([.ref this, .int a0, .long a1, .int a2]) (n := 6) (Nat.le_of_ble_eq_true rfl)
  rw [lg_entry_eq]
  generalize (lg_sl ([.ref this, .int a0, .long a1, .int a2]) ++ List.replicate (6 - (lg_sl ([.ref this, .int a0, .long a1, .int a2])).length) Slot.unset).toArray = ls at hl ⊢
  have hl : lv_has ls 6 [(0, .ref this), (1, .int a0), (2, .long a1), (4, .int a2)] := hl
  refine q_gen (fun Q hQ => ?_)
  have go : ∀ (H : Heap) (locs : List Loc) (ls : Array Slot), va_P D vwCl (pq_P t σ (I, J, ri, rj, rq)) H → va_D A (pq_P t σ (I, J, ri, rj, rq)) → va_S A s.heap H locs → lv_has ls 6 [(0, .ref this), (1, .int a0), (2, .long a1), (4, .int a2)] → W p l e ({ frames := 1, cells := 0, slots := 0, locals := 40 } : Room) s m (List.toArray ([.ref this, .int a0, .long a1, .int a2] : List Value)) below meth c H locs 0 0 Q (F0 m 0 ls []) := by
    intro H locs ls hP hD hS hl
    refine lv_iconst (v := 0) hx hb dX9_fillUp_0 (by decide) ?_
    refine lv_istore (lv' := [(5, .int 0), (0, .ref this), (1, .int a0), (2, .long a1), (4, .int a2)]) hx hb dX9_fillUp_1 hl (by decide) rfl (fun ls hl => ?_)
    have L_622 : ∀ (n_ : Nat) (x_574 : Int32) (ri_575 : Nat → Nat → Int32) (H : Heap) (locs : List Loc) (ls : Array Slot), rg x_574 0 40 → (40 - (x_574).toInt).toNat < n_ → GX [] tg σ I I ri_575 rq → va_P D vwCl (pq_P t σ (I, J, ri_575, rj, rq)) H → va_D A (pq_P t σ (I, J, ri_575, rj, rq)) → va_S A s.heap H locs → lv_has ls 6 [(0, .ref this), (1, .int a0), (2, .long a1), (4, .int a2), (5, .int x_574)] → W p l e ({ frames := 1, cells := 0, slots := 0, locals := 40 } : Room) s m (List.toArray ([.ref this, .int a0, .long a1, .int a2] : List Value)) below meth c H locs 0 0 Q (F0 m 3 ls []) := by
      intro n_
      induction n_ with
      | zero => intro x_574 ri_575 H locs ls h_625 hm hG hP hD hS hl; exact absurd hm (Nat.not_lt_zero _)
      | succ n_ ih_623 =>
        intro x_574 ri_575 H locs ls h_625 hm hG hP hD hS hl
        refine lv_iload hx hb dX9_fillUp_3 (lv_at hl 4 rfl) ?_
        refine lv_iload_n hx hb dX9_fillUp_5 rfl (lv_at hl 1 rfl) ?_
        refine lv_icmp_ge (tgt := 112) hx hb dX9_fillUp_6 (by decide) (fun c_626 => ?_) (fun c_626 => ?_)
        · subst hQ
          exact W.vret hx hb hr (fun t1 ht hW => ⟨⟨(σ, I, J, ri_575, rj, rq), rfl, ⟨ri_575, rfl, hG⟩, by rw [ht]; exact hP, va_K.moved hW.alike hK, hD⟩, hS.F ht⟩) hS.2.2 dX9_fillUp_112
        · have h_627 : rg x_574 0 39 := rg_lt1 (nle c_626) h_625 h_a0 (by decide)
          have h_628 : rg a0 1 40 := rg_lt2 (nle c_626) h_625 h_a0 (by decide)
          refine lv_aload_n hx hb dX9_fillUp_9 rfl (lv_at hl 0 rfl) ?_
          refine lv_iload hx hb dX9_fillUp_10 (lv_at hl 4 rfl) ?_
          refine pk_i (va_runV (As := [.int x_574]) (rest := []) ⟨hx, hb, hml, hown, hts⟩ (s_X9_isAt l D t σ I J ri_575 rj rq H.size tg hSH hG.1 this x_574 hL_this hK_this (rg_w h_627 (by decide))) (cwV 1 hts (tw_V tw_1089 tw_350 tw_351 tw_94 tw_352) rfl rfl rfl (by decide +kernel) ⟨Nat.le_of_ble_eq_true rfl, Nat.le_of_ble_eq_true rfl⟩) ⟨pq_blind, pq_recv hK hP hL_this hK_this (by decide) rfl, pq_pre hK hN hP hD⟩ rfl rfl hl.1 rfl (lv_room (Nat.le_of_ble_eq_true rfl)) dX9_fillUp_12 ⟨Nat.le_of_ble_eq_true rfl, Nat.le_of_ble_eq_true rfl⟩) hD hS hA (fun x_629 σ1 μ1 H locs hw_630 hP hD hS => ?_)
          obtain ⟨hu_631, hr_633⟩ := hw_630
          obtain ⟨hu_631a, hu_631b⟩ := Prod.mk.inj hu_631
          rw [hu_631a, hu_631b] at hP hD
          have h_634 : rg x_629 0 1 := by rcases hr_633 with ⟨q, -⟩ | ⟨q, -⟩ <;> rw [q] <;> exact ⟨by decide, by decide⟩
          have K_671 : ∀  (ri_668 : Nat → Nat → Int32) (H : Heap) (locs : List Loc) (ls : Array Slot), GX [] tg σ I I ri_668 rq → va_P D vwCl (pq_P t σ (I, J, ri_668, rj, rq)) H → va_D A (pq_P t σ (I, J, ri_668, rj, rq)) → va_S A s.heap H locs → lv_has ls 6 [(0, .ref this), (1, .int a0), (2, .long a1), (4, .int a2), (5, .int x_574)] → W p l e ({ frames := 1, cells := 0, slots := 0, locals := 40 } : Room) s m (List.toArray ([.ref this, .int a0, .long a1, .int a2] : List Value)) below meth c H locs 0 0 Q (F0 m 106 ls []) := by
            intro ri_668 H locs ls hG hP hD hS hl
            obtain ⟨x_672, ex_672⟩ : ∃ y : Int32, y = x_574 + Int32.ofInt 1 := ⟨_, rfl⟩
            have h_673 : rg x_672 1 40 := rg_of_eq ex_672 (rg_add h_627 (rg_k (Int32.ofInt 1) 1 rfl) (by decide))
            refine lv_iinc (v := x_672) (lv' := [(5, .int x_672), (0, .ref this), (1, .int a0), (2, .long a1), (4, .int a2)]) hx hb dX9_fillUp_106 hl (k := 4) rfl ex_672.symm (by decide) rfl (fun ls hl => ?_)
            refine lv_goto (tgt := 3) hx hb dX9_fillUp_109 (by decide) ?_
            exact ih_623 x_672 ri_668 _ _ _ (rg_w h_673 (by decide)) (ms_up 1 hm ex_672 rfl (by decide) h_627 (by decide) (by decide)) hG hP hD hS (lv_sub hl [1, 2, 3, 4, 0] rfl)
          refine lv_if_ne (tgt := 21) hx hb dX9_fillUp_15 (by decide) (fun c_674 => ?_) (fun c_674 => ?_)
          · have h_675 : rg x_629 1 1 := rg_ne c_674 h_634 0 rfl (by decide)
            refine lv_lload_n hx hb dX9_fillUp_21 rfl (lv_at hl 2 rfl) ?_
            refine lv_iload hx hb dX9_fillUp_22 (lv_at hl 4 rfl) ?_
            refine pk_i (va_runSN (As := [.long a1, .int x_574]) (rest := []) ⟨hx, hb, hml, hown, hts⟩ (s_X11_hasBit l D t σ I J ri_575 rj rq H.size tg hSH hG.1 a1 x_574) ⟨va_cnB (host := "RingsUnder") 2 hts (tw_W tw_560) rfl rfl rfl (nl_14 hN) (hts _ (tw_c tw_2)) (by decide +kernel) ⟨Nat.le_of_ble_eq_true rfl, Nat.le_of_ble_eq_true rfl⟩, hts (.static yX11_hasBit) (by decide +kernel), trivial⟩ ⟨pq_blind, pq_pre hK hN hP hD⟩ rfl rfl hl.1 rfl (lv_room (Nat.le_of_ble_eq_true rfl)) dX9_fillUp_24 ⟨Nat.le_of_ble_eq_true rfl, Nat.le_of_ble_eq_true rfl⟩) hD hS hA (fun x_676 σ1 μ1 H locs hw_677 hP hD hS => ?_)
            obtain ⟨hu_678, hr_680⟩ := hw_677
            obtain ⟨hu_678a, hu_678b⟩ := Prod.mk.inj hu_678
            rw [hu_678a, hu_678b] at hP hD
            have h_681 : rg x_676 0 1 := by rcases hr_680 with ⟨q, -⟩ | ⟨q, -⟩ <;> rw [q] <;> exact ⟨by decide, by decide⟩
            refine lv_if_eq (tgt := 84) hx hb dX9_fillUp_27 (by decide) (fun c_682 => ?_) (fun c_682 => ?_)
            · have h_683 : rg x_676 0 0 := rg_and h_681 (rg_of_eq c_682 (rg_k (0 : Int32) 0 rfl)) (by decide)
              refine lv_aload_n hx hb dX9_fillUp_84 rfl (lv_at hl 0 rfl) ?_
              obtain ⟨w_684, hR_w_684, hL_w_684, hK_w_684, hN_w_684, hT_w_684⟩ := sh_a hSH 290 (ci := 9) (kd := 13) (len := 40) rfl (by decide) hL_this hK_this
              refine pg_f (v := .ref w_684) (C := RX9) (T := TX9) (N := 3) hx hb hts (tw_i inlX9) hown hK hP hL_this hK_this (by decide) rfl 2 (by decide) (hts _ (tw_c tw_106)) (pq_hv rfl hR_w_684) dX9_fillUp_85 ?_
              refine lv_iload hx hb dX9_fillUp_88 (lv_at hl 4 rfl) ?_
              refine lv_bipush (v := 100) hx hb dX9_fillUp_90 (by decide) ?_
              refine lv_aload_n hx hb dX9_fillUp_92 rfl (lv_at hl 0 rfl) ?_
              refine pg_f (v := .ref w_684) (C := RX9) (T := TX9) (N := 3) hx hb hts (tw_i inlX9) hown hK hP hL_this hK_this (by decide) rfl 2 (by decide) (hts _ (tw_c tw_106)) (pq_hv rfl hR_w_684) dX9_fillUp_93 ?_
              refine lv_iload hx hb dX9_fillUp_96 (lv_at hl 4 rfl) ?_
              refine pl_i hx hb hK hP hL_w_684 hK_w_684 hN_w_684 (rg_in h_627 (by decide)) dX9_fillUp_98 ?_
              refine lv_topi (fun x_685 ex_685 => ?_)
              refine lv_bipush (v := 10) hx hb dX9_fillUp_99 (by decide) ?_
              refine lv_iadd hx hb dX9_fillUp_101 ?_
              refine lv_topi (fun x_686 ex_686 => ?_)
              refine va_mmin hx hb (hml.trans hl.1.symm) hown (hts _ (tw_c tw_1087)) (hts _ (tw_c tw_467)) (hts _ (tw_c tw_276)) (hts _ (tw_c tw_468)) (Nat.le_of_ble_eq_true rfl) (Nat.le_of_ble_eq_true rfl) (Nat.zero_le _) (Nat.zero_le _) dX9_fillUp_102 ?_
              refine lv_topi (fun x_687 ex_687 => ?_)
              have h_688 : rg x_687 (-2147483648) 100 := rg_of_eq ex_687 (rg_min2 (rg_k (100 : Int32) 100 rfl) (rg_full _) (by decide))
              refine pt_i hx hb hK hP hD hS hL_w_684 hK_w_684 hN_w_684 (rg_in h_627 (by decide)) dX9_fillUp_105 (fun r_689 H locs er_689 hP hD hS => ?_)
              have hG := GX.wR hG hSH hT_w_684 rfl er_689 (rg_w h_688 (by decide)) (by decide)
              exact K_671 r_689 _ _ _ hG hP hD hS (lv_sub hl [0, 1, 2, 3, 4] rfl)
            · have h_690 : rg x_676 1 1 := rg_ne c_682 h_681 0 rfl (by decide)
              refine lv_aload_n hx hb dX9_fillUp_30 rfl (lv_at hl 0 rfl) ?_
              obtain ⟨w_691, hR_w_691, hL_w_691, hK_w_691, hN_w_691, hT_w_691⟩ := sh_a hSH 289 (ci := 9) (kd := 13) (len := 40) rfl (by decide) hL_this hK_this
              refine pg_f (v := .ref w_691) (C := RX9) (T := TX9) (N := 3) hx hb hts (tw_i inlX9) hown hK hP hL_this hK_this (by decide) rfl 1 (by decide) (hts _ (tw_c tw_105)) (pq_hv rfl hR_w_691) dX9_fillUp_31 ?_
              refine lv_iload hx hb dX9_fillUp_34 (lv_at hl 4 rfl) ?_
              refine lv_sipush (v := 10000) hx hb dX9_fillUp_36 (by decide) ?_
              refine lv_aload_n hx hb dX9_fillUp_39 rfl (lv_at hl 0 rfl) ?_
              refine pg_f (v := .ref w_691) (C := RX9) (T := TX9) (N := 3) hx hb hts (tw_i inlX9) hown hK hP hL_this hK_this (by decide) rfl 1 (by decide) (hts _ (tw_c tw_105)) (pq_hv rfl hR_w_691) dX9_fillUp_40 ?_
              refine lv_iload hx hb dX9_fillUp_43 (lv_at hl 4 rfl) ?_
              refine pl_i hx hb hK hP hL_w_691 hK_w_691 hN_w_691 (rg_in h_627 (by decide)) dX9_fillUp_45 ?_
              refine lv_topi (fun x_692 ex_692 => ?_)
              refine lv_iload hx hb dX9_fillUp_46 (lv_at hl 3 rfl) ?_
              refine lv_aload_n hx hb dX9_fillUp_48 rfl (lv_at hl 0 rfl) ?_
              obtain ⟨w_693, hR_w_693, hL_w_693, hK_w_693, hN_w_693, hT_w_693⟩ := sh_a hSH 288 (ci := 9) (kd := 13) (len := 40) rfl (by decide) hL_this hK_this
              refine pg_f (v := .ref w_693) (C := RX9) (T := TX9) (N := 3) hx hb hts (tw_i inlX9) hown hK hP hL_this hK_this (by decide) rfl 0 (by decide) (hts _ (tw_c tw_104)) (pq_hv rfl hR_w_693) dX9_fillUp_49 ?_
              refine lv_iload hx hb dX9_fillUp_52 (lv_at hl 4 rfl) ?_
              refine pl_i hx hb hK hP hL_w_693 hK_w_693 hN_w_693 (rg_in h_627 (by decide)) dX9_fillUp_54 ?_
              refine lv_topi (fun x_694 ex_694 => ?_)
              refine lv_imul hx hb dX9_fillUp_55 ?_
              refine lv_topi (fun x_695 ex_695 => ?_)
              refine lv_iadd hx hb dX9_fillUp_56 ?_
              refine lv_topi (fun x_696 ex_696 => ?_)
              refine va_mmin hx hb (hml.trans hl.1.symm) hown (hts _ (tw_c tw_1087)) (hts _ (tw_c tw_467)) (hts _ (tw_c tw_276)) (hts _ (tw_c tw_468)) (Nat.le_of_ble_eq_true rfl) (Nat.le_of_ble_eq_true rfl) (Nat.zero_le _) (Nat.zero_le _) dX9_fillUp_57 ?_
              refine lv_topi (fun x_697 ex_697 => ?_)
              have h_698 : rg x_697 (-2147483648) 10000 := rg_of_eq ex_697 (rg_min2 (rg_k (10000 : Int32) 10000 rfl) (rg_full _) (by decide))
              refine pt_i hx hb hK hP hD hS hL_w_691 hK_w_691 hN_w_691 (rg_in h_627 (by decide)) dX9_fillUp_60 (fun r_699 H locs er_699 hP hD hS => ?_)
              have hG := GX.wR hG hSH hT_w_691 rfl er_699 (rg_w h_698 (by decide)) (by decide)
              refine lv_aload_n hx hb dX9_fillUp_61 rfl (lv_at hl 0 rfl) ?_
              obtain ⟨w_700, hR_w_700, hL_w_700, hK_w_700, hN_w_700, hT_w_700⟩ := sh_a hSH 290 (ci := 9) (kd := 13) (len := 40) rfl (by decide) hL_this hK_this
              refine pg_f (v := .ref w_700) (C := RX9) (T := TX9) (N := 3) hx hb hts (tw_i inlX9) hown hK hP hL_this hK_this (by decide) rfl 2 (by decide) (hts _ (tw_c tw_106)) (pq_hv rfl hR_w_700) dX9_fillUp_62 ?_
              refine lv_iload hx hb dX9_fillUp_65 (lv_at hl 4 rfl) ?_
              refine lv_iconst (v := 0) hx hb dX9_fillUp_67 (by decide) ?_
              refine lv_aload_n hx hb dX9_fillUp_68 rfl (lv_at hl 0 rfl) ?_
              refine pg_f (v := .ref w_700) (C := RX9) (T := TX9) (N := 3) hx hb hts (tw_i inlX9) hown hK hP hL_this hK_this (by decide) rfl 2 (by decide) (hts _ (tw_c tw_106)) (pq_hv rfl hR_w_700) dX9_fillUp_69 ?_
              refine lv_iload hx hb dX9_fillUp_72 (lv_at hl 4 rfl) ?_
              refine pl_i hx hb hK hP hL_w_700 hK_w_700 hN_w_700 (rg_in h_627 (by decide)) dX9_fillUp_74 ?_
              refine lv_topi (fun x_701 ex_701 => ?_)
              refine lv_iconst (v := 1) hx hb dX9_fillUp_75 (by decide) ?_
              refine lv_isub hx hb dX9_fillUp_76 ?_
              refine lv_topi (fun x_702 ex_702 => ?_)
              refine va_mmax hx hb (hml.trans hl.1.symm) hown (hts _ (tw_c tw_1088)) (hts _ (tw_c tw_275)) (hts _ (tw_c tw_276)) (hts _ (tw_c tw_277)) (Nat.le_of_ble_eq_true rfl) (Nat.le_of_ble_eq_true rfl) (Nat.zero_le _) (Nat.zero_le _) dX9_fillUp_77 ?_
              refine lv_topi (fun x_703 ex_703 => ?_)
              have h_704 : rg x_703 0 2147483647 := rg_of_eq ex_703 (rg_max2 (rg_k (0 : Int32) 0 rfl) (rg_full _) (by decide))
              refine pt_i hx hb hK hP hD hS hL_w_700 hK_w_700 hN_w_700 (rg_in h_627 (by decide)) dX9_fillUp_80 (fun r_705 H locs er_705 hP hD hS => ?_)
              have hG := GX.wR hG hSH hT_w_700 rfl er_705 (rg_w h_704 (by decide)) (by decide)
              refine lv_goto (tgt := 106) hx hb dX9_fillUp_81 (by decide) ?_
              exact K_671 r_705 _ _ _ hG hP hD hS (lv_sub hl [0, 1, 2, 3, 4] rfl)
          · have h_706 : rg x_629 0 0 := rg_and h_634 (rg_of_eq c_674 (rg_k (0 : Int32) 0 rfl)) (by decide)
            refine lv_goto (tgt := 106) hx hb dX9_fillUp_18 (by decide) ?_
            exact K_671 ri_575 _ _ _ hG hP hD hS (lv_sub hl [0, 1, 2, 3, 4] rfl)
    exact L_622 _ (0 : Int32) ri _ _ _ (rg_w (rg_k (0 : Int32) 0 rfl) (by decide)) (Nat.lt_succ_self _) hG hP hD hS (lv_sub hl [1, 2, 3, 4, 0] rfl)
  exact go _ _ _ hP hD hS hl

set_option maxHeartbeats 4000000 in
set_option maxRecDepth 100000 in
theorem s_X0_sleep_166 (l : Launch) (D : va_G) (t : pq_T) (σ : pq_S) (I : Nat → Nat → Int32) (J : Nat → Nat → Int64) (ri : Nat → Nat → Int32) (rj : Nat → Nat → Int64) (rq : Nat → Nat → Option Nat) (sz : Nat) (tg : Nat → Nat) (hSH : SH σ tg) (hG0 : GS tg σ I ri rq) (this : Nat) (a0 : Nat) (a1 : Int32) (hL_this : this ∈ σ.1) (hK_this : σ.2.1 this = 0) (hL_a0 : a0 ∈ σ.1) (hK_a0 : σ.2.1 a0 = 13) (hN_a0 : σ.2.2.2 a0 = 60) (hT_a0 : tg a0 = 166) (h_a1 : rg a1 0 55) : MetI l yX0_sleep (wa yX0_sleep cX0_sleep 5 (some .int)) ({ frames := 1, cells := 0, slots := 0, locals := 60 }) [.ref this, .ref a0, .int a1] D t σ (I, J, ri, rj, rq) sz 0 0 (fun (r : Int32) (u : pq_S × pq_M) => ∃ ri' : Nat → Nat → Int32, u = (σ, I, J, ri', rj, rq) ∧ GX [] tg σ I I ri' rq) := by
  refine Met.ofW (cc := cX0_sleep) (maxL := 5) (ret := (some .int)) (by decide) rfl ?_
  intro p e s m args below meth c s₁ B hml hv
  obtain ⟨rfl, hsz, hP, hK, hD0, hN⟩ := hv
  have hx := B.exec
  have hb := B.bytes
  have hr := B.returns
  have hts := atoms_spec (ws := (wa yX0_sleep cX0_sleep 5 (some .int))) B.pre
  have hown : s.vm.findClass RX0 = some m.cls := findClass_of_methodNamed B.named
  have hlocks := B.notSynchronized
  subst hsz
  have hD : va_D (pq_B t σ (I, J, ri, rj, rq) s.heap.size) (pq_P t σ (I, J, ri, rj, rq)) := hD0.self
  generalize hAe : pq_B t σ (I, J, ri, rj, rq) s.heap.size = A at hD ⊢
  have hA : ∀ q : Nat, s.heap.size ≤ q → A q := fun q h => by rw [← hAe]; exact Or.inr h
  have hS : va_S A s.heap s.heap [] := va_S.rf
  have hG : GX [] tg σ I I ri rq := ⟨hG0, fun _ _ _ => rfl⟩
  have hl := lv_entry ([.ref this, .ref a0, .int a1]) (n := 5) (Nat.le_of_ble_eq_true rfl)
  rw [lg_entry_eq]
  generalize (lg_sl ([.ref this, .ref a0, .int a1]) ++ List.replicate (5 - (lg_sl ([.ref this, .ref a0, .int a1])).length) Slot.unset).toArray = ls at hl ⊢
  have hl : lv_has ls 5 [(0, .ref this), (1, .ref a0), (2, .int a1)] := hl
  refine q_gen (fun Q hQ => ?_)
  have go : ∀ (H : Heap) (locs : List Loc) (ls : Array Slot), va_P D vwCl (pq_P t σ (I, J, ri, rj, rq)) H → va_D A (pq_P t σ (I, J, ri, rj, rq)) → va_S A s.heap H locs → lv_has ls 5 [(0, .ref this), (1, .ref a0), (2, .int a1)] → W p l e ({ frames := 1, cells := 0, slots := 0, locals := 60 } : Room) s m (List.toArray ([.ref this, .ref a0, .int a1] : List Value)) below meth c H locs 0 0 Q (F0 m 0 ls []) := by
    intro H locs ls hP hD hS hl
    refine lv_iload_n hx hb dX0_sleep_0 rfl (lv_at hl 2 rfl) ?_
    refine lv_if_lt (tgt := 12) hx hb dX0_sleep_1 (by decide) (fun c_1051 => ?_) (fun c_1051 => ?_)
    · exact (rg_empty (rg_lt1 c_1051 h_a1 (rg_k (0 : Int32) 0 rfl) (lo := 0) (hi := (-1)) (by decide)) (by decide)).elim
    · refine lv_iload_n hx hb dX0_sleep_4 rfl (lv_at hl 2 rfl) ?_
      refine lv_iconst (v := 5) hx hb dX0_sleep_5 (by decide) ?_
      refine lv_iadd hx hb dX0_sleep_6 ?_
      refine lv_topi (fun x_1052 ex_1052 => ?_)
      have h_1053 : rg x_1052 5 60 := rg_of_eq ex_1052 (rg_add h_a1 (rg_k (5 : Int32) 5 rfl) (by decide))
      refine lv_aload_n hx hb dX0_sleep_7 rfl (lv_at hl 1 rfl) ?_
      refine pn_i (v := 60) hx hb hK hP hL_a0 hK_a0 hN_a0 (by decide) dX0_sleep_8 ?_
      refine lv_icmp_le (tgt := 14) hx hb dX0_sleep_9 (by decide) (fun c_1054 => ?_) (fun c_1054 => ?_)
      · refine lv_aload_n hx hb dX0_sleep_14 rfl (lv_at hl 1 rfl) ?_
        refine lv_iload_n hx hb dX0_sleep_15 rfl (lv_at hl 2 rfl) ?_
        refine lv_aload_n hx hb dX0_sleep_16 rfl (lv_at hl 0 rfl) ?_
        obtain ⟨w_1055, hR_w_1055, hL_w_1055, hK_w_1055, hN_w_1055, hT_w_1055⟩ := sh_a hSH 12 (ci := 0) (kd := 13) (len := 5) rfl (by decide) hL_this hK_this
        refine pg_f (v := .ref w_1055) (C := RX0) (T := TX0) (N := 16) hx hb hts (tw_i inlX0) hown hK hP hL_this hK_this (by decide) rfl 12 (by decide) (hts _ (tw_c tw_120)) (pq_hv rfl hR_w_1055) dX0_sleep_17 ?_
        refine lv_iconst (v := 0) hx hb dX0_sleep_20 (by decide) ?_
        refine lv_iconst (v := 5) hx hb dX0_sleep_21 (by decide) ?_
        refine pc_i hx hb (hml.trans hl.1.symm) hown (hts _ (tw_c tw_1124)) (hts _ (tw_c tw_1105)) (hts _ (tw_c tw_1106)) (hts _ (tw_c tw_1107)) hK hP hD hS hL_a0 hK_a0 hN_a0 hL_w_1055 hK_w_1055 hN_w_1055 (rg_pos h_a1 (by decide)) (rg_pos (rg_k (5 : Int32) 5 rfl) (by decide)) (rg_cp h_a1 (rg_k (5 : Int32) 5 rfl) (by decide)) (rg_cl (rg_k (5 : Int32) 5 rfl) (by decide)) (Nat.le_of_ble_eq_true rfl) (Nat.le_of_ble_eq_true rfl) dX0_sleep_22 (fun r_1056 H locs er_1056 hP hD hS => ?_)
        have hG := GX.cR hG hSH hT_a0 rfl hT_w_1055 rfl er_1056 (by decide)
        refine lv_iconst (v := 0) hx hb dX0_sleep_25 (by decide) ?_
        refine lv_istore_n (lv' := [(3, .int 0), (0, .ref this), (1, .ref a0), (2, .int a1)]) hx hb dX0_sleep_26 rfl hl (by decide) rfl (fun ls hl => ?_)
        refine lv_iconst (v := 0) hx hb dX0_sleep_27 (by decide) ?_
        refine lv_istore (lv' := [(4, .int 0), (3, .int 0), (0, .ref this), (1, .ref a0), (2, .int a1)]) hx hb dX0_sleep_28 hl (by decide) rfl (fun ls hl => ?_)
        have L_2066 : ∀ (n_ : Nat) (x_2028 : Int32) (x_2029 : Int32) (ri_2030 : Nat → Nat → Int32) (H : Heap) (locs : List Loc) (ls : Array Slot), rg x_2029 0 40 → (40 - (x_2029).toInt).toNat < n_ → GX [] tg σ I I ri_2030 rq → va_P D vwCl (pq_P t σ (I, J, ri_2030, rj, rq)) H → va_D A (pq_P t σ (I, J, ri_2030, rj, rq)) → va_S A s.heap H locs → lv_has ls 5 [(0, .ref this), (3, .int x_2028), (4, .int x_2029)] → W p l e ({ frames := 1, cells := 0, slots := 0, locals := 60 } : Room) s m (List.toArray ([.ref this, .ref a0, .int a1] : List Value)) below meth c H locs 0 0 Q (F0 m 30 ls []) := by
          intro n_
          induction n_ with
          | zero => intro x_2028 x_2029 ri_2030 H locs ls h_2069 hm hG hP hD hS hl; exact absurd hm (Nat.not_lt_zero _)
          | succ n_ ih_2067 =>
            intro x_2028 x_2029 ri_2030 H locs ls h_2069 hm hG hP hD hS hl
            refine lv_iload hx hb dX0_sleep_30 (lv_at hl 2 rfl) ?_
            refine lv_aload_n hx hb dX0_sleep_32 rfl (lv_at hl 0 rfl) ?_
            refine pg_f (v := .int (I 0 this)) (C := RX0) (T := TX0) (N := 16) hx hb hts (tw_i inlX0) hown hK hP hL_this hK_this (by decide) rfl 0 (by decide) (hts _ (tw_c tw_395)) rfl dX0_sleep_33 ?_
            have h_2070 : rg (I 0 this) 0 40 := GX.rI hG 0 rfl
            refine lv_icmp_ge (tgt := 102) hx hb dX0_sleep_36 (by decide) (fun c_2071 => ?_) (fun c_2071 => ?_)
            · refine lv_iload_n hx hb dX0_sleep_102 rfl (lv_at hl 1 rfl) ?_
              subst hQ
              exact W.iret (v := x_2028) hx hb hr (fun t1 ht hW => ⟨⟨x_2028, (σ, I, J, ri_2030, rj, rq), rfl, ⟨ri_2030, rfl, hG⟩, by rw [ht]; exact hP, va_K.moved hW.alike hK, hD⟩, hS.F ht⟩) hS.2.2 dX0_sleep_103
            · have h_2072 : rg x_2029 0 39 := rg_lt1 (nle c_2071) h_2069 h_2070 (by decide)
              have h_2073 : rg (I 0 this) 1 40 := rg_lt2 (nle c_2071) h_2069 h_2070 (by decide)
              refine lv_aload_n hx hb dX0_sleep_39 rfl (lv_at hl 0 rfl) ?_
              refine lv_iload hx hb dX0_sleep_40 (lv_at hl 2 rfl) ?_
              obtain ⟨w_2074, hR_w_2074, hL_w_2074, hK_w_2074, hN_w_2074, hT_w_2074⟩ := sh_a hSH 5 (ci := 0) (kd := 13) (len := 40) rfl (by decide) hL_this hK_this
              refine pk_i (va_runV (As := [.int x_2029]) (rest := []) ⟨hx, hb, hml, hown, hts⟩ (s_X0_isOnRing l D t σ I J ri_2030 rj rq H.size tg hSH hG.1 this x_2029 hL_this hK_this (rg_w h_2072 (by decide)) w_2074 hR_w_2074 hL_w_2074 hK_w_2074 hN_w_2074 hT_w_2074) (cwV 1 hts (tw_V tw_1108 tw_1109 tw_1110 tw_45 tw_1111) rfl rfl rfl (by decide +kernel) ⟨Nat.le_of_ble_eq_true rfl, Nat.le_of_ble_eq_true rfl⟩) ⟨pq_blind, pq_recv hK hP hL_this hK_this (by decide) rfl, pq_pre hK hN hP hD⟩ rfl rfl hl.1 rfl (lv_room (Nat.le_of_ble_eq_true rfl)) dX0_sleep_42 ⟨Nat.le_of_ble_eq_true rfl, Nat.le_of_ble_eq_true rfl⟩) hD hS hA (fun x_2075 σ1 μ1 H locs hw_2076 hP hD hS => ?_)
              obtain ⟨hu_2077, hr_2079⟩ := hw_2076
              obtain ⟨hu_2077a, hu_2077b⟩ := Prod.mk.inj hu_2077
              rw [hu_2077a, hu_2077b] at hP hD
              have h_2080 : rg x_2075 0 1 := by rcases hr_2079 with ⟨q, -⟩ | ⟨q, -⟩ <;> rw [q] <;> exact ⟨by decide, by decide⟩
              have K_2104 : ∀  (x_2100 : Int32) (ri_2101 : Nat → Nat → Int32) (H : Heap) (locs : List Loc) (ls : Array Slot), GX [] tg σ I I ri_2101 rq → va_P D vwCl (pq_P t σ (I, J, ri_2101, rj, rq)) H → va_D A (pq_P t σ (I, J, ri_2101, rj, rq)) → va_S A s.heap H locs → lv_has ls 5 [(0, .ref this), (3, .int x_2100), (4, .int x_2029)] → W p l e ({ frames := 1, cells := 0, slots := 0, locals := 60 } : Room) s m (List.toArray ([.ref this, .ref a0, .int a1] : List Value)) below meth c H locs 0 0 Q (F0 m 96 ls []) := by
                intro x_2100 ri_2101 H locs ls hG hP hD hS hl
                obtain ⟨x_2105, ex_2105⟩ : ∃ y : Int32, y = x_2029 + Int32.ofInt 1 := ⟨_, rfl⟩
                have h_2106 : rg x_2105 1 40 := rg_of_eq ex_2105 (rg_add h_2072 (rg_k (Int32.ofInt 1) 1 rfl) (by decide))
                refine lv_iinc (v := x_2105) (lv' := [(4, .int x_2105), (0, .ref this), (3, .int x_2100)]) hx hb dX0_sleep_96 hl (k := 2) rfl ex_2105.symm (by decide) rfl (fun ls hl => ?_)
                refine lv_goto (tgt := 30) hx hb dX0_sleep_99 (by decide) ?_
                exact ih_2067 x_2100 x_2105 ri_2101 _ _ _ (rg_w h_2106 (by decide)) (ms_up 1 hm ex_2105 rfl (by decide) h_2072 (by decide) (by decide)) hG hP hD hS (lv_sub hl [1, 2, 0] rfl)
              refine lv_if_eq (tgt := 96) hx hb dX0_sleep_45 (by decide) (fun c_2107 => ?_) (fun c_2107 => ?_)
              · have f_2108 := (hr_2079.resolve_left (fun q => absurd (q.1.symm.trans c_2107) (by decide))).2
                have h_2109 : rg x_2075 0 0 := rg_and h_2080 (rg_of_eq c_2107 (rg_k (0 : Int32) 0 rfl)) (by decide)
                exact K_2104 x_2028 ri_2030 _ _ _ hG hP hD hS (lv_sub hl [0, 1, 2] rfl)
              · have f_2110 := (hr_2079.resolve_right (fun q => c_2107 q.1)).2
                have h_2111 : rg x_2075 1 1 := rg_ne c_2107 h_2080 0 rfl (by decide)
                refine lv_aload_n hx hb dX0_sleep_48 rfl (lv_at hl 0 rfl) ?_
                refine pg_f (v := .ref w_1055) (C := RX0) (T := TX0) (N := 16) hx hb hts (tw_i inlX0) hown hK hP hL_this hK_this (by decide) rfl 12 (by decide) (hts _ (tw_c tw_120)) (pq_hv rfl hR_w_1055) dX0_sleep_49 ?_
                refine lv_aload_n hx hb dX0_sleep_52 rfl (lv_at hl 0 rfl) ?_
                refine pg_f (v := .ref w_2074) (C := RX0) (T := TX0) (N := 16) hx hb hts (tw_i inlX0) hown hK hP hL_this hK_this (by decide) rfl 5 (by decide) (hts _ (tw_c tw_114)) (pq_hv rfl hR_w_2074) dX0_sleep_53 ?_
                refine lv_iload hx hb dX0_sleep_56 (lv_at hl 2 rfl) ?_
                refine pl_i hx hb hK hP hL_w_2074 hK_w_2074 hN_w_2074 (rg_in h_2072 (by decide)) dX0_sleep_58 ?_
                refine lv_topi (fun x_2112 ex_2112 => ?_)
                have h_2113 : rg x_2112 0 4 := rg_of_eq ex_2112 (f_2110)
                refine pl_i hx hb hK hP hL_w_1055 hK_w_1055 hN_w_1055 (rg_in h_2113 (by decide)) dX0_sleep_59 ?_
                refine lv_topi (fun x_2114 ex_2114 => ?_)
                refine lv_if_le (tgt := 82) hx hb dX0_sleep_60 (by decide) (fun c_2115 => ?_) (fun c_2115 => ?_)
                · have h_2116 : rg x_2114 (-2147483648) 0 := rg_le1 c_2115 (rg_full _) (rg_k (0 : Int32) 0 rfl) (by decide)
                  refine lv_aload_n hx hb dX0_sleep_82 rfl (lv_at hl 0 rfl) ?_
                  obtain ⟨w_2117, hR_w_2117, hL_w_2117, hK_w_2117, hN_w_2117, hT_w_2117⟩ := sh_a hSH 7 (ci := 0) (kd := 13) (len := 40) rfl (by decide) hL_this hK_this
                  refine pg_f (v := .ref w_2117) (C := RX0) (T := TX0) (N := 16) hx hb hts (tw_i inlX0) hown hK hP hL_this hK_this (by decide) rfl 7 (by decide) (hts _ (tw_c tw_116)) (pq_hv rfl hR_w_2117) dX0_sleep_83 ?_
                  refine lv_iload hx hb dX0_sleep_86 (lv_at hl 2 rfl) ?_
                  refine lv_dup2_11 hx hb dX0_sleep_88 rfl rfl ?_
                  refine pl_i hx hb hK hP hL_w_2117 hK_w_2117 hN_w_2117 (rg_in h_2072 (by decide)) dX0_sleep_89 ?_
                  refine lv_topi (fun x_2118 ex_2118 => ?_)
                  refine lv_iconst (v := 1) hx hb dX0_sleep_90 (by decide) ?_
                  refine lv_iadd hx hb dX0_sleep_91 ?_
                  refine lv_topi (fun x_2119 ex_2119 => ?_)
                  refine pt_i hx hb hK hP hD hS hL_w_2117 hK_w_2117 hN_w_2117 (rg_in h_2072 (by decide)) dX0_sleep_92 (fun r_2120 H locs er_2120 hP hD hS => ?_)
                  have hG := GX.wR hG hSH hT_w_2117 rfl er_2120 (rg_w (rg_full _) (by decide)) (by decide)
                  obtain ⟨x_2121, ex_2121⟩ : ∃ y : Int32, y = x_2028 + Int32.ofInt 1 := ⟨_, rfl⟩
                  refine lv_iinc (v := x_2121) (lv' := [(3, .int x_2121), (0, .ref this), (4, .int x_2029)]) hx hb dX0_sleep_93 hl (k := 1) rfl ex_2121.symm (by decide) rfl (fun ls hl => ?_)
                  exact K_2104 x_2121 r_2120 _ _ _ hG hP hD hS (lv_sub hl [1, 0, 2] rfl)
                · have h_2122 : rg x_2114 1 2147483647 := rg_lt2 (nle c_2115) (rg_k (0 : Int32) 0 rfl) (rg_full _) (by decide)
                  refine lv_aload_n hx hb dX0_sleep_63 rfl (lv_at hl 0 rfl) ?_
                  refine pg_f (v := .ref w_1055) (C := RX0) (T := TX0) (N := 16) hx hb hts (tw_i inlX0) hown hK hP hL_this hK_this (by decide) rfl 12 (by decide) (hts _ (tw_c tw_120)) (pq_hv rfl hR_w_1055) dX0_sleep_64 ?_
                  refine lv_aload_n hx hb dX0_sleep_67 rfl (lv_at hl 0 rfl) ?_
                  refine pg_f (v := .ref w_2074) (C := RX0) (T := TX0) (N := 16) hx hb hts (tw_i inlX0) hown hK hP hL_this hK_this (by decide) rfl 5 (by decide) (hts _ (tw_c tw_114)) (pq_hv rfl hR_w_2074) dX0_sleep_68 ?_
                  refine lv_iload hx hb dX0_sleep_71 (lv_at hl 2 rfl) ?_
                  refine pl_i hx hb hK hP hL_w_2074 hK_w_2074 hN_w_2074 (rg_in h_2072 (by decide)) dX0_sleep_73 ?_
                  refine lv_tov x_2112 ex_2112.symm ?_
                  refine lv_dup2_11 hx hb dX0_sleep_74 rfl rfl ?_
                  refine pl_i hx hb hK hP hL_w_1055 hK_w_1055 hN_w_1055 (rg_in h_2113 (by decide)) dX0_sleep_75 ?_
                  refine lv_tov x_2114 ex_2114.symm ?_
                  refine lv_iconst (v := 1) hx hb dX0_sleep_76 (by decide) ?_
                  refine lv_isub hx hb dX0_sleep_77 ?_
                  refine lv_topi (fun x_2123 ex_2123 => ?_)
                  have h_2124 : rg x_2123 0 2147483646 := rg_of_eq ex_2123 (rg_sub h_2122 (rg_k (1 : Int32) 1 rfl) (by decide))
                  refine pt_i hx hb hK hP hD hS hL_w_1055 hK_w_1055 hN_w_1055 (rg_in h_2113 (by decide)) dX0_sleep_78 (fun r_2125 H locs er_2125 hP hD hS => ?_)
                  have hG := GX.wR hG hSH hT_w_1055 rfl er_2125 (rg_w h_2124 (by decide)) (by decide)
                  refine lv_goto (tgt := 96) hx hb dX0_sleep_79 (by decide) ?_
                  exact K_2104 x_2028 r_2125 _ _ _ hG hP hD hS (lv_sub hl [0, 1, 2] rfl)
        exact L_2066 _ (0 : Int32) (0 : Int32) r_1056 _ _ _ (rg_w (rg_k (0 : Int32) 0 rfl) (by decide)) (Nat.lt_succ_self _) hG hP hD hS (lv_sub hl [2, 1, 0] rfl)
      · exact (rg_empty (rg_lt2 (nle c_1054) (rg_k (60 : Int32) 60 rfl) h_1053 (lo := 61) (hi := 60) (by decide)) (by decide)).elim
  exact go _ _ _ hP hD hS hl

set_option maxHeartbeats 4000000 in
set_option maxRecDepth 100000 in
theorem s_X0_board_163 (l : Launch) (D : va_G) (t : pq_T) (σ : pq_S) (I : Nat → Nat → Int32) (J : Nat → Nat → Int64) (ri : Nat → Nat → Int32) (rj : Nat → Nat → Int64) (rq : Nat → Nat → Option Nat) (sz : Nat) (tg : Nat → Nat) (hSH : SH σ tg) (hG0 : GS tg σ I ri rq) (this : Nat) (a0 : Int64) (a1 : Nat) (a2 : Int32) (a3 : Int32) (a4 : Int32) (hL_this : this ∈ σ.1) (hK_this : σ.2.1 this = 0) (hL_a1 : a1 ∈ σ.1) (hK_a1 : σ.2.1 a1 = 13) (hN_a1 : σ.2.2.2 a1 = 40) (hT_a1 : tg a1 = 163) : MetV l yX0_board (wa yX0_board cX0_board 11 none) ({ frames := 2, cells := 0, slots := 0, locals := 45 }) [.ref this, .long a0, .ref a1, .int a2, .int a3, .int a4] D t σ (I, J, ri, rj, rq) sz 0 0 (fun (u : pq_S × pq_M) => ∃ ri' : Nat → Nat → Int32, u = (σ, I, J, ri', rj, rq) ∧ GX [] tg σ I I ri' rq) := by
  refine Met.ofW (cc := cX0_board) (maxL := 11) (ret := none) (by decide) rfl ?_
  intro p e s m args below meth c s₁ B hml hv
  obtain ⟨rfl, hsz, hP, hK, hD0, hN⟩ := hv
  have hx := B.exec
  have hb := B.bytes
  have hr := B.returns
  have hts := atoms_spec (ws := (wa yX0_board cX0_board 11 none)) B.pre
  have hown : s.vm.findClass RX0 = some m.cls := findClass_of_methodNamed B.named
  have hlocks := B.notSynchronized
  subst hsz
  have hD : va_D (pq_B t σ (I, J, ri, rj, rq) s.heap.size) (pq_P t σ (I, J, ri, rj, rq)) := hD0.self
  generalize hAe : pq_B t σ (I, J, ri, rj, rq) s.heap.size = A at hD ⊢
  have hA : ∀ q : Nat, s.heap.size ≤ q → A q := fun q h => by rw [← hAe]; exact Or.inr h
  have hS : va_S A s.heap s.heap [] := va_S.rf
  have hG : GX [] tg σ I I ri rq := ⟨hG0, fun _ _ _ => rfl⟩
  have hl := lv_entry ([.ref this, .long a0, .ref a1, .int a2, .int a3, .int a4]) (n := 11) (Nat.le_of_ble_eq_true rfl)
  rw [lg_entry_eq]
  generalize (lg_sl ([.ref this, .long a0, .ref a1, .int a2, .int a3, .int a4]) ++ List.replicate (11 - (lg_sl ([.ref this, .long a0, .ref a1, .int a2, .int a3, .int a4])).length) Slot.unset).toArray = ls at hl ⊢
  have hl : lv_has ls 11 [(0, .ref this), (1, .long a0), (3, .ref a1), (4, .int a2), (5, .int a3), (6, .int a4)] := hl
  refine q_gen (fun Q hQ => ?_)
  have go : ∀ (H : Heap) (locs : List Loc) (ls : Array Slot), va_P D vwCl (pq_P t σ (I, J, ri, rj, rq)) H → va_D A (pq_P t σ (I, J, ri, rj, rq)) → va_S A s.heap H locs → lv_has ls 11 [(0, .ref this), (1, .long a0), (3, .ref a1), (4, .int a2), (5, .int a3), (6, .int a4)] → W p l e ({ frames := 2, cells := 0, slots := 0, locals := 45 } : Room) s m (List.toArray ([.ref this, .long a0, .ref a1, .int a2, .int a3, .int a4] : List Value)) below meth c H locs 0 0 Q (F0 m 0 ls []) := by
    intro H locs ls hP hD hS hl
    refine lv_aload_n hx hb dX0_board_0 rfl (lv_at hl 0 rfl) ?_
    refine lv_lload_n hx hb dX0_board_1 rfl (lv_at hl 1 rfl) ?_
    refine pk_v (va_runV (As := [.long a0]) (rest := []) ⟨hx, hb, hml, hown, hts⟩ (s_X0_countGroups l D t σ I J ri rj rq H.size tg hSH hG.1 this a0 hL_this hK_this) (cwV 1 hts (tw_V tw_1172 tw_1173 tw_1174 tw_45 tw_1175) rfl rfl rfl (by decide +kernel) ⟨Nat.le_of_ble_eq_true rfl, Nat.le_of_ble_eq_true rfl⟩) ⟨pq_blind, pq_recv hK hP hL_this hK_this (by decide) rfl, pq_pre hK hN hP hD⟩ rfl rfl hl.1 rfl (lv_room (Nat.le_of_ble_eq_true rfl)) dX0_board_2 ⟨Nat.le_of_ble_eq_true rfl, Nat.le_of_ble_eq_true rfl⟩) hD hS hA (fun σ1 μ1 H locs hw_2 hP hD hS => ?_)
    obtain ⟨ri_3, hu_4, hg_5⟩ := hw_2
    obtain ⟨hu_4a, hu_4b⟩ := Prod.mk.inj hu_4
    rw [hu_4a, hu_4b] at hP hD
    have hG := GX.tr hG hg_5 (by decide)
    refine lv_iconst (v := 0) hx hb dX0_board_5 (by decide) ?_
    refine lv_istore (lv' := [(7, .int 0), (0, .ref this), (1, .long a0), (3, .ref a1), (4, .int a2), (5, .int a3), (6, .int a4)]) hx hb dX0_board_6 hl (by decide) rfl (fun ls hl => ?_)
    have L_7865 : ∀ (n_ : Nat) (x_6742 : Int32) (ri_6743 : Nat → Nat → Int32) (H : Heap) (locs : List Loc) (ls : Array Slot), rg x_6742 0 5 → (5 - (x_6742).toInt).toNat < n_ → GX [] tg σ I I ri_6743 rq → va_P D vwCl (pq_P t σ (I, J, ri_6743, rj, rq)) H → va_D A (pq_P t σ (I, J, ri_6743, rj, rq)) → va_S A s.heap H locs → lv_has ls 11 [(0, .ref this), (1, .long a0), (3, .ref a1), (4, .int a2), (5, .int a3), (6, .int a4), (7, .int x_6742)] → W p l e ({ frames := 2, cells := 0, slots := 0, locals := 45 } : Room) s m (List.toArray ([.ref this, .long a0, .ref a1, .int a2, .int a3, .int a4] : List Value)) below meth c H locs 0 0 Q (F0 m 8 ls []) := by
      intro n_
      induction n_ with
      | zero => intro x_6742 ri_6743 H locs ls h_7868 hm hG hP hD hS hl; exact absurd hm (Nat.not_lt_zero _)
      | succ n_ ih_7866 =>
        intro x_6742 ri_6743 H locs ls h_7868 hm hG hP hD hS hl
        refine lv_iload hx hb dX0_board_8 (lv_at hl 6 rfl) ?_
        refine lv_aload_n hx hb dX0_board_10 rfl (lv_at hl 0 rfl) ?_
        refine pg_f (v := .int (I 10 this)) (C := RX0) (T := TX0) (N := 16) hx hb hts (tw_i inlX0) hown hK hP hL_this hK_this (by decide) rfl 10 (by decide) (hts _ (tw_c tw_1171)) rfl dX0_board_11 ?_
        have h_7869 : rg (I 10 this) 0 5 := GX.rI hG 10 rfl
        refine lv_icmp_ge (tgt := 36) hx hb dX0_board_14 (by decide) (fun c_7870 => ?_) (fun c_7870 => ?_)
        · refine lv_iload hx hb dX0_board_36 (lv_at hl 4 rfl) ?_
          refine lv_istore (lv' := [(7, .int a3), (0, .ref this), (1, .long a0), (3, .ref a1), (4, .int a2), (5, .int a3), (6, .int a4)]) hx hb dX0_board_38 hl (by decide) rfl (fun ls hl => ?_)
          refine lv_iconst (v := 0) hx hb dX0_board_40 (by decide) ?_
          refine lv_istore (lv' := [(8, .int 0), (7, .int a3), (0, .ref this), (1, .long a0), (3, .ref a1), (4, .int a2), (5, .int a3), (6, .int a4)]) hx hb dX0_board_41 hl (by decide) rfl (fun ls hl => ?_)
          have L_8900 : ∀ (n_ : Nat) (x_8819 : Int32) (x_8820 : Int32) (ri_8821 : Nat → Nat → Int32) (H : Heap) (locs : List Loc) (ls : Array Slot), rg x_8820 0 40 → (40 - (x_8820).toInt).toNat < n_ → GX [] tg σ I I ri_8821 rq → va_P D vwCl (pq_P t σ (I, J, ri_8821, rj, rq)) H → va_D A (pq_P t σ (I, J, ri_8821, rj, rq)) → va_S A s.heap H locs → lv_has ls 11 [(0, .ref this), (1, .long a0), (3, .ref a1), (4, .int a2), (6, .int a4), (7, .int x_8819), (8, .int x_8820)] → W p l e ({ frames := 2, cells := 0, slots := 0, locals := 45 } : Room) s m (List.toArray ([.ref this, .long a0, .ref a1, .int a2, .int a3, .int a4] : List Value)) below meth c H locs 0 0 Q (F0 m 43 ls []) := by
            intro n_
            induction n_ with
            | zero => intro x_8819 x_8820 ri_8821 H locs ls h_8903 hm hG hP hD hS hl; exact absurd hm (Nat.not_lt_zero _)
            | succ n_ ih_8901 =>
              intro x_8819 x_8820 ri_8821 H locs ls h_8903 hm hG hP hD hS hl
              refine lv_iload hx hb dX0_board_43 (lv_at hl 6 rfl) ?_
              refine lv_iload hx hb dX0_board_45 (lv_at hl 3 rfl) ?_
              refine lv_icmp_ge (tgt := 208) hx hb dX0_board_47 (by decide) (fun c_8904 => ?_) (fun c_8904 => ?_)
              · have h_8905 : rg a2 (-2147483648) 40 := rg_le1 c_8904 (rg_full _) h_8903 (by decide)
                subst hQ
                exact W.vret hx hb hr (fun t1 ht hW => ⟨⟨(σ, I, J, ri_8821, rj, rq), rfl, ⟨ri_8821, rfl, hG⟩, by rw [ht]; exact hP, va_K.moved hW.alike hK, hD⟩, hS.F ht⟩) hS.2.2 dX0_board_208
              · have h_8906 : rg a2 1 2147483647 := rg_lt2 (nle c_8904) h_8903 (rg_full _) (by decide)
                refine lv_iload hx hb dX0_board_50 (lv_at hl 6 rfl) ?_
                refine lv_aload_n hx hb dX0_board_52 rfl (lv_at hl 2 rfl) ?_
                refine pn_i (v := 40) hx hb hK hP hL_a1 hK_a1 hN_a1 (by decide) dX0_board_53 ?_
                refine lv_icmp_ge (tgt := 208) hx hb dX0_board_54 (by decide) (fun c_8907 => ?_) (fun c_8907 => ?_)
                · have h_8908 : rg x_8820 40 40 := rg_le2 c_8907 (rg_k (40 : Int32) 40 rfl) h_8903 (by decide)
                  subst hQ
                  exact W.vret hx hb hr (fun t1 ht hW => ⟨⟨(σ, I, J, ri_8821, rj, rq), rfl, ⟨ri_8821, rfl, hG⟩, by rw [ht]; exact hP, va_K.moved hW.alike hK, hD⟩, hS.F ht⟩) hS.2.2 dX0_board_208
                · have h_8909 : rg x_8820 0 39 := rg_lt1 (nle c_8907) h_8903 (rg_k (40 : Int32) 40 rfl) (by decide)
                  refine lv_aload_n hx hb dX0_board_57 rfl (lv_at hl 2 rfl) ?_
                  refine lv_iload hx hb dX0_board_58 (lv_at hl 6 rfl) ?_
                  refine pl_i hx hb hK hP hL_a1 hK_a1 hN_a1 (rg_in h_8909 (by decide)) dX0_board_60 ?_
                  refine lv_topi (fun x_8910 ex_8910 => ?_)
                  have h_8911 : rg x_8910 0 39 := rg_of_eq ex_8910 (GX.rR hG hT_a1 rfl)
                  refine lv_istore (lv' := [(9, .int x_8910), (0, .ref this), (1, .long a0), (3, .ref a1), (4, .int a2), (6, .int a4), (7, .int x_8819), (8, .int x_8820)]) hx hb dX0_board_61 hl (by decide) rfl (fun ls hl => ?_)
                  refine lv_lload_n hx hb dX0_board_63 rfl (lv_at hl 2 rfl) ?_
                  refine lv_iload hx hb dX0_board_64 (lv_at hl 0 rfl) ?_
                  refine pk_i (va_runSN (As := [.long a0, .int x_8910]) (rest := []) ⟨hx, hb, hml, hown, hts⟩ (s_X11_hasBit l D t σ I J ri_8821 rj rq H.size tg hSH hG.1 a0 x_8910) ⟨va_cnB (host := "RingsUnder") 2 hts (tw_W tw_560) rfl rfl rfl (nl_13 hN) (hts _ (tw_c tw_2)) (by decide +kernel) ⟨Nat.le_of_ble_eq_true rfl, Nat.le_of_ble_eq_true rfl⟩, hts (.static yX11_hasBit) (by decide +kernel), trivial⟩ ⟨pq_blind, pq_pre hK hN hP hD⟩ rfl rfl hl.1 rfl (lv_room (Nat.le_of_ble_eq_true rfl)) dX0_board_66 ⟨Nat.le_of_ble_eq_true rfl, Nat.le_of_ble_eq_true rfl⟩) hD hS hA (fun x_8912 σ1 μ1 H locs hw_8913 hP hD hS => ?_)
                  obtain ⟨hu_8914, hr_8916⟩ := hw_8913
                  obtain ⟨hu_8914a, hu_8914b⟩ := Prod.mk.inj hu_8914
                  rw [hu_8914a, hu_8914b] at hP hD
                  have h_8917 : rg x_8912 0 1 := by rcases hr_8916 with ⟨q, -⟩ | ⟨q, -⟩ <;> rw [q] <;> exact ⟨by decide, by decide⟩
                  have K_8981 : ∀  (x_8977 : Int32) (ri_8978 : Nat → Nat → Int32) (H : Heap) (locs : List Loc) (ls : Array Slot), GX [] tg σ I I ri_8978 rq → va_P D vwCl (pq_P t σ (I, J, ri_8978, rj, rq)) H → va_D A (pq_P t σ (I, J, ri_8978, rj, rq)) → va_S A s.heap H locs → lv_has ls 11 [(0, .ref this), (1, .long a0), (3, .ref a1), (4, .int a2), (6, .int a4), (7, .int x_8977), (8, .int x_8820)] → W p l e ({ frames := 2, cells := 0, slots := 0, locals := 45 } : Room) s m (List.toArray ([.ref this, .long a0, .ref a1, .int a2, .int a3, .int a4] : List Value)) below meth c H locs 0 0 Q (F0 m 202 ls []) := by
                    intro x_8977 ri_8978 H locs ls hG hP hD hS hl
                    obtain ⟨x_8982, ex_8982⟩ : ∃ y : Int32, y = x_8820 + Int32.ofInt 1 := ⟨_, rfl⟩
                    have h_8983 : rg x_8982 1 40 := rg_of_eq ex_8982 (rg_add h_8909 (rg_k (Int32.ofInt 1) 1 rfl) (by decide))
                    refine lv_iinc (v := x_8982) (lv' := [(8, .int x_8982), (0, .ref this), (1, .long a0), (3, .ref a1), (4, .int a2), (6, .int a4), (7, .int x_8977)]) hx hb dX0_board_202 hl (k := 6) rfl ex_8982.symm (by decide) rfl (fun ls hl => ?_)
                    refine lv_goto (tgt := 43) hx hb dX0_board_205 (by decide) ?_
                    exact ih_8901 x_8977 x_8982 ri_8978 _ _ _ (rg_w h_8983 (by decide)) (ms_up 1 hm ex_8982 rfl (by decide) h_8909 (by decide) (by decide)) hG hP hD hS (lv_sub hl [1, 2, 3, 4, 5, 6, 0] rfl)
                  refine lv_if_eq (tgt := 202) hx hb dX0_board_69 (by decide) (fun c_8984 => ?_) (fun c_8984 => ?_)
                  · have h_8985 : rg x_8912 0 0 := rg_and h_8917 (rg_of_eq c_8984 (rg_k (0 : Int32) 0 rfl)) (by decide)
                    exact K_8981 x_8819 ri_8821 _ _ _ hG hP hD hS (lv_sub hl [1, 2, 3, 4, 5, 6, 7] rfl)
                  · have h_8986 : rg x_8912 1 1 := rg_ne c_8984 h_8917 0 rfl (by decide)
                    refine lv_aload_n hx hb dX0_board_72 rfl (lv_at hl 1 rfl) ?_
                    refine lv_iload hx hb dX0_board_73 (lv_at hl 0 rfl) ?_
                    obtain ⟨w_8987, hR_w_8987, hL_w_8987, hK_w_8987, hN_w_8987, hT_w_8987⟩ := sh_a hSH 5 (ci := 0) (kd := 13) (len := 40) rfl (by decide) hL_this hK_this
                    refine pk_i (va_runV (As := [.int x_8910]) (rest := []) ⟨hx, hb, hml, hown, hts⟩ (s_X0_isOnRing l D t σ I J ri_8821 rj rq H.size tg hSH hG.1 this x_8910 hL_this hK_this (rg_w h_8911 (by decide)) w_8987 hR_w_8987 hL_w_8987 hK_w_8987 hN_w_8987 hT_w_8987) (cwV 1 hts (tw_V tw_1108 tw_1109 tw_1110 tw_45 tw_1111) rfl rfl rfl (by decide +kernel) ⟨Nat.le_of_ble_eq_true rfl, Nat.le_of_ble_eq_true rfl⟩) ⟨pq_blind, pq_recv hK hP hL_this hK_this (by decide) rfl, pq_pre hK hN hP hD⟩ rfl rfl hl.1 rfl (lv_room (Nat.le_of_ble_eq_true rfl)) dX0_board_75 ⟨Nat.le_of_ble_eq_true rfl, Nat.le_of_ble_eq_true rfl⟩) hD hS hA (fun x_8988 σ1 μ1 H locs hw_8989 hP hD hS => ?_)
                    obtain ⟨hu_8990, hr_8992⟩ := hw_8989
                    obtain ⟨hu_8990a, hu_8990b⟩ := Prod.mk.inj hu_8990
                    rw [hu_8990a, hu_8990b] at hP hD
                    have h_8993 : rg x_8988 0 1 := by rcases hr_8992 with ⟨q, -⟩ | ⟨q, -⟩ <;> rw [q] <;> exact ⟨by decide, by decide⟩
                    refine lv_if_ne (tgt := 84) hx hb dX0_board_78 (by decide) (fun c_8994 => ?_) (fun c_8994 => ?_)
                    · have f_8995 := (hr_8992.resolve_right (fun q => c_8994 q.1)).2
                      have h_8996 : rg x_8988 1 1 := rg_ne c_8994 h_8993 0 rfl (by decide)
                      refine lv_aload_n hx hb dX0_board_84 rfl (lv_at hl 1 rfl) ?_
                      refine lv_iload hx hb dX0_board_85 (lv_at hl 0 rfl) ?_
                      refine pk_i (va_runV (As := [.int x_8910]) (rest := []) ⟨hx, hb, hml, hown, hts⟩ (s_X0_groupOf l D t σ I J ri_8821 rj rq H.size tg hSH hG.1 this x_8910 hL_this hK_this (rg_w h_8911 (by decide)) w_8987 hR_w_8987 hL_w_8987 hK_w_8987 hN_w_8987 hT_w_8987 (rg_w f_8995 (by decide))) (cwV 1 hts (tw_V tw_1176 tw_1177 tw_1178 tw_45 tw_1179) rfl rfl rfl (by decide +kernel) ⟨Nat.le_of_ble_eq_true rfl, Nat.le_of_ble_eq_true rfl⟩) ⟨pq_blind, pq_recv hK hP hL_this hK_this (by decide) rfl, pq_pre hK hN hP hD⟩ rfl rfl hl.1 rfl (lv_room (Nat.le_of_ble_eq_true rfl)) dX0_board_87 ⟨Nat.le_of_ble_eq_true rfl, Nat.le_of_ble_eq_true rfl⟩) hD hS hA (fun x_8997 σ1 μ1 H locs hw_8998 hP hD hS => ?_)
                      obtain ⟨hu_8999, hr_9001⟩ := hw_8998
                      obtain ⟨hu_8999a, hu_8999b⟩ := Prod.mk.inj hu_8999
                      rw [hu_8999a, hu_8999b] at hP hD
                      refine lv_istore (lv' := [(10, .int x_8997), (9, .int x_8910), (0, .ref this), (1, .long a0), (3, .ref a1), (4, .int a2), (6, .int a4), (7, .int x_8819), (8, .int x_8820)]) hx hb dX0_board_90 hl (by decide) rfl (fun ls hl => ?_)
                      refine lv_aload_n hx hb dX0_board_92 rfl (lv_at hl 2 rfl) ?_
                      obtain ⟨w_9002, hR_w_9002, hL_w_9002, hK_w_9002, hN_w_9002, hT_w_9002⟩ := sh_a hSH 15 (ci := 0) (kd := 13) (len := 50) rfl (by decide) hL_this hK_this
                      refine pg_f (v := .ref w_9002) (C := RX0) (T := TX0) (N := 16) hx hb hts (tw_i inlX0) hown hK hP hL_this hK_this (by decide) rfl 15 (by decide) (hts _ (tw_c tw_123)) (pq_hv rfl hR_w_9002) dX0_board_93 ?_
                      refine lv_iload hx hb dX0_board_96 (lv_at hl 0 rfl) ?_
                      refine pl_i hx hb hK hP hL_w_9002 hK_w_9002 hN_w_9002 (rg_in hr_9001 (by decide)) dX0_board_98 ?_
                      refine lv_topi (fun x_9003 ex_9003 => ?_)
                      have h_9004 : rg x_9003 (-2) 4 := rg_of_eq ex_9003 (GX.rR hG hT_w_9002 rfl)
                      refine lv_bipush (v := (-2)) hx hb dX0_board_99 (by decide) ?_
                      have K_9041 : ∀  (x_9030 : Int32) (ri_9031 : Nat → Nat → Int32) (H : Heap) (locs : List Loc) (ls : Array Slot), GX [] tg σ I I ri_9031 rq → va_P D vwCl (pq_P t σ (I, J, ri_9031, rj, rq)) H → va_D A (pq_P t σ (I, J, ri_9031, rj, rq)) → va_S A s.heap H locs → lv_has ls 11 [(0, .ref this), (1, .long a0), (3, .ref a1), (4, .int a2), (6, .int a4), (7, .int x_9030), (8, .int x_8820), (9, .int x_8910), (10, .int x_8997)] → W p l e ({ frames := 2, cells := 0, slots := 0, locals := 45 } : Room) s m (List.toArray ([.ref this, .long a0, .ref a1, .int a2, .int a3, .int a4] : List Value)) below meth c H locs 0 0 Q (F0 m 165 ls []) := by
                        intro x_9030 ri_9031 H locs ls hG hP hD hS hl
                        refine lv_aload_n hx hb dX0_board_165 rfl (lv_at hl 0 rfl) ?_
                        refine pg_f (v := .ref w_9002) (C := RX0) (T := TX0) (N := 16) hx hb hts (tw_i inlX0) hown hK hP hL_this hK_this (by decide) rfl 15 (by decide) (hts _ (tw_c tw_123)) (pq_hv rfl hR_w_9002) dX0_board_166 ?_
                        refine lv_iload hx hb dX0_board_169 (lv_at hl 8 rfl) ?_
                        refine pl_i hx hb hK hP hL_w_9002 hK_w_9002 hN_w_9002 (rg_in hr_9001 (by decide)) dX0_board_171 ?_
                        refine lv_topi (fun x_9042 ex_9042 => ?_)
                        have h_9043 : rg x_9042 (-2) 4 := rg_of_eq ex_9042 (GX.rR hG hT_w_9002 rfl)
                        refine lv_iconst (v := (-1)) hx hb dX0_board_172 (by decide) ?_
                        refine lv_icmp_eq (tgt := 202) hx hb dX0_board_173 (by decide) (fun c_9044 => ?_) (fun c_9044 => ?_)
                        · have h_9045 : rg x_9042 (-1) (-1) := rg_and h_9043 (rg_of_eq c_9044 (rg_k (-1 : Int32) (-1) rfl)) (by decide)
                          exact K_8981 x_9030 ri_9031 _ _ _ hG hP hD hS (lv_sub hl [0, 1, 2, 3, 4, 5, 6] rfl)
                        · refine lv_aload_n hx hb dX0_board_176 rfl (lv_at hl 0 rfl) ?_
                          refine pg_f (v := .ref w_8987) (C := RX0) (T := TX0) (N := 16) hx hb hts (tw_i inlX0) hown hK hP hL_this hK_this (by decide) rfl 5 (by decide) (hts _ (tw_c tw_114)) (pq_hv rfl hR_w_8987) dX0_board_177 ?_
                          refine lv_iload hx hb dX0_board_180 (lv_at hl 7 rfl) ?_
                          refine lv_bipush (v := 100) hx hb dX0_board_182 (by decide) ?_
                          refine lv_aload_n hx hb dX0_board_184 rfl (lv_at hl 0 rfl) ?_
                          refine pg_f (v := .ref w_9002) (C := RX0) (T := TX0) (N := 16) hx hb hts (tw_i inlX0) hown hK hP hL_this hK_this (by decide) rfl 15 (by decide) (hts _ (tw_c tw_123)) (pq_hv rfl hR_w_9002) dX0_board_185 ?_
                          refine lv_iload hx hb dX0_board_188 (lv_at hl 8 rfl) ?_
                          refine pl_i hx hb hK hP hL_w_9002 hK_w_9002 hN_w_9002 (rg_in hr_9001 (by decide)) dX0_board_190 ?_
                          refine lv_tov x_9042 ex_9042.symm ?_
                          refine lv_iadd hx hb dX0_board_191 ?_
                          refine lv_topi (fun x_9046 ex_9046 => ?_)
                          have h_9047 : rg x_9046 98 104 := rg_of_eq ex_9046 (rg_add (rg_k (100 : Int32) 100 rfl) h_9043 (by decide))
                          refine pt_i hx hb hK hP hD hS hL_w_8987 hK_w_8987 hN_w_8987 (rg_in h_8911 (by decide)) dX0_board_192 (fun r_9048 H locs er_9048 hP hD hS => ?_)
                          have hG := GX.wR hG hSH hT_w_8987 rfl er_9048 (rg_w h_9047 (by decide)) (by decide)
                          refine lv_aload_n hx hb dX0_board_193 rfl (lv_at hl 0 rfl) ?_
                          obtain ⟨w_9049, hR_w_9049, hL_w_9049, hK_w_9049, hN_w_9049, hT_w_9049⟩ := sh_a hSH 8 (ci := 0) (kd := 13) (len := 40) rfl (by decide) hL_this hK_this
                          refine pg_f (v := .ref w_9049) (C := RX0) (T := TX0) (N := 16) hx hb hts (tw_i inlX0) hown hK hP hL_this hK_this (by decide) rfl 8 (by decide) (hts _ (tw_c tw_117)) (pq_hv rfl hR_w_9049) dX0_board_194 ?_
                          refine lv_iload hx hb dX0_board_197 (lv_at hl 7 rfl) ?_
                          refine lv_iload hx hb dX0_board_199 (lv_at hl 4 rfl) ?_
                          refine pt_i hx hb hK hP hD hS hL_w_9049 hK_w_9049 hN_w_9049 (rg_in h_8911 (by decide)) dX0_board_201 (fun r_9050 H locs er_9050 hP hD hS => ?_)
                          have hG := GX.wR hG hSH hT_w_9049 rfl er_9050 (rg_w (rg_full _) (by decide)) (by decide)
                          exact K_8981 x_9030 r_9050 _ _ _ hG hP hD hS (lv_sub hl [0, 1, 2, 3, 4, 5, 6] rfl)
                      refine lv_icmp_ne (tgt := 165) hx hb dX0_board_101 (by decide) (fun c_9051 => ?_) (fun c_9051 => ?_)
                      · have h_9052 : rg x_9003 (-1) 4 := rg_ne c_9051 h_9004 (-2) rfl (by decide)
                        exact K_9041 x_8819 ri_8821 _ _ _ hG hP hD hS (lv_sub hl [2, 3, 4, 5, 6, 7, 8, 1, 0] rfl)
                      · have h_9053 : rg x_9003 (-2) (-2) := rg_and h_9004 (rg_of_eq c_9051 (rg_k (-2 : Int32) (-2) rfl)) (by decide)
                        refine lv_aload_n hx hb dX0_board_104 rfl (lv_at hl 2 rfl) ?_
                        refine pg_f (v := .ref w_9002) (C := RX0) (T := TX0) (N := 16) hx hb hts (tw_i inlX0) hown hK hP hL_this hK_this (by decide) rfl 15 (by decide) (hts _ (tw_c tw_123)) (pq_hv rfl hR_w_9002) dX0_board_105 ?_
                        refine lv_iload hx hb dX0_board_108 (lv_at hl 0 rfl) ?_
                        refine lv_aload_n hx hb dX0_board_110 rfl (lv_at hl 2 rfl) ?_
                        obtain ⟨w_9054, hR_w_9054, hL_w_9054, hK_w_9054, hN_w_9054, hT_w_9054⟩ := sh_a hSH 14 (ci := 0) (kd := 13) (len := 50) rfl (by decide) hL_this hK_this
                        refine pg_f (v := .ref w_9054) (C := RX0) (T := TX0) (N := 16) hx hb hts (tw_i inlX0) hown hK hP hL_this hK_this (by decide) rfl 14 (by decide) (hts _ (tw_c tw_122)) (pq_hv rfl hR_w_9054) dX0_board_111 ?_
                        refine lv_iload hx hb dX0_board_114 (lv_at hl 0 rfl) ?_
                        refine pl_i hx hb hK hP hL_w_9054 hK_w_9054 hN_w_9054 (rg_in hr_9001 (by decide)) dX0_board_116 ?_
                        refine lv_topi (fun x_9055 ex_9055 => ?_)
                        refine lv_iload hx hb dX0_board_117 (lv_at hl 7 rfl) ?_
                        have K_9076 : ∀  (x_9065 : Int32) (ri_9066 : Nat → Nat → Int32) (H : Heap) (locs : List Loc) (ls : Array Slot), rg x_9065 (-1) 4 → GX [] tg σ I I ri_9066 rq → va_P D vwCl (pq_P t σ (I, J, ri_9066, rj, rq)) H → va_D A (pq_P t σ (I, J, ri_9066, rj, rq)) → va_S A s.heap H locs → lv_has ls 11 [(0, .ref this), (1, .long a0), (3, .ref a1), (4, .int a2), (6, .int a4), (7, .int x_8819), (8, .int x_8820), (9, .int x_8910), (10, .int x_8997)] → W p l e ({ frames := 2, cells := 0, slots := 0, locals := 45 } : Room) s m (List.toArray ([.ref this, .long a0, .ref a1, .int a2, .int a3, .int a4] : List Value)) below meth c H locs 0 0 Q (F0 m 137 ls [.int x_9065, .int x_8997, .ref w_9002]) := by
                          intro x_9065 ri_9066 H locs ls h_9078 hG hP hD hS hl
                          refine pt_i hx hb hK hP hD hS hL_w_9002 hK_w_9002 hN_w_9002 (rg_in hr_9001 (by decide)) dX0_board_137 (fun r_9079 H locs er_9079 hP hD hS => ?_)
                          have hG := GX.wR hG hSH hT_w_9002 rfl er_9079 (rg_w h_9078 (by decide)) (by decide)
                          refine lv_iload hx hb dX0_board_138 (lv_at hl 5 rfl) ?_
                          refine lv_aload_n hx hb dX0_board_140 rfl (lv_at hl 0 rfl) ?_
                          refine pg_f (v := .ref w_9002) (C := RX0) (T := TX0) (N := 16) hx hb hts (tw_i inlX0) hown hK hP hL_this hK_this (by decide) rfl 15 (by decide) (hts _ (tw_c tw_123)) (pq_hv rfl hR_w_9002) dX0_board_141 ?_
                          refine lv_iload hx hb dX0_board_144 (lv_at hl 8 rfl) ?_
                          refine pl_i hx hb hK hP hL_w_9002 hK_w_9002 hN_w_9002 (rg_in hr_9001 (by decide)) dX0_board_146 ?_
                          refine lv_topi (fun x_9080 ex_9080 => ?_)
                          have h_9081 : rg x_9080 (-2) 4 := rg_of_eq ex_9080 (GX.rR hG hT_w_9002 rfl)
                          refine lv_iconst (v := (-1)) hx hb dX0_board_147 (by decide) ?_
                          have K_9087 : ∀  (x_9085 : Int32) (H : Heap) (locs : List Loc) (ls : Array Slot), GX [] tg σ I I r_9079 rq → va_P D vwCl (pq_P t σ (I, J, r_9079, rj, rq)) H → va_D A (pq_P t σ (I, J, r_9079, rj, rq)) → va_S A s.heap H locs → lv_has ls 11 [(0, .ref this), (1, .long a0), (3, .ref a1), (4, .int a2), (6, .int a4), (8, .int x_8820), (9, .int x_8910), (10, .int x_8997)] → W p l e ({ frames := 2, cells := 0, slots := 0, locals := 45 } : Room) s m (List.toArray ([.ref this, .long a0, .ref a1, .int a2, .int a3, .int a4] : List Value)) below meth c H locs 0 0 Q (F0 m 162 ls [.int x_9085, .int x_8819]) := by
                            intro x_9085 H locs ls hG hP hD hS hl
                            refine lv_isub hx hb dX0_board_162 ?_
                            refine lv_topi (fun x_9088 ex_9088 => ?_)
                            refine lv_istore (lv' := [(7, .int x_9088), (0, .ref this), (1, .long a0), (3, .ref a1), (4, .int a2), (6, .int a4), (8, .int x_8820), (9, .int x_8910), (10, .int x_8997)]) hx hb dX0_board_163 hl (by decide) rfl (fun ls hl => ?_)
                            exact K_9041 x_9088 r_9079 _ _ _ hG hP hD hS (lv_sub hl [1, 2, 3, 4, 5, 0, 6, 7, 8] rfl)
                          refine lv_icmp_ne (tgt := 155) hx hb dX0_board_148 (by decide) (fun c_9089 => ?_) (fun c_9089 => ?_)
                          · refine lv_aload_n hx hb dX0_board_155 rfl (lv_at hl 0 rfl) ?_
                            refine pg_f (v := .ref w_9054) (C := RX0) (T := TX0) (N := 16) hx hb hts (tw_i inlX0) hown hK hP hL_this hK_this (by decide) rfl 14 (by decide) (hts _ (tw_c tw_122)) (pq_hv rfl hR_w_9054) dX0_board_156 ?_
                            refine lv_iload hx hb dX0_board_159 (lv_at hl 8 rfl) ?_
                            refine pl_i hx hb hK hP hL_w_9054 hK_w_9054 hN_w_9054 (rg_in hr_9001 (by decide)) dX0_board_161 ?_
                            refine lv_topi (fun x_9090 ex_9090 => ?_)
                            exact K_9087 x_9090 _ _ _ hG hP hD hS (lv_sub hl [0, 1, 2, 3, 4, 6, 7, 8] rfl)
                          · have h_9091 : rg x_9080 (-1) (-1) := rg_and h_9081 (rg_of_eq c_9089 (rg_k (-1 : Int32) (-1) rfl)) (by decide)
                            refine lv_iconst (v := 0) hx hb dX0_board_151 (by decide) ?_
                            refine lv_goto (tgt := 162) hx hb dX0_board_152 (by decide) ?_
                            exact K_9087 (0 : Int32) _ _ _ hG hP hD hS (lv_sub hl [0, 1, 2, 3, 4, 6, 7, 8] rfl)
                        refine lv_icmp_gt (tgt := 136) hx hb dX0_board_119 (by decide) (fun c_9092 => ?_) (fun c_9092 => ?_)
                        · have h_9093 : rg x_8819 (-2147483648) 2147483646 := rg_lt1 c_9092 (rg_full _) (rg_full _) (by decide)
                          have h_9094 : rg x_9055 (-2147483647) 2147483647 := rg_lt2 c_9092 (rg_full _) (rg_full _) (by decide)
                          refine lv_iconst (v := (-1)) hx hb dX0_board_136 (by decide) ?_
                          exact K_9076 (-1 : Int32) ri_8821 _ _ _ (rg_w (rg_k (-1 : Int32) (-1) rfl) (by decide)) hG hP hD hS (lv_sub hl [2, 3, 4, 5, 6, 7, 8, 1, 0] rfl)
                        · refine lv_aload_n hx hb dX0_board_122 rfl (lv_at hl 2 rfl) ?_
                          refine lv_aload_n hx hb dX0_board_123 rfl (lv_at hl 2 rfl) ?_
                          refine pg_f (v := .ref w_9054) (C := RX0) (T := TX0) (N := 16) hx hb hts (tw_i inlX0) hown hK hP hL_this hK_this (by decide) rfl 14 (by decide) (hts _ (tw_c tw_122)) (pq_hv rfl hR_w_9054) dX0_board_124 ?_
                          refine lv_iload hx hb dX0_board_127 (lv_at hl 0 rfl) ?_
                          refine pl_i hx hb hK hP hL_w_9054 hK_w_9054 hN_w_9054 (rg_in hr_9001 (by decide)) dX0_board_129 ?_
                          refine lv_tov x_9055 ex_9055.symm ?_
                          refine pk_i (va_runV (As := [.int x_9055]) (rest := [.int x_8997, .ref w_9002]) ⟨hx, hb, hml, hown, hts⟩ (s_X0_takeLot l D t σ I J ri_8821 rj rq H.size tg hSH hG.1 this x_9055 hL_this hK_this) (cwV 1 hts (tw_V tw_1181 tw_1182 tw_1183 tw_45 tw_1184) rfl rfl rfl (by decide +kernel) ⟨Nat.le_of_ble_eq_true rfl, Nat.le_of_ble_eq_true rfl⟩) ⟨pq_blind, pq_recv hK hP hL_this hK_this (by decide) rfl, pq_pre hK hN hP hD⟩ rfl rfl hl.1 rfl (lv_room (Nat.le_of_ble_eq_true rfl)) dX0_board_130 ⟨Nat.le_of_ble_eq_true rfl, Nat.le_of_ble_eq_true rfl⟩) hD hS hA (fun x_9095 σ1 μ1 H locs hw_9096 hP hD hS => ?_)
                          obtain ⟨ri_9097, hu_9098, hg_9099, hr_9100⟩ := hw_9096
                          obtain ⟨hu_9098a, hu_9098b⟩ := Prod.mk.inj hu_9098
                          rw [hu_9098a, hu_9098b] at hP hD
                          have hG := GX.tr hG hg_9099 (by decide)
                          refine lv_goto (tgt := 137) hx hb dX0_board_133 (by decide) ?_
                          exact K_9076 x_9095 ri_9097 _ _ _ (rg_w hr_9100 (by decide)) hG hP hD hS (lv_sub hl [2, 3, 4, 5, 6, 7, 8, 1, 0] rfl)
                    · have f_9101 := (hr_8992.resolve_left (fun q => absurd (q.1.symm.trans c_8994) (by decide))).2
                      have h_9102 : rg x_8988 0 0 := rg_and h_8993 (rg_of_eq c_8994 (rg_k (0 : Int32) 0 rfl)) (by decide)
                      refine lv_goto (tgt := 202) hx hb dX0_board_81 (by decide) ?_
                      exact K_8981 x_8819 ri_8821 _ _ _ hG hP hD hS (lv_sub hl [1, 2, 3, 4, 5, 6, 7] rfl)
          exact L_8900 _ a3 (0 : Int32) ri_6743 _ _ _ (rg_w (rg_k (0 : Int32) 0 rfl) (by decide)) (Nat.lt_succ_self _) hG hP hD hS (lv_sub hl [2, 3, 4, 5, 7, 1, 0] rfl)
        · have h_9103 : rg x_6742 0 4 := rg_lt1 (nle c_7870) h_7868 h_7869 (by decide)
          have h_9104 : rg (I 10 this) 1 5 := rg_lt2 (nle c_7870) h_7868 h_7869 (by decide)
          refine lv_aload_n hx hb dX0_board_17 rfl (lv_at hl 0 rfl) ?_
          obtain ⟨w_9105, hR_w_9105, hL_w_9105, hK_w_9105, hN_w_9105, hT_w_9105⟩ := sh_a hSH 13 (ci := 0) (kd := 13) (len := 5) rfl (by decide) hL_this hK_this
          refine pg_f (v := .ref w_9105) (C := RX0) (T := TX0) (N := 16) hx hb hts (tw_i inlX0) hown hK hP hL_this hK_this (by decide) rfl 13 (by decide) (hts _ (tw_c tw_121)) (pq_hv rfl hR_w_9105) dX0_board_18 ?_
          refine lv_iload hx hb dX0_board_21 (lv_at hl 6 rfl) ?_
          refine lv_aload_n hx hb dX0_board_23 rfl (lv_at hl 0 rfl) ?_
          refine lv_iload hx hb dX0_board_24 (lv_at hl 6 rfl) ?_
          refine pk_i (va_runV (As := [.int x_6742]) (rest := [.int x_6742, .ref w_9105]) ⟨hx, hb, hml, hown, hts⟩ (s_X0_freeBeds l D t σ I J ri_6743 rj rq H.size tg hSH hG.1 this x_6742 hL_this hK_this (rg_w h_9103 (by decide))) (cwV 1 hts (tw_V tw_1180 tw_414 tw_415 tw_45 tw_416) rfl rfl rfl (by decide +kernel) ⟨Nat.le_of_ble_eq_true rfl, Nat.le_of_ble_eq_true rfl⟩) ⟨pq_blind, pq_recv hK hP hL_this hK_this (by decide) rfl, pq_pre hK hN hP hD⟩ rfl rfl hl.1 rfl (lv_room (Nat.le_of_ble_eq_true rfl)) dX0_board_26 ⟨Nat.le_of_ble_eq_true rfl, Nat.le_of_ble_eq_true rfl⟩) hD hS hA (fun x_9106 σ1 μ1 H locs hw_9107 hP hD hS => ?_)
          have hu_9108 := hw_9107
          obtain ⟨hu_9108a, hu_9108b⟩ := Prod.mk.inj hu_9108
          rw [hu_9108a, hu_9108b] at hP hD
          refine pt_i hx hb hK hP hD hS hL_w_9105 hK_w_9105 hN_w_9105 (rg_in h_9103 (by decide)) dX0_board_29 (fun r_9111 H locs er_9111 hP hD hS => ?_)
          have hG := GX.wR hG hSH hT_w_9105 rfl er_9111 (rg_w (rg_full _) (by decide)) (by decide)
          obtain ⟨x_9112, ex_9112⟩ : ∃ y : Int32, y = x_6742 + Int32.ofInt 1 := ⟨_, rfl⟩
          have h_9113 : rg x_9112 1 5 := rg_of_eq ex_9112 (rg_add h_9103 (rg_k (Int32.ofInt 1) 1 rfl) (by decide))
          refine lv_iinc (v := x_9112) (lv' := [(7, .int x_9112), (0, .ref this), (1, .long a0), (3, .ref a1), (4, .int a2), (5, .int a3), (6, .int a4)]) hx hb dX0_board_30 hl (k := 6) rfl ex_9112.symm (by decide) rfl (fun ls hl => ?_)
          refine lv_goto (tgt := 8) hx hb dX0_board_33 (by decide) ?_
          exact ih_7866 x_9112 r_9111 _ _ _ (rg_w h_9113 (by decide)) (ms_up 1 hm ex_9112 rfl (by decide) h_9103 (by decide) (by decide)) hG hP hD hS (lv_sub hl [1, 2, 3, 4, 5, 6, 0] rfl)
    exact L_7865 _ (0 : Int32) ri_3 _ _ _ (rg_w (rg_k (0 : Int32) 0 rfl) (by decide)) (Nat.lt_succ_self _) hG hP hD hS (lv_sub hl [1, 2, 3, 4, 5, 6, 0] rfl)
  exact go _ _ _ hP hD hS hl
