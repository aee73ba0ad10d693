theorem dX12_order_0 : decode cX12_order 0 = .ok (.aload_n 0, 1) := by decide +kernel
theorem dX12_order_1 : decode cX12_order 1 = .ok (.iload_n 2, 1) := by decide +kernel
theorem dX12_order_2 : decode cX12_order 2 = .ok (.bipush 12, 2) := by decide +kernel
theorem dX12_order_4 : decode cX12_order 4 = .ok (.iload_n 1, 1) := by decide +kernel
theorem dX12_order_5 : decode cX12_order 5 = .ok (.invokevirtual 369, 3) := by decide +kernel
theorem dX12_order_24 : decode cX12_order 24 = .ok (.iconst (-1), 1) := by decide +kernel
theorem dX12_order_25 : decode cX12_order 25 = .ok (.ireturn, 1) := by decide +kernel
theorem dX12_order_8 : decode cX12_order 8 = .ok (.ifCond .eq 16, 3) := by decide +kernel
theorem dX12_order_11 : decode cX12_order 11 = .ok (.iload_n 3, 1) := by decide +kernel
theorem dX12_order_12 : decode cX12_order 12 = .ok (.iconst (-1), 1) := by decide +kernel
theorem dX12_order_26 : decode cX12_order 26 = .ok (.aload_n 0, 1) := by decide +kernel
theorem dX12_order_27 : decode cX12_order 27 = .ok (.getfield 7, 3) := by decide +kernel
theorem dX12_order_30 : decode cX12_order 30 = .ok (.aload_n 0, 1) := by decide +kernel
theorem dX12_order_31 : decode cX12_order 31 = .ok (.getfield 16, 3) := by decide +kernel
theorem dX12_order_34 : decode cX12_order 34 = .ok (.invokestatic 58, 3) := by decide +kernel
theorem dX12_order_37 : decode cX12_order 37 = .ok (.aload_n 0, 1) := by decide +kernel
theorem dX12_order_38 : decode cX12_order 38 = .ok (.getfield 7, 3) := by decide +kernel
theorem dX12_order_41 : decode cX12_order 41 = .ok (.iconst 1, 1) := by decide +kernel
theorem dX12_order_42 : decode cX12_order 42 = .ok (.iaload, 1) := by decide +kernel
theorem dX12_order_43 : decode cX12_order 43 = .ok (.istore 4, 2) := by decide +kernel
theorem dX12_order_45 : decode cX12_order 45 = .ok (.iconst 0, 1) := by decide +kernel
theorem dX12_order_46 : decode cX12_order 46 = .ok (.istore 5, 2) := by decide +kernel
theorem dX12_order_48 : decode cX12_order 48 = .ok (.iload 5, 2) := by decide +kernel
theorem dX12_order_50 : decode cX12_order 50 = .ok (.iconst 5, 1) := by decide +kernel
theorem dX12_order_51 : decode cX12_order 51 = .ok (.if_icmp .ge 18, 3) := by decide +kernel
theorem dX12_order_69 : decode cX12_order 69 = .ok (.iconst (-1), 1) := by decide +kernel
theorem dX12_order_70 : decode cX12_order 70 = .ok (.istore 5, 2) := by decide +kernel
theorem dX12_order_72 : decode cX12_order 72 = .ok (.aload_n 0, 1) := by decide +kernel
theorem dX12_order_73 : decode cX12_order 73 = .ok (.iconst 1, 1) := by decide +kernel
theorem dX12_order_74 : decode cX12_order 74 = .ok (.putfield 328, 3) := by decide +kernel
theorem dX12_order_77 : decode cX12_order 77 = .ok (.iconst 1, 1) := by decide +kernel
theorem dX12_order_78 : decode cX12_order 78 = .ok (.istore 6, 2) := by decide +kernel
theorem dX12_order_80 : decode cX12_order 80 = .ok (.iload 6, 2) := by decide +kernel
theorem dX12_order_82 : decode cX12_order 82 = .ok (.ifCond .eq 136, 3) := by decide +kernel
theorem dX12_order_218 : decode cX12_order 218 = .ok (.aload_n 0, 1) := by decide +kernel
theorem dX12_order_219 : decode cX12_order 219 = .ok (.iconst 0, 1) := by decide +kernel
theorem dX12_order_220 : decode cX12_order 220 = .ok (.putfield 328, 3) := by decide +kernel
theorem dX12_order_223 : decode cX12_order 223 = .ok (.iload_n 3, 1) := by decide +kernel
theorem dX12_order_224 : decode cX12_order 224 = .ok (.iconst (-1), 1) := by decide +kernel
theorem dX12_order_225 : decode cX12_order 225 = .ok (.if_icmp .ne 8, 3) := by decide +kernel
theorem dX12_order_233 : decode cX12_order 233 = .ok (.aload_n 0, 1) := by decide +kernel
theorem tw_190 : Cond.fieldLink RX12 52 "RingsUnderModel" "bestRow" "[I" ∈ wsL_law := List.mem_of_getElem? (i := 190) (by decide +kernel)
theorem dX12_order_234 : decode cX12_order 234 = .ok (.getfield 52, 3) := by decide +kernel
theorem dX12_order_237 : decode cX12_order 237 = .ok (.iload_n 3, 1) := by decide +kernel
theorem dX12_order_238 : decode cX12_order 238 = .ok (.iaload, 1) := by decide +kernel
theorem dX12_order_239 : decode cX12_order 239 = .ok (.ireturn, 1) := by decide +kernel
theorem dX12_order_228 : decode cX12_order 228 = .ok (.iload 5, 2) := by decide +kernel
theorem dX12_order_230 : decode cX12_order 230 = .ok (.goto 9, 3) := by decide +kernel
theorem dX12_order_85 : decode cX12_order 85 = .ok (.iconst 0, 1) := by decide +kernel
theorem dX12_order_86 : decode cX12_order 86 = .ok (.istore 7, 2) := by decide +kernel
theorem dX12_order_88 : decode cX12_order 88 = .ok (.iload 7, 2) := by decide +kernel
theorem dX12_order_90 : decode cX12_order 90 = .ok (.iload 4, 2) := by decide +kernel
theorem dX12_order_92 : decode cX12_order 92 = .ok (.if_icmp .ge 23, 3) := by decide +kernel
theorem dX12_order_115 : decode cX12_order 115 = .ok (.aload_n 0, 1) := by decide +kernel
theorem tw_1487 : Cond.methodLink RX12 378 yX12_wants ∈ wsL_law := List.mem_of_getElem? (i := 1487) (by decide +kernel)
theorem tw_1488 : Cond.instanceMethod yX12_wants ∈ wsL_law := List.mem_of_getElem? (i := 1488) (by decide +kernel)
theorem tw_1489 : Cond.selects RX12 yX12_wants yX12_wants ∈ wsL_law := List.mem_of_getElem? (i := 1489) (by decide +kernel)
theorem tw_1490 : Cond.code yX12_wants cX12_wants 3 (some .int) ∈ wsL_law := List.mem_of_getElem? (i := 1490) (by decide +kernel)
theorem dX12_order_116 : decode cX12_order 116 = .ok (.invokevirtual 378, 3) := by decide +kernel
theorem dX12_order_119 : decode cX12_order 119 = .ok (.istore 7, 2) := by decide +kernel
theorem dX12_order_121 : decode cX12_order 121 = .ok (.iconst 0, 1) := by decide +kernel
theorem dX12_order_122 : decode cX12_order 122 = .ok (.istore 8, 2) := by decide +kernel
theorem dX12_order_124 : decode cX12_order 124 = .ok (.iload 8, 2) := by decide +kernel
theorem dX12_order_126 : decode cX12_order 126 = .ok (.iload_n 2, 1) := by decide +kernel
theorem dX12_order_127 : decode cX12_order 127 = .ok (.if_icmp .ge 14, 3) := by decide +kernel
theorem dX12_order_141 : decode cX12_order 141 = .ok (.aload_n 0, 1) := by decide +kernel
theorem dX12_order_142 : decode cX12_order 142 = .ok (.invokevirtual 378, 3) := by decide +kernel
theorem dX12_order_145 : decode cX12_order 145 = .ok (.iload 7, 2) := by decide +kernel
theorem dX12_order_147 : decode cX12_order 147 = .ok (.isub, 1) := by decide +kernel
theorem dX12_order_148 : decode cX12_order 148 = .ok (.istore 8, 2) := by decide +kernel
theorem dX12_order_150 : decode cX12_order 150 = .ok (.aload_n 0, 1) := by decide +kernel
theorem dX12_order_151 : decode cX12_order 151 = .ok (.getfield 16, 3) := by decide +kernel
theorem dX12_order_154 : decode cX12_order 154 = .ok (.aload_n 0, 1) := by decide +kernel
theorem dX12_order_155 : decode cX12_order 155 = .ok (.getfield 7, 3) := by decide +kernel
theorem dX12_order_158 : decode cX12_order 158 = .ok (.invokestatic 58, 3) := by decide +kernel
theorem dX12_order_161 : decode cX12_order 161 = .ok (.iload 5, 2) := by decide +kernel
theorem dX12_order_173 : decode cX12_order 173 = .ok (.iload 8, 2) := by decide +kernel
theorem dX12_order_175 : decode cX12_order 175 = .ok (.istore 5, 2) := by decide +kernel
theorem dX12_order_177 : decode cX12_order 177 = .ok (.iconst 0, 1) := by decide +kernel
theorem dX12_order_178 : decode cX12_order 178 = .ok (.istore 9, 2) := by decide +kernel
theorem dX12_order_180 : decode cX12_order 180 = .ok (.iload 9, 2) := by decide +kernel
theorem dX12_order_182 : decode cX12_order 182 = .ok (.iload 4, 2) := by decide +kernel
theorem dX12_order_184 : decode cX12_order 184 = .ok (.if_icmp .ge 23, 3) := by decide +kernel
theorem dX12_order_207 : decode cX12_order 207 = .ok (.aload_n 0, 1) := by decide +kernel
theorem dX12_order_208 : decode cX12_order 208 = .ok (.iload 4, 2) := by decide +kernel
theorem tw_1491 : Cond.methodLink RX12 381 yX12_nextOrder ∈ wsL_law := List.mem_of_getElem? (i := 1491) (by decide +kernel)
theorem tw_1492 : Cond.instanceMethod yX12_nextOrder ∈ wsL_law := List.mem_of_getElem? (i := 1492) (by decide +kernel)
theorem tw_1493 : Cond.selects RX12 yX12_nextOrder yX12_nextOrder ∈ wsL_law := List.mem_of_getElem? (i := 1493) (by decide +kernel)
theorem tw_1494 : Cond.code yX12_nextOrder cX12_nextOrder 7 (some .boolean) ∈ wsL_law := List.mem_of_getElem? (i := 1494) (by decide +kernel)
theorem dX12_order_210 : decode cX12_order 210 = .ok (.invokevirtual 381, 3) := by decide +kernel
theorem dX12_order_213 : decode cX12_order 213 = .ok (.istore 6, 2) := by decide +kernel
theorem dX12_order_215 : decode cX12_order 215 = .ok (.goto (-135), 3) := by decide +kernel
theorem dX12_order_187 : decode cX12_order 187 = .ok (.aload_n 0, 1) := by decide +kernel
theorem dX12_order_188 : decode cX12_order 188 = .ok (.getfield 52, 3) := by decide +kernel
theorem dX12_order_191 : decode cX12_order 191 = .ok (.iload 9, 2) := by decide +kernel
theorem dX12_order_193 : decode cX12_order 193 = .ok (.aload_n 0, 1) := by decide +kernel
theorem dX12_order_194 : decode cX12_order 194 = .ok (.getfield 55, 3) := by decide +kernel
theorem dX12_order_197 : decode cX12_order 197 = .ok (.iload 9, 2) := by decide +kernel
theorem dX12_order_199 : decode cX12_order 199 = .ok (.iaload, 1) := by decide +kernel
theorem dX12_order_200 : decode cX12_order 200 = .ok (.iastore, 1) := by decide +kernel
theorem dX12_order_201 : decode cX12_order 201 = .ok (.iinc 9 1, 3) := by decide +kernel
theorem dX12_order_204 : decode cX12_order 204 = .ok (.goto (-24), 3) := by decide +kernel
theorem dX12_order_163 : decode cX12_order 163 = .ok (.ifCond .lt 10, 3) := by decide +kernel
theorem dX12_order_166 : decode cX12_order 166 = .ok (.iload 8, 2) := by decide +kernel
theorem dX12_order_168 : decode cX12_order 168 = .ok (.iload 5, 2) := by decide +kernel
theorem dX12_order_170 : decode cX12_order 170 = .ok (.if_icmp .ge 37, 3) := by decide +kernel
theorem dX12_order_130 : decode cX12_order 130 = .ok (.aload_n 0, 1) := by decide +kernel
theorem dX12_order_131 : decode cX12_order 131 = .ok (.iload_n 1, 1) := by decide +kernel
theorem dX12_order_132 : decode cX12_order 132 = .ok (.invokevirtual 372, 3) := by decide +kernel
theorem dX12_order_135 : decode cX12_order 135 = .ok (.iinc 8 1, 3) := by decide +kernel
theorem dX12_order_138 : decode cX12_order 138 = .ok (.goto (-14), 3) := by decide +kernel
theorem dX12_order_95 : decode cX12_order 95 = .ok (.aload_n 0, 1) := by decide +kernel
theorem dX12_order_96 : decode cX12_order 96 = .ok (.getfield 40, 3) := by decide +kernel
theorem dX12_order_99 : decode cX12_order 99 = .ok (.aload_n 0, 1) := by decide +kernel
theorem dX12_order_100 : decode cX12_order 100 = .ok (.getfield 55, 3) := by decide +kernel
theorem dX12_order_103 : decode cX12_order 103 = .ok (.iload 7, 2) := by decide +kernel
theorem dX12_order_105 : decode cX12_order 105 = .ok (.iaload, 1) := by decide +kernel
theorem dX12_order_106 : decode cX12_order 106 = .ok (.iload 7, 2) := by decide +kernel
theorem dX12_order_108 : decode cX12_order 108 = .ok (.iastore, 1) := by decide +kernel
theorem dX12_order_109 : decode cX12_order 109 = .ok (.iinc 7 1, 3) := by decide +kernel
theorem dX12_order_112 : decode cX12_order 112 = .ok (.goto (-24), 3) := by decide +kernel
theorem dX12_order_54 : decode cX12_order 54 = .ok (.aload_n 0, 1) := by decide +kernel
theorem dX12_order_55 : decode cX12_order 55 = .ok (.getfield 55, 3) := by decide +kernel
theorem dX12_order_58 : decode cX12_order 58 = .ok (.iload 5, 2) := by decide +kernel
theorem dX12_order_60 : decode cX12_order 60 = .ok (.iload 5, 2) := by decide +kernel
theorem dX12_order_62 : decode cX12_order 62 = .ok (.iastore, 1) := by decide +kernel
theorem dX12_order_63 : decode cX12_order 63 = .ok (.iinc 5 1, 3) := by decide +kernel
theorem dX12_order_66 : decode cX12_order 66 = .ok (.goto (-18), 3) := by decide +kernel
theorem dX12_order_13 : decode cX12_order 13 = .ok (.if_icmp .eq 13, 3) := by decide +kernel
theorem dX12_order_16 : decode cX12_order 16 = .ok (.aload_n 0, 1) := by decide +kernel
theorem dX12_order_17 : decode cX12_order 17 = .ok (.iload_n 3, 1) := by decide +kernel
theorem dX12_order_18 : decode cX12_order 18 = .ok (.invokevirtual 66, 3) := by decide +kernel
theorem dX12_order_21 : decode cX12_order 21 = .ok (.ifCond .ne 5, 3) := by decide +kernel
theorem dX12_lies_0 : decode cX12_lies 0 = .ok (.sipush 2400, 3) := by decide +kernel
theorem dX12_lies_3 : decode cX12_lies 3 = .ok (.iconst 4, 1) := by decide +kernel
theorem dX12_lies_4 : decode cX12_lies 4 = .ok (.iload_n 1, 1) := by decide +kernel
theorem dX12_lies_5 : decode cX12_lies 5 = .ok (.imul, 1) := by decide +kernel
theorem dX12_lies_6 : decode cX12_lies 6 = .ok (.iadd, 1) := by decide +kernel
theorem dX12_lies_7 : decode cX12_lies 7 = .ok (.istore_n 3, 1) := by decide +kernel
theorem dX12_lies_8 : decode cX12_lies 8 = .ok (.aload_n 0, 1) := by decide +kernel
theorem dX12_lies_9 : decode cX12_lies 9 = .ok (.getfield 7, 3) := by decide +kernel
theorem dX12_lies_12 : decode cX12_lies 12 = .ok (.iload_n 3, 1) := by decide +kernel
theorem dX12_lies_13 : decode cX12_lies 13 = .ok (.iload_n 2, 1) := by decide +kernel
theorem dX12_lies_14 : decode cX12_lies 14 = .ok (.iastore, 1) := by decide +kernel
theorem dX12_lies_15 : decode cX12_lies 15 = .ok (.iload_n 2, 1) := by decide +kernel
theorem dX12_lies_16 : decode cX12_lies 16 = .ok (.bipush 20, 2) := by decide +kernel
theorem dX12_lies_18 : decode cX12_lies 18 = .ok (.if_icmp .ge 20, 3) := by decide +kernel
theorem dX12_lies_38 : decode cX12_lies 38 = .ok (.aload_n 0, 1) := by decide +kernel
theorem dX12_lies_39 : decode cX12_lies 39 = .ok (.getfield 7, 3) := by decide +kernel
theorem dX12_lies_42 : decode cX12_lies 42 = .ok (.iload_n 3, 1) := by decide +kernel
theorem dX12_lies_43 : decode cX12_lies 43 = .ok (.iconst 2, 1) := by decide +kernel
theorem dX12_lies_44 : decode cX12_lies 44 = .ok (.iadd, 1) := by decide +kernel
theorem dX12_lies_45 : decode cX12_lies 45 = .ok (.dup2, 1) := by decide +kernel
theorem dX12_lies_46 : decode cX12_lies 46 = .ok (.iaload, 1) := by decide +kernel
theorem dX12_lies_47 : decode cX12_lies 47 = .ok (.iconst 1, 1) := by decide +kernel
theorem dX12_lies_48 : decode cX12_lies 48 = .ok (.iload_n 2, 1) := by decide +kernel
theorem dX12_lies_49 : decode cX12_lies 49 = .ok (.bipush 20, 2) := by decide +kernel
theorem dX12_lies_51 : decode cX12_lies 51 = .ok (.isub, 1) := by decide +kernel
theorem dX12_lies_52 : decode cX12_lies 52 = .ok (.ishl, 1) := by decide +kernel
theorem dX12_lies_53 : decode cX12_lies 53 = .ok (.ior, 1) := by decide +kernel
theorem dX12_lies_54 : decode cX12_lies 54 = .ok (.iastore, 1) := by decide +kernel
theorem dX12_lies_55 : decode cX12_lies 55 = .ok (.return_, 1) := by decide +kernel
theorem dX12_lies_21 : decode cX12_lies 21 = .ok (.aload_n 0, 1) := by decide +kernel
theorem dX12_lies_22 : decode cX12_lies 22 = .ok (.getfield 7, 3) := by decide +kernel
theorem dX12_lies_25 : decode cX12_lies 25 = .ok (.iload_n 3, 1) := by decide +kernel
theorem dX12_lies_26 : decode cX12_lies 26 = .ok (.iconst 1, 1) := by decide +kernel
theorem dX12_lies_27 : decode cX12_lies 27 = .ok (.iadd, 1) := by decide +kernel
theorem dX12_lies_28 : decode cX12_lies 28 = .ok (.dup2, 1) := by decide +kernel
theorem dX12_lies_29 : decode cX12_lies 29 = .ok (.iaload, 1) := by decide +kernel
theorem dX12_lies_30 : decode cX12_lies 30 = .ok (.iconst 1, 1) := by decide +kernel
theorem dX12_lies_31 : decode cX12_lies 31 = .ok (.iload_n 2, 1) := by decide +kernel
theorem dX12_lies_32 : decode cX12_lies 32 = .ok (.ishl, 1) := by decide +kernel
theorem dX12_lies_33 : decode cX12_lies 33 = .ok (.ior, 1) := by decide +kernel
theorem dX12_lies_34 : decode cX12_lies 34 = .ok (.iastore, 1) := by decide +kernel
theorem dX12_lies_35 : decode cX12_lies 35 = .ok (.goto 20, 3) := by decide +kernel
theorem dX12_grave_0 : decode cX12_grave 0 = .ok (.aload_n 0, 1) := by decide +kernel
theorem dX12_grave_1 : decode cX12_grave 1 = .ok (.iload_n 1, 1) := by decide +kernel
theorem dX12_grave_2 : decode cX12_grave 2 = .ok (.invokevirtual 88, 3) := by decide +kernel
theorem dX12_grave_20 : decode cX12_grave 20 = .ok (.iconst (-1), 1) := by decide +kernel
theorem dX12_grave_21 : decode cX12_grave 21 = .ok (.ireturn, 1) := by decide +kernel
theorem dX12_grave_5 : decode cX12_grave 5 = .ok (.ifCond .eq 15, 3) := by decide +kernel
theorem dX12_grave_8 : decode cX12_grave 8 = .ok (.aload_n 0, 1) := by decide +kernel
theorem dX12_grave_9 : decode cX12_grave 9 = .ok (.getfield 7, 3) := by decide +kernel
theorem dX12_grave_12 : decode cX12_grave 12 = .ok (.bipush 10, 2) := by decide +kernel
theorem dX12_grave_14 : decode cX12_grave 14 = .ok (.iaload, 1) := by decide +kernel
theorem dX12_grave_15 : decode cX12_grave 15 = .ok (.bipush 30, 2) := by decide +kernel
theorem dX12_grave_17 : decode cX12_grave 17 = .ok (.if_icmp .ne 5, 3) := by decide +kernel
theorem dX12_grave_22 : decode cX12_grave 22 = .ok (.aload_n 0, 1) := by decide +kernel
theorem dX12_grave_23 : decode cX12_grave 23 = .ok (.aload_n 0, 1) := by decide +kernel
theorem dX12_grave_24 : decode cX12_grave 24 = .ok (.getfield 7, 3) := by decide +kernel
theorem dX12_grave_27 : decode cX12_grave 27 = .ok (.bipush 10, 2) := by decide +kernel
theorem dX12_grave_29 : decode cX12_grave 29 = .ok (.iaload, 1) := by decide +kernel
theorem dX12_grave_30 : decode cX12_grave 30 = .ok (.iload_n 1, 1) := by decide +kernel
theorem tw_1509 : Cond.methodLink RX12 384 yX12_lies ∈ wsL_law := List.mem_of_getElem? (i := 1509) (by decide +kernel)
theorem tw_1510 : Cond.instanceMethod yX12_lies ∈ wsL_law := List.mem_of_getElem? (i := 1510) (by decide +kernel)
theorem tw_1511 : Cond.selects RX12 yX12_lies yX12_lies ∈ wsL_law := List.mem_of_getElem? (i := 1511) (by decide +kernel)
theorem tw_1512 : Cond.code yX12_lies cX12_lies 4 none ∈ wsL_law := List.mem_of_getElem? (i := 1512) (by decide +kernel)
theorem dX12_grave_31 : decode cX12_grave 31 = .ok (.invokevirtual 384, 3) := by decide +kernel
theorem dX12_grave_34 : decode cX12_grave 34 = .ok (.aload_n 0, 1) := by decide +kernel
theorem dX12_grave_35 : decode cX12_grave 35 = .ok (.getfield 7, 3) := by decide +kernel
theorem dX12_grave_38 : decode cX12_grave 38 = .ok (.bipush 10, 2) := by decide +kernel
theorem dX12_grave_40 : decode cX12_grave 40 = .ok (.dup2, 1) := by decide +kernel
theorem dX12_grave_41 : decode cX12_grave 41 = .ok (.iaload, 1) := by decide +kernel
theorem dX12_grave_42 : decode cX12_grave 42 = .ok (.iconst 1, 1) := by decide +kernel
theorem dX12_grave_43 : decode cX12_grave 43 = .ok (.iadd, 1) := by decide +kernel
theorem dX12_grave_44 : decode cX12_grave 44 = .ok (.iastore, 1) := by decide +kernel
theorem dX12_grave_45 : decode cX12_grave 45 = .ok (.aload_n 0, 1) := by decide +kernel
theorem dX12_grave_46 : decode cX12_grave 46 = .ok (.getfield 7, 3) := by decide +kernel
theorem dX12_grave_49 : decode cX12_grave 49 = .ok (.bipush 10, 2) := by decide +kernel
theorem dX12_grave_51 : decode cX12_grave 51 = .ok (.iaload, 1) := by decide +kernel
theorem dX12_grave_52 : decode cX12_grave 52 = .ok (.iconst 1, 1) := by decide +kernel
theorem dX12_grave_53 : decode cX12_grave 53 = .ok (.isub, 1) := by decide +kernel
theorem dX12_grave_54 : decode cX12_grave 54 = .ok (.ireturn, 1) := by decide +kernel
theorem dX12_bury_0 : decode cX12_bury 0 = .ok (.iload_n 1, 1) := by decide +kernel
theorem dX12_bury_1 : decode cX12_bury 1 = .ok (.iconst 0, 1) := by decide +kernel
theorem dX12_bury_2 : decode cX12_bury 2 = .ok (.aload_n 0, 1) := by decide +kernel
theorem dX12_bury_3 : decode cX12_bury 3 = .ok (.getfield 7, 3) := by decide +kernel
theorem dX12_bury_6 : decode cX12_bury 6 = .ok (.bipush 10, 2) := by decide +kernel
theorem dX12_bury_8 : decode cX12_bury 8 = .ok (.iaload, 1) := by decide +kernel
theorem dX12_bury_9 : decode cX12_bury 9 = .ok (.iconst 1, 1) := by decide +kernel
theorem dX12_bury_10 : decode cX12_bury 10 = .ok (.isub, 1) := by decide +kernel
theorem dX12_bury_11 : decode cX12_bury 11 = .ok (.invokestatic 62, 3) := by decide +kernel
theorem dX12_bury_41 : decode cX12_bury 41 = .ok (.iconst 0, 1) := by decide +kernel
theorem dX12_bury_42 : decode cX12_bury 42 = .ok (.ireturn, 1) := by decide +kernel
theorem dX12_bury_14 : decode cX12_bury 14 = .ok (.ifCond .eq 27, 3) := by decide +kernel
theorem dX12_bury_17 : decode cX12_bury 17 = .ok (.aload_n 0, 1) := by decide +kernel
theorem dX12_bury_18 : decode cX12_bury 18 = .ok (.iload_n 2, 1) := by decide +kernel
theorem dX12_bury_19 : decode cX12_bury 19 = .ok (.invokevirtual 88, 3) := by decide +kernel
theorem dX12_bury_22 : decode cX12_bury 22 = .ok (.ifCond .eq 19, 3) := by decide +kernel
theorem dX12_bury_25 : decode cX12_bury 25 = .ok (.aload_n 0, 1) := by decide +kernel
theorem dX12_bury_26 : decode cX12_bury 26 = .ok (.getfield 7, 3) := by decide +kernel
theorem dX12_bury_29 : decode cX12_bury 29 = .ok (.sipush 2400, 3) := by decide +kernel
theorem dX12_bury_32 : decode cX12_bury 32 = .ok (.iconst 4, 1) := by decide +kernel
theorem dX12_bury_33 : decode cX12_bury 33 = .ok (.iload_n 1, 1) := by decide +kernel
theorem dX12_bury_34 : decode cX12_bury 34 = .ok (.imul, 1) := by decide +kernel
theorem dX12_bury_35 : decode cX12_bury 35 = .ok (.iadd, 1) := by decide +kernel
theorem dX12_bury_36 : decode cX12_bury 36 = .ok (.iaload, 1) := by decide +kernel
theorem dX12_bury_37 : decode cX12_bury 37 = .ok (.iload_n 2, 1) := by decide +kernel
theorem dX12_bury_38 : decode cX12_bury 38 = .ok (.if_icmp .ne 5, 3) := by decide +kernel
theorem dX12_bury_43 : decode cX12_bury 43 = .ok (.aload_n 0, 1) := by decide +kernel
theorem dX12_bury_44 : decode cX12_bury 44 = .ok (.iload_n 1, 1) := by decide +kernel
theorem dX12_bury_45 : decode cX12_bury 45 = .ok (.iload_n 2, 1) := by decide +kernel
theorem dX12_bury_46 : decode cX12_bury 46 = .ok (.invokevirtual 384, 3) := by decide +kernel
theorem dX12_bury_49 : decode cX12_bury 49 = .ok (.iconst 1, 1) := by decide +kernel
theorem dX12_bury_50 : decode cX12_bury 50 = .ok (.ireturn, 1) := by decide +kernel
theorem dX12_found_0 : decode cX12_found 0 = .ok (.aload_n 0, 1) := by decide +kernel
theorem dX12_found_1 : decode cX12_found 1 = .ok (.iload_n 1, 1) := by decide +kernel
theorem dX12_found_2 : decode cX12_found 2 = .ok (.invokevirtual 88, 3) := by decide +kernel
theorem dX12_found_12 : decode cX12_found 12 = .ok (.iconst (-1), 1) := by decide +kernel
theorem dX12_found_13 : decode cX12_found 13 = .ok (.ireturn, 1) := by decide +kernel
theorem dX12_found_5 : decode cX12_found 5 = .ok (.ifCond .eq 7, 3) := by decide +kernel
theorem dX12_found_8 : decode cX12_found 8 = .ok (.iload_n 2, 1) := by decide +kernel
theorem dX12_found_9 : decode cX12_found 9 = .ok (.ifCond .ge 5, 3) := by decide +kernel
theorem dX12_found_14 : decode cX12_found 14 = .ok (.iload_n 2, 1) := by decide +kernel
theorem dX12_found_15 : decode cX12_found 15 = .ok (.istore_n 3, 1) := by decide +kernel
theorem dX12_found_16 : decode cX12_found 16 = .ok (.iconst 0, 1) := by decide +kernel
theorem dX12_found_17 : decode cX12_found 17 = .ok (.istore 4, 2) := by decide +kernel
theorem dX12_found_19 : decode cX12_found 19 = .ok (.iload 4, 2) := by decide +kernel
theorem dX12_found_21 : decode cX12_found 21 = .ok (.aload_n 0, 1) := by decide +kernel
theorem dX12_found_22 : decode cX12_found 22 = .ok (.getfield 7, 3) := by decide +kernel
theorem dX12_found_25 : decode cX12_found 25 = .ok (.bipush 10, 2) := by decide +kernel
theorem dX12_found_27 : decode cX12_found 27 = .ok (.iaload, 1) := by decide +kernel
theorem dX12_found_28 : decode cX12_found 28 = .ok (.if_icmp .ge 80, 3) := by decide +kernel
theorem dX12_found_108 : decode cX12_found 108 = .ok (.iconst (-1), 1) := by decide +kernel
theorem dX12_found_109 : decode cX12_found 109 = .ok (.ireturn, 1) := by decide +kernel
theorem dX12_found_31 : decode cX12_found 31 = .ok (.sipush 2400, 3) := by decide +kernel
theorem dX12_found_34 : decode cX12_found 34 = .ok (.iconst 4, 1) := by decide +kernel
theorem dX12_found_35 : decode cX12_found 35 = .ok (.iload 4, 2) := by decide +kernel
theorem dX12_found_37 : decode cX12_found 37 = .ok (.imul, 1) := by decide +kernel
theorem dX12_found_38 : decode cX12_found 38 = .ok (.iadd, 1) := by decide +kernel
theorem dX12_found_39 : decode cX12_found 39 = .ok (.istore 5, 2) := by decide +kernel
theorem dX12_found_41 : decode cX12_found 41 = .ok (.iload_n 1, 1) := by decide +kernel
theorem dX12_found_42 : decode cX12_found 42 = .ok (.bipush 20, 2) := by decide +kernel
theorem dX12_found_75 : decode cX12_found 75 = .ok (.istore 6, 2) := by decide +kernel
theorem dX12_found_77 : decode cX12_found 77 = .ok (.iload 6, 2) := by decide +kernel
theorem dX12_found_79 : decode cX12_found 79 = .ok (.iconst 1, 1) := by decide +kernel
theorem dX12_found_80 : decode cX12_found 80 = .ok (.iand, 1) := by decide +kernel
theorem dX12_found_102 : decode cX12_found 102 = .ok (.iinc 4 1, 3) := by decide +kernel
theorem dX12_found_105 : decode cX12_found 105 = .ok (.goto (-86), 3) := by decide +kernel
theorem dX12_found_81 : decode cX12_found 81 = .ok (.ifCond .ne 6, 3) := by decide +kernel
theorem dX12_found_87 : decode cX12_found 87 = .ok (.iload_n 3, 1) := by decide +kernel
theorem dX12_found_88 : decode cX12_found 88 = .ok (.ifCond .ne 11, 3) := by decide +kernel
theorem dX12_found_99 : decode cX12_found 99 = .ok (.iinc 3 (-1), 3) := by decide +kernel
theorem dX12_found_91 : decode cX12_found 91 = .ok (.aload_n 0, 1) := by decide +kernel
theorem dX12_found_92 : decode cX12_found 92 = .ok (.getfield 7, 3) := by decide +kernel
theorem dX12_found_95 : decode cX12_found 95 = .ok (.iload 5, 2) := by decide +kernel
theorem dX12_found_97 : decode cX12_found 97 = .ok (.iaload, 1) := by decide +kernel
theorem dX12_found_98 : decode cX12_found 98 = .ok (.ireturn, 1) := by decide +kernel
theorem dX12_found_84 : decode cX12_found 84 = .ok (.goto 18, 3) := by decide +kernel
theorem dX12_found_44 : decode cX12_found 44 = .ok (.if_icmp .ge 17, 3) := by decide +kernel
theorem dX12_found_61 : decode cX12_found 61 = .ok (.aload_n 0, 1) := by decide +kernel
theorem dX12_found_62 : decode cX12_found 62 = .ok (.getfield 7, 3) := by decide +kernel
theorem dX12_found_65 : decode cX12_found 65 = .ok (.iload 5, 2) := by decide +kernel
theorem dX12_found_67 : decode cX12_found 67 = .ok (.iconst 2, 1) := by decide +kernel
theorem dX12_found_68 : decode cX12_found 68 = .ok (.iadd, 1) := by decide +kernel
theorem dX12_found_69 : decode cX12_found 69 = .ok (.iaload, 1) := by decide +kernel
theorem dX12_found_70 : decode cX12_found 70 = .ok (.iload_n 1, 1) := by decide +kernel
theorem dX12_found_71 : decode cX12_found 71 = .ok (.bipush 20, 2) := by decide +kernel
theorem dX12_found_73 : decode cX12_found 73 = .ok (.isub, 1) := by decide +kernel
theorem dX12_found_74 : decode cX12_found 74 = .ok (.ishr, 1) := by decide +kernel
theorem dX12_found_47 : decode cX12_found 47 = .ok (.aload_n 0, 1) := by decide +kernel
theorem dX12_found_48 : decode cX12_found 48 = .ok (.getfield 7, 3) := by decide +kernel
theorem dX12_found_51 : decode cX12_found 51 = .ok (.iload 5, 2) := by decide +kernel
theorem dX12_found_53 : decode cX12_found 53 = .ok (.iconst 1, 1) := by decide +kernel
theorem dX12_found_54 : decode cX12_found 54 = .ok (.iadd, 1) := by decide +kernel
theorem dX12_found_55 : decode cX12_found 55 = .ok (.iaload, 1) := by decide +kernel
theorem dX12_found_56 : decode cX12_found 56 = .ok (.iload_n 1, 1) := by decide +kernel
theorem dX12_found_57 : decode cX12_found 57 = .ok (.ishr, 1) := by decide +kernel
theorem dX12_found_58 : decode cX12_found 58 = .ok (.goto 17, 3) := by decide +kernel
theorem dX12_image_0 : decode cX12_image 0 = .ok (.aload_n 0, 1) := by decide +kernel
theorem dX12_image_1 : decode cX12_image 1 = .ok (.getfield 7, 3) := by decide +kernel
theorem dX12_image_4 : decode cX12_image 4 = .ok (.aload_n 0, 1) := by decide +kernel
theorem tw_177 : Cond.fieldLink RX12 13 "RingsUnderModel" "image" "[I" ∈ wsL_law := List.mem_of_getElem? (i := 177) (by decide +kernel)
theorem dX12_image_5 : decode cX12_image 5 = .ok (.getfield 13, 3) := by decide +kernel
theorem dX12_image_8 : decode cX12_image 8 = .ok (.invokestatic 58, 3) := by decide +kernel
theorem dX12_image_11 : decode cX12_image 11 = .ok (.aload_n 0, 1) := by decide +kernel
theorem dX12_image_12 : decode cX12_image 12 = .ok (.getfield 7, 3) := by decide +kernel
theorem dX12_image_15 : decode cX12_image 15 = .ok (.iconst 0, 1) := by decide +kernel
theorem dX12_image_16 : decode cX12_image 16 = .ok (.iaload, 1) := by decide +kernel
theorem dX12_image_17 : decode cX12_image 17 = .ok (.ireturn, 1) := by decide +kernel
theorem dX12_back_0 : decode cX12_back 0 = .ok (.aload_n 0, 1) := by decide +kernel
theorem dX12_back_1 : decode cX12_back 1 = .ok (.getfield 13, 3) := by decide +kernel
theorem dX12_back_4 : decode cX12_back 4 = .ok (.aload_n 0, 1) := by decide +kernel
theorem dX12_back_5 : decode cX12_back 5 = .ok (.getfield 7, 3) := by decide +kernel
theorem dX12_back_8 : decode cX12_back 8 = .ok (.invokestatic 58, 3) := by decide +kernel
theorem dX12_back_11 : decode cX12_back 11 = .ok (.aload_n 0, 1) := by decide +kernel
theorem dX12_back_12 : decode cX12_back 12 = .ok (.getfield 7, 3) := by decide +kernel
theorem dX12_back_15 : decode cX12_back 15 = .ok (.iconst 0, 1) := by decide +kernel
theorem dX12_back_16 : decode cX12_back 16 = .ok (.iaload, 1) := by decide +kernel
theorem dX12_back_17 : decode cX12_back 17 = .ok (.ireturn, 1) := by decide +kernel
theorem dX12_about_0 : decode cX12_about 0 = .ok (.iconst 0, 1) := by decide +kernel
theorem dX12_about_1 : decode cX12_about 1 = .ok (.istore_n 2, 1) := by decide +kernel
theorem dX12_about_2 : decode cX12_about 2 = .ok (.iload_n 1, 1) := by decide +kernel
theorem dX12_about_3 : decode cX12_about 3 = .ok (.tableswitch 122 13 16 #[29, 34, 63, 92], 29) := by decide +kernel
theorem dX12_about_32 : decode cX12_about 32 = .ok (.aload_n 0, 1) := by decide +kernel
theorem dX12_about_33 : decode cX12_about 33 = .ok (.getfield 127, 3) := by decide +kernel
theorem dX12_about_36 : decode cX12_about 36 = .ok (.ireturn, 1) := by decide +kernel
theorem dX12_about_37 : decode cX12_about 37 = .ok (.iconst 0, 1) := by decide +kernel
theorem dX12_about_38 : decode cX12_about 38 = .ok (.istore_n 3, 1) := by decide +kernel
theorem dX12_about_39 : decode cX12_about 39 = .ok (.iload_n 3, 1) := by decide +kernel
theorem dX12_about_40 : decode cX12_about 40 = .ok (.aload_n 0, 1) := by decide +kernel
theorem dX12_about_41 : decode cX12_about 41 = .ok (.getfield 7, 3) := by decide +kernel
theorem dX12_about_44 : decode cX12_about 44 = .ok (.iconst 2, 1) := by decide +kernel
theorem dX12_about_45 : decode cX12_about 45 = .ok (.iaload, 1) := by decide +kernel
theorem dX12_about_46 : decode cX12_about 46 = .ok (.if_icmp .ge 18, 3) := by decide +kernel
theorem dX12_about_64 : decode cX12_about 64 = .ok (.iload_n 2, 1) := by decide +kernel
theorem dX12_about_65 : decode cX12_about 65 = .ok (.ireturn, 1) := by decide +kernel
theorem dX12_about_49 : decode cX12_about 49 = .ok (.iload_n 2, 1) := by decide +kernel
theorem dX12_about_50 : decode cX12_about 50 = .ok (.aload_n 0, 1) := by decide +kernel
theorem dX12_about_51 : decode cX12_about 51 = .ok (.iload_n 3, 1) := by decide +kernel
theorem dX12_about_52 : decode cX12_about 52 = .ok (.iconst 4, 1) := by decide +kernel
theorem dX12_about_53 : decode cX12_about 53 = .ok (.invokevirtual 91, 3) := by decide +kernel
theorem dX12_about_56 : decode cX12_about 56 = .ok (.iadd, 1) := by decide +kernel
theorem dX12_about_57 : decode cX12_about 57 = .ok (.istore_n 2, 1) := by decide +kernel
theorem dX12_about_58 : decode cX12_about 58 = .ok (.iinc 3 1, 3) := by decide +kernel
theorem dX12_about_61 : decode cX12_about 61 = .ok (.goto (-22), 3) := by decide +kernel
theorem dX12_about_66 : decode cX12_about 66 = .ok (.iconst 0, 1) := by decide +kernel
theorem dX12_about_67 : decode cX12_about 67 = .ok (.istore_n 3, 1) := by decide +kernel
theorem dX12_about_68 : decode cX12_about 68 = .ok (.iload_n 3, 1) := by decide +kernel
theorem dX12_about_69 : decode cX12_about 69 = .ok (.aload_n 0, 1) := by decide +kernel
theorem dX12_about_70 : decode cX12_about 70 = .ok (.getfield 7, 3) := by decide +kernel
theorem dX12_about_73 : decode cX12_about 73 = .ok (.iconst 5, 1) := by decide +kernel
theorem dX12_about_74 : decode cX12_about 74 = .ok (.iaload, 1) := by decide +kernel
theorem dX12_about_75 : decode cX12_about 75 = .ok (.if_icmp .ge 18, 3) := by decide +kernel
theorem dX12_about_93 : decode cX12_about 93 = .ok (.iload_n 2, 1) := by decide +kernel
theorem dX12_about_94 : decode cX12_about 94 = .ok (.ireturn, 1) := by decide +kernel
theorem dX12_about_78 : decode cX12_about 78 = .ok (.iload_n 2, 1) := by decide +kernel
theorem dX12_about_79 : decode cX12_about 79 = .ok (.aload_n 0, 1) := by decide +kernel
theorem dX12_about_80 : decode cX12_about 80 = .ok (.iload_n 3, 1) := by decide +kernel
theorem dX12_about_81 : decode cX12_about 81 = .ok (.iconst 5, 1) := by decide +kernel
theorem dX12_about_82 : decode cX12_about 82 = .ok (.invokevirtual 94, 3) := by decide +kernel
theorem dX12_about_85 : decode cX12_about 85 = .ok (.iadd, 1) := by decide +kernel
theorem dX12_about_86 : decode cX12_about 86 = .ok (.istore_n 2, 1) := by decide +kernel
theorem dX12_about_87 : decode cX12_about 87 = .ok (.iinc 3 1, 3) := by decide +kernel
theorem dX12_about_90 : decode cX12_about 90 = .ok (.goto (-22), 3) := by decide +kernel
theorem dX12_about_95 : decode cX12_about 95 = .ok (.iconst 0, 1) := by decide +kernel
theorem dX12_about_96 : decode cX12_about 96 = .ok (.istore_n 3, 1) := by decide +kernel
theorem dX12_about_97 : decode cX12_about 97 = .ok (.iload_n 3, 1) := by decide +kernel
theorem dX12_about_98 : decode cX12_about 98 = .ok (.aload_n 0, 1) := by decide +kernel
theorem dX12_about_99 : decode cX12_about 99 = .ok (.getfield 7, 3) := by decide +kernel
theorem dX12_about_102 : decode cX12_about 102 = .ok (.iconst 5, 1) := by decide +kernel
theorem dX12_about_103 : decode cX12_about 103 = .ok (.iaload, 1) := by decide +kernel
theorem dX12_about_104 : decode cX12_about 104 = .ok (.if_icmp .ge 19, 3) := by decide +kernel
theorem dX12_about_123 : decode cX12_about 123 = .ok (.iload_n 2, 1) := by decide +kernel
theorem dX12_about_124 : decode cX12_about 124 = .ok (.ireturn, 1) := by decide +kernel
theorem dX12_about_107 : decode cX12_about 107 = .ok (.iload_n 2, 1) := by decide +kernel
theorem dX12_about_108 : decode cX12_about 108 = .ok (.aload_n 0, 1) := by decide +kernel
theorem dX12_about_109 : decode cX12_about 109 = .ok (.iload_n 3, 1) := by decide +kernel
theorem dX12_about_110 : decode cX12_about 110 = .ok (.bipush 6, 2) := by decide +kernel
theorem dX12_about_112 : decode cX12_about 112 = .ok (.invokevirtual 94, 3) := by decide +kernel
theorem dX12_about_115 : decode cX12_about 115 = .ok (.iadd, 1) := by decide +kernel
theorem dX12_about_116 : decode cX12_about 116 = .ok (.istore_n 2, 1) := by decide +kernel
theorem dX12_about_117 : decode cX12_about 117 = .ok (.iinc 3 1, 3) := by decide +kernel
theorem dX12_about_120 : decode cX12_about 120 = .ok (.goto (-23), 3) := by decide +kernel
theorem dX12_about_125 : decode cX12_about 125 = .ok (.iload_n 1, 1) := by decide +kernel
theorem dX12_about_126 : decode cX12_about 126 = .ok (.iconst 0, 1) := by decide +kernel
theorem dX12_about_127 : decode cX12_about 127 = .ok (.bipush 12, 2) := by decide +kernel
theorem dX12_about_129 : decode cX12_about 129 = .ok (.invokestatic 62, 3) := by decide +kernel
theorem dX12_about_132 : decode cX12_about 132 = .ok (.ifCond .eq 12, 3) := by decide +kernel
theorem tw_1566 : Cond.constant RX12 387 (-1000000000) ∈ wsL_law := List.mem_of_getElem? (i := 1566) (by decide +kernel)
theorem dX12_about_144 : decode cX12_about 144 = .ok (.ldc_w 387, 3) := by decide +kernel
theorem dX12_about_147 : decode cX12_about 147 = .ok (.ireturn, 1) := by decide +kernel
theorem dX12_about_135 : decode cX12_about 135 = .ok (.aload_n 0, 1) := by decide +kernel
theorem dX12_about_136 : decode cX12_about 136 = .ok (.getfield 7, 3) := by decide +kernel
theorem dX12_about_139 : decode cX12_about 139 = .ok (.iload_n 1, 1) := by decide +kernel
theorem dX12_about_140 : decode cX12_about 140 = .ok (.iaload, 1) := by decide +kernel
theorem dX12_about_141 : decode cX12_about 141 = .ok (.goto 6, 3) := by decide +kernel
set_option maxHeartbeats 4000000 in
set_option maxRecDepth 100000 in
theorem s_X12_order (l : Launch) (D : va_G) (t : pq_T) (σ : pq_S) (I : Nat → Nat → Int32) (J : Nat → Nat → Int64) (ri : Nat → Nat → Int32) (rj : Nat → Nat → Int64) (rq : Nat → Nat → Option Nat) (sz : Nat) (tg : Nat → Nat) (hSH : SH σ tg) (hG0 : GT tg I ri) (this : Nat) (a0 : Int32) (a1 : Int32) (a2 : Int32) (hL_this : this ∈ σ.1) (hK_this : σ.2.1 this = 12) (this_a : Nat) (hR_this_a : σ.2.2.1 384 this = some this_a) (hL_this_a : this_a ∈ σ.1) (hK_this_a : σ.2.1 this_a = 13) (hN_this_a : σ.2.2.2 this_a = 12720) (hT_this_a : tg this_a = 384) (this_kept : Nat) (hR_this_kept : σ.2.2.1 386 this = some this_kept) (hL_this_kept : this_kept ∈ σ.1) (hK_this_kept : σ.2.1 this_kept = 13) (hN_this_kept : σ.2.2.2 this_kept = 12720) (hT_this_kept : tg this_kept = 386) (this_rings : Nat) (hR_this_rings : σ.2.2.1 414 this = some this_rings) (hL_this_rings : this_rings ∈ σ.1) (hK_this_rings : σ.2.1 this_rings = 13) (hN_this_rings : σ.2.2.2 this_rings = 5) (hT_this_rings : tg this_rings = 414) : MetI l yX12_order (wa yX12_order cX12_order 10 (some .int)) ({ frames := 7, cells := 0, slots := 0, locals := 172 }) [.ref this, .int a0, .int a1, .int a2] D t σ (I, J, ri, rj, rq) sz 0 0 (fun (r : Int32) (u : pq_S × pq_M) => ∃ I' : Nat → Nat → Int32, ∃ ri' : Nat → Nat → Int32, ∃ rj' : Nat → Nat → Int64, u = (σ, I', J, ri', rj', rq) ∧ GM [2001, 2002, 1305, 1304, 1403, 1000, 1001, 1002, 1003, 1004, 1005, 1006, 1007, 1010, 1013, 1014, 1015, 1500, 1501, 1502, 1503, 1504, 1100, 1101, 1102, 1103, 1104, 1300, 1301, 1306, 1308, 1700, 1701, 1702] tg σ I ri I' ri' rq) := by
  refine Met.ofW (cc := cX12_order) (maxL := 10) (ret := (some .int)) (by decide) rfl ?_
  intro p e s m args below meth c s₁ B hml hv
  obtain ⟨rfl, hsz, hP, hK, hD0, hN⟩ := hv
  have hx := B.exec
  have hb := B.bytes
  have hr := B.returns
  have hts := atoms_spec (ws := (wa yX12_order cX12_order 10 (some .int))) B.pre
  have hown : s.vm.findClass RX12 = some m.cls := findClass_of_methodNamed B.named
  have hlocks := B.notSynchronized
  subst hsz
  have hD : va_D (pq_B t σ (I, J, ri, rj, rq) s.heap.size) (pq_P t σ (I, J, ri, rj, rq)) := hD0.self
  generalize hAe : pq_B t σ (I, J, ri, rj, rq) s.heap.size = A at hD ⊢
  have hA : ∀ q : Nat, s.heap.size ≤ q → A q := fun q h => by rw [← hAe]; exact Or.inr h
  have hS : va_S A s.heap s.heap [] := va_S.rf
  have hG : GM [2001, 2002, 1305, 1304, 1403, 1000, 1001, 1002, 1003, 1004, 1005, 1006, 1007, 1010, 1013, 1014, 1015, 1500, 1501, 1502, 1503, 1504, 1100, 1101, 1102, 1103, 1104, 1300, 1301, 1306, 1308, 1700, 1701, 1702] tg σ I ri I ri rq := ⟨hG0, fun _ _ _ => rfl, fun _ _ _ _ _ => rfl, fun _ _ _ _ _ _ => rfl⟩
  have hl := lv_entry ([.ref this, .int a0, .int a1, .int a2]) (n := 10) (Nat.le_of_ble_eq_true rfl)
  rw [lg_entry_eq]
  generalize (lg_sl ([.ref this, .int a0, .int a1, .int a2]) ++ List.replicate (10 - (lg_sl ([.ref this, .int a0, .int a1, .int a2])).length) Slot.unset).toArray = ls at hl ⊢
  have hl : lv_has ls 10 [(0, .ref this), (1, .int a0), (2, .int a1), (3, .int a2)] := hl
  refine q_gen (fun Q hQ => ?_)
  have go : ∀ (H : Heap) (locs : List Loc) (ls : Array Slot), va_P D vwCl (pq_P t σ (I, J, ri, rj, rq)) H → va_D A (pq_P t σ (I, J, ri, rj, rq)) → va_S A s.heap H locs → lv_has ls 10 [(0, .ref this), (1, .int a0), (2, .int a1), (3, .int a2)] → W p l e ({ frames := 7, cells := 0, slots := 0, locals := 172 } : Room) s m (List.toArray ([.ref this, .int a0, .int a1, .int a2] : List Value)) below meth c H locs 0 0 Q (F0 m 0 ls []) := by
    intro H locs ls hP hD hS hl
    refine lv_aload_n hx hb dX12_order_0 rfl (lv_at hl 0 rfl) ?_
    refine lv_iload_n hx hb dX12_order_1 rfl (lv_at hl 2 rfl) ?_
    refine lv_bipush (v := 12) hx hb dX12_order_2 (by decide) ?_
    refine lv_iload_n hx hb dX12_order_4 rfl (lv_at hl 1 rfl) ?_
    refine pk_i (va_runV (As := [.int a1, .int 12, .int a0]) (rest := []) ⟨hx, hb, hml, hown, hts⟩ (s_X12_isTime l D t σ I J ri rj rq H.size tg hSH hG.1 this a1 (12 : Int32) a0 hL_this hK_this (rg_w (rg_k (12 : Int32) 12 rfl) (by decide)) this_a hR_this_a hL_this_a hK_this_a hN_this_a hT_this_a) (cwV 3 hts (tw_V tw_1189 tw_1190 tw_1191 tw_5 tw_1192) rfl rfl rfl (by decide +kernel) ⟨Nat.le_of_ble_eq_true rfl, Nat.le_of_ble_eq_true rfl⟩) ⟨pq_blind, pq_recv hK hP hL_this hK_this (by decide) rfl, pq_pre hK hN hP hD⟩ rfl rfl hl.1 rfl (lv_room (Nat.le_of_ble_eq_true rfl)) dX12_order_5 ⟨Nat.le_of_ble_eq_true rfl, Nat.le_of_ble_eq_true rfl⟩) hD hS hA (fun x_1 σ1 μ1 H locs hw_2 hP hD hS => ?_)
    obtain ⟨hu_3, hr_5⟩ := hw_2
    obtain ⟨hu_3a, hu_3b⟩ := Prod.mk.inj hu_3
    rw [hu_3a, hu_3b] at hP hD
    have h_6 : rg x_1 0 1 := by rcases hr_5 with ⟨q, -⟩ | ⟨q, -⟩ <;> rw [q] <;> exact ⟨by decide, by decide⟩
    have uh_6 := h_6.1
    have vh_6 := h_6.2
    have K_431828 : ∀  (H : Heap) (locs : List Loc) (ls : Array Slot), GM [2001, 2002, 1305, 1304, 1403, 1000, 1001, 1002, 1003, 1004, 1005, 1006, 1007, 1010, 1013, 1014, 1015, 1500, 1501, 1502, 1503, 1504, 1100, 1101, 1102, 1103, 1104, 1300, 1301, 1306, 1308, 1700, 1701, 1702] tg σ I ri I ri rq → va_P D vwCl (pq_P t σ (I, J, ri, rj, rq)) H → va_D A (pq_P t σ (I, J, ri, rj, rq)) → va_S A s.heap H locs → lv_has ls 10 [] → W p l e ({ frames := 7, cells := 0, slots := 0, locals := 172 } : Room) s m (List.toArray ([.ref this, .int a0, .int a1, .int a2] : List Value)) below meth c H locs 0 0 Q (F0 m 24 ls []) := by
      intro H locs ls hG hP hD hS hl
      refine lv_iconst (v := (-1)) hx hb dX12_order_24 (by decide) ?_
      subst hQ
      exact W.iret (v := (-1)) hx hb hr (fun t1 ht hW => ⟨⟨(-1), (σ, I, J, ri, rj, rq), rfl, ⟨I, ri, rj, rfl, hG⟩, by rw [ht]; exact hP, va_K.moved hW.alike hK, hD⟩, hS.F ht⟩) hS.2.2 dX12_order_25
    refine lv_if_eq (tgt := 24) hx hb dX12_order_8 (by decide) (fun c_431829 => ?_) (fun c_431829 => ?_)
    · have f_431830 := (hr_5.resolve_left (fun q => absurd (q.1.symm.trans c_431829) (by decide))).2
      have tc_431831 : (x_1).toInt = 0 := congrArg Int32.toInt c_431829
      have h_431832 : rg x_1 0 0 := rg_and h_6 (rg_of_eq c_431829 (rg_k (0 : Int32) 0 rfl)) (by decide)
      have uh_431832 := h_431832.1
      have vh_431832 := h_431832.2
      exact K_431828 _ _ _ hG hP hD hS (lv_sub hl [] rfl)
    · obtain ⟨f_431833, f_431834, f_431835, f_431836⟩ := (hr_5.resolve_right (fun q => c_431829 q.1)).2
      have uf_431833 := f_431833.1
      have vf_431833 := f_431833.2
      have uf_431834 := f_431834.1
      have vf_431834 := f_431834.2
      have tc_431837 : (a1).toInt ≤ 12 := Int32.le_iff_toInt_le.mp f_431835
      have h_431838 : rg a1 1 12 := rg_le1 f_431835 f_431833 (rg_k (12 : Int32) 12 rfl) (by decide)
      have uh_431838 := h_431838.1
      have vh_431838 := h_431838.2
      have tc_431839 : (x_1).toInt ≠ 0 := fun q => c_431829 (Int32.toInt_inj.mp q)
      have h_431840 : rg x_1 1 1 := rg_ne c_431829 h_6 0 rfl (by decide)
      have uh_431840 := h_431840.1
      have vh_431840 := h_431840.2
      refine lv_iload_n hx hb dX12_order_11 rfl (lv_at hl 3 rfl) ?_
      refine lv_iconst (v := (-1)) hx hb dX12_order_12 (by decide) ?_
      have K_863650 : ∀  (H : Heap) (locs : List Loc) (ls : Array Slot), rg (a2) (-1) 4 → GM [2001, 2002, 1305, 1304, 1403, 1000, 1001, 1002, 1003, 1004, 1005, 1006, 1007, 1010, 1013, 1014, 1015, 1500, 1501, 1502, 1503, 1504, 1100, 1101, 1102, 1103, 1104, 1300, 1301, 1306, 1308, 1700, 1701, 1702] tg σ I ri I ri rq → va_P D vwCl (pq_P t σ (I, J, ri, rj, rq)) H → va_D A (pq_P t σ (I, J, ri, rj, rq)) → va_S A s.heap H locs → lv_has ls 10 [(0, .ref this), (1, .int a0), (2, .int a1), (3, .int a2)] → W p l e ({ frames := 7, cells := 0, slots := 0, locals := 172 } : Room) s m (List.toArray ([.ref this, .int a0, .int a1, .int a2] : List Value)) below meth c H locs 0 0 Q (F0 m 26 ls []) := by
        intro H locs ls h_863652 hG hP hD hS hl
        have uh_863652 := h_863652.1
        have vh_863652 := h_863652.2
        refine lv_aload_n hx hb dX12_order_26 rfl (lv_at hl 0 rfl) ?_
        refine pg_f (v := .ref this_a) (C := RX12) (T := TX12) (N := 31) hx hb hts (tw_i inlX12) hown hK hP hL_this hK_this (by decide) rfl 0 (by decide) (hts _ (tw_c tw_176)) (pq_hv rfl hR_this_a) dX12_order_27 ?_
        refine lv_aload_n hx hb dX12_order_30 rfl (lv_at hl 0 rfl) ?_
        refine pg_f (v := .ref this_kept) (C := RX12) (T := TX12) (N := 31) hx hb hts (tw_i inlX12) hown hK hP hL_this hK_this (by decide) rfl 2 (by decide) (hts _ (tw_c tw_178)) (pq_hv rfl hR_this_kept) dX12_order_31 ?_
        refine pk_v (va_runS (As := [.ref this_a, .ref this_kept]) (rest := []) ⟨hx, hb, hml, hown, hts⟩ (c_X12_copy l D t σ I J ri rj rq H.size this_a this_kept 12720 hL_this_a hK_this_a hN_this_a hL_this_kept hK_this_kept hN_this_kept rfl (tg_ne hT_this_a hT_this_kept (by decide))) (va_cwS 2 hts (tw_S tw_192 tw_193 tw_5 tw_194) rfl rfl rfl (by decide +kernel) ⟨Nat.le_of_ble_eq_true rfl, Nat.le_of_ble_eq_true rfl⟩) ⟨pq_blind, pq_pre hK hN hP hD⟩ rfl rfl hl.1 rfl (lv_room (Nat.le_of_ble_eq_true rfl)) dX12_order_34 ⟨Nat.le_of_ble_eq_true rfl, Nat.le_of_ble_eq_true rfl⟩) hD hS hA (fun σ1 μ1 H locs hw_863654 hP hD hS => ?_)
        obtain ⟨ri_863655, hu_863656, hp_863659, hp_863660⟩ := hw_863654
        obtain ⟨hu_863656a, hu_863656b⟩ := Prod.mk.inj hu_863656
        rw [hu_863656a, hu_863656b] at hP hD
        have tt_863661 : (ri_863655 this_kept 0).toInt = (ri this_a 0).toInt := congrArg Int32.toInt (hp_863659 0 (by decide))
        have tt_863662 : (ri_863655 this_a 0).toInt = (ri this_a 0).toInt := congrArg Int32.toInt (congrFun (hp_863660 this_a (tg_ne hT_this_a hT_this_kept (by decide))) 0)
        have hG := GM.cp hG hT_this_a hT_this_kept (by decide) hp_863659 hp_863660 (by decide)
        refine lv_aload_n hx hb dX12_order_37 rfl (lv_at hl 0 rfl) ?_
        refine pg_f (v := .ref this_a) (C := RX12) (T := TX12) (N := 31) hx hb hts (tw_i inlX12) hown hK hP hL_this hK_this (by decide) rfl 0 (by decide) (hts _ (tw_c tw_176)) (pq_hv rfl hR_this_a) dX12_order_38 ?_
        refine lv_iconst (v := 1) hx hb dX12_order_41 (by decide) ?_
        refine pl_i hx hb hK hP hL_this_a hK_this_a hN_this_a (vp_in_iff.mpr (by decide)) dX12_order_42 ?_
        refine lv_topi (fun x_863663 ex_863663 => ?_)
        have h_863664 : rg x_863663 0 5 := rg_of_eq ex_863663 (GM.z hG (by rw [hT_this_a]; decide) (show zn ((1 : Int32)).toNatClampNeg = 1 from by decide) rfl)
        have uh_863664 := h_863664.1
        have vh_863664 := h_863664.2
        refine lv_istore (lv' := [(4, .int x_863663), (0, .ref this), (1, .int a0), (2, .int a1), (3, .int a2)]) hx hb dX12_order_43 hl (by decide) rfl (fun ls hl => ?_)
        refine lv_iconst (v := 0) hx hb dX12_order_45 (by decide) ?_
        refine lv_istore (lv' := [(5, .int 0), (4, .int x_863663), (0, .ref this), (1, .int a0), (2, .int a1), (3, .int a2)]) hx hb dX12_order_46 hl (by decide) rfl (fun ls hl => ?_)
        have L_1187516 : ∀ (n_1187515 : Nat) (x_1079584 : Int32) (ri_1079585 : Nat → Nat → Int32) (H : Heap) (locs : List Loc) (ls : Array Slot), rg x_1079584 0 5 → ((ri_1079585 this_a 0).toInt = (ri this_a 0).toInt ∧ (ri_1079585 this_kept 0).toInt = (ri this_a 0).toInt) → (∀ j : Nat, (j : Int) < (x_1079584).toInt → (ri_1079585 this_rings j).toInt = j) → (5 - (x_1079584).toInt).toNat < n_1187515 → GM [2001, 2002, 1305, 1304, 1403, 1000, 1001, 1002, 1003, 1004, 1005, 1006, 1007, 1010, 1013, 1014, 1015, 1500, 1501, 1502, 1503, 1504, 1100, 1101, 1102, 1103, 1104, 1300, 1301, 1306, 1308, 1700, 1701, 1702] tg σ I ri I ri_1079585 rq → va_P D vwCl (pq_P t σ (I, J, ri_1079585, rj, rq)) H → va_D A (pq_P t σ (I, J, ri_1079585, rj, rq)) → va_S A s.heap H locs → lv_has ls 10 [(0, .ref this), (1, .int a0), (2, .int a1), (3, .int a2), (4, .int x_863663), (5, .int x_1079584)] → W p l e ({ frames := 7, cells := 0, slots := 0, locals := 172 } : Room) s m (List.toArray ([.ref this, .int a0, .int a1, .int a2] : List Value)) below meth c H locs 0 0 Q (F0 m 48 ls []) := by
          intro n_1187515
          induction n_1187515 with
          | zero => intro x_1079584 ri_1079585 H locs ls h_1187521 hrel_1187522 hrel_1187523 hm_1187514 hG hP hD hS hl; exact absurd hm_1187514 (Nat.not_lt_zero _)
          | succ n_1187515 ih_1187517 =>
            intro x_1079584 ri_1079585 H locs ls h_1187521 hrel_1187522 hrel_1187523 hm_1187514 hG hP hD hS hl
            have uh_1187521 := h_1187521.1
            have vh_1187521 := h_1187521.2
            refine lv_iload hx hb dX12_order_48 (lv_at hl 5 rfl) ?_
            refine lv_iconst (v := 5) hx hb dX12_order_50 (by decide) ?_
            refine lv_icmp_ge (tgt := 69) hx hb dX12_order_51 (by decide) (fun c_1187524 => ?_) (fun c_1187524 => ?_)
            · have tc_1187525 : 5 ≤ (x_1079584).toInt := Int32.le_iff_toInt_le.mp c_1187524
              have h_1187526 : rg x_1079584 5 5 := rg_le2 c_1187524 (rg_k (5 : Int32) 5 rfl) h_1187521 (by decide)
              have uh_1187526 := h_1187526.1
              have vh_1187526 := h_1187526.2
              refine lv_iconst (v := (-1)) hx hb dX12_order_69 (by decide) ?_
              refine lv_istore (lv' := [(5, .int (-1)), (0, .ref this), (1, .int a0), (2, .int a1), (3, .int a2), (4, .int x_863663)]) hx hb dX12_order_70 hl (by decide) rfl (fun ls hl => ?_)
              refine lv_aload_n hx hb dX12_order_72 rfl (lv_at hl 1 rfl) ?_
              refine lv_iconst (v := 1) hx hb dX12_order_73 (by decide) ?_
              refine pp_i (v := 1) (ty := .int) (C := RX12) (T := TX12) (N := 31) hx hb hts (tw_i inlX12) tyX12 tyX12_ok nmX12 hown hK hP hD hS hL_this hK_this (by decide) rfl 23 407 (by decide) (hts _ (tw_c tw_1238)) rfl (by decide +kernel) rfl rfl (Nat.le_of_ble_eq_true rfl) (ps_407 _ _ _ _ _) dX12_order_74 (fun I_1187527 H locs eI_1187527 hP hD hS => ?_)
              have hG := GM.wI hG 407 rfl eI_1187527 (rg_w (rg_k (1 : Int32) 1 rfl) (by decide)) (by decide)
              refine lv_iconst (v := 1) hx hb dX12_order_77 (by decide) ?_
              refine lv_istore (lv' := [(6, .int 1), (5, .int (-1)), (0, .ref this), (1, .int a0), (2, .int a1), (3, .int a2), (4, .int x_863663)]) hx hb dX12_order_78 hl (by decide) rfl (fun ls hl => ?_)
              have L_1277003 : ∀ (n_1277002 : Nat) (x_1258557 : Int32) (x_1258558 : Int32) (I_1258559 : Nat → Nat → Int32) (ri_1258560 : Nat → Nat → Int32) (rj_1258561 : Nat → Nat → Int64) (H : Heap) (locs : List Loc) (ls : Array Slot), rg x_1258558 0 1 → ((ri_1258560 this_a 0).toInt = (ri this_a 0).toInt ∧ (ri_1258560 this_kept 0).toInt = (ri this_a 0).toInt) → (InjI (x_863663).toInt (ri_1258560 this_rings)) → (2 * (3125 - lexM (ri_1258560 this_rings)) + (x_1258558).toInt).toNat < n_1277002 → GM [2001, 2002, 1305, 1304, 1403, 1000, 1001, 1002, 1003, 1004, 1005, 1006, 1007, 1010, 1013, 1014, 1015, 1500, 1501, 1502, 1503, 1504, 1100, 1101, 1102, 1103, 1104, 1300, 1301, 1306, 1308, 1700, 1701, 1702] tg σ I ri I_1258559 ri_1258560 rq → va_P D vwCl (pq_P t σ (I_1258559, J, ri_1258560, rj_1258561, rq)) H → va_D A (pq_P t σ (I_1258559, J, ri_1258560, rj_1258561, rq)) → va_S A s.heap H locs → lv_has ls 10 [(0, .ref this), (1, .int a0), (2, .int a1), (3, .int a2), (4, .int x_863663), (5, .int x_1258557), (6, .int x_1258558)] → W p l e ({ frames := 7, cells := 0, slots := 0, locals := 172 } : Room) s m (List.toArray ([.ref this, .int a0, .int a1, .int a2] : List Value)) below meth c H locs 0 0 Q (F0 m 80 ls []) := by
                intro n_1277002
                induction n_1277002 with
                | zero => intro x_1258557 x_1258558 I_1258559 ri_1258560 rj_1258561 H locs ls h_1277008 hrel_1277009 hrel_1277010 hm_1277001 hG hP hD hS hl; exact absurd hm_1277001 (Nat.not_lt_zero _)
                | succ n_1277002 ih_1277004 =>
                  intro x_1258557 x_1258558 I_1258559 ri_1258560 rj_1258561 H locs ls h_1277008 hrel_1277009 hrel_1277010 hm_1277001 hG hP hD hS hl
                  have uh_1277008 := h_1277008.1
                  have vh_1277008 := h_1277008.2
                  refine lv_iload hx hb dX12_order_80 (lv_at hl 6 rfl) ?_
                  refine lv_if_eq (tgt := 218) hx hb dX12_order_82 (by decide) (fun c_1277011 => ?_) (fun c_1277011 => ?_)
                  · have tc_1277012 : (x_1258558).toInt = 0 := congrArg Int32.toInt c_1277011
                    have h_1277013 : rg x_1258558 0 0 := rg_and h_1277008 (rg_of_eq c_1277011 (rg_k (0 : Int32) 0 rfl)) (by decide)
                    have uh_1277013 := h_1277013.1
                    have vh_1277013 := h_1277013.2
                    refine lv_aload_n hx hb dX12_order_218 rfl (lv_at hl 0 rfl) ?_
                    refine lv_iconst (v := 0) hx hb dX12_order_219 (by decide) ?_
                    refine pp_i (v := 0) (ty := .int) (C := RX12) (T := TX12) (N := 31) hx hb hts (tw_i inlX12) tyX12 tyX12_ok nmX12 hown hK hP hD hS hL_this hK_this (by decide) rfl 23 407 (by decide) (hts _ (tw_c tw_1238)) rfl (by decide +kernel) rfl rfl (Nat.le_of_ble_eq_true rfl) (ps_407 _ _ _ _ _) dX12_order_220 (fun I_1277014 H locs eI_1277014 hP hD hS => ?_)
                    have hG := GM.wI hG 407 rfl eI_1277014 (rg_w (rg_k (0 : Int32) 0 rfl) (by decide)) (by decide)
                    refine lv_iload_n hx hb dX12_order_223 rfl (lv_at hl 3 rfl) ?_
                    refine lv_iconst (v := (-1)) hx hb dX12_order_224 (by decide) ?_
                    refine lv_icmp_ne (tgt := 233) hx hb dX12_order_225 (by decide) (fun c_1277015 => ?_) (fun c_1277015 => ?_)
                    · have tc_1277016 : (a2).toInt ≠ (-1) := fun q => c_1277015 (Int32.toInt_inj.mp q)
                      have h_1277017 : rg a2 0 4 := rg_ne c_1277015 h_863652 (-1) rfl (by decide)
                      have uh_1277017 := h_1277017.1
                      have vh_1277017 := h_1277017.2
                      refine lv_aload_n hx hb dX12_order_233 rfl (lv_at hl 0 rfl) ?_
                      obtain ⟨w_1277018, hR_w_1277018, hL_w_1277018, hK_w_1277018, hN_w_1277018, hT_w_1277018⟩ := sh_a hSH 413 (ci := 12) (kd := 13) (len := 5) rfl (by decide) hL_this hK_this
                      refine pg_f (v := .ref w_1277018) (C := RX12) (T := TX12) (N := 31) hx hb hts (tw_i inlX12) hown hK hP hL_this hK_this (by decide) rfl 29 (by decide) (hts _ (tw_c tw_190)) (pq_hv rfl hR_w_1277018) dX12_order_234 ?_
                      refine lv_iload_n hx hb dX12_order_237 rfl (lv_at hl 3 rfl) ?_
                      refine pl_i hx hb hK hP hL_w_1277018 hK_w_1277018 hN_w_1277018 (rg_in h_1277017 (by decide)) dX12_order_238 ?_
                      refine lv_topi (fun x_1277019 ex_1277019 => ?_)
                      subst hQ
                      exact W.iret (v := x_1277019) hx hb hr (fun t1 ht hW => ⟨⟨x_1277019, (σ, I_1277014, J, ri_1258560, rj_1258561, rq), rfl, ⟨I_1277014, ri_1258560, rj_1258561, rfl, hG⟩, by rw [ht]; exact hP, va_K.moved hW.alike hK, hD⟩, hS.F ht⟩) hS.2.2 dX12_order_239
                    · have tc_1277020 : (a2).toInt = (-1) := congrArg Int32.toInt c_1277015
                      have h_1277021 : rg a2 (-1) (-1) := rg_and h_863652 (rg_of_eq c_1277015 (rg_k (-1 : Int32) (-1) rfl)) (by decide)
                      have uh_1277021 := h_1277021.1
                      have vh_1277021 := h_1277021.2
                      refine lv_iload hx hb dX12_order_228 (lv_at hl 5 rfl) ?_
                      refine lv_goto (tgt := 239) hx hb dX12_order_230 (by decide) ?_
                      subst hQ
                      exact W.iret (v := x_1258557) hx hb hr (fun t1 ht hW => ⟨⟨x_1258557, (σ, I_1277014, J, ri_1258560, rj_1258561, rq), rfl, ⟨I_1277014, ri_1258560, rj_1258561, rfl, hG⟩, by rw [ht]; exact hP, va_K.moved hW.alike hK, hD⟩, hS.F ht⟩) hS.2.2 dX12_order_239
                  · have tc_1277022 : (x_1258558).toInt ≠ 0 := fun q => c_1277011 (Int32.toInt_inj.mp q)
                    have h_1277023 : rg x_1258558 1 1 := rg_ne c_1277011 h_1277008 0 rfl (by decide)
                    have uh_1277023 := h_1277023.1
                    have vh_1277023 := h_1277023.2
                    refine lv_iconst (v := 0) hx hb dX12_order_85 (by decide) ?_
                    refine lv_istore (lv' := [(7, .int 0), (0, .ref this), (1, .int a0), (2, .int a1), (3, .int a2), (4, .int x_863663), (5, .int x_1258557), (6, .int x_1258558)]) hx hb dX12_order_86 hl (by decide) rfl (fun ls hl => ?_)
                    have L_1292657 : ∀ (n_1292656 : Nat) (x_1289863 : Int32) (ri_1289864 : Nat → Nat → Int32) (H : Heap) (locs : List Loc) (ls : Array Slot), rg x_1289863 0 5 → ((ri_1289864 this_a 0).toInt = (ri this_a 0).toInt ∧ (ri_1289864 this_kept 0).toInt = (ri this_a 0).toInt) → (ri_1289864 this_rings = ri_1258560 this_rings) → (5 - (x_1289863).toInt).toNat < n_1292656 → GM [2001, 2002, 1305, 1304, 1403, 1000, 1001, 1002, 1003, 1004, 1005, 1006, 1007, 1010, 1013, 1014, 1015, 1500, 1501, 1502, 1503, 1504, 1100, 1101, 1102, 1103, 1104, 1300, 1301, 1306, 1308, 1700, 1701, 1702] tg σ I ri I_1258559 ri_1289864 rq → va_P D vwCl (pq_P t σ (I_1258559, J, ri_1289864, rj_1258561, rq)) H → va_D A (pq_P t σ (I_1258559, J, ri_1289864, rj_1258561, rq)) → va_S A s.heap H locs → lv_has ls 10 [(0, .ref this), (1, .int a0), (2, .int a1), (3, .int a2), (4, .int x_863663), (5, .int x_1258557), (7, .int x_1289863)] → W p l e ({ frames := 7, cells := 0, slots := 0, locals := 172 } : Room) s m (List.toArray ([.ref this, .int a0, .int a1, .int a2] : List Value)) below meth c H locs 0 0 Q (F0 m 88 ls []) := by
                      intro n_1292656
                      induction n_1292656 with
                      | zero => intro x_1289863 ri_1289864 H locs ls h_1292662 hrel_1292663 hrel_1292664 hm_1292655 hG hP hD hS hl; exact absurd hm_1292655 (Nat.not_lt_zero _)
                      | succ n_1292656 ih_1292658 =>
                        intro x_1289863 ri_1289864 H locs ls h_1292662 hrel_1292663 hrel_1292664 hm_1292655 hG hP hD hS hl
                        have uh_1292662 := h_1292662.1
                        have vh_1292662 := h_1292662.2
                        refine lv_iload hx hb dX12_order_88 (lv_at hl 6 rfl) ?_
                        refine lv_iload hx hb dX12_order_90 (lv_at hl 4 rfl) ?_
                        refine lv_icmp_ge (tgt := 115) hx hb dX12_order_92 (by decide) (fun c_1292665 => ?_) (fun c_1292665 => ?_)
                        · have tc_1292666 : (x_863663).toInt ≤ (x_1289863).toInt := Int32.le_iff_toInt_le.mp c_1292665
                          refine lv_aload_n hx hb dX12_order_115 rfl (lv_at hl 0 rfl) ?_
                          refine pk_i (va_runV (As := []) (rest := []) ⟨hx, hb, hml, hown, hts⟩ (s_X12_wants l D t σ I_1258559 J ri_1289864 rj_1258561 rq H.size tg hSH hG.1 this hL_this hK_this) (cwV 0 hts (tw_V tw_1487 tw_1488 tw_1489 tw_5 tw_1490) rfl rfl rfl (by decide +kernel) ⟨Nat.le_of_ble_eq_true rfl, Nat.le_of_ble_eq_true rfl⟩) ⟨pq_blind, pq_recv hK hP hL_this hK_this (by decide) rfl, pq_pre hK hN hP hD⟩ rfl rfl hl.1 rfl (lv_room (Nat.le_of_ble_eq_true rfl)) dX12_order_116 ⟨Nat.le_of_ble_eq_true rfl, Nat.le_of_ble_eq_true rfl⟩) hD hS hA (fun x_1292667 σ1 μ1 H locs hw_1292668 hP hD hS => ?_)
                          have hu_1292669 := hw_1292668
                          obtain ⟨hu_1292669a, hu_1292669b⟩ := Prod.mk.inj hu_1292669
                          rw [hu_1292669a, hu_1292669b] at hP hD
                          refine lv_istore (lv' := [(7, .int x_1292667), (0, .ref this), (1, .int a0), (2, .int a1), (3, .int a2), (4, .int x_863663), (5, .int x_1258557)]) hx hb dX12_order_119 hl (by decide) rfl (fun ls hl => ?_)
                          refine lv_iconst (v := 0) hx hb dX12_order_121 (by decide) ?_
                          refine lv_istore (lv' := [(8, .int 0), (7, .int x_1292667), (0, .ref this), (1, .int a0), (2, .int a1), (3, .int a2), (4, .int x_863663), (5, .int x_1258557)]) hx hb dX12_order_122 hl (by decide) rfl (fun ls hl => ?_)
                          have L_1295172 : ∀ (n_1295171 : Nat) (x_1294897 : Int32) (I_1294898 : Nat → Nat → Int32) (ri_1294899 : Nat → Nat → Int32) (rj_1294900 : Nat → Nat → Int64) (H : Heap) (locs : List Loc) (ls : Array Slot), rg x_1294897 0 12 → ((ri_1294899 this_a 0).toInt = (ri this_a 0).toInt + (x_1294897).toInt ∧ (ri_1294899 this_kept 0).toInt = (ri this_a 0).toInt) → (ri_1294899 this_rings = ri_1258560 this_rings) → (12 - (x_1294897).toInt).toNat < n_1295171 → GM [2001, 2002, 1305, 1304, 1403, 1000, 1001, 1002, 1003, 1004, 1005, 1006, 1007, 1010, 1013, 1014, 1015, 1500, 1501, 1502, 1503, 1504, 1100, 1101, 1102, 1103, 1104, 1300, 1301, 1306, 1308, 1700, 1701, 1702] tg σ I ri I_1294898 ri_1294899 rq → va_P D vwCl (pq_P t σ (I_1294898, J, ri_1294899, rj_1294900, rq)) H → va_D A (pq_P t σ (I_1294898, J, ri_1294899, rj_1294900, rq)) → va_S A s.heap H locs → lv_has ls 10 [(0, .ref this), (1, .int a0), (2, .int a1), (3, .int a2), (4, .int x_863663), (5, .int x_1258557), (7, .int x_1292667), (8, .int x_1294897)] → W p l e ({ frames := 7, cells := 0, slots := 0, locals := 172 } : Room) s m (List.toArray ([.ref this, .int a0, .int a1, .int a2] : List Value)) below meth c H locs 0 0 Q (F0 m 124 ls []) := by
                            intro n_1295171
                            induction n_1295171 with
                            | zero => intro x_1294897 I_1294898 ri_1294899 rj_1294900 H locs ls h_1295177 hrel_1295178 hrel_1295179 hm_1295170 hG hP hD hS hl; exact absurd hm_1295170 (Nat.not_lt_zero _)
                            | succ n_1295171 ih_1295173 =>
                              intro x_1294897 I_1294898 ri_1294899 rj_1294900 H locs ls h_1295177 hrel_1295178 hrel_1295179 hm_1295170 hG hP hD hS hl
                              have uh_1295177 := h_1295177.1
                              have vh_1295177 := h_1295177.2
                              refine lv_iload hx hb dX12_order_124 (lv_at hl 7 rfl) ?_
                              refine lv_iload_n hx hb dX12_order_126 rfl (lv_at hl 2 rfl) ?_
                              refine lv_icmp_ge (tgt := 141) hx hb dX12_order_127 (by decide) (fun c_1295180 => ?_) (fun c_1295180 => ?_)
                              · have tc_1295181 : (a1).toInt ≤ (x_1294897).toInt := Int32.le_iff_toInt_le.mp c_1295180
                                have h_1295182 : rg x_1294897 1 12 := rg_le2 c_1295180 h_431838 h_1295177 (by decide)
                                have uh_1295182 := h_1295182.1
                                have vh_1295182 := h_1295182.2
                                refine lv_aload_n hx hb dX12_order_141 rfl (lv_at hl 0 rfl) ?_
                                refine pk_i (va_runV (As := []) (rest := []) ⟨hx, hb, hml, hown, hts⟩ (s_X12_wants l D t σ I_1294898 J ri_1294899 rj_1294900 rq H.size tg hSH hG.1 this hL_this hK_this) (cwV 0 hts (tw_V tw_1487 tw_1488 tw_1489 tw_5 tw_1490) rfl rfl rfl (by decide +kernel) ⟨Nat.le_of_ble_eq_true rfl, Nat.le_of_ble_eq_true rfl⟩) ⟨pq_blind, pq_recv hK hP hL_this hK_this (by decide) rfl, pq_pre hK hN hP hD⟩ rfl rfl hl.1 rfl (lv_room (Nat.le_of_ble_eq_true rfl)) dX12_order_142 ⟨Nat.le_of_ble_eq_true rfl, Nat.le_of_ble_eq_true rfl⟩) hD hS hA (fun x_1295183 σ1 μ1 H locs hw_1295184 hP hD hS => ?_)
                                have hu_1295185 := hw_1295184
                                obtain ⟨hu_1295185a, hu_1295185b⟩ := Prod.mk.inj hu_1295185
                                rw [hu_1295185a, hu_1295185b] at hP hD
                                refine lv_iload hx hb dX12_order_145 (lv_at hl 6 rfl) ?_
                                refine lv_isub hx hb dX12_order_147 ?_
                                refine lv_topi (fun x_1295188 ex_1295188 => ?_)
                                refine lv_istore (lv' := [(8, .int x_1295188), (0, .ref this), (1, .int a0), (2, .int a1), (3, .int a2), (4, .int x_863663), (5, .int x_1258557), (7, .int x_1292667)]) hx hb dX12_order_148 hl (by decide) rfl (fun ls hl => ?_)
                                refine lv_aload_n hx hb dX12_order_150 rfl (lv_at hl 1 rfl) ?_
                                refine pg_f (v := .ref this_kept) (C := RX12) (T := TX12) (N := 31) hx hb hts (tw_i inlX12) hown hK hP hL_this hK_this (by decide) rfl 2 (by decide) (hts _ (tw_c tw_178)) (pq_hv rfl hR_this_kept) dX12_order_151 ?_
                                refine lv_aload_n hx hb dX12_order_154 rfl (lv_at hl 1 rfl) ?_
                                refine pg_f (v := .ref this_a) (C := RX12) (T := TX12) (N := 31) hx hb hts (tw_i inlX12) hown hK hP hL_this hK_this (by decide) rfl 0 (by decide) (hts _ (tw_c tw_176)) (pq_hv rfl hR_this_a) dX12_order_155 ?_
                                refine pk_v (va_runS (As := [.ref this_kept, .ref this_a]) (rest := []) ⟨hx, hb, hml, hown, hts⟩ (c_X12_copy l D t σ I_1294898 J ri_1294899 rj_1294900 rq H.size this_kept this_a 12720 hL_this_kept hK_this_kept hN_this_kept hL_this_a hK_this_a hN_this_a rfl (tg_ne hT_this_kept hT_this_a (by decide))) (va_cwS 2 hts (tw_S tw_192 tw_193 tw_5 tw_194) rfl rfl rfl (by decide +kernel) ⟨Nat.le_of_ble_eq_true rfl, Nat.le_of_ble_eq_true rfl⟩) ⟨pq_blind, pq_pre hK hN hP hD⟩ rfl rfl hl.1 rfl (lv_room (Nat.le_of_ble_eq_true rfl)) dX12_order_158 ⟨Nat.le_of_ble_eq_true rfl, Nat.le_of_ble_eq_true rfl⟩) hD hS hA (fun σ1 μ1 H locs hw_1295190 hP hD hS => ?_)
                                obtain ⟨ri_1295191, hu_1295192, hp_1295195, hp_1295196⟩ := hw_1295190
                                obtain ⟨hu_1295192a, hu_1295192b⟩ := Prod.mk.inj hu_1295192
                                rw [hu_1295192a, hu_1295192b] at hP hD
                                have tt_1295197 : (ri_1295191 this_a 0).toInt = (ri_1294899 this_kept 0).toInt := congrArg Int32.toInt (hp_1295195 0 (by decide))
                                have tt_1295198 : (ri_1295191 this_kept 0).toInt = (ri_1294899 this_kept 0).toInt := congrArg Int32.toInt (congrFun (hp_1295196 this_kept (tg_ne hT_this_kept hT_this_a (by decide))) 0)
                                have hG := GM.cp hG hT_this_kept hT_this_a (by decide) hp_1295195 hp_1295196 (by decide)
                                refine lv_iload hx hb dX12_order_161 (lv_at hl 6 rfl) ?_
                                have K_1295431 : ∀  (H : Heap) (locs : List Loc) (ls : Array Slot), GM [2001, 2002, 1305, 1304, 1403, 1000, 1001, 1002, 1003, 1004, 1005, 1006, 1007, 1010, 1013, 1014, 1015, 1500, 1501, 1502, 1503, 1504, 1100, 1101, 1102, 1103, 1104, 1300, 1301, 1306, 1308, 1700, 1701, 1702] tg σ I ri I_1294898 ri_1295191 rq → va_P D vwCl (pq_P t σ (I_1294898, J, ri_1295191, rj_1294900, rq)) H → va_D A (pq_P t σ (I_1294898, J, ri_1295191, rj_1294900, rq)) → va_S A s.heap H locs → lv_has ls 10 [(0, .ref this), (1, .int a0), (2, .int a1), (3, .int a2), (4, .int x_863663), (8, .int x_1295188)] → W p l e ({ frames := 7, cells := 0, slots := 0, locals := 172 } : Room) s m (List.toArray ([.ref this, .int a0, .int a1, .int a2] : List Value)) below meth c H locs 0 0 Q (F0 m 173 ls []) := by
                                  intro H locs ls hG hP hD hS hl
                                  refine lv_iload hx hb dX12_order_173 (lv_at hl 5 rfl) ?_
                                  refine lv_istore (lv' := [(5, .int x_1295188), (0, .ref this), (1, .int a0), (2, .int a1), (3, .int a2), (4, .int x_863663), (8, .int x_1295188)]) hx hb dX12_order_175 hl (by decide) rfl (fun ls hl => ?_)
                                  refine lv_iconst (v := 0) hx hb dX12_order_177 (by decide) ?_
                                  refine lv_istore (lv' := [(9, .int 0), (5, .int x_1295188), (0, .ref this), (1, .int a0), (2, .int a1), (3, .int a2), (4, .int x_863663), (8, .int x_1295188)]) hx hb dX12_order_178 hl (by decide) rfl (fun ls hl => ?_)
                                  have L_1295620 : ∀ (n_1295619 : Nat) (x_1295591 : Int32) (ri_1295592 : Nat → Nat → Int32) (H : Heap) (locs : List Loc) (ls : Array Slot), rg x_1295591 0 5 → ((ri_1295592 this_a 0).toInt = (ri this_a 0).toInt ∧ (ri_1295592 this_kept 0).toInt = (ri this_a 0).toInt) → (ri_1295592 this_rings = ri_1258560 this_rings) → (5 - (x_1295591).toInt).toNat < n_1295619 → GM [2001, 2002, 1305, 1304, 1403, 1000, 1001, 1002, 1003, 1004, 1005, 1006, 1007, 1010, 1013, 1014, 1015, 1500, 1501, 1502, 1503, 1504, 1100, 1101, 1102, 1103, 1104, 1300, 1301, 1306, 1308, 1700, 1701, 1702] tg σ I ri I_1294898 ri_1295592 rq → va_P D vwCl (pq_P t σ (I_1294898, J, ri_1295592, rj_1294900, rq)) H → va_D A (pq_P t σ (I_1294898, J, ri_1295592, rj_1294900, rq)) → va_S A s.heap H locs → lv_has ls 10 [(0, .ref this), (1, .int a0), (2, .int a1), (3, .int a2), (4, .int x_863663), (5, .int x_1295188), (9, .int x_1295591)] → W p l e ({ frames := 7, cells := 0, slots := 0, locals := 172 } : Room) s m (List.toArray ([.ref this, .int a0, .int a1, .int a2] : List Value)) below meth c H locs 0 0 Q (F0 m 180 ls []) := by
                                    intro n_1295619
                                    induction n_1295619 with
                                    | zero => intro x_1295591 ri_1295592 H locs ls h_1295625 hrel_1295626 hrel_1295627 hm_1295618 hG hP hD hS hl; exact absurd hm_1295618 (Nat.not_lt_zero _)
                                    | succ n_1295619 ih_1295621 =>
                                      intro x_1295591 ri_1295592 H locs ls h_1295625 hrel_1295626 hrel_1295627 hm_1295618 hG hP hD hS hl
                                      have uh_1295625 := h_1295625.1
                                      have vh_1295625 := h_1295625.2
                                      refine lv_iload hx hb dX12_order_180 (lv_at hl 6 rfl) ?_
                                      refine lv_iload hx hb dX12_order_182 (lv_at hl 4 rfl) ?_
                                      refine lv_icmp_ge (tgt := 207) hx hb dX12_order_184 (by decide) (fun c_1295628 => ?_) (fun c_1295628 => ?_)
                                      · have tc_1295629 : (x_863663).toInt ≤ (x_1295591).toInt := Int32.le_iff_toInt_le.mp c_1295628
                                        refine lv_aload_n hx hb dX12_order_207 rfl (lv_at hl 0 rfl) ?_
                                        refine lv_iload hx hb dX12_order_208 (lv_at hl 4 rfl) ?_
                                        have hjn : InjI ((x_863663).toInt) (ri_1295592 this_rings) := by rw [hrel_1295627]; exact hrel_1277010
                                        have srgs : ∀ i, rg (ri_1295592 this_rings i) 0 4 := fun i => GM.rR hG hT_this_rings rfl
                                        refine pk_i (va_runV (As := [.int x_863663]) (rest := []) ⟨hx, hb, hml, hown, hts⟩ (s_X12_nextOrder l D t σ I_1294898 J ri_1295592 rj_1294900 rq H.size tg hSH hG.1 this x_863663 hL_this hK_this (rg_w h_863664 (by decide)) this_rings hR_this_rings hL_this_rings hK_this_rings hN_this_rings hT_this_rings (by assumption)) (cwV 1 hts (tw_V tw_1491 tw_1492 tw_1493 tw_5 tw_1494) rfl rfl rfl (by decide +kernel) ⟨Nat.le_of_ble_eq_true rfl, Nat.le_of_ble_eq_true rfl⟩) ⟨pq_blind, pq_recv hK hP hL_this hK_this (by decide) rfl, pq_pre hK hN hP hD⟩ rfl rfl hl.1 rfl (lv_room (Nat.le_of_ble_eq_true rfl)) dX12_order_210 ⟨Nat.le_of_ble_eq_true rfl, Nat.le_of_ble_eq_true rfl⟩) hD hS hA (fun x_1295630 σ1 μ1 H locs hw_1295631 hP hD hS => ?_)
                                        obtain ⟨ri_1295632, hu_1295633, hg_1295634, hr_1295635⟩ := hw_1295631
                                        obtain ⟨hu_1295633a, hu_1295633b⟩ := Prod.mk.inj hu_1295633
                                        rw [hu_1295633a, hu_1295633b] at hP hD
                                        have tt_1295636 : (ri_1295632 this_a 0).toInt = (ri_1295592 this_a 0).toInt := congrArg Int32.toInt (hg_1295634.2.2.1 this_a hT_this_a 0 (by decide) (by decide))
                                        have tt_1295637 : (ri_1295632 this_kept 0).toInt = (ri_1295592 this_kept 0).toInt := congrArg Int32.toInt (congrFun (hg_1295634.2.2.2 386 2001 (by decide) (by decide) this_kept hT_this_kept) 0)
                                        have hG := GM.tr hG hg_1295634 (by decide)
                                        have h_1295638 : rg x_1295630 0 1 := by rcases hr_1295635 with ⟨q, -⟩ | ⟨q, -⟩ <;> rw [q] <;> exact ⟨by decide, by decide⟩
                                        have uh_1295638 := h_1295638.1
                                        have vh_1295638 := h_1295638.2
                                        refine lv_istore (lv' := [(6, .int x_1295630), (0, .ref this), (1, .int a0), (2, .int a1), (3, .int a2), (4, .int x_863663), (5, .int x_1295188), (9, .int x_1295591)]) hx hb dX12_order_213 hl (by decide) rfl (fun ls hl => ?_)
                                        refine lv_goto (tgt := 80) hx hb dX12_order_215 (by decide) ?_
                                        exact ih_1277004 x_1295188 x_1295630 I_1294898 ri_1295632 rj_1294900 _ _ _ (rg_w h_1295638 (by decide)) (by omega) (by rcases hr_1295635 with ⟨q, f1, -⟩ | ⟨q, f0⟩; exact f1; rw [f0, hrel_1295627]; exact hrel_1277010) (by have eL : lexM (ri_1295592 this_rings) = lexM (ri_1258560 this_rings) := congrArg lexM hrel_1295627; have b1 := lex_b (f := ri_1258560 this_rings) (fun i => by rw [← hrel_1295627]; exact srgs i); have b2 := lex_b (f := ri_1295632 this_rings) (fun i => GM.rR hG hT_this_rings rfl); rcases hr_1295635 with ⟨q, f1, f2⟩ | ⟨q, f0⟩; have l1 := lex_up (f := ri_1295592 this_rings) (g := ri_1295632 this_rings) srgs (fun i => GM.rR hG hT_this_rings rfl) f2; have q2 := congrArg Int32.toInt q; have q3 : (1 : Int32).toInt = 1 := rfl; omega; have q2 := congrArg Int32.toInt q; have q3 : (0 : Int32).toInt = 0 := rfl; have e0 : lexM (ri_1295632 this_rings) = lexM (ri_1295592 this_rings) := (by rw [f0]); omega) hG hP hD hS (lv_sub hl [1, 2, 3, 4, 5, 6, 0] rfl)
                                      · have tc_1295639 : (x_1295591).toInt < (x_863663).toInt := Int32.lt_iff_toInt_lt.mp (nle c_1295628)
                                        have h_1295640 : rg x_1295591 0 4 := rg_lt1 (nle c_1295628) h_1295625 h_863664 (by decide)
                                        have uh_1295640 := h_1295640.1
                                        have vh_1295640 := h_1295640.2
                                        have h_1295641 : rg x_863663 1 5 := rg_lt2 (nle c_1295628) h_1295625 h_863664 (by decide)
                                        have uh_1295641 := h_1295641.1
                                        have vh_1295641 := h_1295641.2
                                        refine lv_aload_n hx hb dX12_order_187 rfl (lv_at hl 0 rfl) ?_
                                        obtain ⟨w_1295642, hR_w_1295642, hL_w_1295642, hK_w_1295642, hN_w_1295642, hT_w_1295642⟩ := sh_a hSH 413 (ci := 12) (kd := 13) (len := 5) rfl (by decide) hL_this hK_this
                                        refine pg_f (v := .ref w_1295642) (C := RX12) (T := TX12) (N := 31) hx hb hts (tw_i inlX12) hown hK hP hL_this hK_this (by decide) rfl 29 (by decide) (hts _ (tw_c tw_190)) (pq_hv rfl hR_w_1295642) dX12_order_188 ?_
                                        refine lv_iload hx hb dX12_order_191 (lv_at hl 6 rfl) ?_
                                        refine lv_aload_n hx hb dX12_order_193 rfl (lv_at hl 0 rfl) ?_
                                        refine pg_f (v := .ref this_rings) (C := RX12) (T := TX12) (N := 31) hx hb hts (tw_i inlX12) hown hK hP hL_this hK_this (by decide) rfl 30 (by decide) (hts _ (tw_c tw_191)) (pq_hv rfl hR_this_rings) dX12_order_194 ?_
                                        refine lv_iload hx hb dX12_order_197 (lv_at hl 6 rfl) ?_
                                        refine pl_i hx hb hK hP hL_this_rings hK_this_rings hN_this_rings (rg_in h_1295640 (by decide)) dX12_order_199 ?_
                                        refine lv_topi (fun x_1295643 ex_1295643 => ?_)
                                        have h_1295644 : rg x_1295643 0 4 := rg_of_eq ex_1295643 (GM.rR hG hT_this_rings rfl)
                                        have uh_1295644 := h_1295644.1
                                        have vh_1295644 := h_1295644.2
                                        refine pt_i hx hb hK hP hD hS hL_w_1295642 hK_w_1295642 hN_w_1295642 (rg_in h_1295640 (by decide)) dX12_order_200 (fun r_1295645 H locs er_1295645 hP hD hS => ?_)
                                        have hG := GM.wR hG hSH hT_w_1295642 rfl er_1295645 (rg_w h_1295644 (by decide)) (by decide)
                                        have tt_1295646 : (r_1295645 this_a 0).toInt = (ri_1295592 this_a 0).toInt := congrArg Int32.toInt (congrFun (ro_ne er_1295645 (tg_ne hT_this_a hT_w_1295642 (by decide))) 0)
                                        have tt_1295647 : (r_1295645 this_kept 0).toInt = (ri_1295592 this_kept 0).toInt := congrArg Int32.toInt (congrFun (ro_ne er_1295645 (tg_ne hT_this_kept hT_w_1295642 (by decide))) 0)
                                        obtain ⟨x_1295648, ex_1295648⟩ : ∃ y : Int32, y = x_1295591 + Int32.ofInt 1 := ⟨_, rfl⟩
                                        have h_1295649 : rg x_1295648 1 5 := rg_of_eq ex_1295648 (rg_add h_1295640 (rg_k (Int32.ofInt 1) 1 rfl) (by decide))
                                        have uh_1295649 := h_1295649.1
                                        have vh_1295649 := h_1295649.2
                                        have tx_1295648 : (x_1295648).toInt = (x_1295591).toInt + 1 := by rw [ex_1295648]; exact i_add_rg (a2 := (x_1295591).toInt) (b2 := 1) rfl rfl h_1295640 (rg_k (Int32.ofInt 1) 1 rfl) (by decide)
                                        refine lv_iinc (v := x_1295648) (lv' := [(9, .int x_1295648), (0, .ref this), (1, .int a0), (2, .int a1), (3, .int a2), (4, .int x_863663), (5, .int x_1295188)]) hx hb dX12_order_201 hl (k := 6) rfl ex_1295648.symm (by decide) rfl (fun ls hl => ?_)
                                        refine lv_goto (tgt := 180) hx hb dX12_order_204 (by decide) ?_
                                        exact ih_1295621 x_1295648 r_1295645 _ _ _ (rg_w h_1295649 (by decide)) (by omega) ((ro_ne er_1295645 (tg_ne hT_this_rings hT_w_1295642 (by decide))).trans hrel_1295627) (ms_up 1 hm_1295618 ex_1295648 rfl (by decide) h_1295640 (by decide) (by decide)) hG hP hD hS (lv_sub hl [1, 2, 3, 4, 5, 6, 0] rfl)
                                  exact L_1295620 _ (0 : Int32) ri_1295191 _ _ _ (rg_w (rg_k (0 : Int32) 0 rfl) (by decide)) (by have k0 : (0 : Int32).toInt = 0 := rfl; omega) ((hp_1295196 this_rings (tg_ne hT_this_rings hT_this_a (by decide))).trans hrel_1295179) (Nat.lt_succ_self _) hG hP hD hS (lv_sub hl [2, 3, 4, 5, 6, 1, 0] rfl)
                                refine lv_if_lt (tgt := 173) hx hb dX12_order_163 (by decide) (fun c_1295650 => ?_) (fun c_1295650 => ?_)
                                · have tc_1295651 : (x_1258557).toInt < 0 := Int32.lt_iff_toInt_lt.mp c_1295650
                                  have h_1295652 : rg x_1258557 (-2147483648) (-1) := rg_lt1 c_1295650 (rg_full _) (rg_k (0 : Int32) 0 rfl) (by decide)
                                  have uh_1295652 := h_1295652.1
                                  have vh_1295652 := h_1295652.2
                                  exact K_1295431 _ _ _ hG hP hD hS (lv_sub hl [1, 2, 3, 4, 5, 0] rfl)
                                · have tc_1295653 : 0 ≤ (x_1258557).toInt := Int32.le_iff_toInt_le.mp (nlt c_1295650)
                                  have h_1295654 : rg x_1258557 0 2147483647 := rg_le2 (nlt c_1295650) (rg_k (0 : Int32) 0 rfl) (rg_full _) (by decide)
                                  have uh_1295654 := h_1295654.1
                                  have vh_1295654 := h_1295654.2
                                  refine lv_iload hx hb dX12_order_166 (lv_at hl 0 rfl) ?_
                                  refine lv_iload hx hb dX12_order_168 (lv_at hl 6 rfl) ?_
                                  refine lv_icmp_ge (tgt := 207) hx hb dX12_order_170 (by decide) (fun c_1295655 => ?_) (fun c_1295655 => ?_)
                                  · have tc_1295656 : (x_1258557).toInt ≤ (x_1295188).toInt := Int32.le_iff_toInt_le.mp c_1295655
                                    have h_1295657 : rg x_1295188 0 2147483647 := rg_le2 c_1295655 h_1295654 (rg_full _) (by decide)
                                    have uh_1295657 := h_1295657.1
                                    have vh_1295657 := h_1295657.2
                                    refine lv_aload_n hx hb dX12_order_207 rfl (lv_at hl 1 rfl) ?_
                                    refine lv_iload hx hb dX12_order_208 (lv_at hl 5 rfl) ?_
                                    have hjn : InjI ((x_863663).toInt) (ri_1295191 this_rings) := by rw [((hp_1295196 this_rings (tg_ne hT_this_rings hT_this_a (by decide))).trans hrel_1295179)]; exact hrel_1277010
                                    have srgs : ∀ i, rg (ri_1295191 this_rings i) 0 4 := fun i => GM.rR hG hT_this_rings rfl
                                    refine pk_i (va_runV (As := [.int x_863663]) (rest := []) ⟨hx, hb, hml, hown, hts⟩ (s_X12_nextOrder l D t σ I_1294898 J ri_1295191 rj_1294900 rq H.size tg hSH hG.1 this x_863663 hL_this hK_this (rg_w h_863664 (by decide)) this_rings hR_this_rings hL_this_rings hK_this_rings hN_this_rings hT_this_rings (by assumption)) (cwV 1 hts (tw_V tw_1491 tw_1492 tw_1493 tw_5 tw_1494) rfl rfl rfl (by decide +kernel) ⟨Nat.le_of_ble_eq_true rfl, Nat.le_of_ble_eq_true rfl⟩) ⟨pq_blind, pq_recv hK hP hL_this hK_this (by decide) rfl, pq_pre hK hN hP hD⟩ rfl rfl hl.1 rfl (lv_room (Nat.le_of_ble_eq_true rfl)) dX12_order_210 ⟨Nat.le_of_ble_eq_true rfl, Nat.le_of_ble_eq_true rfl⟩) hD hS hA (fun x_1295658 σ1 μ1 H locs hw_1295659 hP hD hS => ?_)
                                    obtain ⟨ri_1295660, hu_1295661, hg_1295662, hr_1295663⟩ := hw_1295659
                                    obtain ⟨hu_1295661a, hu_1295661b⟩ := Prod.mk.inj hu_1295661
                                    rw [hu_1295661a, hu_1295661b] at hP hD
                                    have tt_1295664 : (ri_1295660 this_a 0).toInt = (ri_1295191 this_a 0).toInt := congrArg Int32.toInt (hg_1295662.2.2.1 this_a hT_this_a 0 (by decide) (by decide))
                                    have tt_1295665 : (ri_1295660 this_kept 0).toInt = (ri_1295191 this_kept 0).toInt := congrArg Int32.toInt (congrFun (hg_1295662.2.2.2 386 2001 (by decide) (by decide) this_kept hT_this_kept) 0)
                                    have hG := GM.tr hG hg_1295662 (by decide)
                                    have h_1295666 : rg x_1295658 0 1 := by rcases hr_1295663 with ⟨q, -⟩ | ⟨q, -⟩ <;> rw [q] <;> exact ⟨by decide, by decide⟩
                                    have uh_1295666 := h_1295666.1
                                    have vh_1295666 := h_1295666.2
                                    refine lv_istore (lv' := [(6, .int x_1295658), (8, .int x_1295188), (0, .ref this), (1, .int a0), (2, .int a1), (3, .int a2), (4, .int x_863663), (5, .int x_1258557), (7, .int x_1292667)]) hx hb dX12_order_213 hl (by decide) rfl (fun ls hl => ?_)
                                    refine lv_goto (tgt := 80) hx hb dX12_order_215 (by decide) ?_
                                    exact ih_1277004 x_1258557 x_1295658 I_1294898 ri_1295660 rj_1294900 _ _ _ (rg_w h_1295666 (by decide)) (by omega) (by rcases hr_1295663 with ⟨q, f1, -⟩ | ⟨q, f0⟩; exact f1; rw [f0, ((hp_1295196 this_rings (tg_ne hT_this_rings hT_this_a (by decide))).trans hrel_1295179)]; exact hrel_1277010) (by have eL : lexM (ri_1295191 this_rings) = lexM (ri_1258560 this_rings) := congrArg lexM ((hp_1295196 this_rings (tg_ne hT_this_rings hT_this_a (by decide))).trans hrel_1295179); have b1 := lex_b (f := ri_1258560 this_rings) (fun i => by rw [← ((hp_1295196 this_rings (tg_ne hT_this_rings hT_this_a (by decide))).trans hrel_1295179)]; exact srgs i); have b2 := lex_b (f := ri_1295660 this_rings) (fun i => GM.rR hG hT_this_rings rfl); rcases hr_1295663 with ⟨q, f1, f2⟩ | ⟨q, f0⟩; have l1 := lex_up (f := ri_1295191 this_rings) (g := ri_1295660 this_rings) srgs (fun i => GM.rR hG hT_this_rings rfl) f2; have q2 := congrArg Int32.toInt q; have q3 : (1 : Int32).toInt = 1 := rfl; omega; have q2 := congrArg Int32.toInt q; have q3 : (0 : Int32).toInt = 0 := rfl; have e0 : lexM (ri_1295660 this_rings) = lexM (ri_1295191 this_rings) := (by rw [f0]); omega) hG hP hD hS (lv_sub hl [2, 3, 4, 5, 6, 7, 0] rfl)
                                  · have tc_1295667 : (x_1295188).toInt < (x_1258557).toInt := Int32.lt_iff_toInt_lt.mp (nle c_1295655)
                                    have h_1295668 : rg x_1295188 (-2147483648) 2147483646 := rg_lt1 (nle c_1295655) (rg_full _) h_1295654 (by decide)
                                    have uh_1295668 := h_1295668.1
                                    have vh_1295668 := h_1295668.2
                                    exact K_1295431 _ _ _ hG hP hD hS (lv_sub hl [1, 2, 3, 4, 5, 0] rfl)
                              · have tc_1295669 : (x_1294897).toInt < (a1).toInt := Int32.lt_iff_toInt_lt.mp (nle c_1295180)
                                have h_1295670 : rg x_1294897 0 11 := rg_lt1 (nle c_1295180) h_1295177 h_431838 (by decide)
                                have uh_1295670 := h_1295670.1
                                have vh_1295670 := h_1295670.2
                                refine lv_aload_n hx hb dX12_order_130 rfl (lv_at hl 0 rfl) ?_
                                refine lv_iload_n hx hb dX12_order_131 rfl (lv_at hl 1 rfl) ?_
                                refine pk_v (va_runV (As := [.int a0]) (rest := []) ⟨hx, hb, hml, hown, hts⟩ (s_X12_month l D t σ I_1294898 J ri_1294899 rj_1294900 rq H.size tg hSH hG.1 this a0 hL_this hK_this this_a hR_this_a hL_this_a hK_this_a hN_this_a hT_this_a (by omega)) (cwV 1 hts (tw_V tw_1193 tw_1194 tw_1195 tw_5 tw_1196) rfl rfl rfl (by decide +kernel) ⟨Nat.le_of_ble_eq_true rfl, Nat.le_of_ble_eq_true rfl⟩) ⟨pq_blind, pq_recv hK hP hL_this hK_this (by decide) rfl, pq_pre hK hN hP hD⟩ rfl rfl hl.1 rfl (lv_room (Nat.le_of_ble_eq_true rfl)) dX12_order_132 ⟨Nat.le_of_ble_eq_true rfl, Nat.le_of_ble_eq_true rfl⟩) hD hS hA (fun σ1 μ1 H locs hw_1295672 hP hD hS => ?_)
                                obtain ⟨I_1295673, ri_1295674, rj_1295675, hu_1295676, hg_1295677, hp_1295679⟩ := hw_1295672
                                obtain ⟨hu_1295676a, hu_1295676b⟩ := Prod.mk.inj hu_1295676
                                rw [hu_1295676a, hu_1295676b] at hP hD
                                have tt_1295680 := hp_1295679
                                have tt_1295681 : (ri_1295674 this_kept 0).toInt = (ri_1294899 this_kept 0).toInt := congrArg Int32.toInt (congrFun (hg_1295677.2.2.2 386 2001 (by decide) (by decide) this_kept hT_this_kept) 0)
                                have hG := GM.tr hG hg_1295677 (by decide)
                                obtain ⟨x_1295682, ex_1295682⟩ : ∃ y : Int32, y = x_1294897 + Int32.ofInt 1 := ⟨_, rfl⟩
                                have h_1295683 : rg x_1295682 1 12 := rg_of_eq ex_1295682 (rg_add h_1295670 (rg_k (Int32.ofInt 1) 1 rfl) (by decide))
                                have uh_1295683 := h_1295683.1
                                have vh_1295683 := h_1295683.2
                                have tx_1295682 : (x_1295682).toInt = (x_1294897).toInt + 1 := by rw [ex_1295682]; exact i_add_rg (a2 := (x_1294897).toInt) (b2 := 1) rfl rfl h_1295670 (rg_k (Int32.ofInt 1) 1 rfl) (by decide)
                                refine lv_iinc (v := x_1295682) (lv' := [(8, .int x_1295682), (0, .ref this), (1, .int a0), (2, .int a1), (3, .int a2), (4, .int x_863663), (5, .int x_1258557), (7, .int x_1292667)]) hx hb dX12_order_135 hl (k := 7) rfl ex_1295682.symm (by decide) rfl (fun ls hl => ?_)
                                refine lv_goto (tgt := 124) hx hb dX12_order_138 (by decide) ?_
                                exact ih_1295173 x_1295682 I_1295673 ri_1295674 rj_1295675 _ _ _ (rg_w h_1295683 (by decide)) (by omega) ((hg_1295677.2.2.2 414 2002 (by decide) (by decide) this_rings hT_this_rings).trans hrel_1295179) (ms_up 1 hm_1295170 ex_1295682 rfl (by decide) h_1295670 (by decide) (by decide)) hG hP hD hS (lv_sub hl [1, 2, 3, 4, 5, 6, 7, 0] rfl)
                          exact L_1295172 _ (0 : Int32) I_1258559 ri_1289864 rj_1258561 _ _ _ (rg_w (rg_k (0 : Int32) 0 rfl) (by decide)) (by have k0 : (0 : Int32).toInt = 0 := rfl; omega) hrel_1292664 (Nat.lt_succ_self _) hG hP hD hS (lv_sub hl [2, 3, 4, 5, 6, 7, 1, 0] rfl)
                        · have tc_1295684 : (x_1289863).toInt < (x_863663).toInt := Int32.lt_iff_toInt_lt.mp (nle c_1292665)
                          have h_1295685 : rg x_1289863 0 4 := rg_lt1 (nle c_1292665) h_1292662 h_863664 (by decide)
                          have uh_1295685 := h_1295685.1
                          have vh_1295685 := h_1295685.2
                          have h_1295686 : rg x_863663 1 5 := rg_lt2 (nle c_1292665) h_1292662 h_863664 (by decide)
                          have uh_1295686 := h_1295686.1
                          have vh_1295686 := h_1295686.2
                          refine lv_aload_n hx hb dX12_order_95 rfl (lv_at hl 0 rfl) ?_
                          obtain ⟨w_1295687, hR_w_1295687, hL_w_1295687, hK_w_1295687, hN_w_1295687, hT_w_1295687⟩ := sh_a hSH 408 (ci := 12) (kd := 13) (len := 5) rfl (by decide) hL_this hK_this
                          refine pg_f (v := .ref w_1295687) (C := RX12) (T := TX12) (N := 31) hx hb hts (tw_i inlX12) hown hK hP hL_this hK_this (by decide) rfl 24 (by decide) (hts _ (tw_c tw_186)) (pq_hv rfl hR_w_1295687) dX12_order_96 ?_
                          refine lv_aload_n hx hb dX12_order_99 rfl (lv_at hl 0 rfl) ?_
                          refine pg_f (v := .ref this_rings) (C := RX12) (T := TX12) (N := 31) hx hb hts (tw_i inlX12) hown hK hP hL_this hK_this (by decide) rfl 30 (by decide) (hts _ (tw_c tw_191)) (pq_hv rfl hR_this_rings) dX12_order_100 ?_
                          refine lv_iload hx hb dX12_order_103 (lv_at hl 6 rfl) ?_
                          refine pl_i hx hb hK hP hL_this_rings hK_this_rings hN_this_rings (rg_in h_1295685 (by decide)) dX12_order_105 ?_
                          refine lv_topi (fun x_1295688 ex_1295688 => ?_)
                          have h_1295689 : rg x_1295688 0 4 := rg_of_eq ex_1295688 (GM.rR hG hT_this_rings rfl)
                          have uh_1295689 := h_1295689.1
                          have vh_1295689 := h_1295689.2
                          refine lv_iload hx hb dX12_order_106 (lv_at hl 6 rfl) ?_
                          refine pt_i hx hb hK hP hD hS hL_w_1295687 hK_w_1295687 hN_w_1295687 (rg_in h_1295689 (by decide)) dX12_order_108 (fun r_1295690 H locs er_1295690 hP hD hS => ?_)
                          have hG := GM.wR hG hSH hT_w_1295687 rfl er_1295690 (rg_w h_1295685 (by decide)) (by decide)
                          have tt_1295691 : (r_1295690 this_a 0).toInt = (ri_1289864 this_a 0).toInt := congrArg Int32.toInt (congrFun (ro_ne er_1295690 (tg_ne hT_this_a hT_w_1295687 (by decide))) 0)
                          have tt_1295692 : (r_1295690 this_kept 0).toInt = (ri_1289864 this_kept 0).toInt := congrArg Int32.toInt (congrFun (ro_ne er_1295690 (tg_ne hT_this_kept hT_w_1295687 (by decide))) 0)
                          obtain ⟨x_1295693, ex_1295693⟩ : ∃ y : Int32, y = x_1289863 + Int32.ofInt 1 := ⟨_, rfl⟩
                          have h_1295694 : rg x_1295693 1 5 := rg_of_eq ex_1295693 (rg_add h_1295685 (rg_k (Int32.ofInt 1) 1 rfl) (by decide))
                          have uh_1295694 := h_1295694.1
                          have vh_1295694 := h_1295694.2
                          have tx_1295693 : (x_1295693).toInt = (x_1289863).toInt + 1 := by rw [ex_1295693]; exact i_add_rg (a2 := (x_1289863).toInt) (b2 := 1) rfl rfl h_1295685 (rg_k (Int32.ofInt 1) 1 rfl) (by decide)
                          refine lv_iinc (v := x_1295693) (lv' := [(7, .int x_1295693), (0, .ref this), (1, .int a0), (2, .int a1), (3, .int a2), (4, .int x_863663), (5, .int x_1258557)]) hx hb dX12_order_109 hl (k := 6) rfl ex_1295693.symm (by decide) rfl (fun ls hl => ?_)
                          refine lv_goto (tgt := 88) hx hb dX12_order_112 (by decide) ?_
                          exact ih_1292658 x_1295693 r_1295690 _ _ _ (rg_w h_1295694 (by decide)) (by omega) ((ro_ne er_1295690 (tg_ne hT_this_rings hT_w_1295687 (by decide))).trans hrel_1292664) (ms_up 1 hm_1292655 ex_1295693 rfl (by decide) h_1295685 (by decide) (by decide)) hG hP hD hS (lv_sub hl [1, 2, 3, 4, 5, 6, 0] rfl)
                    exact L_1292657 _ (0 : Int32) ri_1258560 _ _ _ (rg_w (rg_k (0 : Int32) 0 rfl) (by decide)) (by have k0 : (0 : Int32).toInt = 0 := rfl; omega) rfl (Nat.lt_succ_self _) hG hP hD hS (lv_sub hl [1, 2, 3, 4, 5, 6, 0] rfl)
              exact L_1277003 _ (-1 : Int32) (1 : Int32) I_1187527 ri_1079585 rj _ _ _ (rg_w (rg_k (1 : Int32) 1 rfl) (by decide)) (by have k0 : ((-1) : Int32).toInt = (-1) := rfl; have k1 : (1 : Int32).toInt = 1 := rfl; omega) (inj_id (fun j hj => hrel_1187523 j (by omega)) (by omega)) (Nat.lt_succ_self _) hG hP hD hS (lv_sub hl [2, 3, 4, 5, 6, 1, 0] rfl)
            · have tc_1295695 : (x_1079584).toInt < 5 := Int32.lt_iff_toInt_lt.mp (nle c_1187524)
              have h_1295696 : rg x_1079584 0 4 := rg_lt1 (nle c_1187524) h_1187521 (rg_k (5 : Int32) 5 rfl) (by decide)
              have uh_1295696 := h_1295696.1
              have vh_1295696 := h_1295696.2
              refine lv_aload_n hx hb dX12_order_54 rfl (lv_at hl 0 rfl) ?_
              refine pg_f (v := .ref this_rings) (C := RX12) (T := TX12) (N := 31) hx hb hts (tw_i inlX12) hown hK hP hL_this hK_this (by decide) rfl 30 (by decide) (hts _ (tw_c tw_191)) (pq_hv rfl hR_this_rings) dX12_order_55 ?_
              refine lv_iload hx hb dX12_order_58 (lv_at hl 5 rfl) ?_
              refine lv_iload hx hb dX12_order_60 (lv_at hl 5 rfl) ?_
              refine pt_i hx hb hK hP hD hS hL_this_rings hK_this_rings hN_this_rings (rg_in h_1295696 (by decide)) dX12_order_62 (fun r_1295697 H locs er_1295697 hP hD hS => ?_)
              have hG := GM.wR hG hSH hT_this_rings rfl er_1295697 (rg_w h_1295696 (by decide)) (by decide)
              have tt_1295698 : (r_1295697 this_a 0).toInt = (ri_1079585 this_a 0).toInt := congrArg Int32.toInt (congrFun (ro_ne er_1295697 (tg_ne hT_this_a hT_this_rings (by decide))) 0)
              have tt_1295699 : (r_1295697 this_kept 0).toInt = (ri_1079585 this_kept 0).toInt := congrArg Int32.toInt (congrFun (ro_ne er_1295697 (tg_ne hT_this_kept hT_this_rings (by decide))) 0)
              obtain ⟨x_1295700, ex_1295700⟩ : ∃ y : Int32, y = x_1079584 + Int32.ofInt 1 := ⟨_, rfl⟩
              have h_1295701 : rg x_1295700 1 5 := rg_of_eq ex_1295700 (rg_add h_1295696 (rg_k (Int32.ofInt 1) 1 rfl) (by decide))
              have uh_1295701 := h_1295701.1
              have vh_1295701 := h_1295701.2
              have tx_1295700 : (x_1295700).toInt = (x_1079584).toInt + 1 := by rw [ex_1295700]; exact i_add_rg (a2 := (x_1079584).toInt) (b2 := 1) rfl rfl h_1295696 (rg_k (Int32.ofInt 1) 1 rfl) (by decide)
              refine lv_iinc (v := x_1295700) (lv' := [(5, .int x_1295700), (0, .ref this), (1, .int a0), (2, .int a1), (3, .int a2), (4, .int x_863663)]) hx hb dX12_order_63 hl (k := 5) rfl ex_1295700.symm (by decide) rfl (fun ls hl => ?_)
              refine lv_goto (tgt := 48) hx hb dX12_order_66 (by decide) ?_
              exact ih_1187517 x_1295700 r_1295697 _ _ _ (rg_w h_1295701 (by decide)) (by omega) (id_w hrel_1187523 er_1295697 (by omega) (by omega)) (ms_up 1 hm_1187514 ex_1295700 rfl (by decide) h_1295696 (by decide) (by decide)) hG hP hD hS (lv_sub hl [1, 2, 3, 4, 5, 0] rfl)
        exact L_1187516 _ (0 : Int32) ri_863655 _ _ _ (rg_w (rg_k (0 : Int32) 0 rfl) (by decide)) (by have k0 : (0 : Int32).toInt = 0 := rfl; omega) (fun j hj => by have k0 : (0 : Int32).toInt = 0 := rfl; omega) (Nat.lt_succ_self _) hG hP hD hS (lv_sub hl [2, 3, 4, 5, 1, 0] rfl)
      refine lv_icmp_eq (tgt := 26) hx hb dX12_order_13 (by decide) (fun c_1295702 => ?_) (fun c_1295702 => ?_)
      · have tc_1295703 : (a2).toInt = (-1) := congrArg Int32.toInt c_1295702
        have h_1295704 : rg a2 (-1) (-1) := rg_and (rg_full _) (rg_of_eq c_1295702 (rg_k (-1 : Int32) (-1) rfl)) (by decide)
        have uh_1295704 := h_1295704.1
        have vh_1295704 := h_1295704.2
        exact K_863650 _ _ _ (rg_w h_1295704 (by decide)) hG hP hD hS (lv_sub hl [0, 1, 2, 3] rfl)
      · have tc_1295705 : (a2).toInt ≠ (-1) := fun q => c_1295702 (Int32.toInt_inj.mp q)
        refine lv_aload_n hx hb dX12_order_16 rfl (lv_at hl 0 rfl) ?_
        refine lv_iload_n hx hb dX12_order_17 rfl (lv_at hl 3 rfl) ?_
        refine pk_i (va_runV (As := [.int a2]) (rest := []) ⟨hx, hb, hml, hown, hts⟩ (s_X12_isRing l D t σ I J ri rj rq H.size tg hSH hG.1 this a2 hL_this hK_this) (cwV 1 hts (tw_V tw_231 tw_232 tw_233 tw_5 tw_234) rfl rfl rfl (by decide +kernel) ⟨Nat.le_of_ble_eq_true rfl, Nat.le_of_ble_eq_true rfl⟩) ⟨pq_blind, pq_recv hK hP hL_this hK_this (by decide) rfl, pq_pre hK hN hP hD⟩ rfl rfl hl.1 rfl (lv_room (Nat.le_of_ble_eq_true rfl)) dX12_order_18 ⟨Nat.le_of_ble_eq_true rfl, Nat.le_of_ble_eq_true rfl⟩) hD hS hA (fun x_1295706 σ1 μ1 H locs hw_1295707 hP hD hS => ?_)
        obtain ⟨hu_1295708, hr_1295710⟩ := hw_1295707
        obtain ⟨hu_1295708a, hu_1295708b⟩ := Prod.mk.inj hu_1295708
        rw [hu_1295708a, hu_1295708b] at hP hD
        have h_1295711 : rg x_1295706 0 1 := by rcases hr_1295710 with ⟨q, -⟩ | ⟨q, -⟩ <;> rw [q] <;> exact ⟨by decide, by decide⟩
        have uh_1295711 := h_1295711.1
        have vh_1295711 := h_1295711.2
        refine lv_if_ne (tgt := 26) hx hb dX12_order_21 (by decide) (fun c_1295712 => ?_) (fun c_1295712 => ?_)
        · have f_1295713 := (hr_1295710.resolve_right (fun q => c_1295712 q.1)).2
          have uf_1295713 := f_1295713.1
          have vf_1295713 := f_1295713.2
          have tc_1295714 : (x_1295706).toInt ≠ 0 := fun q => c_1295712 (Int32.toInt_inj.mp q)
          have h_1295715 : rg x_1295706 1 1 := rg_ne c_1295712 h_1295711 0 rfl (by decide)
          have uh_1295715 := h_1295715.1
          have vh_1295715 := h_1295715.2
          exact K_863650 _ _ _ (rg_w f_1295713 (by decide)) hG hP hD hS (lv_sub hl [0, 1, 2, 3] rfl)
        · have f_1295716 := (hr_1295710.resolve_left (fun q => absurd (q.1.symm.trans c_1295712) (by decide))).2
          have tc_1295717 : (x_1295706).toInt = 0 := congrArg Int32.toInt c_1295712
          have h_1295718 : rg x_1295706 0 0 := rg_and h_1295711 (rg_of_eq c_1295712 (rg_k (0 : Int32) 0 rfl)) (by decide)
          have uh_1295718 := h_1295718.1
          have vh_1295718 := h_1295718.2
          exact K_431828 _ _ _ hG hP hD hS (lv_sub hl [] rfl)
  exact go _ _ _ hP hD hS hl

set_option maxHeartbeats 4000000 in
set_option maxRecDepth 100000 in
theorem s_X12_lies (l : Launch) (D : va_G) (t : pq_T) (σ : pq_S) (I : Nat → Nat → Int32) (J : Nat → Nat → Int64) (ri : Nat → Nat → Int32) (rj : Nat → Nat → Int64) (rq : Nat → Nat → Option Nat) (sz : Nat) (tg : Nat → Nat) (hSH : SH σ tg) (hG0 : GT tg I ri) (this : Nat) (a0 : Int32) (a1 : Int32) (hL_this : this ∈ σ.1) (hK_this : σ.2.1 this = 12) (h_a0 : rg a0 0 29) (h_a1 : rg a1 0 39) : MetV l yX12_lies (wa yX12_lies cX12_lies 4 none) ({ frames := 0, cells := 0, slots := 0, locals := 0 }) [.ref this, .int a0, .int a1] D t σ (I, J, ri, rj, rq) sz 0 0 (fun (u : pq_S × pq_M) => ∃ ri' : Nat → Nat → Int32, u = (σ, I, J, ri', rj, rq) ∧ GM [1700, 1702, 1701] tg σ I ri I ri' rq) := by
  refine Met.ofW (cc := cX12_lies) (maxL := 4) (ret := none) (by decide) rfl ?_
  intro p e s m args below meth c s₁ B hml hv
  obtain ⟨rfl, hsz, hP, hK, hD0, hN⟩ := hv
  have hx := B.exec
  have hb := B.bytes
  have hr := B.returns
  have hts := atoms_spec (ws := (wa yX12_lies cX12_lies 4 none)) B.pre
  have hown : s.vm.findClass RX12 = some m.cls := findClass_of_methodNamed B.named
  have hlocks := B.notSynchronized
  subst hsz
  have hD : va_D (pq_B t σ (I, J, ri, rj, rq) s.heap.size) (pq_P t σ (I, J, ri, rj, rq)) := hD0.self
  generalize hAe : pq_B t σ (I, J, ri, rj, rq) s.heap.size = A at hD ⊢
  have hA : ∀ q : Nat, s.heap.size ≤ q → A q := fun q h => by rw [← hAe]; exact Or.inr h
  have hS : va_S A s.heap s.heap [] := va_S.rf
  have hG : GM [1700, 1702, 1701] tg σ I ri I ri rq := ⟨hG0, fun _ _ _ => rfl, fun _ _ _ _ _ => rfl, fun _ _ _ _ _ _ => rfl⟩
  have hl := lv_entry ([.ref this, .int a0, .int a1]) (n := 4) (Nat.le_of_ble_eq_true rfl)
  rw [lg_entry_eq]
  generalize (lg_sl ([.ref this, .int a0, .int a1]) ++ List.replicate (4 - (lg_sl ([.ref this, .int a0, .int a1])).length) Slot.unset).toArray = ls at hl ⊢
  have hl : lv_has ls 4 [(0, .ref this), (1, .int a0), (2, .int a1)] := hl
  refine q_gen (fun Q hQ => ?_)
  have go : ∀ (H : Heap) (locs : List Loc) (ls : Array Slot), va_P D vwCl (pq_P t σ (I, J, ri, rj, rq)) H → va_D A (pq_P t σ (I, J, ri, rj, rq)) → va_S A s.heap H locs → lv_has ls 4 [(0, .ref this), (1, .int a0), (2, .int a1)] → W p l e ({ frames := 0, cells := 0, slots := 0, locals := 0 } : Room) s m (List.toArray ([.ref this, .int a0, .int a1] : List Value)) below meth c H locs 0 0 Q (F0 m 0 ls []) := by
    intro H locs ls hP hD hS hl
    refine lv_sipush (v := 2400) hx hb dX12_lies_0 (by decide) ?_
    refine lv_iconst (v := 4) hx hb dX12_lies_3 (by decide) ?_
    refine lv_iload_n hx hb dX12_lies_4 rfl (lv_at hl 1 rfl) ?_
    refine lv_imul hx hb dX12_lies_5 ?_
    refine lv_topi (fun x_1 ex_1 => ?_)
    have h_2 : rg x_1 0 116 := rg_of_eq ex_1 (rg_mul (rg_k (4 : Int32) 4 rfl) h_a0 (by decide))
    have uh_2 := h_2.1
    have vh_2 := h_2.2
    have tx_1 : (x_1).toInt = 4 * (a0).toInt := by rw [ex_1]; exact i_mul_rg (a2 := 4) (b2 := (a0).toInt) rfl rfl (rg_k (4 : Int32) 4 rfl) h_a0 (by decide)
    refine lv_iadd hx hb dX12_lies_6 ?_
    refine lv_topi (fun x_3 ex_3 => ?_)
    have h_4 : rg x_3 2400 2516 := rg_of_eq ex_3 (rg_add (rg_k (2400 : Int32) 2400 rfl) h_2 (by decide))
    have uh_4 := h_4.1
    have vh_4 := h_4.2
    have tx_3 : (x_3).toInt = 2400 + (x_1).toInt := by rw [ex_3]; exact i_add_rg (a2 := 2400) (b2 := (x_1).toInt) rfl rfl (rg_k (2400 : Int32) 2400 rfl) h_2 (by decide)
    refine lv_istore_n (lv' := [(3, .int x_3), (0, .ref this), (1, .int a0), (2, .int a1)]) hx hb dX12_lies_7 rfl hl (by decide) rfl (fun ls hl => ?_)
    refine lv_aload_n hx hb dX12_lies_8 rfl (lv_at hl 1 rfl) ?_
    obtain ⟨w_5, hR_w_5, hL_w_5, hK_w_5, hN_w_5, hT_w_5⟩ := sh_a hSH 384 (ci := 12) (kd := 13) (len := 12720) rfl (by decide) hL_this hK_this
    refine pg_f (v := .ref w_5) (C := RX12) (T := TX12) (N := 31) hx hb hts (tw_i inlX12) hown hK hP hL_this hK_this (by decide) rfl 0 (by decide) (hts _ (tw_c tw_176)) (pq_hv rfl hR_w_5) dX12_lies_9 ?_
    refine lv_iload_n hx hb dX12_lies_12 rfl (lv_at hl 0 rfl) ?_
    refine lv_iload_n hx hb dX12_lies_13 rfl (lv_at hl 3 rfl) ?_
    refine pt_i hx hb hK hP hD hS hL_w_5 hK_w_5 hN_w_5 (rg_in h_4 (by decide)) dX12_lies_14 (fun r_6 H locs er_6 hP hD hS => ?_)
    have hG := GM.wz hG hT_w_5 (by decide) er_6 (zn_GRAVE (c := a0.toNatClampNeg) (k := 0) (by have z_i := clampE x_3; have z_0 := clampE a0; omega) (rg_cl1 h_a0 (by decide)) (by decide)) rfl (rg_w h_a1 (by decide)) (by decide)
    refine lv_iload_n hx hb dX12_lies_15 rfl (lv_at hl 3 rfl) ?_
    refine lv_bipush (v := 20) hx hb dX12_lies_16 (by decide) ?_
    refine lv_icmp_ge (tgt := 38) hx hb dX12_lies_18 (by decide) (fun c_7 => ?_) (fun c_7 => ?_)
    · have tc_8 : 20 ≤ (a1).toInt := Int32.le_iff_toInt_le.mp c_7
      have h_9 : rg a1 20 39 := rg_le2 c_7 (rg_k (20 : Int32) 20 rfl) h_a1 (by decide)
      have uh_9 := h_9.1
      have vh_9 := h_9.2
      refine lv_aload_n hx hb dX12_lies_38 rfl (lv_at hl 1 rfl) ?_
      refine pg_f (v := .ref w_5) (C := RX12) (T := TX12) (N := 31) hx hb hts (tw_i inlX12) hown hK hP hL_this hK_this (by decide) rfl 0 (by decide) (hts _ (tw_c tw_176)) (pq_hv rfl hR_w_5) dX12_lies_39 ?_
      refine lv_iload_n hx hb dX12_lies_42 rfl (lv_at hl 0 rfl) ?_
      refine lv_iconst (v := 2) hx hb dX12_lies_43 (by decide) ?_
      refine lv_iadd hx hb dX12_lies_44 ?_
      refine lv_topi (fun x_10 ex_10 => ?_)
      have h_11 : rg x_10 2402 2518 := rg_of_eq ex_10 (rg_add h_4 (rg_k (2 : Int32) 2 rfl) (by decide))
      have uh_11 := h_11.1
      have vh_11 := h_11.2
      have tx_10 : (x_10).toInt = (x_3).toInt + 2 := by rw [ex_10]; exact i_add_rg (a2 := (x_3).toInt) (b2 := 2) rfl rfl h_4 (rg_k (2 : Int32) 2 rfl) (by decide)
      refine lv_dup2_11 hx hb dX12_lies_45 rfl rfl ?_
      refine pl_i hx hb hK hP hL_w_5 hK_w_5 hN_w_5 (rg_in h_11 (by decide)) dX12_lies_46 ?_
      refine lv_topi (fun x_12 ex_12 => ?_)
      refine lv_iconst (v := 1) hx hb dX12_lies_47 (by decide) ?_
      refine lv_iload_n hx hb dX12_lies_48 rfl (lv_at hl 3 rfl) ?_
      refine lv_bipush (v := 20) hx hb dX12_lies_49 (by decide) ?_
      refine lv_isub hx hb dX12_lies_51 ?_
      refine lv_topi (fun x_13 ex_13 => ?_)
      have h_14 : rg x_13 0 19 := rg_of_eq ex_13 (rg_sub h_9 (rg_k (20 : Int32) 20 rfl) (by decide))
      have uh_14 := h_14.1
      have vh_14 := h_14.2
      have tx_13 : (x_13).toInt = (a1).toInt - 20 := by rw [ex_13]; exact i_sub_rg (a2 := (a1).toInt) (b2 := 20) rfl rfl h_9 (rg_k (20 : Int32) 20 rfl) (by decide)
      refine lv_ishl hx hb dX12_lies_52 ?_
      refine lv_topi (fun x_15 ex_15 => ?_)
      refine lv_ior hx hb dX12_lies_53 ?_
      refine lv_topi (fun x_16 ex_16 => ?_)
      refine pt_i hx hb hK hP hD hS hL_w_5 hK_w_5 hN_w_5 (rg_in h_11 (by decide)) dX12_lies_54 (fun r_17 H locs er_17 hP hD hS => ?_)
      have hG := GM.wz hG hT_w_5 (by decide) er_17 (zn_GRAVE (c := a0.toNatClampNeg) (k := 2) (by have z_i := clampE x_10; have z_0 := clampE a0; omega) (rg_cl1 h_a0 (by decide)) (by decide)) rfl (rg_w (rg_full _) (by decide)) (by decide)
      subst hQ
      exact W.vret hx hb hr (fun t1 ht hW => ⟨⟨(σ, I, J, r_17, rj, rq), rfl, ⟨r_17, rfl, hG⟩, by rw [ht]; exact hP, va_K.moved hW.alike hK, hD⟩, hS.F ht⟩) hS.2.2 dX12_lies_55
    · have tc_18 : (a1).toInt < 20 := Int32.lt_iff_toInt_lt.mp (nle c_7)
      have h_19 : rg a1 0 19 := rg_lt1 (nle c_7) h_a1 (rg_k (20 : Int32) 20 rfl) (by decide)
      have uh_19 := h_19.1
      have vh_19 := h_19.2
      refine lv_aload_n hx hb dX12_lies_21 rfl (lv_at hl 1 rfl) ?_
      refine pg_f (v := .ref w_5) (C := RX12) (T := TX12) (N := 31) hx hb hts (tw_i inlX12) hown hK hP hL_this hK_this (by decide) rfl 0 (by decide) (hts _ (tw_c tw_176)) (pq_hv rfl hR_w_5) dX12_lies_22 ?_
      refine lv_iload_n hx hb dX12_lies_25 rfl (lv_at hl 0 rfl) ?_
      refine lv_iconst (v := 1) hx hb dX12_lies_26 (by decide) ?_
      refine lv_iadd hx hb dX12_lies_27 ?_
      refine lv_topi (fun x_20 ex_20 => ?_)
      have h_21 : rg x_20 2401 2517 := rg_of_eq ex_20 (rg_add h_4 (rg_k (1 : Int32) 1 rfl) (by decide))
      have uh_21 := h_21.1
      have vh_21 := h_21.2
      have tx_20 : (x_20).toInt = (x_3).toInt + 1 := by rw [ex_20]; exact i_add_rg (a2 := (x_3).toInt) (b2 := 1) rfl rfl h_4 (rg_k (1 : Int32) 1 rfl) (by decide)
      refine lv_dup2_11 hx hb dX12_lies_28 rfl rfl ?_
      refine pl_i hx hb hK hP hL_w_5 hK_w_5 hN_w_5 (rg_in h_21 (by decide)) dX12_lies_29 ?_
      refine lv_topi (fun x_22 ex_22 => ?_)
      refine lv_iconst (v := 1) hx hb dX12_lies_30 (by decide) ?_
      refine lv_iload_n hx hb dX12_lies_31 rfl (lv_at hl 3 rfl) ?_
      refine lv_ishl hx hb dX12_lies_32 ?_
      refine lv_topi (fun x_23 ex_23 => ?_)
      refine lv_ior hx hb dX12_lies_33 ?_
      refine lv_topi (fun x_24 ex_24 => ?_)
      refine pt_i hx hb hK hP hD hS hL_w_5 hK_w_5 hN_w_5 (rg_in h_21 (by decide)) dX12_lies_34 (fun r_25 H locs er_25 hP hD hS => ?_)
      have hG := GM.wz hG hT_w_5 (by decide) er_25 (zn_GRAVE (c := a0.toNatClampNeg) (k := 1) (by have z_i := clampE x_20; have z_0 := clampE a0; omega) (rg_cl1 h_a0 (by decide)) (by decide)) rfl (rg_w (rg_full _) (by decide)) (by decide)
      refine lv_goto (tgt := 55) hx hb dX12_lies_35 (by decide) ?_
      subst hQ
      exact W.vret hx hb hr (fun t1 ht hW => ⟨⟨(σ, I, J, r_25, rj, rq), rfl, ⟨r_25, rfl, hG⟩, by rw [ht]; exact hP, va_K.moved hW.alike hK, hD⟩, hS.F ht⟩) hS.2.2 dX12_lies_55
  exact go _ _ _ hP hD hS hl

set_option maxHeartbeats 4000000 in
set_option maxRecDepth 100000 in
theorem s_X12_grave (l : Launch) (D : va_G) (t : pq_T) (σ : pq_S) (I : Nat → Nat → Int32) (J : Nat → Nat → Int64) (ri : Nat → Nat → Int32) (rj : Nat → Nat → Int64) (rq : Nat → Nat → Option Nat) (sz : Nat) (tg : Nat → Nat) (hSH : SH σ tg) (hG0 : GT tg I ri) (this : Nat) (a0 : Int32) (hL_this : this ∈ σ.1) (hK_this : σ.2.1 this = 12) : MetI l yX12_grave (wa yX12_grave cX12_grave 2 (some .int)) ({ frames := 2, cells := 0, slots := 0, locals := 43 }) [.ref this, .int a0] D t σ (I, J, ri, rj, rq) sz 0 0 (fun (r : Int32) (u : pq_S × pq_M) => ∃ ri' : Nat → Nat → Int32, u = (σ, I, J, ri', rj, rq) ∧ GM [1700, 1702, 1701, 1010] tg σ I ri I ri' rq ∧ rg r (-1) 29) := by
  refine Met.ofW (cc := cX12_grave) (maxL := 2) (ret := (some .int)) (by decide) rfl ?_
  intro p e s m args below meth c s₁ B hml hv
  obtain ⟨rfl, hsz, hP, hK, hD0, hN⟩ := hv
  have hx := B.exec
  have hb := B.bytes
  have hr := B.returns
  have hts := atoms_spec (ws := (wa yX12_grave cX12_grave 2 (some .int))) B.pre
  have hown : s.vm.findClass RX12 = some m.cls := findClass_of_methodNamed B.named
  have hlocks := B.notSynchronized
  subst hsz
  have hD : va_D (pq_B t σ (I, J, ri, rj, rq) s.heap.size) (pq_P t σ (I, J, ri, rj, rq)) := hD0.self
  generalize hAe : pq_B t σ (I, J, ri, rj, rq) s.heap.size = A at hD ⊢
  have hA : ∀ q : Nat, s.heap.size ≤ q → A q := fun q h => by rw [← hAe]; exact Or.inr h
  have hS : va_S A s.heap s.heap [] := va_S.rf
  have hG : GM [1700, 1702, 1701, 1010] tg σ I ri I ri rq := ⟨hG0, fun _ _ _ => rfl, fun _ _ _ _ _ => rfl, fun _ _ _ _ _ _ => rfl⟩
  have hl := lv_entry ([.ref this, .int a0]) (n := 2) (Nat.le_of_ble_eq_true rfl)
  rw [lg_entry_eq]
  generalize (lg_sl ([.ref this, .int a0]) ++ List.replicate (2 - (lg_sl ([.ref this, .int a0])).length) Slot.unset).toArray = ls at hl ⊢
  have hl : lv_has ls 2 [(0, .ref this), (1, .int a0)] := hl
  refine q_gen (fun Q hQ => ?_)
  have go : ∀ (H : Heap) (locs : List Loc) (ls : Array Slot), va_P D vwCl (pq_P t σ (I, J, ri, rj, rq)) H → va_D A (pq_P t σ (I, J, ri, rj, rq)) → va_S A s.heap H locs → lv_has ls 2 [(0, .ref this), (1, .int a0)] → W p l e ({ frames := 2, cells := 0, slots := 0, locals := 43 } : Room) s m (List.toArray ([.ref this, .int a0] : List Value)) below meth c H locs 0 0 Q (F0 m 0 ls []) := by
    intro H locs ls hP hD hS hl
    refine lv_aload_n hx hb dX12_grave_0 rfl (lv_at hl 0 rfl) ?_
    refine lv_iload_n hx hb dX12_grave_1 rfl (lv_at hl 1 rfl) ?_
    refine pk_i (va_runV (As := [.int a0]) (rest := []) ⟨hx, hb, hml, hown, hts⟩ (s_X12_isCell l D t σ I J ri rj rq H.size tg hSH hG.1 this a0 hL_this hK_this) (cwV 1 hts (tw_V tw_340 tw_341 tw_342 tw_5 tw_343) rfl rfl rfl (by decide +kernel) ⟨Nat.le_of_ble_eq_true rfl, Nat.le_of_ble_eq_true rfl⟩) ⟨pq_blind, pq_recv hK hP hL_this hK_this (by decide) rfl, pq_pre hK hN hP hD⟩ rfl rfl hl.1 rfl (lv_room (Nat.le_of_ble_eq_true rfl)) dX12_grave_2 ⟨Nat.le_of_ble_eq_true rfl, Nat.le_of_ble_eq_true rfl⟩) hD hS hA (fun x_1 σ1 μ1 H locs hw_2 hP hD hS => ?_)
    obtain ⟨hu_3, hr_5⟩ := hw_2
    obtain ⟨hu_3a, hu_3b⟩ := Prod.mk.inj hu_3
    rw [hu_3a, hu_3b] at hP hD
    have h_6 : rg x_1 0 1 := by rcases hr_5 with ⟨q, -⟩ | ⟨q, -⟩ <;> rw [q] <;> exact ⟨by decide, by decide⟩
    have uh_6 := h_6.1
    have vh_6 := h_6.2
    have K_34 : ∀  (H : Heap) (locs : List Loc) (ls : Array Slot), GM [1700, 1702, 1701, 1010] tg σ I ri I ri rq → va_P D vwCl (pq_P t σ (I, J, ri, rj, rq)) H → va_D A (pq_P t σ (I, J, ri, rj, rq)) → va_S A s.heap H locs → lv_has ls 2 [] → W p l e ({ frames := 2, cells := 0, slots := 0, locals := 43 } : Room) s m (List.toArray ([.ref this, .int a0] : List Value)) below meth c H locs 0 0 Q (F0 m 20 ls []) := by
      intro H locs ls hG hP hD hS hl
      refine lv_iconst (v := (-1)) hx hb dX12_grave_20 (by decide) ?_
      subst hQ
      exact W.iret (v := (-1)) hx hb hr (fun t1 ht hW => ⟨⟨(-1), (σ, I, J, ri, rj, rq), rfl, ⟨ri, rfl, hG, (rg_w (rg_k (-1 : Int32) (-1) rfl) (by decide))⟩, by rw [ht]; exact hP, va_K.moved hW.alike hK, hD⟩, hS.F ht⟩) hS.2.2 dX12_grave_21
    refine lv_if_eq (tgt := 20) hx hb dX12_grave_5 (by decide) (fun c_35 => ?_) (fun c_35 => ?_)
    · have f_36 := (hr_5.resolve_left (fun q => absurd (q.1.symm.trans c_35) (by decide))).2
      have tc_37 : (x_1).toInt = 0 := congrArg Int32.toInt c_35
      have h_38 : rg x_1 0 0 := rg_and h_6 (rg_of_eq c_35 (rg_k (0 : Int32) 0 rfl)) (by decide)
      have uh_38 := h_38.1
      have vh_38 := h_38.2
      exact K_34 _ _ _ hG hP hD hS (lv_sub hl [] rfl)
    · have f_39 := (hr_5.resolve_right (fun q => c_35 q.1)).2
      have uf_39 := f_39.1
      have vf_39 := f_39.2
      have tc_40 : (x_1).toInt ≠ 0 := fun q => c_35 (Int32.toInt_inj.mp q)
      have h_41 : rg x_1 1 1 := rg_ne c_35 h_6 0 rfl (by decide)
      have uh_41 := h_41.1
      have vh_41 := h_41.2
      refine lv_aload_n hx hb dX12_grave_8 rfl (lv_at hl 0 rfl) ?_
      obtain ⟨w_42, hR_w_42, hL_w_42, hK_w_42, hN_w_42, hT_w_42⟩ := sh_a hSH 384 (ci := 12) (kd := 13) (len := 12720) rfl (by decide) hL_this hK_this
      refine pg_f (v := .ref w_42) (C := RX12) (T := TX12) (N := 31) hx hb hts (tw_i inlX12) hown hK hP hL_this hK_this (by decide) rfl 0 (by decide) (hts _ (tw_c tw_176)) (pq_hv rfl hR_w_42) dX12_grave_9 ?_
      refine lv_bipush (v := 10) hx hb dX12_grave_12 (by decide) ?_
      refine pl_i hx hb hK hP hL_w_42 hK_w_42 hN_w_42 (vp_in_iff.mpr (by decide)) dX12_grave_14 ?_
      refine lv_topi (fun x_43 ex_43 => ?_)
      have h_44 : rg x_43 0 30 := rg_of_eq ex_43 (GM.z hG (by rw [hT_w_42]; decide) (show zn ((10 : Int32)).toNatClampNeg = 10 from by decide) rfl)
      have uh_44 := h_44.1
      have vh_44 := h_44.2
      refine lv_bipush (v := 30) hx hb dX12_grave_15 (by decide) ?_
      refine lv_icmp_ne (tgt := 22) hx hb dX12_grave_17 (by decide) (fun c_45 => ?_) (fun c_45 => ?_)
      · have tc_46 : (x_43).toInt ≠ 30 := fun q => c_45 (Int32.toInt_inj.mp q)
        have h_47 : rg x_43 0 29 := rg_ne c_45 h_44 30 rfl (by decide)
        have uh_47 := h_47.1
        have vh_47 := h_47.2
        refine lv_aload_n hx hb dX12_grave_22 rfl (lv_at hl 0 rfl) ?_
        refine lv_aload_n hx hb dX12_grave_23 rfl (lv_at hl 0 rfl) ?_
        refine pg_f (v := .ref w_42) (C := RX12) (T := TX12) (N := 31) hx hb hts (tw_i inlX12) hown hK hP hL_this hK_this (by decide) rfl 0 (by decide) (hts _ (tw_c tw_176)) (pq_hv rfl hR_w_42) dX12_grave_24 ?_
        refine lv_bipush (v := 10) hx hb dX12_grave_27 (by decide) ?_
        refine pl_i hx hb hK hP hL_w_42 hK_w_42 hN_w_42 (vp_in_iff.mpr (by decide)) dX12_grave_29 ?_
        refine lv_tov x_43 ex_43.symm ?_
        refine lv_iload_n hx hb dX12_grave_30 rfl (lv_at hl 1 rfl) ?_
        refine pk_v (va_runV (As := [.int x_43, .int a0]) (rest := []) ⟨hx, hb, hml, hown, hts⟩ (s_X12_lies l D t σ I J ri rj rq H.size tg hSH hG.1 this x_43 a0 hL_this hK_this (rg_w h_47 (by decide)) (rg_w f_39 (by decide))) (cwV 2 hts (tw_V tw_1509 tw_1510 tw_1511 tw_5 tw_1512) rfl rfl rfl (by decide +kernel) ⟨Nat.le_of_ble_eq_true rfl, Nat.le_of_ble_eq_true rfl⟩) ⟨pq_blind, pq_recv hK hP hL_this hK_this (by decide) rfl, pq_pre hK hN hP hD⟩ rfl rfl hl.1 rfl (lv_room (Nat.le_of_ble_eq_true rfl)) dX12_grave_31 ⟨Nat.le_of_ble_eq_true rfl, Nat.le_of_ble_eq_true rfl⟩) hD hS hA (fun σ1 μ1 H locs hw_49 hP hD hS => ?_)
        obtain ⟨ri_50, hu_51, hg_52⟩ := hw_49
        obtain ⟨hu_51a, hu_51b⟩ := Prod.mk.inj hu_51
        rw [hu_51a, hu_51b] at hP hD
        have hG := GM.tr hG hg_52 (by decide)
        refine lv_aload_n hx hb dX12_grave_34 rfl (lv_at hl 0 rfl) ?_
        refine pg_f (v := .ref w_42) (C := RX12) (T := TX12) (N := 31) hx hb hts (tw_i inlX12) hown hK hP hL_this hK_this (by decide) rfl 0 (by decide) (hts _ (tw_c tw_176)) (pq_hv rfl hR_w_42) dX12_grave_35 ?_
        refine lv_bipush (v := 10) hx hb dX12_grave_38 (by decide) ?_
        refine lv_dup2_11 hx hb dX12_grave_40 rfl rfl ?_
        refine pl_i hx hb hK hP hL_w_42 hK_w_42 hN_w_42 (vp_in_iff.mpr (by decide)) dX12_grave_41 ?_
        refine lv_tov x_43 ((hg_52.2.2.1 w_42 hT_w_42 10 (by decide) (by decide)).trans ex_43.symm) ?_
        refine lv_iconst (v := 1) hx hb dX12_grave_42 (by decide) ?_
        refine lv_iadd hx hb dX12_grave_43 ?_
        refine lv_topi (fun x_54 ex_54 => ?_)
        have h_55 : rg x_54 1 30 := rg_of_eq ex_54 (rg_add h_47 (rg_k (1 : Int32) 1 rfl) (by decide))
        have uh_55 := h_55.1
        have vh_55 := h_55.2
        have tx_54 : (x_54).toInt = (x_43).toInt + 1 := by rw [ex_54]; exact i_add_rg (a2 := (x_43).toInt) (b2 := 1) rfl rfl h_47 (rg_k (1 : Int32) 1 rfl) (by decide)
        refine pt_i hx hb hK hP hD hS hL_w_42 hK_w_42 hN_w_42 (vp_in_iff.mpr (by decide)) dX12_grave_44 (fun r_56 H locs er_56 hP hD hS => ?_)
        have hG := GM.wz hG hT_w_42 (by decide) er_56 (show zn ((10 : Int32)).toNatClampNeg = 10 from by decide) rfl (rg_w h_55 (by decide)) (by decide)
        have h_57 : r_56 w_42 10 = x_54 := cz_eq er_56
        refine lv_aload_n hx hb dX12_grave_45 rfl (lv_at hl 0 rfl) ?_
        refine pg_f (v := .ref w_42) (C := RX12) (T := TX12) (N := 31) hx hb hts (tw_i inlX12) hown hK hP hL_this hK_this (by decide) rfl 0 (by decide) (hts _ (tw_c tw_176)) (pq_hv rfl hR_w_42) dX12_grave_46 ?_
        refine lv_bipush (v := 10) hx hb dX12_grave_49 (by decide) ?_
        refine pl_i hx hb hK hP hL_w_42 hK_w_42 hN_w_42 (vp_in_iff.mpr (by decide)) dX12_grave_51 ?_
        refine lv_tov x_54 h_57 ?_
        refine lv_iconst (v := 1) hx hb dX12_grave_52 (by decide) ?_
        refine lv_isub hx hb dX12_grave_53 ?_
        refine lv_topi (fun x_58 ex_58 => ?_)
        have h_59 : rg x_58 0 29 := rg_of_eq ex_58 (rg_sub h_55 (rg_k (1 : Int32) 1 rfl) (by decide))
        have uh_59 := h_59.1
        have vh_59 := h_59.2
        have tx_58 : (x_58).toInt = (x_54).toInt - 1 := by rw [ex_58]; exact i_sub_rg (a2 := (x_54).toInt) (b2 := 1) rfl rfl h_55 (rg_k (1 : Int32) 1 rfl) (by decide)
        subst hQ
        exact W.iret (v := x_58) hx hb hr (fun t1 ht hW => ⟨⟨x_58, (σ, I, J, r_56, rj, rq), rfl, ⟨r_56, rfl, hG, (rg_w h_59 (by decide))⟩, by rw [ht]; exact hP, va_K.moved hW.alike hK, hD⟩, hS.F ht⟩) hS.2.2 dX12_grave_54
      · have tc_60 : (x_43).toInt = 30 := congrArg Int32.toInt c_45
        have h_61 : rg x_43 30 30 := rg_and h_44 (rg_of_eq c_45 (rg_k (30 : Int32) 30 rfl)) (by decide)
        have uh_61 := h_61.1
        have vh_61 := h_61.2
        exact K_34 _ _ _ hG hP hD hS (lv_sub hl [] rfl)
  exact go _ _ _ hP hD hS hl

set_option maxHeartbeats 4000000 in
set_option maxRecDepth 100000 in
theorem s_X12_bury (l : Launch) (D : va_G) (t : pq_T) (σ : pq_S) (I : Nat → Nat → Int32) (J : Nat → Nat → Int64) (ri : Nat → Nat → Int32) (rj : Nat → Nat → Int64) (rq : Nat → Nat → Option Nat) (sz : Nat) (tg : Nat → Nat) (hSH : SH σ tg) (hG0 : GT tg I ri) (this : Nat) (a0 : Int32) (a1 : Int32) (hL_this : this ∈ σ.1) (hK_this : σ.2.1 this = 12) : MetI l yX12_bury (wa yX12_bury cX12_bury 3 (some .boolean)) ({ frames := 2, cells := 0, slots := 0, locals := 43 }) [.ref this, .int a0, .int a1] D t σ (I, J, ri, rj, rq) sz 0 0 (fun (r : Int32) (u : pq_S × pq_M) => ∃ ri' : Nat → Nat → Int32, u = (σ, I, J, ri', rj, rq) ∧ GM [1700, 1702, 1701] tg σ I ri I ri' rq ∧ ((r = 1 ∧ rg a0 0 29 ∧ rg a1 0 39) ∨ (r = 0 ∧ True))) := by
  refine Met.ofW (cc := cX12_bury) (maxL := 3) (ret := (some .boolean)) (by decide) rfl ?_
  intro p e s m args below meth c s₁ B hml hv
  obtain ⟨rfl, hsz, hP, hK, hD0, hN⟩ := hv
  have hx := B.exec
  have hb := B.bytes
  have hr := B.returns
  have hts := atoms_spec (ws := (wa yX12_bury cX12_bury 3 (some .boolean))) B.pre
  have hown : s.vm.findClass RX12 = some m.cls := findClass_of_methodNamed B.named
  have hlocks := B.notSynchronized
  subst hsz
  have hD : va_D (pq_B t σ (I, J, ri, rj, rq) s.heap.size) (pq_P t σ (I, J, ri, rj, rq)) := hD0.self
  generalize hAe : pq_B t σ (I, J, ri, rj, rq) s.heap.size = A at hD ⊢
  have hA : ∀ q : Nat, s.heap.size ≤ q → A q := fun q h => by rw [← hAe]; exact Or.inr h
  have hS : va_S A s.heap s.heap [] := va_S.rf
  have hG : GM [1700, 1702, 1701] tg σ I ri I ri rq := ⟨hG0, fun _ _ _ => rfl, fun _ _ _ _ _ => rfl, fun _ _ _ _ _ _ => rfl⟩
  have hl := lv_entry ([.ref this, .int a0, .int a1]) (n := 3) (Nat.le_of_ble_eq_true rfl)
  rw [lg_entry_eq]
  generalize (lg_sl ([.ref this, .int a0, .int a1]) ++ List.replicate (3 - (lg_sl ([.ref this, .int a0, .int a1])).length) Slot.unset).toArray = ls at hl ⊢
  have hl : lv_has ls 3 [(0, .ref this), (1, .int a0), (2, .int a1)] := hl
  refine q_gen (fun Q hQ => ?_)
  have go : ∀ (H : Heap) (locs : List Loc) (ls : Array Slot), va_P D vwCl (pq_P t σ (I, J, ri, rj, rq)) H → va_D A (pq_P t σ (I, J, ri, rj, rq)) → va_S A s.heap H locs → lv_has ls 3 [(0, .ref this), (1, .int a0), (2, .int a1)] → W p l e ({ frames := 2, cells := 0, slots := 0, locals := 43 } : Room) s m (List.toArray ([.ref this, .int a0, .int a1] : List Value)) below meth c H locs 0 0 Q (F0 m 0 ls []) := by
    intro H locs ls hP hD hS hl
    refine lv_iload_n hx hb dX12_bury_0 rfl (lv_at hl 1 rfl) ?_
    refine lv_iconst (v := 0) hx hb dX12_bury_1 (by decide) ?_
    refine lv_aload_n hx hb dX12_bury_2 rfl (lv_at hl 0 rfl) ?_
    obtain ⟨w_1, hR_w_1, hL_w_1, hK_w_1, hN_w_1, hT_w_1⟩ := sh_a hSH 384 (ci := 12) (kd := 13) (len := 12720) rfl (by decide) hL_this hK_this
    refine pg_f (v := .ref w_1) (C := RX12) (T := TX12) (N := 31) hx hb hts (tw_i inlX12) hown hK hP hL_this hK_this (by decide) rfl 0 (by decide) (hts _ (tw_c tw_176)) (pq_hv rfl hR_w_1) dX12_bury_3 ?_
    refine lv_bipush (v := 10) hx hb dX12_bury_6 (by decide) ?_
    refine pl_i hx hb hK hP hL_w_1 hK_w_1 hN_w_1 (vp_in_iff.mpr (by decide)) dX12_bury_8 ?_
    refine lv_tov (ri w_1 10) rfl ?_
    have h_2 : rg (ri w_1 10) 0 30 := GM.z0 hG0 (by rw [hT_w_1]; decide) (i := 10) (k := 10) (by decide) rfl
    have uh_2 := h_2.1
    have vh_2 := h_2.2
    refine lv_iconst (v := 1) hx hb dX12_bury_9 (by decide) ?_
    refine lv_isub hx hb dX12_bury_10 ?_
    refine lv_topi (fun x_3 ex_3 => ?_)
    have h_4 : rg x_3 (-1) 29 := rg_of_eq ex_3 (rg_sub h_2 (rg_k (1 : Int32) 1 rfl) (by decide))
    have uh_4 := h_4.1
    have vh_4 := h_4.2
    have tx_3 : (x_3).toInt = (ri w_1 10).toInt - 1 := by rw [ex_3]; exact i_sub_rg (a2 := (ri w_1 10).toInt) (b2 := 1) rfl rfl h_2 (rg_k (1 : Int32) 1 rfl) (by decide)
    refine pk_i (va_runS (As := [.int a0, .int 0, .int x_3]) (rest := []) ⟨hx, hb, hml, hown, hts⟩ (s_X12_isIn l D t σ I J ri rj rq H.size tg hSH hG.1 a0 (0 : Int32) x_3) (va_cwS 3 hts (tw_S tw_235 tw_236 tw_5 tw_237) rfl rfl rfl (by decide +kernel) ⟨Nat.le_of_ble_eq_true rfl, Nat.le_of_ble_eq_true rfl⟩) ⟨pq_blind, pq_pre hK hN hP hD⟩ rfl rfl hl.1 rfl (lv_room (Nat.le_of_ble_eq_true rfl)) dX12_bury_11 ⟨Nat.le_of_ble_eq_true rfl, Nat.le_of_ble_eq_true rfl⟩) hD hS hA (fun x_5 σ1 μ1 H locs hw_6 hP hD hS => ?_)
    obtain ⟨hu_7, hr_9⟩ := hw_6
    obtain ⟨hu_7a, hu_7b⟩ := Prod.mk.inj hu_7
    rw [hu_7a, hu_7b] at hP hD
    have h_10 : rg x_5 0 1 := by rcases hr_9 with ⟨q, -⟩ | ⟨q, -⟩ <;> rw [q] <;> exact ⟨by decide, by decide⟩
    have uh_10 := h_10.1
    have vh_10 := h_10.2
    have K_52 : ∀  (H : Heap) (locs : List Loc) (ls : Array Slot), GM [1700, 1702, 1701] tg σ I ri I ri rq → va_P D vwCl (pq_P t σ (I, J, ri, rj, rq)) H → va_D A (pq_P t σ (I, J, ri, rj, rq)) → va_S A s.heap H locs → lv_has ls 3 [] → W p l e ({ frames := 2, cells := 0, slots := 0, locals := 43 } : Room) s m (List.toArray ([.ref this, .int a0, .int a1] : List Value)) below meth c H locs 0 0 Q (F0 m 41 ls []) := by
      intro H locs ls hG hP hD hS hl
      refine lv_iconst (v := 0) hx hb dX12_bury_41 (by decide) ?_
      subst hQ
      exact W.zret (v := 0) hx hb hr (by decide) (fun t1 ht hW => ⟨⟨0, (σ, I, J, ri, rj, rq), rfl, ⟨ri, rfl, hG, (Or.inr ⟨rfl, trivial⟩)⟩, by rw [ht]; exact hP, va_K.moved hW.alike hK, hD⟩, hS.F ht⟩) hS.2.2 dX12_bury_42
    refine lv_if_eq (tgt := 41) hx hb dX12_bury_14 (by decide) (fun c_53 => ?_) (fun c_53 => ?_)
    · have f_54 := (hr_9.resolve_left (fun q => absurd (q.1.symm.trans c_53) (by decide))).2
      have tc_55 : (x_5).toInt = 0 := congrArg Int32.toInt c_53
      have h_56 : rg x_5 0 0 := rg_and h_10 (rg_of_eq c_53 (rg_k (0 : Int32) 0 rfl)) (by decide)
      have uh_56 := h_56.1
      have vh_56 := h_56.2
      exact K_52 _ _ _ hG hP hD hS (lv_sub hl [] rfl)
    · obtain ⟨f_57, f_58⟩ := (hr_9.resolve_right (fun q => c_53 q.1)).2
      have tc_59 : 0 ≤ (a0).toInt := Int32.le_iff_toInt_le.mp f_57
      have h_60 : rg a0 0 2147483647 := rg_le2 f_57 (rg_k (0 : Int32) 0 rfl) (rg_full _) (by decide)
      have uh_60 := h_60.1
      have vh_60 := h_60.2
      have tc_61 : (a0).toInt ≤ (x_3).toInt := Int32.le_iff_toInt_le.mp f_58
      have h_62 : rg a0 0 29 := rg_le1 f_58 h_60 h_4 (by decide)
      have uh_62 := h_62.1
      have vh_62 := h_62.2
      have h_63 : rg x_3 0 29 := rg_le2 f_58 h_60 h_4 (by decide)
      have uh_63 := h_63.1
      have vh_63 := h_63.2
      have tc_64 : (x_5).toInt ≠ 0 := fun q => c_53 (Int32.toInt_inj.mp q)
      have h_65 : rg x_5 1 1 := rg_ne c_53 h_10 0 rfl (by decide)
      have uh_65 := h_65.1
      have vh_65 := h_65.2
      refine lv_aload_n hx hb dX12_bury_17 rfl (lv_at hl 0 rfl) ?_
      refine lv_iload_n hx hb dX12_bury_18 rfl (lv_at hl 2 rfl) ?_
      refine pk_i (va_runV (As := [.int a1]) (rest := []) ⟨hx, hb, hml, hown, hts⟩ (s_X12_isCell l D t σ I J ri rj rq H.size tg hSH hG.1 this a1 hL_this hK_this) (cwV 1 hts (tw_V tw_340 tw_341 tw_342 tw_5 tw_343) rfl rfl rfl (by decide +kernel) ⟨Nat.le_of_ble_eq_true rfl, Nat.le_of_ble_eq_true rfl⟩) ⟨pq_blind, pq_recv hK hP hL_this hK_this (by decide) rfl, pq_pre hK hN hP hD⟩ rfl rfl hl.1 rfl (lv_room (Nat.le_of_ble_eq_true rfl)) dX12_bury_19 ⟨Nat.le_of_ble_eq_true rfl, Nat.le_of_ble_eq_true rfl⟩) hD hS hA (fun x_66 σ1 μ1 H locs hw_67 hP hD hS => ?_)
      obtain ⟨hu_68, hr_70⟩ := hw_67
      obtain ⟨hu_68a, hu_68b⟩ := Prod.mk.inj hu_68
      rw [hu_68a, hu_68b] at hP hD
      have h_71 : rg x_66 0 1 := by rcases hr_70 with ⟨q, -⟩ | ⟨q, -⟩ <;> rw [q] <;> exact ⟨by decide, by decide⟩
      have uh_71 := h_71.1
      have vh_71 := h_71.2
      refine lv_if_eq (tgt := 41) hx hb dX12_bury_22 (by decide) (fun c_72 => ?_) (fun c_72 => ?_)
      · have f_73 := (hr_70.resolve_left (fun q => absurd (q.1.symm.trans c_72) (by decide))).2
        have tc_74 : (x_66).toInt = 0 := congrArg Int32.toInt c_72
        have h_75 : rg x_66 0 0 := rg_and h_71 (rg_of_eq c_72 (rg_k (0 : Int32) 0 rfl)) (by decide)
        have uh_75 := h_75.1
        have vh_75 := h_75.2
        exact K_52 _ _ _ hG hP hD hS (lv_sub hl [] rfl)
      · have f_76 := (hr_70.resolve_right (fun q => c_72 q.1)).2
        have uf_76 := f_76.1
        have vf_76 := f_76.2
        have tc_77 : (x_66).toInt ≠ 0 := fun q => c_72 (Int32.toInt_inj.mp q)
        have h_78 : rg x_66 1 1 := rg_ne c_72 h_71 0 rfl (by decide)
        have uh_78 := h_78.1
        have vh_78 := h_78.2
        refine lv_aload_n hx hb dX12_bury_25 rfl (lv_at hl 0 rfl) ?_
        refine pg_f (v := .ref w_1) (C := RX12) (T := TX12) (N := 31) hx hb hts (tw_i inlX12) hown hK hP hL_this hK_this (by decide) rfl 0 (by decide) (hts _ (tw_c tw_176)) (pq_hv rfl hR_w_1) dX12_bury_26 ?_
        refine lv_sipush (v := 2400) hx hb dX12_bury_29 (by decide) ?_
        refine lv_iconst (v := 4) hx hb dX12_bury_32 (by decide) ?_
        refine lv_iload_n hx hb dX12_bury_33 rfl (lv_at hl 1 rfl) ?_
        refine lv_imul hx hb dX12_bury_34 ?_
        refine lv_topi (fun x_79 ex_79 => ?_)
        have h_80 : rg x_79 0 116 := rg_of_eq ex_79 (rg_mul (rg_k (4 : Int32) 4 rfl) h_62 (by decide))
        have uh_80 := h_80.1
        have vh_80 := h_80.2
        have tx_79 : (x_79).toInt = 4 * (a0).toInt := by rw [ex_79]; exact i_mul_rg (a2 := 4) (b2 := (a0).toInt) rfl rfl (rg_k (4 : Int32) 4 rfl) h_62 (by decide)
        refine lv_iadd hx hb dX12_bury_35 ?_
        refine lv_topi (fun x_81 ex_81 => ?_)
        have h_82 : rg x_81 2400 2516 := rg_of_eq ex_81 (rg_add (rg_k (2400 : Int32) 2400 rfl) h_80 (by decide))
        have uh_82 := h_82.1
        have vh_82 := h_82.2
        have tx_81 : (x_81).toInt = 2400 + (x_79).toInt := by rw [ex_81]; exact i_add_rg (a2 := 2400) (b2 := (x_79).toInt) rfl rfl (rg_k (2400 : Int32) 2400 rfl) h_80 (by decide)
        refine pl_i hx hb hK hP hL_w_1 hK_w_1 hN_w_1 (rg_in h_82 (by decide)) dX12_bury_36 ?_
        refine lv_topi (fun x_83 ex_83 => ?_)
        refine lv_iload_n hx hb dX12_bury_37 rfl (lv_at hl 2 rfl) ?_
        refine lv_icmp_ne (tgt := 43) hx hb dX12_bury_38 (by decide) (fun c_84 => ?_) (fun c_84 => ?_)
        · have tc_85 : (x_83).toInt ≠ (a1).toInt := fun q => c_84 (Int32.toInt_inj.mp q)
          refine lv_aload_n hx hb dX12_bury_43 rfl (lv_at hl 0 rfl) ?_
          refine lv_iload_n hx hb dX12_bury_44 rfl (lv_at hl 1 rfl) ?_
          refine lv_iload_n hx hb dX12_bury_45 rfl (lv_at hl 2 rfl) ?_
          refine pk_v (va_runV (As := [.int a0, .int a1]) (rest := []) ⟨hx, hb, hml, hown, hts⟩ (s_X12_lies l D t σ I J ri rj rq H.size tg hSH hG.1 this a0 a1 hL_this hK_this (rg_w h_62 (by decide)) (rg_w f_76 (by decide))) (cwV 2 hts (tw_V tw_1509 tw_1510 tw_1511 tw_5 tw_1512) rfl rfl rfl (by decide +kernel) ⟨Nat.le_of_ble_eq_true rfl, Nat.le_of_ble_eq_true rfl⟩) ⟨pq_blind, pq_recv hK hP hL_this hK_this (by decide) rfl, pq_pre hK hN hP hD⟩ rfl rfl hl.1 rfl (lv_room (Nat.le_of_ble_eq_true rfl)) dX12_bury_46 ⟨Nat.le_of_ble_eq_true rfl, Nat.le_of_ble_eq_true rfl⟩) hD hS hA (fun σ1 μ1 H locs hw_87 hP hD hS => ?_)
          obtain ⟨ri_88, hu_89, hg_90⟩ := hw_87
          obtain ⟨hu_89a, hu_89b⟩ := Prod.mk.inj hu_89
          rw [hu_89a, hu_89b] at hP hD
          have hG := GM.tr hG hg_90 (by decide)
          refine lv_iconst (v := 1) hx hb dX12_bury_49 (by decide) ?_
          subst hQ
          exact W.zret (v := 1) hx hb hr (by decide) (fun t1 ht hW => ⟨⟨1, (σ, I, J, ri_88, rj, rq), rfl, ⟨ri_88, rfl, hG, (Or.inl ⟨rfl, (rg_w h_62 (by decide)), (rg_w f_76 (by decide))⟩)⟩, by rw [ht]; exact hP, va_K.moved hW.alike hK, hD⟩, hS.F ht⟩) hS.2.2 dX12_bury_50
        · have tc_92 : (x_83).toInt = (a1).toInt := congrArg Int32.toInt c_84
          have h_93 : rg x_83 0 39 := rg_and (rg_full _) (rg_of_eq c_84 f_76) (by decide)
          have uh_93 := h_93.1
          have vh_93 := h_93.2
          exact K_52 _ _ _ hG hP hD hS (lv_sub hl [] rfl)
  exact go _ _ _ hP hD hS hl

set_option maxHeartbeats 4000000 in
set_option maxRecDepth 100000 in
theorem s_X12_found (l : Launch) (D : va_G) (t : pq_T) (σ : pq_S) (I : Nat → Nat → Int32) (J : Nat → Nat → Int64) (ri : Nat → Nat → Int32) (rj : Nat → Nat → Int64) (rq : Nat → Nat → Option Nat) (sz : Nat) (tg : Nat → Nat) (hSH : SH σ tg) (hG0 : GT tg I ri) (this : Nat) (a0 : Int32) (a1 : Int32) (hL_this : this ∈ σ.1) (hK_this : σ.2.1 this = 12) : MetI l yX12_found (wa yX12_found cX12_found 7 (some .int)) ({ frames := 2, cells := 0, slots := 0, locals := 43 }) [.ref this, .int a0, .int a1] D t σ (I, J, ri, rj, rq) sz 0 0 (fun (r : Int32) (u : pq_S × pq_M) => u = (σ, I, J, ri, rj, rq)) := by
  refine Met.ofW (cc := cX12_found) (maxL := 7) (ret := (some .int)) (by decide) rfl ?_
  intro p e s m args below meth c s₁ B hml hv
  obtain ⟨rfl, hsz, hP, hK, hD0, hN⟩ := hv
  have hx := B.exec
  have hb := B.bytes
  have hr := B.returns
  have hts := atoms_spec (ws := (wa yX12_found cX12_found 7 (some .int))) B.pre
  have hown : s.vm.findClass RX12 = some m.cls := findClass_of_methodNamed B.named
  have hlocks := B.notSynchronized
  subst hsz
  have hD : va_D (pq_B t σ (I, J, ri, rj, rq) s.heap.size) (pq_P t σ (I, J, ri, rj, rq)) := hD0.self
  generalize hAe : pq_B t σ (I, J, ri, rj, rq) s.heap.size = A at hD ⊢
  have hA : ∀ q : Nat, s.heap.size ≤ q → A q := fun q h => by rw [← hAe]; exact Or.inr h
  have hS : va_S A s.heap s.heap [] := va_S.rf
  have hG : GM [] tg σ I ri I ri rq := ⟨hG0, fun _ _ _ => rfl, fun _ _ _ _ _ => rfl, fun _ _ _ _ _ _ => rfl⟩
  have hl := lv_entry ([.ref this, .int a0, .int a1]) (n := 7) (Nat.le_of_ble_eq_true rfl)
  rw [lg_entry_eq]
  generalize (lg_sl ([.ref this, .int a0, .int a1]) ++ List.replicate (7 - (lg_sl ([.ref this, .int a0, .int a1])).length) Slot.unset).toArray = ls at hl ⊢
  have hl : lv_has ls 7 [(0, .ref this), (1, .int a0), (2, .int a1)] := hl
  refine q_gen (fun Q hQ => ?_)
  have go : ∀ (H : Heap) (locs : List Loc) (ls : Array Slot), va_P D vwCl (pq_P t σ (I, J, ri, rj, rq)) H → va_D A (pq_P t σ (I, J, ri, rj, rq)) → va_S A s.heap H locs → lv_has ls 7 [(0, .ref this), (1, .int a0), (2, .int a1)] → W p l e ({ frames := 2, cells := 0, slots := 0, locals := 43 } : Room) s m (List.toArray ([.ref this, .int a0, .int a1] : List Value)) below meth c H locs 0 0 Q (F0 m 0 ls []) := by
    intro H locs ls hP hD hS hl
    refine lv_aload_n hx hb dX12_found_0 rfl (lv_at hl 0 rfl) ?_
    refine lv_iload_n hx hb dX12_found_1 rfl (lv_at hl 1 rfl) ?_
    refine pk_i (va_runV (As := [.int a0]) (rest := []) ⟨hx, hb, hml, hown, hts⟩ (s_X12_isCell l D t σ I J ri rj rq H.size tg hSH hG.1 this a0 hL_this hK_this) (cwV 1 hts (tw_V tw_340 tw_341 tw_342 tw_5 tw_343) rfl rfl rfl (by decide +kernel) ⟨Nat.le_of_ble_eq_true rfl, Nat.le_of_ble_eq_true rfl⟩) ⟨pq_blind, pq_recv hK hP hL_this hK_this (by decide) rfl, pq_pre hK hN hP hD⟩ rfl rfl hl.1 rfl (lv_room (Nat.le_of_ble_eq_true rfl)) dX12_found_2 ⟨Nat.le_of_ble_eq_true rfl, Nat.le_of_ble_eq_true rfl⟩) hD hS hA (fun x_1 σ1 μ1 H locs hw_2 hP hD hS => ?_)
    obtain ⟨hu_3, hr_5⟩ := hw_2
    obtain ⟨hu_3a, hu_3b⟩ := Prod.mk.inj hu_3
    rw [hu_3a, hu_3b] at hP hD
    have h_6 : rg x_1 0 1 := by rcases hr_5 with ⟨q, -⟩ | ⟨q, -⟩ <;> rw [q] <;> exact ⟨by decide, by decide⟩
    have uh_6 := h_6.1
    have vh_6 := h_6.2
    have K_535 : ∀  (H : Heap) (locs : List Loc) (ls : Array Slot), GM [] tg σ I ri I ri rq → va_P D vwCl (pq_P t σ (I, J, ri, rj, rq)) H → va_D A (pq_P t σ (I, J, ri, rj, rq)) → va_S A s.heap H locs → lv_has ls 7 [] → W p l e ({ frames := 2, cells := 0, slots := 0, locals := 43 } : Room) s m (List.toArray ([.ref this, .int a0, .int a1] : List Value)) below meth c H locs 0 0 Q (F0 m 12 ls []) := by
      intro H locs ls hG hP hD hS hl
      refine lv_iconst (v := (-1)) hx hb dX12_found_12 (by decide) ?_
      subst hQ
      exact W.iret (v := (-1)) hx hb hr (fun t1 ht hW => ⟨⟨(-1), (σ, I, J, ri, rj, rq), rfl, rfl, by rw [ht]; exact hP, va_K.moved hW.alike hK, hD⟩, hS.F ht⟩) hS.2.2 dX12_found_13
    refine lv_if_eq (tgt := 12) hx hb dX12_found_5 (by decide) (fun c_536 => ?_) (fun c_536 => ?_)
    · have f_537 := (hr_5.resolve_left (fun q => absurd (q.1.symm.trans c_536) (by decide))).2
      have tc_538 : (x_1).toInt = 0 := congrArg Int32.toInt c_536
      have h_539 : rg x_1 0 0 := rg_and h_6 (rg_of_eq c_536 (rg_k (0 : Int32) 0 rfl)) (by decide)
      have uh_539 := h_539.1
      have vh_539 := h_539.2
      exact K_535 _ _ _ hG hP hD hS (lv_sub hl [] rfl)
    · have f_540 := (hr_5.resolve_right (fun q => c_536 q.1)).2
      have uf_540 := f_540.1
      have vf_540 := f_540.2
      have tc_541 : (x_1).toInt ≠ 0 := fun q => c_536 (Int32.toInt_inj.mp q)
      have h_542 : rg x_1 1 1 := rg_ne c_536 h_6 0 rfl (by decide)
      have uh_542 := h_542.1
      have vh_542 := h_542.2
      refine lv_iload_n hx hb dX12_found_8 rfl (lv_at hl 2 rfl) ?_
      refine lv_if_ge (tgt := 14) hx hb dX12_found_9 (by decide) (fun c_543 => ?_) (fun c_543 => ?_)
      · have tc_544 : 0 ≤ (a1).toInt := Int32.le_iff_toInt_le.mp c_543
        have h_545 : rg a1 0 2147483647 := rg_le2 c_543 (rg_k (0 : Int32) 0 rfl) (rg_full _) (by decide)
        have uh_545 := h_545.1
        have vh_545 := h_545.2
        refine lv_iload_n hx hb dX12_found_14 rfl (lv_at hl 2 rfl) ?_
        refine lv_istore_n (lv' := [(3, .int a1), (0, .ref this), (1, .int a0), (2, .int a1)]) hx hb dX12_found_15 rfl hl (by decide) rfl (fun ls hl => ?_)
        refine lv_iconst (v := 0) hx hb dX12_found_16 (by decide) ?_
        refine lv_istore (lv' := [(4, .int 0), (3, .int a1), (0, .ref this), (1, .int a0), (2, .int a1)]) hx hb dX12_found_17 hl (by decide) rfl (fun ls hl => ?_)
        have L_1016 : ∀ (n_1015 : Nat) (x_966 : Int32) (x_967 : Int32) (H : Heap) (locs : List Loc) (ls : Array Slot), rg x_966 0 2147483647 → rg x_967 0 30 → (30 - (x_967).toInt).toNat < n_1015 → GM [] tg σ I ri I ri rq → va_P D vwCl (pq_P t σ (I, J, ri, rj, rq)) H → va_D A (pq_P t σ (I, J, ri, rj, rq)) → va_S A s.heap H locs → lv_has ls 7 [(0, .ref this), (1, .int a0), (3, .int x_966), (4, .int x_967)] → W p l e ({ frames := 2, cells := 0, slots := 0, locals := 43 } : Room) s m (List.toArray ([.ref this, .int a0, .int a1] : List Value)) below meth c H locs 0 0 Q (F0 m 19 ls []) := by
          intro n_1015
          induction n_1015 with
          | zero => intro x_966 x_967 H locs ls h_1020 h_1021 hm_1014 hG hP hD hS hl; exact absurd hm_1014 (Nat.not_lt_zero _)
          | succ n_1015 ih_1017 =>
            intro x_966 x_967 H locs ls h_1020 h_1021 hm_1014 hG hP hD hS hl
            have uh_1020 := h_1020.1
            have vh_1020 := h_1020.2
            have uh_1021 := h_1021.1
            have vh_1021 := h_1021.2
            refine lv_iload hx hb dX12_found_19 (lv_at hl 3 rfl) ?_
            refine lv_aload_n hx hb dX12_found_21 rfl (lv_at hl 0 rfl) ?_
            obtain ⟨w_1022, hR_w_1022, hL_w_1022, hK_w_1022, hN_w_1022, hT_w_1022⟩ := sh_a hSH 384 (ci := 12) (kd := 13) (len := 12720) rfl (by decide) hL_this hK_this
            refine pg_f (v := .ref w_1022) (C := RX12) (T := TX12) (N := 31) hx hb hts (tw_i inlX12) hown hK hP hL_this hK_this (by decide) rfl 0 (by decide) (hts _ (tw_c tw_176)) (pq_hv rfl hR_w_1022) dX12_found_22 ?_
            refine lv_bipush (v := 10) hx hb dX12_found_25 (by decide) ?_
            refine pl_i hx hb hK hP hL_w_1022 hK_w_1022 hN_w_1022 (vp_in_iff.mpr (by decide)) dX12_found_27 ?_
            refine lv_tov (ri w_1022 10) rfl ?_
            have h_1023 : rg (ri w_1022 10) 0 30 := GM.z0 hG0 (by rw [hT_w_1022]; decide) (i := 10) (k := 10) (by decide) rfl
            have uh_1023 := h_1023.1
            have vh_1023 := h_1023.2
            refine lv_icmp_ge (tgt := 108) hx hb dX12_found_28 (by decide) (fun c_1024 => ?_) (fun c_1024 => ?_)
            · have tc_1025 : (ri w_1022 10).toInt ≤ (x_967).toInt := Int32.le_iff_toInt_le.mp c_1024
              refine lv_iconst (v := (-1)) hx hb dX12_found_108 (by decide) ?_
              subst hQ
              exact W.iret (v := (-1)) hx hb hr (fun t1 ht hW => ⟨⟨(-1), (σ, I, J, ri, rj, rq), rfl, rfl, by rw [ht]; exact hP, va_K.moved hW.alike hK, hD⟩, hS.F ht⟩) hS.2.2 dX12_found_109
            · have tc_1026 : (x_967).toInt < (ri w_1022 10).toInt := Int32.lt_iff_toInt_lt.mp (nle c_1024)
              have h_1027 : rg x_967 0 29 := rg_lt1 (nle c_1024) h_1021 h_1023 (by decide)
              have uh_1027 := h_1027.1
              have vh_1027 := h_1027.2
              have h_1028 : rg (ri w_1022 10) 1 30 := rg_lt2 (nle c_1024) h_1021 h_1023 (by decide)
              have uh_1028 := h_1028.1
              have vh_1028 := h_1028.2
              refine lv_sipush (v := 2400) hx hb dX12_found_31 (by decide) ?_
              refine lv_iconst (v := 4) hx hb dX12_found_34 (by decide) ?_
              refine lv_iload hx hb dX12_found_35 (lv_at hl 3 rfl) ?_
              refine lv_imul hx hb dX12_found_37 ?_
              refine lv_topi (fun x_1029 ex_1029 => ?_)
              have h_1030 : rg x_1029 0 116 := rg_of_eq ex_1029 (rg_mul (rg_k (4 : Int32) 4 rfl) h_1027 (by decide))
              have uh_1030 := h_1030.1
              have vh_1030 := h_1030.2
              have tx_1029 : (x_1029).toInt = 4 * (x_967).toInt := by rw [ex_1029]; exact i_mul_rg (a2 := 4) (b2 := (x_967).toInt) rfl rfl (rg_k (4 : Int32) 4 rfl) h_1027 (by decide)
              refine lv_iadd hx hb dX12_found_38 ?_
              refine lv_topi (fun x_1031 ex_1031 => ?_)
              have h_1032 : rg x_1031 2400 2516 := rg_of_eq ex_1031 (rg_add (rg_k (2400 : Int32) 2400 rfl) h_1030 (by decide))
              have uh_1032 := h_1032.1
              have vh_1032 := h_1032.2
              have tx_1031 : (x_1031).toInt = 2400 + (x_1029).toInt := by rw [ex_1031]; exact i_add_rg (a2 := 2400) (b2 := (x_1029).toInt) rfl rfl (rg_k (2400 : Int32) 2400 rfl) h_1030 (by decide)
              refine lv_istore (lv' := [(5, .int x_1031), (0, .ref this), (1, .int a0), (3, .int x_966), (4, .int x_967)]) hx hb dX12_found_39 hl (by decide) rfl (fun ls hl => ?_)
              refine lv_iload_n hx hb dX12_found_41 rfl (lv_at hl 2 rfl) ?_
              refine lv_bipush (v := 20) hx hb dX12_found_42 (by decide) ?_
              have K_1066 : ∀  (x_1048 : Int32) (H : Heap) (locs : List Loc) (ls : Array Slot), GM [] tg σ I ri I ri rq → va_P D vwCl (pq_P t σ (I, J, ri, rj, rq)) H → va_D A (pq_P t σ (I, J, ri, rj, rq)) → va_S A s.heap H locs → lv_has ls 7 [(0, .ref this), (1, .int a0), (3, .int x_966), (4, .int x_967), (5, .int x_1031)] → W p l e ({ frames := 2, cells := 0, slots := 0, locals := 43 } : Room) s m (List.toArray ([.ref this, .int a0, .int a1] : List Value)) below meth c H locs 0 0 Q (F0 m 75 ls [.int x_1048]) := by
                intro x_1048 H locs ls hG hP hD hS hl
                refine lv_istore (lv' := [(6, .int x_1048), (0, .ref this), (1, .int a0), (3, .int x_966), (4, .int x_967), (5, .int x_1031)]) hx hb dX12_found_75 hl (by decide) rfl (fun ls hl => ?_)
                refine lv_iload hx hb dX12_found_77 (lv_at hl 0 rfl) ?_
                refine lv_iconst (v := 1) hx hb dX12_found_79 (by decide) ?_
                refine lv_iand hx hb dX12_found_80 ?_
                refine lv_topi (fun x_1067 ex_1067 => ?_)
                have K_1084 : ∀  (x_1080 : Int32) (H : Heap) (locs : List Loc) (ls : Array Slot), rg x_1080 0 2147483647 → GM [] tg σ I ri I ri rq → va_P D vwCl (pq_P t σ (I, J, ri, rj, rq)) H → va_D A (pq_P t σ (I, J, ri, rj, rq)) → va_S A s.heap H locs → lv_has ls 7 [(0, .ref this), (1, .int a0), (3, .int x_1080), (4, .int x_967)] → W p l e ({ frames := 2, cells := 0, slots := 0, locals := 43 } : Room) s m (List.toArray ([.ref this, .int a0, .int a1] : List Value)) below meth c H locs 0 0 Q (F0 m 102 ls []) := by
                  intro x_1080 H locs ls h_1086 hG hP hD hS hl
                  have uh_1086 := h_1086.1
                  have vh_1086 := h_1086.2
                  obtain ⟨x_1087, ex_1087⟩ : ∃ y : Int32, y = x_967 + Int32.ofInt 1 := ⟨_, rfl⟩
                  have h_1088 : rg x_1087 1 30 := rg_of_eq ex_1087 (rg_add h_1027 (rg_k (Int32.ofInt 1) 1 rfl) (by decide))
                  have uh_1088 := h_1088.1
                  have vh_1088 := h_1088.2
                  have tx_1087 : (x_1087).toInt = (x_967).toInt + 1 := by rw [ex_1087]; exact i_add_rg (a2 := (x_967).toInt) (b2 := 1) rfl rfl h_1027 (rg_k (Int32.ofInt 1) 1 rfl) (by decide)
                  refine lv_iinc (v := x_1087) (lv' := [(4, .int x_1087), (0, .ref this), (1, .int a0), (3, .int x_1080)]) hx hb dX12_found_102 hl (k := 3) rfl ex_1087.symm (by decide) rfl (fun ls hl => ?_)
                  refine lv_goto (tgt := 19) hx hb dX12_found_105 (by decide) ?_
                  exact ih_1017 x_1080 x_1087 _ _ _ (rg_w h_1086 (by decide)) (rg_w h_1088 (by decide)) (ms_up 1 hm_1014 ex_1087 rfl (by decide) h_1027 (by decide) (by decide)) hG hP hD hS (lv_sub hl [1, 2, 3, 0] rfl)
                refine lv_if_ne (tgt := 87) hx hb dX12_found_81 (by decide) (fun c_1089 => ?_) (fun c_1089 => ?_)
                · have tc_1090 : (x_1067).toInt ≠ 0 := fun q => c_1089 (Int32.toInt_inj.mp q)
                  refine lv_iload_n hx hb dX12_found_87 rfl (lv_at hl 3 rfl) ?_
                  refine lv_if_ne (tgt := 99) hx hb dX12_found_88 (by decide) (fun c_1091 => ?_) (fun c_1091 => ?_)
                  · have tc_1092 : (x_966).toInt ≠ 0 := fun q => c_1091 (Int32.toInt_inj.mp q)
                    have h_1093 : rg x_966 1 2147483647 := rg_ne c_1091 h_1020 0 rfl (by decide)
                    have uh_1093 := h_1093.1
                    have vh_1093 := h_1093.2
                    obtain ⟨x_1094, ex_1094⟩ : ∃ y : Int32, y = x_966 + Int32.ofInt (-1) := ⟨_, rfl⟩
                    have h_1095 : rg x_1094 0 2147483646 := rg_of_eq ex_1094 (rg_add h_1093 (rg_k (Int32.ofInt (-1)) (-1) rfl) (by decide))
                    have uh_1095 := h_1095.1
                    have vh_1095 := h_1095.2
                    have tx_1094 : (x_1094).toInt = (x_966).toInt + (-1) := by rw [ex_1094]; exact i_add_rg (a2 := (x_966).toInt) (b2 := (-1)) rfl rfl h_1093 (rg_k (Int32.ofInt (-1)) (-1) rfl) (by decide)
                    refine lv_iinc (v := x_1094) (lv' := [(3, .int x_1094), (6, .int x_1048), (0, .ref this), (1, .int a0), (4, .int x_967), (5, .int x_1031)]) hx hb dX12_found_99 hl (k := 3) rfl ex_1094.symm (by decide) rfl (fun ls hl => ?_)
                    exact K_1084 x_1094 _ _ _ (rg_w h_1095 (by decide)) hG hP hD hS (lv_sub hl [2, 3, 0, 4] rfl)
                  · have tc_1096 : (x_966).toInt = 0 := congrArg Int32.toInt c_1091
                    have h_1097 : rg x_966 0 0 := rg_and h_1020 (rg_of_eq c_1091 (rg_k (0 : Int32) 0 rfl)) (by decide)
                    have uh_1097 := h_1097.1
                    have vh_1097 := h_1097.2
                    refine lv_aload_n hx hb dX12_found_91 rfl (lv_at hl 1 rfl) ?_
                    refine pg_f (v := .ref w_1022) (C := RX12) (T := TX12) (N := 31) hx hb hts (tw_i inlX12) hown hK hP hL_this hK_this (by decide) rfl 0 (by decide) (hts _ (tw_c tw_176)) (pq_hv rfl hR_w_1022) dX12_found_92 ?_
                    refine lv_iload hx hb dX12_found_95 (lv_at hl 5 rfl) ?_
                    refine pl_i hx hb hK hP hL_w_1022 hK_w_1022 hN_w_1022 (rg_in h_1032 (by decide)) dX12_found_97 ?_
                    refine lv_topi (fun x_1098 ex_1098 => ?_)
                    subst hQ
                    exact W.iret (v := x_1098) hx hb hr (fun t1 ht hW => ⟨⟨x_1098, (σ, I, J, ri, rj, rq), rfl, rfl, by rw [ht]; exact hP, va_K.moved hW.alike hK, hD⟩, hS.F ht⟩) hS.2.2 dX12_found_98
                · have tc_1099 : (x_1067).toInt = 0 := congrArg Int32.toInt c_1089
                  have h_1100 : rg x_1067 0 0 := rg_and (rg_full _) (rg_of_eq c_1089 (rg_k (0 : Int32) 0 rfl)) (by decide)
                  have uh_1100 := h_1100.1
                  have vh_1100 := h_1100.2
                  refine lv_goto (tgt := 102) hx hb dX12_found_84 (by decide) ?_
                  exact K_1084 x_966 _ _ _ (rg_w h_1020 (by decide)) hG hP hD hS (lv_sub hl [1, 2, 3, 4] rfl)
              refine lv_icmp_ge (tgt := 61) hx hb dX12_found_44 (by decide) (fun c_1101 => ?_) (fun c_1101 => ?_)
              · have tc_1102 : 20 ≤ (a0).toInt := Int32.le_iff_toInt_le.mp c_1101
                have h_1103 : rg a0 20 39 := rg_le2 c_1101 (rg_k (20 : Int32) 20 rfl) f_540 (by decide)
                have uh_1103 := h_1103.1
                have vh_1103 := h_1103.2
                refine lv_aload_n hx hb dX12_found_61 rfl (lv_at hl 1 rfl) ?_
                refine pg_f (v := .ref w_1022) (C := RX12) (T := TX12) (N := 31) hx hb hts (tw_i inlX12) hown hK hP hL_this hK_this (by decide) rfl 0 (by decide) (hts _ (tw_c tw_176)) (pq_hv rfl hR_w_1022) dX12_found_62 ?_
                refine lv_iload hx hb dX12_found_65 (lv_at hl 0 rfl) ?_
                refine lv_iconst (v := 2) hx hb dX12_found_67 (by decide) ?_
                refine lv_iadd hx hb dX12_found_68 ?_
                refine lv_topi (fun x_1104 ex_1104 => ?_)
                have h_1105 : rg x_1104 2402 2518 := rg_of_eq ex_1104 (rg_add h_1032 (rg_k (2 : Int32) 2 rfl) (by decide))
                have uh_1105 := h_1105.1
                have vh_1105 := h_1105.2
                have tx_1104 : (x_1104).toInt = (x_1031).toInt + 2 := by rw [ex_1104]; exact i_add_rg (a2 := (x_1031).toInt) (b2 := 2) rfl rfl h_1032 (rg_k (2 : Int32) 2 rfl) (by decide)
                refine pl_i hx hb hK hP hL_w_1022 hK_w_1022 hN_w_1022 (rg_in h_1105 (by decide)) dX12_found_69 ?_
                refine lv_topi (fun x_1106 ex_1106 => ?_)
                refine lv_iload_n hx hb dX12_found_70 rfl (lv_at hl 2 rfl) ?_
                refine lv_bipush (v := 20) hx hb dX12_found_71 (by decide) ?_
                refine lv_isub hx hb dX12_found_73 ?_
                refine lv_topi (fun x_1107 ex_1107 => ?_)
                have h_1108 : rg x_1107 0 19 := rg_of_eq ex_1107 (rg_sub h_1103 (rg_k (20 : Int32) 20 rfl) (by decide))
                have uh_1108 := h_1108.1
                have vh_1108 := h_1108.2
                have tx_1107 : (x_1107).toInt = (a0).toInt - 20 := by rw [ex_1107]; exact i_sub_rg (a2 := (a0).toInt) (b2 := 20) rfl rfl h_1103 (rg_k (20 : Int32) 20 rfl) (by decide)
                refine lv_ishr hx hb dX12_found_74 ?_
                refine lv_topi (fun x_1109 ex_1109 => ?_)
                exact K_1066 x_1109 _ _ _ hG hP hD hS (lv_sub hl [1, 2, 3, 4, 0] rfl)
              · have tc_1110 : (a0).toInt < 20 := Int32.lt_iff_toInt_lt.mp (nle c_1101)
                have h_1111 : rg a0 0 19 := rg_lt1 (nle c_1101) f_540 (rg_k (20 : Int32) 20 rfl) (by decide)
                have uh_1111 := h_1111.1
                have vh_1111 := h_1111.2
                refine lv_aload_n hx hb dX12_found_47 rfl (lv_at hl 1 rfl) ?_
                refine pg_f (v := .ref w_1022) (C := RX12) (T := TX12) (N := 31) hx hb hts (tw_i inlX12) hown hK hP hL_this hK_this (by decide) rfl 0 (by decide) (hts _ (tw_c tw_176)) (pq_hv rfl hR_w_1022) dX12_found_48 ?_
                refine lv_iload hx hb dX12_found_51 (lv_at hl 0 rfl) ?_
                refine lv_iconst (v := 1) hx hb dX12_found_53 (by decide) ?_
                refine lv_iadd hx hb dX12_found_54 ?_
                refine lv_topi (fun x_1112 ex_1112 => ?_)
                have h_1113 : rg x_1112 2401 2517 := rg_of_eq ex_1112 (rg_add h_1032 (rg_k (1 : Int32) 1 rfl) (by decide))
                have uh_1113 := h_1113.1
                have vh_1113 := h_1113.2
                have tx_1112 : (x_1112).toInt = (x_1031).toInt + 1 := by rw [ex_1112]; exact i_add_rg (a2 := (x_1031).toInt) (b2 := 1) rfl rfl h_1032 (rg_k (1 : Int32) 1 rfl) (by decide)
                refine pl_i hx hb hK hP hL_w_1022 hK_w_1022 hN_w_1022 (rg_in h_1113 (by decide)) dX12_found_55 ?_
                refine lv_topi (fun x_1114 ex_1114 => ?_)
                refine lv_iload_n hx hb dX12_found_56 rfl (lv_at hl 2 rfl) ?_
                refine lv_ishr hx hb dX12_found_57 ?_
                refine lv_topi (fun x_1115 ex_1115 => ?_)
                refine lv_goto (tgt := 75) hx hb dX12_found_58 (by decide) ?_
                exact K_1066 x_1115 _ _ _ hG hP hD hS (lv_sub hl [1, 2, 3, 4, 0] rfl)
        exact L_1016 _ a1 (0 : Int32) _ _ _ (rg_w h_545 (by decide)) (rg_w (rg_k (0 : Int32) 0 rfl) (by decide)) (Nat.lt_succ_self _) hG hP hD hS (lv_sub hl [2, 3, 1, 0] rfl)
      · have tc_1116 : (a1).toInt < 0 := Int32.lt_iff_toInt_lt.mp (nle c_543)
        have h_1117 : rg a1 (-2147483648) (-1) := rg_lt1 (nle c_543) (rg_full _) (rg_k (0 : Int32) 0 rfl) (by decide)
        have uh_1117 := h_1117.1
        have vh_1117 := h_1117.2
        exact K_535 _ _ _ hG hP hD hS (lv_sub hl [] rfl)
  exact go _ _ _ hP hD hS hl

set_option maxHeartbeats 4000000 in
set_option maxRecDepth 100000 in
theorem s_X12_image (l : Launch) (D : va_G) (t : pq_T) (σ : pq_S) (I : Nat → Nat → Int32) (J : Nat → Nat → Int64) (ri : Nat → Nat → Int32) (rj : Nat → Nat → Int64) (rq : Nat → Nat → Option Nat) (sz : Nat) (tg : Nat → Nat) (hSH : SH σ tg) (hG0 : GT tg I ri) (this : Nat) (hL_this : this ∈ σ.1) (hK_this : σ.2.1 this = 12) : MetI l yX12_image (wa yX12_image cX12_image 1 (some .int)) ({ frames := 1, cells := 0, slots := 0, locals := 22 }) [.ref this] D t σ (I, J, ri, rj, rq) sz 0 0 (fun (r : Int32) (u : pq_S × pq_M) => ∃ ri' : Nat → Nat → Int32, u = (σ, I, J, ri', rj, rq) ∧ GM [2000] tg σ I ri I ri' rq ∧ rg r 0 600) := by
  refine Met.ofW (cc := cX12_image) (maxL := 1) (ret := (some .int)) (by decide) rfl ?_
  intro p e s m args below meth c s₁ B hml hv
  obtain ⟨rfl, hsz, hP, hK, hD0, hN⟩ := hv
  have hx := B.exec
  have hb := B.bytes
  have hr := B.returns
  have hts := atoms_spec (ws := (wa yX12_image cX12_image 1 (some .int))) B.pre
  have hown : s.vm.findClass RX12 = some m.cls := findClass_of_methodNamed B.named
  have hlocks := B.notSynchronized
  subst hsz
  have hD : va_D (pq_B t σ (I, J, ri, rj, rq) s.heap.size) (pq_P t σ (I, J, ri, rj, rq)) := hD0.self
  generalize hAe : pq_B t σ (I, J, ri, rj, rq) s.heap.size = A at hD ⊢
  have hA : ∀ q : Nat, s.heap.size ≤ q → A q := fun q h => by rw [← hAe]; exact Or.inr h
  have hS : va_S A s.heap s.heap [] := va_S.rf
  have hG : GM [2000] tg σ I ri I ri rq := ⟨hG0, fun _ _ _ => rfl, fun _ _ _ _ _ => rfl, fun _ _ _ _ _ _ => rfl⟩
  have hl := lv_entry ([.ref this]) (n := 1) (Nat.le_of_ble_eq_true rfl)
  rw [lg_entry_eq]
  generalize (lg_sl ([.ref this]) ++ List.replicate (1 - (lg_sl ([.ref this])).length) Slot.unset).toArray = ls at hl ⊢
  have hl : lv_has ls 1 [(0, .ref this)] := hl
  refine q_gen (fun Q hQ => ?_)
  have go : ∀ (H : Heap) (locs : List Loc) (ls : Array Slot), va_P D vwCl (pq_P t σ (I, J, ri, rj, rq)) H → va_D A (pq_P t σ (I, J, ri, rj, rq)) → va_S A s.heap H locs → lv_has ls 1 [(0, .ref this)] → W p l e ({ frames := 1, cells := 0, slots := 0, locals := 22 } : Room) s m (List.toArray ([.ref this] : List Value)) below meth c H locs 0 0 Q (F0 m 0 ls []) := by
    intro H locs ls hP hD hS hl
    refine lv_aload_n hx hb dX12_image_0 rfl (lv_at hl 0 rfl) ?_
    obtain ⟨w_1, hR_w_1, hL_w_1, hK_w_1, hN_w_1, hT_w_1⟩ := sh_a hSH 384 (ci := 12) (kd := 13) (len := 12720) rfl (by decide) hL_this hK_this
    refine pg_f (v := .ref w_1) (C := RX12) (T := TX12) (N := 31) hx hb hts (tw_i inlX12) hown hK hP hL_this hK_this (by decide) rfl 0 (by decide) (hts _ (tw_c tw_176)) (pq_hv rfl hR_w_1) dX12_image_1 ?_
    refine lv_aload_n hx hb dX12_image_4 rfl (lv_at hl 0 rfl) ?_
    obtain ⟨w_2, hR_w_2, hL_w_2, hK_w_2, hN_w_2, hT_w_2⟩ := sh_a hSH 385 (ci := 12) (kd := 13) (len := 12720) rfl (by decide) hL_this hK_this
    refine pg_f (v := .ref w_2) (C := RX12) (T := TX12) (N := 31) hx hb hts (tw_i inlX12) hown hK hP hL_this hK_this (by decide) rfl 1 (by decide) (hts _ (tw_c tw_177)) (pq_hv rfl hR_w_2) dX12_image_5 ?_
    refine pk_v (va_runS (As := [.ref w_1, .ref w_2]) (rest := []) ⟨hx, hb, hml, hown, hts⟩ (c_X12_copy l D t σ I J ri rj rq H.size w_1 w_2 12720 hL_w_1 hK_w_1 hN_w_1 hL_w_2 hK_w_2 hN_w_2 rfl (tg_ne hT_w_1 hT_w_2 (by decide))) (va_cwS 2 hts (tw_S tw_192 tw_193 tw_5 tw_194) rfl rfl rfl (by decide +kernel) ⟨Nat.le_of_ble_eq_true rfl, Nat.le_of_ble_eq_true rfl⟩) ⟨pq_blind, pq_pre hK hN hP hD⟩ rfl rfl hl.1 rfl (lv_room (Nat.le_of_ble_eq_true rfl)) dX12_image_8 ⟨Nat.le_of_ble_eq_true rfl, Nat.le_of_ble_eq_true rfl⟩) hD hS hA (fun σ1 μ1 H locs hw_4 hP hD hS => ?_)
    obtain ⟨ri_5, hu_6, hp_9, hp_10⟩ := hw_4
    obtain ⟨hu_6a, hu_6b⟩ := Prod.mk.inj hu_6
    rw [hu_6a, hu_6b] at hP hD
    have tt_11 : (ri_5 w_2 0).toInt = (ri w_1 0).toInt := congrArg Int32.toInt (hp_9 0 (by decide))
    have hG := GM.cp hG hT_w_1 hT_w_2 (by decide) hp_9 hp_10 (by decide)
    refine lv_aload_n hx hb dX12_image_11 rfl (lv_at hl 0 rfl) ?_
    refine pg_f (v := .ref w_1) (C := RX12) (T := TX12) (N := 31) hx hb hts (tw_i inlX12) hown hK hP hL_this hK_this (by decide) rfl 0 (by decide) (hts _ (tw_c tw_176)) (pq_hv rfl hR_w_1) dX12_image_12 ?_
    refine lv_iconst (v := 0) hx hb dX12_image_15 (by decide) ?_
    refine pl_i hx hb hK hP hL_w_1 hK_w_1 hN_w_1 (vp_in_iff.mpr (by decide)) dX12_image_16 ?_
    refine lv_tov (ri w_1 0) (hG.2.2.1 w_1 hT_w_1 0 (by decide) (by decide)) ?_
    have h_12 : rg (ri w_1 0) 0 600 := GM.z0 hG0 (by rw [hT_w_1]; decide) (i := 0) (k := 0) (by decide) rfl
    have uh_12 := h_12.1
    have vh_12 := h_12.2
    subst hQ
    exact W.iret (v := (ri w_1 0)) hx hb hr (fun t1 ht hW => ⟨⟨(ri w_1 0), (σ, I, J, ri_5, rj, rq), rfl, ⟨ri_5, rfl, hG, (rg_w h_12 (by decide))⟩, by rw [ht]; exact hP, va_K.moved hW.alike hK, hD⟩, hS.F ht⟩) hS.2.2 dX12_image_17
  exact go _ _ _ hP hD hS hl

set_option maxHeartbeats 4000000 in
set_option maxRecDepth 100000 in
theorem s_X12_back (l : Launch) (D : va_G) (t : pq_T) (σ : pq_S) (I : Nat → Nat → Int32) (J : Nat → Nat → Int64) (ri : Nat → Nat → Int32) (rj : Nat → Nat → Int64) (rq : Nat → Nat → Option Nat) (sz : Nat) (tg : Nat → Nat) (hSH : SH σ tg) (hG0 : GT tg I ri) (this : Nat) (hL_this : this ∈ σ.1) (hK_this : σ.2.1 this = 12) : MetI l yX12_back (wa yX12_back cX12_back 1 (some .int)) ({ frames := 1, cells := 0, slots := 0, locals := 22 }) [.ref this] D t σ (I, J, ri, rj, rq) sz 0 0 (fun (r : Int32) (u : pq_S × pq_M) => ∃ ri' : Nat → Nat → Int32, u = (σ, I, J, ri', rj, rq) ∧ GM [1000, 1001, 1002, 1003, 1004, 1005, 1006, 1007, 1010, 1013, 1014, 1015, 1500, 1501, 1502, 1503, 1504, 1100, 1101, 1102, 1103, 1104, 1300, 1301, 1304, 1305, 1306, 1308, 1403, 1700, 1701, 1702] tg σ I ri I ri' rq ∧ rg r 0 600) := by
  refine Met.ofW (cc := cX12_back) (maxL := 1) (ret := (some .int)) (by decide) rfl ?_
  intro p e s m args below meth c s₁ B hml hv
  obtain ⟨rfl, hsz, hP, hK, hD0, hN⟩ := hv
  have hx := B.exec
  have hb := B.bytes
  have hr := B.returns
  have hts := atoms_spec (ws := (wa yX12_back cX12_back 1 (some .int))) B.pre
  have hown : s.vm.findClass RX12 = some m.cls := findClass_of_methodNamed B.named
  have hlocks := B.notSynchronized
  subst hsz
  have hD : va_D (pq_B t σ (I, J, ri, rj, rq) s.heap.size) (pq_P t σ (I, J, ri, rj, rq)) := hD0.self
  generalize hAe : pq_B t σ (I, J, ri, rj, rq) s.heap.size = A at hD ⊢
  have hA : ∀ q : Nat, s.heap.size ≤ q → A q := fun q h => by rw [← hAe]; exact Or.inr h
  have hS : va_S A s.heap s.heap [] := va_S.rf
  have hG : GM [1000, 1001, 1002, 1003, 1004, 1005, 1006, 1007, 1010, 1013, 1014, 1015, 1500, 1501, 1502, 1503, 1504, 1100, 1101, 1102, 1103, 1104, 1300, 1301, 1304, 1305, 1306, 1308, 1403, 1700, 1701, 1702] tg σ I ri I ri rq := ⟨hG0, fun _ _ _ => rfl, fun _ _ _ _ _ => rfl, fun _ _ _ _ _ _ => rfl⟩
  have hl := lv_entry ([.ref this]) (n := 1) (Nat.le_of_ble_eq_true rfl)
  rw [lg_entry_eq]
  generalize (lg_sl ([.ref this]) ++ List.replicate (1 - (lg_sl ([.ref this])).length) Slot.unset).toArray = ls at hl ⊢
  have hl : lv_has ls 1 [(0, .ref this)] := hl
  refine q_gen (fun Q hQ => ?_)
  have go : ∀ (H : Heap) (locs : List Loc) (ls : Array Slot), va_P D vwCl (pq_P t σ (I, J, ri, rj, rq)) H → va_D A (pq_P t σ (I, J, ri, rj, rq)) → va_S A s.heap H locs → lv_has ls 1 [(0, .ref this)] → W p l e ({ frames := 1, cells := 0, slots := 0, locals := 22 } : Room) s m (List.toArray ([.ref this] : List Value)) below meth c H locs 0 0 Q (F0 m 0 ls []) := by
    intro H locs ls hP hD hS hl
    refine lv_aload_n hx hb dX12_back_0 rfl (lv_at hl 0 rfl) ?_
    obtain ⟨w_1, hR_w_1, hL_w_1, hK_w_1, hN_w_1, hT_w_1⟩ := sh_a hSH 385 (ci := 12) (kd := 13) (len := 12720) rfl (by decide) hL_this hK_this
    refine pg_f (v := .ref w_1) (C := RX12) (T := TX12) (N := 31) hx hb hts (tw_i inlX12) hown hK hP hL_this hK_this (by decide) rfl 1 (by decide) (hts _ (tw_c tw_177)) (pq_hv rfl hR_w_1) dX12_back_1 ?_
    refine lv_aload_n hx hb dX12_back_4 rfl (lv_at hl 0 rfl) ?_
    obtain ⟨w_2, hR_w_2, hL_w_2, hK_w_2, hN_w_2, hT_w_2⟩ := sh_a hSH 384 (ci := 12) (kd := 13) (len := 12720) rfl (by decide) hL_this hK_this
    refine pg_f (v := .ref w_2) (C := RX12) (T := TX12) (N := 31) hx hb hts (tw_i inlX12) hown hK hP hL_this hK_this (by decide) rfl 0 (by decide) (hts _ (tw_c tw_176)) (pq_hv rfl hR_w_2) dX12_back_5 ?_
    refine pk_v (va_runS (As := [.ref w_1, .ref w_2]) (rest := []) ⟨hx, hb, hml, hown, hts⟩ (c_X12_copy l D t σ I J ri rj rq H.size w_1 w_2 12720 hL_w_1 hK_w_1 hN_w_1 hL_w_2 hK_w_2 hN_w_2 rfl (tg_ne hT_w_1 hT_w_2 (by decide))) (va_cwS 2 hts (tw_S tw_192 tw_193 tw_5 tw_194) rfl rfl rfl (by decide +kernel) ⟨Nat.le_of_ble_eq_true rfl, Nat.le_of_ble_eq_true rfl⟩) ⟨pq_blind, pq_pre hK hN hP hD⟩ rfl rfl hl.1 rfl (lv_room (Nat.le_of_ble_eq_true rfl)) dX12_back_8 ⟨Nat.le_of_ble_eq_true rfl, Nat.le_of_ble_eq_true rfl⟩) hD hS hA (fun σ1 μ1 H locs hw_4 hP hD hS => ?_)
    obtain ⟨ri_5, hu_6, hp_9, hp_10⟩ := hw_4
    obtain ⟨hu_6a, hu_6b⟩ := Prod.mk.inj hu_6
    rw [hu_6a, hu_6b] at hP hD
    have tt_11 : (ri_5 w_2 0).toInt = (ri w_1 0).toInt := congrArg Int32.toInt (hp_9 0 (by decide))
    have hG := GM.cp hG hT_w_1 hT_w_2 (by decide) hp_9 hp_10 (by decide)
    refine lv_aload_n hx hb dX12_back_11 rfl (lv_at hl 0 rfl) ?_
    refine pg_f (v := .ref w_2) (C := RX12) (T := TX12) (N := 31) hx hb hts (tw_i inlX12) hown hK hP hL_this hK_this (by decide) rfl 0 (by decide) (hts _ (tw_c tw_176)) (pq_hv rfl hR_w_2) dX12_back_12 ?_
    refine lv_iconst (v := 0) hx hb dX12_back_15 (by decide) ?_
    refine pl_i hx hb hK hP hL_w_2 hK_w_2 hN_w_2 (vp_in_iff.mpr (by decide)) dX12_back_16 ?_
    refine lv_topi (fun x_12 ex_12 => ?_)
    have h_13 : rg x_12 0 600 := rg_of_eq ex_12 (GM.z hG (by rw [hT_w_2]; decide) (show zn ((0 : Int32)).toNatClampNeg = 0 from by decide) rfl)
    have uh_13 := h_13.1
    have vh_13 := h_13.2
    subst hQ
    exact W.iret (v := x_12) hx hb hr (fun t1 ht hW => ⟨⟨x_12, (σ, I, J, ri_5, rj, rq), rfl, ⟨ri_5, rfl, hG, (rg_w h_13 (by decide))⟩, by rw [ht]; exact hP, va_K.moved hW.alike hK, hD⟩, hS.F ht⟩) hS.2.2 dX12_back_17
  exact go _ _ _ hP hD hS hl

set_option maxHeartbeats 4000000 in
set_option maxRecDepth 100000 in
theorem s_X12_about (l : Launch) (D : va_G) (t : pq_T) (σ : pq_S) (I : Nat → Nat → Int32) (J : Nat → Nat → Int64) (ri : Nat → Nat → Int32) (rj : Nat → Nat → Int64) (rq : Nat → Nat → Option Nat) (sz : Nat) (tg : Nat → Nat) (hSH : SH σ tg) (hG0 : GT tg I ri) (this : Nat) (a0 : Int32) (hL_this : this ∈ σ.1) (hK_this : σ.2.1 this = 12) : MetI l yX12_about (wa yX12_about cX12_about 4 (some .int)) ({ frames := 1, cells := 0, slots := 0, locals := 22 }) [.ref this, .int a0] D t σ (I, J, ri, rj, rq) sz 0 0 (fun (r : Int32) (u : pq_S × pq_M) => u = (σ, I, J, ri, rj, rq)) := by
  refine Met.ofW (cc := cX12_about) (maxL := 4) (ret := (some .int)) (by decide) rfl ?_
  intro p e s m args below meth c s₁ B hml hv
  obtain ⟨rfl, hsz, hP, hK, hD0, hN⟩ := hv
  have hx := B.exec
  have hb := B.bytes
  have hr := B.returns
  have hts := atoms_spec (ws := (wa yX12_about cX12_about 4 (some .int))) B.pre
  have hown : s.vm.findClass RX12 = some m.cls := findClass_of_methodNamed B.named
  have hlocks := B.notSynchronized
  subst hsz
  have hD : va_D (pq_B t σ (I, J, ri, rj, rq) s.heap.size) (pq_P t σ (I, J, ri, rj, rq)) := hD0.self
  generalize hAe : pq_B t σ (I, J, ri, rj, rq) s.heap.size = A at hD ⊢
  have hA : ∀ q : Nat, s.heap.size ≤ q → A q := fun q h => by rw [← hAe]; exact Or.inr h
  have hS : va_S A s.heap s.heap [] := va_S.rf
  have hG : GM [] tg σ I ri I ri rq := ⟨hG0, fun _ _ _ => rfl, fun _ _ _ _ _ => rfl, fun _ _ _ _ _ _ => rfl⟩
  have hl := lv_entry ([.ref this, .int a0]) (n := 4) (Nat.le_of_ble_eq_true rfl)
  rw [lg_entry_eq]
  generalize (lg_sl ([.ref this, .int a0]) ++ List.replicate (4 - (lg_sl ([.ref this, .int a0])).length) Slot.unset).toArray = ls at hl ⊢
  have hl : lv_has ls 4 [(0, .ref this), (1, .int a0)] := hl
  refine q_gen (fun Q hQ => ?_)
  have go : ∀ (H : Heap) (locs : List Loc) (ls : Array Slot), va_P D vwCl (pq_P t σ (I, J, ri, rj, rq)) H → va_D A (pq_P t σ (I, J, ri, rj, rq)) → va_S A s.heap H locs → lv_has ls 4 [(0, .ref this), (1, .int a0)] → W p l e ({ frames := 1, cells := 0, slots := 0, locals := 22 } : Room) s m (List.toArray ([.ref this, .int a0] : List Value)) below meth c H locs 0 0 Q (F0 m 0 ls []) := by
    intro H locs ls hP hD hS hl
    refine lv_iconst (v := 0) hx hb dX12_about_0 (by decide) ?_
    refine lv_istore_n (lv' := [(2, .int 0), (0, .ref this), (1, .int a0)]) hx hb dX12_about_1 rfl hl (by decide) rfl (fun ls hl => ?_)
    refine lv_iload_n hx hb dX12_about_2 rfl (lv_at hl 2 rfl) ?_
    by_cases k_1 : a0 = (13 : Int32)
    · have tc_2 : (a0).toInt = 13 := congrArg Int32.toInt k_1
      have h_3 : rg a0 13 13 := rg_and (rg_full _) (rg_of_eq k_1 (rg_k (13 : Int32) 13 rfl)) (by decide)
      have uh_3 := h_3.1
      have vh_3 := h_3.2
      refine lv_tov 13 k_1 ?_
      refine lv_tableIn (tgt := 32) hx hb dX12_about_3 (by decide) (by decide) rfl (by decide) ?_
      refine lv_aload_n hx hb dX12_about_32 rfl (lv_at hl 1 rfl) ?_
      refine pg_f (v := .int (I 388 this)) (C := RX12) (T := TX12) (N := 31) hx hb hts (tw_i inlX12) hown hK hP hL_this hK_this (by decide) rfl 4 (by decide) (hts _ (tw_c tw_631)) rfl dX12_about_33 ?_
      have h_4 : rg (I 388 this) 0 300 := GM.rI hG 388 rfl
      have uh_4 := h_4.1
      have vh_4 := h_4.2
      subst hQ
      exact W.iret (v := (I 388 this)) hx hb hr (fun t1 ht hW => ⟨⟨(I 388 this), (σ, I, J, ri, rj, rq), rfl, rfl, by rw [ht]; exact hP, va_K.moved hW.alike hK, hD⟩, hS.F ht⟩) hS.2.2 dX12_about_36
    by_cases k_5 : a0 = (14 : Int32)
    · have tc_6 : (a0).toInt = 14 := congrArg Int32.toInt k_5
      have h_7 : rg a0 14 14 := rg_and (rg_full _) (rg_of_eq k_5 (rg_k (14 : Int32) 14 rfl)) (by decide)
      have uh_7 := h_7.1
      have vh_7 := h_7.2
      refine lv_tov 14 k_5 ?_
      refine lv_tableIn (tgt := 37) hx hb dX12_about_3 (by decide) (by decide) rfl (by decide) ?_
      refine lv_iconst (v := 0) hx hb dX12_about_37 (by decide) ?_
      refine lv_istore_n (lv' := [(3, .int 0), (2, .int 0), (0, .ref this), (1, .int a0)]) hx hb dX12_about_38 rfl hl (by decide) rfl (fun ls hl => ?_)
      have L_244 : ∀ (n_243 : Nat) (x_224 : Int32) (x_225 : Int32) (H : Heap) (locs : List Loc) (ls : Array Slot), rg x_225 0 40 → (40 - (x_225).toInt).toNat < n_243 → GM [] tg σ I ri I ri rq → va_P D vwCl (pq_P t σ (I, J, ri, rj, rq)) H → va_D A (pq_P t σ (I, J, ri, rj, rq)) → va_S A s.heap H locs → lv_has ls 4 [(0, .ref this), (2, .int x_224), (3, .int x_225)] → W p l e ({ frames := 1, cells := 0, slots := 0, locals := 22 } : Room) s m (List.toArray ([.ref this, .int a0] : List Value)) below meth c H locs 0 0 Q (F0 m 39 ls []) := by
        intro n_243
        induction n_243 with
        | zero => intro x_224 x_225 H locs ls h_247 hm_242 hG hP hD hS hl; exact absurd hm_242 (Nat.not_lt_zero _)
        | succ n_243 ih_245 =>
          intro x_224 x_225 H locs ls h_247 hm_242 hG hP hD hS hl
          have uh_247 := h_247.1
          have vh_247 := h_247.2
          refine lv_iload_n hx hb dX12_about_39 rfl (lv_at hl 2 rfl) ?_
          refine lv_aload_n hx hb dX12_about_40 rfl (lv_at hl 0 rfl) ?_
          obtain ⟨w_248, hR_w_248, hL_w_248, hK_w_248, hN_w_248, hT_w_248⟩ := sh_a hSH 384 (ci := 12) (kd := 13) (len := 12720) rfl (by decide) hL_this hK_this
          refine pg_f (v := .ref w_248) (C := RX12) (T := TX12) (N := 31) hx hb hts (tw_i inlX12) hown hK hP hL_this hK_this (by decide) rfl 0 (by decide) (hts _ (tw_c tw_176)) (pq_hv rfl hR_w_248) dX12_about_41 ?_
          refine lv_iconst (v := 2) hx hb dX12_about_44 (by decide) ?_
          refine pl_i hx hb hK hP hL_w_248 hK_w_248 hN_w_248 (vp_in_iff.mpr (by decide)) dX12_about_45 ?_
          refine lv_tov (ri w_248 2) rfl ?_
          have h_249 : rg (ri w_248 2) 0 40 := GM.z0 hG0 (by rw [hT_w_248]; decide) (i := 2) (k := 2) (by decide) rfl
          have uh_249 := h_249.1
          have vh_249 := h_249.2
          refine lv_icmp_ge (tgt := 64) hx hb dX12_about_46 (by decide) (fun c_250 => ?_) (fun c_250 => ?_)
          · have tc_251 : (ri w_248 2).toInt ≤ (x_225).toInt := Int32.le_iff_toInt_le.mp c_250
            refine lv_iload_n hx hb dX12_about_64 rfl (lv_at hl 1 rfl) ?_
            subst hQ
            exact W.iret (v := x_224) hx hb hr (fun t1 ht hW => ⟨⟨x_224, (σ, I, J, ri, rj, rq), rfl, rfl, by rw [ht]; exact hP, va_K.moved hW.alike hK, hD⟩, hS.F ht⟩) hS.2.2 dX12_about_65
          · have tc_252 : (x_225).toInt < (ri w_248 2).toInt := Int32.lt_iff_toInt_lt.mp (nle c_250)
            have h_253 : rg x_225 0 39 := rg_lt1 (nle c_250) h_247 h_249 (by decide)
            have uh_253 := h_253.1
            have vh_253 := h_253.2
            have h_254 : rg (ri w_248 2) 1 40 := rg_lt2 (nle c_250) h_247 h_249 (by decide)
            have uh_254 := h_254.1
            have vh_254 := h_254.2
            refine lv_iload_n hx hb dX12_about_49 rfl (lv_at hl 1 rfl) ?_
            refine lv_aload_n hx hb dX12_about_50 rfl (lv_at hl 0 rfl) ?_
            refine lv_iload_n hx hb dX12_about_51 rfl (lv_at hl 2 rfl) ?_
            refine lv_iconst (v := 4) hx hb dX12_about_52 (by decide) ?_
            refine pk_i (va_runV (As := [.int x_225, .int 4]) (rest := [.int x_224]) ⟨hx, hb, hml, hown, hts⟩ (s_X12_cellAt_c4 l D t σ I J ri rj rq H.size tg hSH hG.1 this x_225 hL_this hK_this (rg_w h_253 (by decide))) (cwV 2 hts (tw_V tw_361 tw_362 tw_363 tw_5 tw_364) rfl rfl rfl (by decide +kernel) ⟨Nat.le_of_ble_eq_true rfl, Nat.le_of_ble_eq_true rfl⟩) ⟨pq_blind, pq_recv hK hP hL_this hK_this (by decide) rfl, pq_pre hK hN hP hD⟩ rfl rfl hl.1 rfl (lv_room (Nat.le_of_ble_eq_true rfl)) dX12_about_53 ⟨Nat.le_of_ble_eq_true rfl, Nat.le_of_ble_eq_true rfl⟩) hD hS hA (fun x_255 σ1 μ1 H locs hw_256 hP hD hS => ?_)
            have hu_257 := hw_256
            obtain ⟨hu_257a, hu_257b⟩ := Prod.mk.inj hu_257
            rw [hu_257a, hu_257b] at hP hD
            refine lv_iadd hx hb dX12_about_56 ?_
            refine lv_topi (fun x_260 ex_260 => ?_)
            refine lv_istore_n (lv' := [(2, .int x_260), (0, .ref this), (3, .int x_225)]) hx hb dX12_about_57 rfl hl (by decide) rfl (fun ls hl => ?_)
            obtain ⟨x_261, ex_261⟩ : ∃ y : Int32, y = x_225 + Int32.ofInt 1 := ⟨_, rfl⟩
            have h_262 : rg x_261 1 40 := rg_of_eq ex_261 (rg_add h_253 (rg_k (Int32.ofInt 1) 1 rfl) (by decide))
            have uh_262 := h_262.1
            have vh_262 := h_262.2
            have tx_261 : (x_261).toInt = (x_225).toInt + 1 := by rw [ex_261]; exact i_add_rg (a2 := (x_225).toInt) (b2 := 1) rfl rfl h_253 (rg_k (Int32.ofInt 1) 1 rfl) (by decide)
            refine lv_iinc (v := x_261) (lv' := [(3, .int x_261), (2, .int x_260), (0, .ref this)]) hx hb dX12_about_58 hl (k := 2) rfl ex_261.symm (by decide) rfl (fun ls hl => ?_)
            refine lv_goto (tgt := 39) hx hb dX12_about_61 (by decide) ?_
            exact ih_245 x_260 x_261 _ _ _ (rg_w h_262 (by decide)) (ms_up 1 hm_242 ex_261 rfl (by decide) h_253 (by decide) (by decide)) hG hP hD hS (lv_sub hl [2, 1, 0] rfl)
      exact L_244 _ (0 : Int32) (0 : Int32) _ _ _ (rg_w (rg_k (0 : Int32) 0 rfl) (by decide)) (Nat.lt_succ_self _) hG hP hD hS (lv_sub hl [2, 1, 0] rfl)
    by_cases k_263 : a0 = (15 : Int32)
    · have tc_264 : (a0).toInt = 15 := congrArg Int32.toInt k_263
      have h_265 : rg a0 15 15 := rg_and (rg_full _) (rg_of_eq k_263 (rg_k (15 : Int32) 15 rfl)) (by decide)
      have uh_265 := h_265.1
      have vh_265 := h_265.2
      refine lv_tov 15 k_263 ?_
      refine lv_tableIn (tgt := 66) hx hb dX12_about_3 (by decide) (by decide) rfl (by decide) ?_
      refine lv_iconst (v := 0) hx hb dX12_about_66 (by decide) ?_
      refine lv_istore_n (lv' := [(3, .int 0), (2, .int 0), (0, .ref this), (1, .int a0)]) hx hb dX12_about_67 rfl hl (by decide) rfl (fun ls hl => ?_)
      have L_515 : ∀ (n_514 : Nat) (x_494 : Int32) (x_495 : Int32) (H : Heap) (locs : List Loc) (ls : Array Slot), rg x_495 0 40 → (40 - (x_495).toInt).toNat < n_514 → GM [] tg σ I ri I ri rq → va_P D vwCl (pq_P t σ (I, J, ri, rj, rq)) H → va_D A (pq_P t σ (I, J, ri, rj, rq)) → va_S A s.heap H locs → lv_has ls 4 [(0, .ref this), (2, .int x_494), (3, .int x_495)] → W p l e ({ frames := 1, cells := 0, slots := 0, locals := 22 } : Room) s m (List.toArray ([.ref this, .int a0] : List Value)) below meth c H locs 0 0 Q (F0 m 68 ls []) := by
        intro n_514
        induction n_514 with
        | zero => intro x_494 x_495 H locs ls h_518 hm_513 hG hP hD hS hl; exact absurd hm_513 (Nat.not_lt_zero _)
        | succ n_514 ih_516 =>
          intro x_494 x_495 H locs ls h_518 hm_513 hG hP hD hS hl
          have uh_518 := h_518.1
          have vh_518 := h_518.2
          refine lv_iload_n hx hb dX12_about_68 rfl (lv_at hl 2 rfl) ?_
          refine lv_aload_n hx hb dX12_about_69 rfl (lv_at hl 0 rfl) ?_
          obtain ⟨w_519, hR_w_519, hL_w_519, hK_w_519, hN_w_519, hT_w_519⟩ := sh_a hSH 384 (ci := 12) (kd := 13) (len := 12720) rfl (by decide) hL_this hK_this
          refine pg_f (v := .ref w_519) (C := RX12) (T := TX12) (N := 31) hx hb hts (tw_i inlX12) hown hK hP hL_this hK_this (by decide) rfl 0 (by decide) (hts _ (tw_c tw_176)) (pq_hv rfl hR_w_519) dX12_about_70 ?_
          refine lv_iconst (v := 5) hx hb dX12_about_73 (by decide) ?_
          refine pl_i hx hb hK hP hL_w_519 hK_w_519 hN_w_519 (vp_in_iff.mpr (by decide)) dX12_about_74 ?_
          refine lv_tov (ri w_519 5) rfl ?_
          have h_520 : rg (ri w_519 5) 0 40 := GM.z0 hG0 (by rw [hT_w_519]; decide) (i := 5) (k := 5) (by decide) rfl
          have uh_520 := h_520.1
          have vh_520 := h_520.2
          refine lv_icmp_ge (tgt := 93) hx hb dX12_about_75 (by decide) (fun c_521 => ?_) (fun c_521 => ?_)
          · have tc_522 : (ri w_519 5).toInt ≤ (x_495).toInt := Int32.le_iff_toInt_le.mp c_521
            refine lv_iload_n hx hb dX12_about_93 rfl (lv_at hl 1 rfl) ?_
            subst hQ
            exact W.iret (v := x_494) hx hb hr (fun t1 ht hW => ⟨⟨x_494, (σ, I, J, ri, rj, rq), rfl, rfl, by rw [ht]; exact hP, va_K.moved hW.alike hK, hD⟩, hS.F ht⟩) hS.2.2 dX12_about_94
          · have tc_523 : (x_495).toInt < (ri w_519 5).toInt := Int32.lt_iff_toInt_lt.mp (nle c_521)
            have h_524 : rg x_495 0 39 := rg_lt1 (nle c_521) h_518 h_520 (by decide)
            have uh_524 := h_524.1
            have vh_524 := h_524.2
            have h_525 : rg (ri w_519 5) 1 40 := rg_lt2 (nle c_521) h_518 h_520 (by decide)
            have uh_525 := h_525.1
            have vh_525 := h_525.2
            refine lv_iload_n hx hb dX12_about_78 rfl (lv_at hl 1 rfl) ?_
            refine lv_aload_n hx hb dX12_about_79 rfl (lv_at hl 0 rfl) ?_
            refine lv_iload_n hx hb dX12_about_80 rfl (lv_at hl 2 rfl) ?_
            refine lv_iconst (v := 5) hx hb dX12_about_81 (by decide) ?_
            refine pk_i (va_runV (As := [.int x_495, .int 5]) (rest := [.int x_494]) ⟨hx, hb, hml, hown, hts⟩ (s_X12_personAt_c5 l D t σ I J ri rj rq H.size tg hSH hG.1 this x_495 hL_this hK_this (rg_w h_524 (by decide)) w_519 hR_w_519 hL_w_519 hK_w_519 hN_w_519 hT_w_519) (cwV 2 hts (tw_V tw_437 tw_438 tw_439 tw_5 tw_440) rfl rfl rfl (by decide +kernel) ⟨Nat.le_of_ble_eq_true rfl, Nat.le_of_ble_eq_true rfl⟩) ⟨pq_blind, pq_recv hK hP hL_this hK_this (by decide) rfl, pq_pre hK hN hP hD⟩ rfl rfl hl.1 rfl (lv_room (Nat.le_of_ble_eq_true rfl)) dX12_about_82 ⟨Nat.le_of_ble_eq_true rfl, Nat.le_of_ble_eq_true rfl⟩) hD hS hA (fun x_526 σ1 μ1 H locs hw_527 hP hD hS => ?_)
            obtain ⟨hu_528, hp_531⟩ := hw_527
            obtain ⟨hu_528a, hu_528b⟩ := Prod.mk.inj hu_528
            rw [hu_528a, hu_528b] at hP hD
            refine lv_iadd hx hb dX12_about_85 ?_
            refine lv_topi (fun x_532 ex_532 => ?_)
            refine lv_istore_n (lv' := [(2, .int x_532), (0, .ref this), (3, .int x_495)]) hx hb dX12_about_86 rfl hl (by decide) rfl (fun ls hl => ?_)
            obtain ⟨x_533, ex_533⟩ : ∃ y : Int32, y = x_495 + Int32.ofInt 1 := ⟨_, rfl⟩
            have h_534 : rg x_533 1 40 := rg_of_eq ex_533 (rg_add h_524 (rg_k (Int32.ofInt 1) 1 rfl) (by decide))
            have uh_534 := h_534.1
            have vh_534 := h_534.2
            have tx_533 : (x_533).toInt = (x_495).toInt + 1 := by rw [ex_533]; exact i_add_rg (a2 := (x_495).toInt) (b2 := 1) rfl rfl h_524 (rg_k (Int32.ofInt 1) 1 rfl) (by decide)
            refine lv_iinc (v := x_533) (lv' := [(3, .int x_533), (2, .int x_532), (0, .ref this)]) hx hb dX12_about_87 hl (k := 2) rfl ex_533.symm (by decide) rfl (fun ls hl => ?_)
            refine lv_goto (tgt := 68) hx hb dX12_about_90 (by decide) ?_
            exact ih_516 x_532 x_533 _ _ _ (rg_w h_534 (by decide)) (ms_up 1 hm_513 ex_533 rfl (by decide) h_524 (by decide) (by decide)) hG hP hD hS (lv_sub hl [2, 1, 0] rfl)
      exact L_515 _ (0 : Int32) (0 : Int32) _ _ _ (rg_w (rg_k (0 : Int32) 0 rfl) (by decide)) (Nat.lt_succ_self _) hG hP hD hS (lv_sub hl [2, 1, 0] rfl)
    by_cases k_535 : a0 = (16 : Int32)
    · have tc_536 : (a0).toInt = 16 := congrArg Int32.toInt k_535
      have h_537 : rg a0 16 16 := rg_and (rg_full _) (rg_of_eq k_535 (rg_k (16 : Int32) 16 rfl)) (by decide)
      have uh_537 := h_537.1
      have vh_537 := h_537.2
      refine lv_tov 16 k_535 ?_
      refine lv_tableIn (tgt := 95) hx hb dX12_about_3 (by decide) (by decide) rfl (by decide) ?_
      refine lv_iconst (v := 0) hx hb dX12_about_95 (by decide) ?_
      refine lv_istore_n (lv' := [(3, .int 0), (2, .int 0), (0, .ref this), (1, .int a0)]) hx hb dX12_about_96 rfl hl (by decide) rfl (fun ls hl => ?_)
      have L_787 : ∀ (n_786 : Nat) (x_766 : Int32) (x_767 : Int32) (H : Heap) (locs : List Loc) (ls : Array Slot), rg x_767 0 40 → (40 - (x_767).toInt).toNat < n_786 → GM [] tg σ I ri I ri rq → va_P D vwCl (pq_P t σ (I, J, ri, rj, rq)) H → va_D A (pq_P t σ (I, J, ri, rj, rq)) → va_S A s.heap H locs → lv_has ls 4 [(0, .ref this), (2, .int x_766), (3, .int x_767)] → W p l e ({ frames := 1, cells := 0, slots := 0, locals := 22 } : Room) s m (List.toArray ([.ref this, .int a0] : List Value)) below meth c H locs 0 0 Q (F0 m 97 ls []) := by
        intro n_786
        induction n_786 with
        | zero => intro x_766 x_767 H locs ls h_790 hm_785 hG hP hD hS hl; exact absurd hm_785 (Nat.not_lt_zero _)
        | succ n_786 ih_788 =>
          intro x_766 x_767 H locs ls h_790 hm_785 hG hP hD hS hl
          have uh_790 := h_790.1
          have vh_790 := h_790.2
          refine lv_iload_n hx hb dX12_about_97 rfl (lv_at hl 2 rfl) ?_
          refine lv_aload_n hx hb dX12_about_98 rfl (lv_at hl 0 rfl) ?_
          obtain ⟨w_791, hR_w_791, hL_w_791, hK_w_791, hN_w_791, hT_w_791⟩ := sh_a hSH 384 (ci := 12) (kd := 13) (len := 12720) rfl (by decide) hL_this hK_this
          refine pg_f (v := .ref w_791) (C := RX12) (T := TX12) (N := 31) hx hb hts (tw_i inlX12) hown hK hP hL_this hK_this (by decide) rfl 0 (by decide) (hts _ (tw_c tw_176)) (pq_hv rfl hR_w_791) dX12_about_99 ?_
          refine lv_iconst (v := 5) hx hb dX12_about_102 (by decide) ?_
          refine pl_i hx hb hK hP hL_w_791 hK_w_791 hN_w_791 (vp_in_iff.mpr (by decide)) dX12_about_103 ?_
          refine lv_tov (ri w_791 5) rfl ?_
          have h_792 : rg (ri w_791 5) 0 40 := GM.z0 hG0 (by rw [hT_w_791]; decide) (i := 5) (k := 5) (by decide) rfl
          have uh_792 := h_792.1
          have vh_792 := h_792.2
          refine lv_icmp_ge (tgt := 123) hx hb dX12_about_104 (by decide) (fun c_793 => ?_) (fun c_793 => ?_)
          · have tc_794 : (ri w_791 5).toInt ≤ (x_767).toInt := Int32.le_iff_toInt_le.mp c_793
            refine lv_iload_n hx hb dX12_about_123 rfl (lv_at hl 1 rfl) ?_
            subst hQ
            exact W.iret (v := x_766) hx hb hr (fun t1 ht hW => ⟨⟨x_766, (σ, I, J, ri, rj, rq), rfl, rfl, by rw [ht]; exact hP, va_K.moved hW.alike hK, hD⟩, hS.F ht⟩) hS.2.2 dX12_about_124
          · have tc_795 : (x_767).toInt < (ri w_791 5).toInt := Int32.lt_iff_toInt_lt.mp (nle c_793)
            have h_796 : rg x_767 0 39 := rg_lt1 (nle c_793) h_790 h_792 (by decide)
            have uh_796 := h_796.1
            have vh_796 := h_796.2
            have h_797 : rg (ri w_791 5) 1 40 := rg_lt2 (nle c_793) h_790 h_792 (by decide)
            have uh_797 := h_797.1
            have vh_797 := h_797.2
            refine lv_iload_n hx hb dX12_about_107 rfl (lv_at hl 1 rfl) ?_
            refine lv_aload_n hx hb dX12_about_108 rfl (lv_at hl 0 rfl) ?_
            refine lv_iload_n hx hb dX12_about_109 rfl (lv_at hl 2 rfl) ?_
            refine lv_bipush (v := 6) hx hb dX12_about_110 (by decide) ?_
            refine pk_i (va_runV (As := [.int x_767, .int 6]) (rest := [.int x_766]) ⟨hx, hb, hml, hown, hts⟩ (s_X12_personAt_c6 l D t σ I J ri rj rq H.size tg hSH hG.1 this x_767 hL_this hK_this (rg_w h_796 (by decide)) w_791 hR_w_791 hL_w_791 hK_w_791 hN_w_791 hT_w_791) (cwV 2 hts (tw_V tw_437 tw_438 tw_439 tw_5 tw_440) rfl rfl rfl (by decide +kernel) ⟨Nat.le_of_ble_eq_true rfl, Nat.le_of_ble_eq_true rfl⟩) ⟨pq_blind, pq_recv hK hP hL_this hK_this (by decide) rfl, pq_pre hK hN hP hD⟩ rfl rfl hl.1 rfl (lv_room (Nat.le_of_ble_eq_true rfl)) dX12_about_112 ⟨Nat.le_of_ble_eq_true rfl, Nat.le_of_ble_eq_true rfl⟩) hD hS hA (fun x_798 σ1 μ1 H locs hw_799 hP hD hS => ?_)
            obtain ⟨hu_800, hp_803⟩ := hw_799
            obtain ⟨hu_800a, hu_800b⟩ := Prod.mk.inj hu_800
            rw [hu_800a, hu_800b] at hP hD
            refine lv_iadd hx hb dX12_about_115 ?_
            refine lv_topi (fun x_804 ex_804 => ?_)
            refine lv_istore_n (lv' := [(2, .int x_804), (0, .ref this), (3, .int x_767)]) hx hb dX12_about_116 rfl hl (by decide) rfl (fun ls hl => ?_)
            obtain ⟨x_805, ex_805⟩ : ∃ y : Int32, y = x_767 + Int32.ofInt 1 := ⟨_, rfl⟩
            have h_806 : rg x_805 1 40 := rg_of_eq ex_805 (rg_add h_796 (rg_k (Int32.ofInt 1) 1 rfl) (by decide))
            have uh_806 := h_806.1
            have vh_806 := h_806.2
            have tx_805 : (x_805).toInt = (x_767).toInt + 1 := by rw [ex_805]; exact i_add_rg (a2 := (x_767).toInt) (b2 := 1) rfl rfl h_796 (rg_k (Int32.ofInt 1) 1 rfl) (by decide)
            refine lv_iinc (v := x_805) (lv' := [(3, .int x_805), (2, .int x_804), (0, .ref this)]) hx hb dX12_about_117 hl (k := 2) rfl ex_805.symm (by decide) rfl (fun ls hl => ?_)
            refine lv_goto (tgt := 97) hx hb dX12_about_120 (by decide) ?_
            exact ih_788 x_804 x_805 _ _ _ (rg_w h_806 (by decide)) (ms_up 1 hm_785 ex_805 rfl (by decide) h_796 (by decide) (by decide)) hG hP hD hS (lv_sub hl [2, 1, 0] rfl)
      exact L_787 _ (0 : Int32) (0 : Int32) _ _ _ (rg_w (rg_k (0 : Int32) 0 rfl) (by decide)) (Nat.lt_succ_self _) hG hP hD hS (lv_sub hl [2, 1, 0] rfl)
    refine lv_tableOut (tgt := 125) hx hb dX12_about_3 (by have z_k_1 := sw_ne k_1 (n := 13) rfl; have z_k_5 := sw_ne k_5 (n := 14) rfl; have z_k_263 := sw_ne k_263 (n := 15) rfl; have z_k_535 := sw_ne k_535 (n := 16) rfl; omega) (by decide) ?_
    refine lv_iload_n hx hb dX12_about_125 rfl (lv_at hl 2 rfl) ?_
    refine lv_iconst (v := 0) hx hb dX12_about_126 (by decide) ?_
    refine lv_bipush (v := 12) hx hb dX12_about_127 (by decide) ?_
    refine pk_i (va_runS (As := [.int a0, .int 0, .int 12]) (rest := []) ⟨hx, hb, hml, hown, hts⟩ (s_X12_isIn l D t σ I J ri rj rq H.size tg hSH hG.1 a0 (0 : Int32) (12 : Int32)) (va_cwS 3 hts (tw_S tw_235 tw_236 tw_5 tw_237) rfl rfl rfl (by decide +kernel) ⟨Nat.le_of_ble_eq_true rfl, Nat.le_of_ble_eq_true rfl⟩) ⟨pq_blind, pq_pre hK hN hP hD⟩ rfl rfl hl.1 rfl (lv_room (Nat.le_of_ble_eq_true rfl)) dX12_about_129 ⟨Nat.le_of_ble_eq_true rfl, Nat.le_of_ble_eq_true rfl⟩) hD hS hA (fun x_807 σ1 μ1 H locs hw_808 hP hD hS => ?_)
    obtain ⟨hu_809, hr_811⟩ := hw_808
    obtain ⟨hu_809a, hu_809b⟩ := Prod.mk.inj hu_809
    rw [hu_809a, hu_809b] at hP hD
    have h_812 : rg x_807 0 1 := by rcases hr_811 with ⟨q, -⟩ | ⟨q, -⟩ <;> rw [q] <;> exact ⟨by decide, by decide⟩
    have uh_812 := h_812.1
    have vh_812 := h_812.2
    refine lv_if_eq (tgt := 144) hx hb dX12_about_132 (by decide) (fun c_813 => ?_) (fun c_813 => ?_)
    · have f_814 := (hr_811.resolve_left (fun q => absurd (q.1.symm.trans c_813) (by decide))).2
      have tc_815 : (x_807).toInt = 0 := congrArg Int32.toInt c_813
      have h_816 : rg x_807 0 0 := rg_and h_812 (rg_of_eq c_813 (rg_k (0 : Int32) 0 rfl)) (by decide)
      have uh_816 := h_816.1
      have vh_816 := h_816.2
      refine lv_ldcw hx hb hown (hts _ (tw_c tw_1566)) dX12_about_144 ?_
      subst hQ
      exact W.iret (v := (-1000000000)) hx hb hr (fun t1 ht hW => ⟨⟨(-1000000000), (σ, I, J, ri, rj, rq), rfl, rfl, by rw [ht]; exact hP, va_K.moved hW.alike hK, hD⟩, hS.F ht⟩) hS.2.2 dX12_about_147
    · obtain ⟨f_817, f_818⟩ := (hr_811.resolve_right (fun q => c_813 q.1)).2
      have tc_819 : 0 ≤ (a0).toInt := Int32.le_iff_toInt_le.mp f_817
      have h_820 : rg a0 0 2147483647 := rg_le2 f_817 (rg_k (0 : Int32) 0 rfl) (rg_full _) (by decide)
      have uh_820 := h_820.1
      have vh_820 := h_820.2
      have tc_821 : (a0).toInt ≤ 12 := Int32.le_iff_toInt_le.mp f_818
      have h_822 : rg a0 0 12 := rg_le1 f_818 h_820 (rg_k (12 : Int32) 12 rfl) (by decide)
      have uh_822 := h_822.1
      have vh_822 := h_822.2
      have tc_823 : (x_807).toInt ≠ 0 := fun q => c_813 (Int32.toInt_inj.mp q)
      have h_824 : rg x_807 1 1 := rg_ne c_813 h_812 0 rfl (by decide)
      have uh_824 := h_824.1
      have vh_824 := h_824.2
      refine lv_aload_n hx hb dX12_about_135 rfl (lv_at hl 1 rfl) ?_
      obtain ⟨w_825, hR_w_825, hL_w_825, hK_w_825, hN_w_825, hT_w_825⟩ := sh_a hSH 384 (ci := 12) (kd := 13) (len := 12720) rfl (by decide) hL_this hK_this
      refine pg_f (v := .ref w_825) (C := RX12) (T := TX12) (N := 31) hx hb hts (tw_i inlX12) hown hK hP hL_this hK_this (by decide) rfl 0 (by decide) (hts _ (tw_c tw_176)) (pq_hv rfl hR_w_825) dX12_about_136 ?_
      refine lv_iload_n hx hb dX12_about_139 rfl (lv_at hl 2 rfl) ?_
      refine pl_i hx hb hK hP hL_w_825 hK_w_825 hN_w_825 (rg_in h_822 (by decide)) dX12_about_140 ?_
      refine lv_topi (fun x_826 ex_826 => ?_)
      refine lv_goto (tgt := 147) hx hb dX12_about_141 (by decide) ?_
      subst hQ
      exact W.iret (v := x_826) hx hb hr (fun t1 ht hW => ⟨⟨x_826, (σ, I, J, ri, rj, rq), rfl, rfl, by rw [ht]; exact hP, va_K.moved hW.alike hK, hD⟩, hS.F ht⟩) hS.2.2 dX12_about_147
  exact go _ _ _ hP hD hS hl
