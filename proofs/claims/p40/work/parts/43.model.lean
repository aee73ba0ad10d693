theorem dX12_order_0 : decode cX12_order 0 = .ok (.aload_n 0, 1) := oc_42 (by decide +kernel)
theorem dX12_order_1 : decode cX12_order 1 = .ok (.iload_n 2, 1) := oc_28 (by decide +kernel)
theorem dX12_order_2 : decode cX12_order 2 = .ok (.bipush 12, 2) := oc_16 (a := 12) (by decide +kernel)
theorem dX12_order_4 : decode cX12_order 4 = .ok (.iload_n 1, 1) := oc_27 (by decide +kernel)
theorem dX12_order_5 : decode cX12_order 5 = .ok (.invokevirtual 369, 3) := oc_182 (a := 1) (b := 113) (by decide +kernel)
theorem dX12_order_24 : decode cX12_order 24 = .ok (.iconst (-1), 1) := oc_2 (by decide +kernel)
theorem dX12_order_25 : decode cX12_order 25 = .ok (.ireturn, 1) := oc_172 (by decide +kernel)
theorem dX12_order_8 : decode cX12_order 8 = .ok (.ifCond .eq 16, 3) := oc_153 (a := 0) (b := 16) (by decide +kernel)
theorem dX12_order_11 : decode cX12_order 11 = .ok (.iload_n 3, 1) := oc_29 (by decide +kernel)
theorem dX12_order_12 : decode cX12_order 12 = .ok (.iconst (-1), 1) := oc_2 (by decide +kernel)
theorem dX12_order_26 : decode cX12_order 26 = .ok (.aload_n 0, 1) := oc_42 (by decide +kernel)
theorem dX12_order_27 : decode cX12_order 27 = .ok (.getfield 7, 3) := oc_180 (a := 0) (b := 7) (by decide +kernel)
theorem dX12_order_30 : decode cX12_order 30 = .ok (.aload_n 0, 1) := oc_42 (by decide +kernel)
theorem dX12_order_31 : decode cX12_order 31 = .ok (.getfield 16, 3) := oc_180 (a := 0) (b := 16) (by decide +kernel)
theorem dX12_order_34 : decode cX12_order 34 = .ok (.invokestatic 58, 3) := oc_184 (a := 0) (b := 58) (by decide +kernel)
theorem dX12_order_37 : decode cX12_order 37 = .ok (.aload_n 0, 1) := oc_42 (by decide +kernel)
theorem dX12_order_38 : decode cX12_order 38 = .ok (.getfield 7, 3) := oc_180 (a := 0) (b := 7) (by decide +kernel)
theorem dX12_order_41 : decode cX12_order 41 = .ok (.iconst 1, 1) := oc_4 (by decide +kernel)
theorem dX12_order_42 : decode cX12_order 42 = .ok (.iaload, 1) := oc_46 (by decide +kernel)
theorem dX12_order_43 : decode cX12_order 43 = .ok (.istore 4, 2) := oc_54 (by decide +kernel)
theorem dX12_order_45 : decode cX12_order 45 = .ok (.iconst 0, 1) := oc_3 (by decide +kernel)
theorem dX12_order_46 : decode cX12_order 46 = .ok (.istore 5, 2) := oc_54 (by decide +kernel)
theorem dX12_order_48 : decode cX12_order 48 = .ok (.iload 5, 2) := oc_21 (by decide +kernel)
theorem dX12_order_50 : decode cX12_order 50 = .ok (.iconst 5, 1) := oc_8 (by decide +kernel)
theorem dX12_order_51 : decode cX12_order 51 = .ok (.if_icmp .ge 18, 3) := oc_162 (a := 0) (b := 18) (by decide +kernel)
theorem dX12_order_69 : decode cX12_order 69 = .ok (.iconst (-1), 1) := oc_2 (by decide +kernel)
theorem dX12_order_70 : decode cX12_order 70 = .ok (.istore 5, 2) := oc_54 (by decide +kernel)
theorem dX12_order_72 : decode cX12_order 72 = .ok (.aload_n 0, 1) := oc_42 (by decide +kernel)
theorem dX12_order_73 : decode cX12_order 73 = .ok (.iconst 1, 1) := oc_4 (by decide +kernel)
theorem dX12_order_74 : decode cX12_order 74 = .ok (.putfield 328, 3) := oc_181 (a := 1) (b := 72) (by decide +kernel)
theorem dX12_order_77 : decode cX12_order 77 = .ok (.iconst 1, 1) := oc_4 (by decide +kernel)
theorem dX12_order_78 : decode cX12_order 78 = .ok (.istore 6, 2) := oc_54 (by decide +kernel)
theorem dX12_order_80 : decode cX12_order 80 = .ok (.iload 6, 2) := oc_21 (by decide +kernel)
theorem dX12_order_82 : decode cX12_order 82 = .ok (.ifCond .eq 136, 3) := oc_153 (a := 0) (b := 136) (by decide +kernel)
theorem dX12_order_218 : decode cX12_order 218 = .ok (.aload_n 0, 1) := oc_42 (by decide +kernel)
theorem dX12_order_219 : decode cX12_order 219 = .ok (.iconst 0, 1) := oc_3 (by decide +kernel)
theorem dX12_order_220 : decode cX12_order 220 = .ok (.putfield 328, 3) := oc_181 (a := 1) (b := 72) (by decide +kernel)
theorem dX12_order_223 : decode cX12_order 223 = .ok (.iload_n 3, 1) := oc_29 (by decide +kernel)
theorem dX12_order_224 : decode cX12_order 224 = .ok (.iconst (-1), 1) := oc_2 (by decide +kernel)
theorem dX12_order_225 : decode cX12_order 225 = .ok (.if_icmp .ne 8, 3) := oc_160 (a := 0) (b := 8) (by decide +kernel)
theorem dX12_order_233 : decode cX12_order 233 = .ok (.aload_n 0, 1) := oc_42 (by decide +kernel)
theorem tw_190 : Cond.fieldLink RX12 52 "RingsUnderModel" "bestRow" "[I" ∈ wsL_law := sg_8 _ (List.mem_of_getElem? (i := 22) rfl)
theorem dX12_order_234 : decode cX12_order 234 = .ok (.getfield 52, 3) := oc_180 (a := 0) (b := 52) (by decide +kernel)
theorem dX12_order_237 : decode cX12_order 237 = .ok (.iload_n 3, 1) := oc_29 (by decide +kernel)
theorem dX12_order_238 : decode cX12_order 238 = .ok (.iaload, 1) := oc_46 (by decide +kernel)
theorem dX12_order_239 : decode cX12_order 239 = .ok (.ireturn, 1) := oc_172 (by decide +kernel)
theorem dX12_order_228 : decode cX12_order 228 = .ok (.iload 5, 2) := oc_21 (by decide +kernel)
theorem dX12_order_230 : decode cX12_order 230 = .ok (.goto 9, 3) := oc_167 (a := 0) (b := 9) (by decide +kernel)
theorem dX12_order_85 : decode cX12_order 85 = .ok (.iconst 0, 1) := oc_3 (by decide +kernel)
theorem dX12_order_86 : decode cX12_order 86 = .ok (.istore 7, 2) := oc_54 (by decide +kernel)
theorem dX12_order_88 : decode cX12_order 88 = .ok (.iload 7, 2) := oc_21 (by decide +kernel)
theorem dX12_order_90 : decode cX12_order 90 = .ok (.iload 4, 2) := oc_21 (by decide +kernel)
theorem dX12_order_92 : decode cX12_order 92 = .ok (.if_icmp .ge 23, 3) := oc_162 (a := 0) (b := 23) (by decide +kernel)
theorem dX12_order_115 : decode cX12_order 115 = .ok (.aload_n 0, 1) := oc_42 (by decide +kernel)
theorem tw_1487 : Cond.methodLink RX12 378 yX12_wants ∈ wsL_law := sg_62 _ (List.mem_of_getElem? (i := 23) rfl)
theorem tw_1488 : Cond.instanceMethod yX12_wants ∈ wsL_law := sg_63 _ (List.mem_of_getElem? (i := 0) rfl)
theorem tw_1489 : Cond.selects RX12 yX12_wants yX12_wants ∈ wsL_law := sg_63 _ (List.mem_of_getElem? (i := 1) rfl)
theorem tw_1490 : Cond.code yX12_wants cX12_wants 3 (some .int) ∈ wsL_law := sg_63 _ (List.mem_of_getElem? (i := 2) rfl)
theorem dX12_order_116 : decode cX12_order 116 = .ok (.invokevirtual 378, 3) := oc_182 (a := 1) (b := 122) (by decide +kernel)
theorem dX12_order_119 : decode cX12_order 119 = .ok (.istore 7, 2) := oc_54 (by decide +kernel)
theorem dX12_order_121 : decode cX12_order 121 = .ok (.iconst 0, 1) := oc_3 (by decide +kernel)
theorem dX12_order_122 : decode cX12_order 122 = .ok (.istore 8, 2) := oc_54 (by decide +kernel)
theorem dX12_order_124 : decode cX12_order 124 = .ok (.iload 8, 2) := oc_21 (by decide +kernel)
theorem dX12_order_126 : decode cX12_order 126 = .ok (.iload_n 2, 1) := oc_28 (by decide +kernel)
theorem dX12_order_127 : decode cX12_order 127 = .ok (.if_icmp .ge 14, 3) := oc_162 (a := 0) (b := 14) (by decide +kernel)
theorem dX12_order_141 : decode cX12_order 141 = .ok (.aload_n 0, 1) := oc_42 (by decide +kernel)
theorem dX12_order_142 : decode cX12_order 142 = .ok (.invokevirtual 378, 3) := oc_182 (a := 1) (b := 122) (by decide +kernel)
theorem dX12_order_145 : decode cX12_order 145 = .ok (.iload 7, 2) := oc_21 (by decide +kernel)
theorem dX12_order_147 : decode cX12_order 147 = .ok (.isub, 1) := oc_100 (by decide +kernel)
theorem dX12_order_148 : decode cX12_order 148 = .ok (.istore 8, 2) := oc_54 (by decide +kernel)
theorem dX12_order_150 : decode cX12_order 150 = .ok (.aload_n 0, 1) := oc_42 (by decide +kernel)
theorem dX12_order_151 : decode cX12_order 151 = .ok (.getfield 16, 3) := oc_180 (a := 0) (b := 16) (by decide +kernel)
theorem dX12_order_154 : decode cX12_order 154 = .ok (.aload_n 0, 1) := oc_42 (by decide +kernel)
theorem dX12_order_155 : decode cX12_order 155 = .ok (.getfield 7, 3) := oc_180 (a := 0) (b := 7) (by decide +kernel)
theorem dX12_order_158 : decode cX12_order 158 = .ok (.invokestatic 58, 3) := oc_184 (a := 0) (b := 58) (by decide +kernel)
theorem dX12_order_161 : decode cX12_order 161 = .ok (.iload 5, 2) := oc_21 (by decide +kernel)
theorem dX12_order_173 : decode cX12_order 173 = .ok (.iload 8, 2) := oc_21 (by decide +kernel)
theorem dX12_order_175 : decode cX12_order 175 = .ok (.istore 5, 2) := oc_54 (by decide +kernel)
theorem dX12_order_177 : decode cX12_order 177 = .ok (.iconst 0, 1) := oc_3 (by decide +kernel)
theorem dX12_order_178 : decode cX12_order 178 = .ok (.istore 9, 2) := oc_54 (by decide +kernel)
theorem dX12_order_180 : decode cX12_order 180 = .ok (.iload 9, 2) := oc_21 (by decide +kernel)
theorem dX12_order_182 : decode cX12_order 182 = .ok (.iload 4, 2) := oc_21 (by decide +kernel)
theorem dX12_order_184 : decode cX12_order 184 = .ok (.if_icmp .ge 23, 3) := oc_162 (a := 0) (b := 23) (by decide +kernel)
theorem dX12_order_207 : decode cX12_order 207 = .ok (.aload_n 0, 1) := oc_42 (by decide +kernel)
theorem dX12_order_208 : decode cX12_order 208 = .ok (.iload 4, 2) := oc_21 (by decide +kernel)
theorem tw_1491 : Cond.methodLink RX12 381 yX12_nextOrder ∈ wsL_law := sg_63 _ (List.mem_of_getElem? (i := 3) rfl)
theorem tw_1492 : Cond.instanceMethod yX12_nextOrder ∈ wsL_law := sg_63 _ (List.mem_of_getElem? (i := 4) rfl)
theorem tw_1493 : Cond.selects RX12 yX12_nextOrder yX12_nextOrder ∈ wsL_law := sg_63 _ (List.mem_of_getElem? (i := 5) rfl)
theorem tw_1494 : Cond.code yX12_nextOrder cX12_nextOrder 7 (some .boolean) ∈ wsL_law := sg_63 _ (List.mem_of_getElem? (i := 6) rfl)
theorem dX12_order_210 : decode cX12_order 210 = .ok (.invokevirtual 381, 3) := oc_182 (a := 1) (b := 125) (by decide +kernel)
theorem dX12_order_213 : decode cX12_order 213 = .ok (.istore 6, 2) := oc_54 (by decide +kernel)
theorem dX12_order_215 : decode cX12_order 215 = .ok (.goto (-135), 3) := oc_167 (a := 255) (b := 121) (by decide +kernel)
theorem dX12_order_187 : decode cX12_order 187 = .ok (.aload_n 0, 1) := oc_42 (by decide +kernel)
theorem dX12_order_188 : decode cX12_order 188 = .ok (.getfield 52, 3) := oc_180 (a := 0) (b := 52) (by decide +kernel)
theorem dX12_order_191 : decode cX12_order 191 = .ok (.iload 9, 2) := oc_21 (by decide +kernel)
theorem dX12_order_193 : decode cX12_order 193 = .ok (.aload_n 0, 1) := oc_42 (by decide +kernel)
theorem dX12_order_194 : decode cX12_order 194 = .ok (.getfield 55, 3) := oc_180 (a := 0) (b := 55) (by decide +kernel)
theorem dX12_order_197 : decode cX12_order 197 = .ok (.iload 9, 2) := oc_21 (by decide +kernel)
theorem dX12_order_199 : decode cX12_order 199 = .ok (.iaload, 1) := oc_46 (by decide +kernel)
theorem dX12_order_200 : decode cX12_order 200 = .ok (.iastore, 1) := oc_79 (by decide +kernel)
theorem dX12_order_201 : decode cX12_order 201 = .ok (.iinc 9 1, 3) := oc_132 (b := 1) (by decide +kernel)
theorem dX12_order_204 : decode cX12_order 204 = .ok (.goto (-24), 3) := oc_167 (a := 255) (b := 232) (by decide +kernel)
theorem dX12_order_163 : decode cX12_order 163 = .ok (.ifCond .lt 10, 3) := oc_155 (a := 0) (b := 10) (by decide +kernel)
theorem dX12_order_166 : decode cX12_order 166 = .ok (.iload 8, 2) := oc_21 (by decide +kernel)
theorem dX12_order_168 : decode cX12_order 168 = .ok (.iload 5, 2) := oc_21 (by decide +kernel)
theorem dX12_order_170 : decode cX12_order 170 = .ok (.if_icmp .ge 37, 3) := oc_162 (a := 0) (b := 37) (by decide +kernel)
theorem dX12_order_130 : decode cX12_order 130 = .ok (.aload_n 0, 1) := oc_42 (by decide +kernel)
theorem dX12_order_131 : decode cX12_order 131 = .ok (.iload_n 1, 1) := oc_27 (by decide +kernel)
theorem dX12_order_132 : decode cX12_order 132 = .ok (.invokevirtual 372, 3) := oc_182 (a := 1) (b := 116) (by decide +kernel)
theorem dX12_order_135 : decode cX12_order 135 = .ok (.iinc 8 1, 3) := oc_132 (b := 1) (by decide +kernel)
theorem dX12_order_138 : decode cX12_order 138 = .ok (.goto (-14), 3) := oc_167 (a := 255) (b := 242) (by decide +kernel)
theorem dX12_order_95 : decode cX12_order 95 = .ok (.aload_n 0, 1) := oc_42 (by decide +kernel)
theorem dX12_order_96 : decode cX12_order 96 = .ok (.getfield 40, 3) := oc_180 (a := 0) (b := 40) (by decide +kernel)
theorem dX12_order_99 : decode cX12_order 99 = .ok (.aload_n 0, 1) := oc_42 (by decide +kernel)
theorem dX12_order_100 : decode cX12_order 100 = .ok (.getfield 55, 3) := oc_180 (a := 0) (b := 55) (by decide +kernel)
theorem dX12_order_103 : decode cX12_order 103 = .ok (.iload 7, 2) := oc_21 (by decide +kernel)
theorem dX12_order_105 : decode cX12_order 105 = .ok (.iaload, 1) := oc_46 (by decide +kernel)
theorem dX12_order_106 : decode cX12_order 106 = .ok (.iload 7, 2) := oc_21 (by decide +kernel)
theorem dX12_order_108 : decode cX12_order 108 = .ok (.iastore, 1) := oc_79 (by decide +kernel)
theorem dX12_order_109 : decode cX12_order 109 = .ok (.iinc 7 1, 3) := oc_132 (b := 1) (by decide +kernel)
theorem dX12_order_112 : decode cX12_order 112 = .ok (.goto (-24), 3) := oc_167 (a := 255) (b := 232) (by decide +kernel)
theorem dX12_order_54 : decode cX12_order 54 = .ok (.aload_n 0, 1) := oc_42 (by decide +kernel)
theorem dX12_order_55 : decode cX12_order 55 = .ok (.getfield 55, 3) := oc_180 (a := 0) (b := 55) (by decide +kernel)
theorem dX12_order_58 : decode cX12_order 58 = .ok (.iload 5, 2) := oc_21 (by decide +kernel)
theorem dX12_order_60 : decode cX12_order 60 = .ok (.iload 5, 2) := oc_21 (by decide +kernel)
theorem dX12_order_62 : decode cX12_order 62 = .ok (.iastore, 1) := oc_79 (by decide +kernel)
theorem dX12_order_63 : decode cX12_order 63 = .ok (.iinc 5 1, 3) := oc_132 (b := 1) (by decide +kernel)
theorem dX12_order_66 : decode cX12_order 66 = .ok (.goto (-18), 3) := oc_167 (a := 255) (b := 238) (by decide +kernel)
theorem dX12_order_13 : decode cX12_order 13 = .ok (.if_icmp .eq 13, 3) := oc_159 (a := 0) (b := 13) (by decide +kernel)
theorem dX12_order_16 : decode cX12_order 16 = .ok (.aload_n 0, 1) := oc_42 (by decide +kernel)
theorem dX12_order_17 : decode cX12_order 17 = .ok (.iload_n 3, 1) := oc_29 (by decide +kernel)
theorem dX12_order_18 : decode cX12_order 18 = .ok (.invokevirtual 66, 3) := oc_182 (a := 0) (b := 66) (by decide +kernel)
theorem dX12_order_21 : decode cX12_order 21 = .ok (.ifCond .ne 5, 3) := oc_154 (a := 0) (b := 5) (by decide +kernel)
theorem dX12_lies_0 : decode cX12_lies 0 = .ok (.sipush 2400, 3) := oc_17 (a := 9) (b := 96) (by decide +kernel)
theorem dX12_lies_3 : decode cX12_lies 3 = .ok (.iconst 4, 1) := oc_7 (by decide +kernel)
theorem dX12_lies_4 : decode cX12_lies 4 = .ok (.iload_n 1, 1) := oc_27 (by decide +kernel)
theorem dX12_lies_5 : decode cX12_lies 5 = .ok (.imul, 1) := oc_104 (by decide +kernel)
theorem dX12_lies_6 : decode cX12_lies 6 = .ok (.iadd, 1) := oc_96 (by decide +kernel)
theorem dX12_lies_7 : decode cX12_lies 7 = .ok (.istore_n 3, 1) := oc_62 (by decide +kernel)
theorem dX12_lies_8 : decode cX12_lies 8 = .ok (.aload_n 0, 1) := oc_42 (by decide +kernel)
theorem dX12_lies_9 : decode cX12_lies 9 = .ok (.getfield 7, 3) := oc_180 (a := 0) (b := 7) (by decide +kernel)
theorem dX12_lies_12 : decode cX12_lies 12 = .ok (.iload_n 3, 1) := oc_29 (by decide +kernel)
theorem dX12_lies_13 : decode cX12_lies 13 = .ok (.iload_n 2, 1) := oc_28 (by decide +kernel)
theorem dX12_lies_14 : decode cX12_lies 14 = .ok (.iastore, 1) := oc_79 (by decide +kernel)
theorem dX12_lies_15 : decode cX12_lies 15 = .ok (.iload_n 2, 1) := oc_28 (by decide +kernel)
theorem dX12_lies_16 : decode cX12_lies 16 = .ok (.bipush 20, 2) := oc_16 (a := 20) (by decide +kernel)
theorem dX12_lies_18 : decode cX12_lies 18 = .ok (.if_icmp .ge 20, 3) := oc_162 (a := 0) (b := 20) (by decide +kernel)
theorem dX12_lies_38 : decode cX12_lies 38 = .ok (.aload_n 0, 1) := oc_42 (by decide +kernel)
theorem dX12_lies_39 : decode cX12_lies 39 = .ok (.getfield 7, 3) := oc_180 (a := 0) (b := 7) (by decide +kernel)
theorem dX12_lies_42 : decode cX12_lies 42 = .ok (.iload_n 3, 1) := oc_29 (by decide +kernel)
theorem dX12_lies_43 : decode cX12_lies 43 = .ok (.iconst 2, 1) := oc_5 (by decide +kernel)
theorem dX12_lies_44 : decode cX12_lies 44 = .ok (.iadd, 1) := oc_96 (by decide +kernel)
theorem dX12_lies_45 : decode cX12_lies 45 = .ok (.dup2, 1) := oc_92 (by decide +kernel)
theorem dX12_lies_46 : decode cX12_lies 46 = .ok (.iaload, 1) := oc_46 (by decide +kernel)
theorem dX12_lies_47 : decode cX12_lies 47 = .ok (.iconst 1, 1) := oc_4 (by decide +kernel)
theorem dX12_lies_48 : decode cX12_lies 48 = .ok (.iload_n 2, 1) := oc_28 (by decide +kernel)
theorem dX12_lies_49 : decode cX12_lies 49 = .ok (.bipush 20, 2) := oc_16 (a := 20) (by decide +kernel)
theorem dX12_lies_51 : decode cX12_lies 51 = .ok (.isub, 1) := oc_100 (by decide +kernel)
theorem dX12_lies_52 : decode cX12_lies 52 = .ok (.ishl, 1) := oc_120 (by decide +kernel)
theorem dX12_lies_53 : decode cX12_lies 53 = .ok (.ior, 1) := oc_128 (by decide +kernel)
theorem dX12_lies_54 : decode cX12_lies 54 = .ok (.iastore, 1) := oc_79 (by decide +kernel)
theorem dX12_lies_55 : decode cX12_lies 55 = .ok (.return_, 1) := oc_177 (by decide +kernel)
theorem dX12_lies_21 : decode cX12_lies 21 = .ok (.aload_n 0, 1) := oc_42 (by decide +kernel)
theorem dX12_lies_22 : decode cX12_lies 22 = .ok (.getfield 7, 3) := oc_180 (a := 0) (b := 7) (by decide +kernel)
theorem dX12_lies_25 : decode cX12_lies 25 = .ok (.iload_n 3, 1) := oc_29 (by decide +kernel)
theorem dX12_lies_26 : decode cX12_lies 26 = .ok (.iconst 1, 1) := oc_4 (by decide +kernel)
theorem dX12_lies_27 : decode cX12_lies 27 = .ok (.iadd, 1) := oc_96 (by decide +kernel)
theorem dX12_lies_28 : decode cX12_lies 28 = .ok (.dup2, 1) := oc_92 (by decide +kernel)
theorem dX12_lies_29 : decode cX12_lies 29 = .ok (.iaload, 1) := oc_46 (by decide +kernel)
theorem dX12_lies_30 : decode cX12_lies 30 = .ok (.iconst 1, 1) := oc_4 (by decide +kernel)
theorem dX12_lies_31 : decode cX12_lies 31 = .ok (.iload_n 2, 1) := oc_28 (by decide +kernel)
theorem dX12_lies_32 : decode cX12_lies 32 = .ok (.ishl, 1) := oc_120 (by decide +kernel)
theorem dX12_lies_33 : decode cX12_lies 33 = .ok (.ior, 1) := oc_128 (by decide +kernel)
theorem dX12_lies_34 : decode cX12_lies 34 = .ok (.iastore, 1) := oc_79 (by decide +kernel)
theorem dX12_lies_35 : decode cX12_lies 35 = .ok (.goto 20, 3) := oc_167 (a := 0) (b := 20) (by decide +kernel)
theorem dX12_grave_0 : decode cX12_grave 0 = .ok (.aload_n 0, 1) := oc_42 (by decide +kernel)
theorem dX12_grave_1 : decode cX12_grave 1 = .ok (.iload_n 1, 1) := oc_27 (by decide +kernel)
theorem dX12_grave_2 : decode cX12_grave 2 = .ok (.invokevirtual 88, 3) := oc_182 (a := 0) (b := 88) (by decide +kernel)
theorem dX12_grave_20 : decode cX12_grave 20 = .ok (.iconst (-1), 1) := oc_2 (by decide +kernel)
theorem dX12_grave_21 : decode cX12_grave 21 = .ok (.ireturn, 1) := oc_172 (by decide +kernel)
theorem dX12_grave_5 : decode cX12_grave 5 = .ok (.ifCond .eq 15, 3) := oc_153 (a := 0) (b := 15) (by decide +kernel)
theorem dX12_grave_8 : decode cX12_grave 8 = .ok (.aload_n 0, 1) := oc_42 (by decide +kernel)
theorem dX12_grave_9 : decode cX12_grave 9 = .ok (.getfield 7, 3) := oc_180 (a := 0) (b := 7) (by decide +kernel)
theorem dX12_grave_12 : decode cX12_grave 12 = .ok (.bipush 10, 2) := oc_16 (a := 10) (by decide +kernel)
theorem dX12_grave_14 : decode cX12_grave 14 = .ok (.iaload, 1) := oc_46 (by decide +kernel)
theorem dX12_grave_15 : decode cX12_grave 15 = .ok (.bipush 30, 2) := oc_16 (a := 30) (by decide +kernel)
theorem dX12_grave_17 : decode cX12_grave 17 = .ok (.if_icmp .ne 5, 3) := oc_160 (a := 0) (b := 5) (by decide +kernel)
theorem dX12_grave_22 : decode cX12_grave 22 = .ok (.aload_n 0, 1) := oc_42 (by decide +kernel)
theorem dX12_grave_23 : decode cX12_grave 23 = .ok (.aload_n 0, 1) := oc_42 (by decide +kernel)
theorem dX12_grave_24 : decode cX12_grave 24 = .ok (.getfield 7, 3) := oc_180 (a := 0) (b := 7) (by decide +kernel)
theorem dX12_grave_27 : decode cX12_grave 27 = .ok (.bipush 10, 2) := oc_16 (a := 10) (by decide +kernel)
theorem dX12_grave_29 : decode cX12_grave 29 = .ok (.iaload, 1) := oc_46 (by decide +kernel)
theorem dX12_grave_30 : decode cX12_grave 30 = .ok (.iload_n 1, 1) := oc_27 (by decide +kernel)
theorem tw_1509 : Cond.methodLink RX12 384 yX12_lies ∈ wsL_law := sg_63 _ (List.mem_of_getElem? (i := 21) rfl)
theorem tw_1510 : Cond.instanceMethod yX12_lies ∈ wsL_law := sg_63 _ (List.mem_of_getElem? (i := 22) rfl)
theorem tw_1511 : Cond.selects RX12 yX12_lies yX12_lies ∈ wsL_law := sg_63 _ (List.mem_of_getElem? (i := 23) rfl)
theorem tw_1512 : Cond.code yX12_lies cX12_lies 4 none ∈ wsL_law := sg_64 _ (List.mem_of_getElem? (i := 0) rfl)
theorem dX12_grave_31 : decode cX12_grave 31 = .ok (.invokevirtual 384, 3) := oc_182 (a := 1) (b := 128) (by decide +kernel)
theorem dX12_grave_34 : decode cX12_grave 34 = .ok (.aload_n 0, 1) := oc_42 (by decide +kernel)
theorem dX12_grave_35 : decode cX12_grave 35 = .ok (.getfield 7, 3) := oc_180 (a := 0) (b := 7) (by decide +kernel)
theorem dX12_grave_38 : decode cX12_grave 38 = .ok (.bipush 10, 2) := oc_16 (a := 10) (by decide +kernel)
theorem dX12_grave_40 : decode cX12_grave 40 = .ok (.dup2, 1) := oc_92 (by decide +kernel)
theorem dX12_grave_41 : decode cX12_grave 41 = .ok (.iaload, 1) := oc_46 (by decide +kernel)
theorem dX12_grave_42 : decode cX12_grave 42 = .ok (.iconst 1, 1) := oc_4 (by decide +kernel)
theorem dX12_grave_43 : decode cX12_grave 43 = .ok (.iadd, 1) := oc_96 (by decide +kernel)
theorem dX12_grave_44 : decode cX12_grave 44 = .ok (.iastore, 1) := oc_79 (by decide +kernel)
theorem dX12_grave_45 : decode cX12_grave 45 = .ok (.aload_n 0, 1) := oc_42 (by decide +kernel)
theorem dX12_grave_46 : decode cX12_grave 46 = .ok (.getfield 7, 3) := oc_180 (a := 0) (b := 7) (by decide +kernel)
theorem dX12_grave_49 : decode cX12_grave 49 = .ok (.bipush 10, 2) := oc_16 (a := 10) (by decide +kernel)
theorem dX12_grave_51 : decode cX12_grave 51 = .ok (.iaload, 1) := oc_46 (by decide +kernel)
theorem dX12_grave_52 : decode cX12_grave 52 = .ok (.iconst 1, 1) := oc_4 (by decide +kernel)
theorem dX12_grave_53 : decode cX12_grave 53 = .ok (.isub, 1) := oc_100 (by decide +kernel)
theorem dX12_grave_54 : decode cX12_grave 54 = .ok (.ireturn, 1) := oc_172 (by decide +kernel)
theorem dX12_bury_0 : decode cX12_bury 0 = .ok (.iload_n 1, 1) := oc_27 (by decide +kernel)
theorem dX12_bury_1 : decode cX12_bury 1 = .ok (.iconst 0, 1) := oc_3 (by decide +kernel)
theorem dX12_bury_2 : decode cX12_bury 2 = .ok (.aload_n 0, 1) := oc_42 (by decide +kernel)
theorem dX12_bury_3 : decode cX12_bury 3 = .ok (.getfield 7, 3) := oc_180 (a := 0) (b := 7) (by decide +kernel)
theorem dX12_bury_6 : decode cX12_bury 6 = .ok (.bipush 10, 2) := oc_16 (a := 10) (by decide +kernel)
theorem dX12_bury_8 : decode cX12_bury 8 = .ok (.iaload, 1) := oc_46 (by decide +kernel)
theorem dX12_bury_9 : decode cX12_bury 9 = .ok (.iconst 1, 1) := oc_4 (by decide +kernel)
theorem dX12_bury_10 : decode cX12_bury 10 = .ok (.isub, 1) := oc_100 (by decide +kernel)
theorem dX12_bury_11 : decode cX12_bury 11 = .ok (.invokestatic 62, 3) := oc_184 (a := 0) (b := 62) (by decide +kernel)
theorem dX12_bury_41 : decode cX12_bury 41 = .ok (.iconst 0, 1) := oc_3 (by decide +kernel)
theorem dX12_bury_42 : decode cX12_bury 42 = .ok (.ireturn, 1) := oc_172 (by decide +kernel)
theorem dX12_bury_14 : decode cX12_bury 14 = .ok (.ifCond .eq 27, 3) := oc_153 (a := 0) (b := 27) (by decide +kernel)
theorem dX12_bury_17 : decode cX12_bury 17 = .ok (.aload_n 0, 1) := oc_42 (by decide +kernel)
theorem dX12_bury_18 : decode cX12_bury 18 = .ok (.iload_n 2, 1) := oc_28 (by decide +kernel)
theorem dX12_bury_19 : decode cX12_bury 19 = .ok (.invokevirtual 88, 3) := oc_182 (a := 0) (b := 88) (by decide +kernel)
theorem dX12_bury_22 : decode cX12_bury 22 = .ok (.ifCond .eq 19, 3) := oc_153 (a := 0) (b := 19) (by decide +kernel)
theorem dX12_bury_25 : decode cX12_bury 25 = .ok (.aload_n 0, 1) := oc_42 (by decide +kernel)
theorem dX12_bury_26 : decode cX12_bury 26 = .ok (.getfield 7, 3) := oc_180 (a := 0) (b := 7) (by decide +kernel)
theorem dX12_bury_29 : decode cX12_bury 29 = .ok (.sipush 2400, 3) := oc_17 (a := 9) (b := 96) (by decide +kernel)
theorem dX12_bury_32 : decode cX12_bury 32 = .ok (.iconst 4, 1) := oc_7 (by decide +kernel)
theorem dX12_bury_33 : decode cX12_bury 33 = .ok (.iload_n 1, 1) := oc_27 (by decide +kernel)
theorem dX12_bury_34 : decode cX12_bury 34 = .ok (.imul, 1) := oc_104 (by decide +kernel)
theorem dX12_bury_35 : decode cX12_bury 35 = .ok (.iadd, 1) := oc_96 (by decide +kernel)
theorem dX12_bury_36 : decode cX12_bury 36 = .ok (.iaload, 1) := oc_46 (by decide +kernel)
theorem dX12_bury_37 : decode cX12_bury 37 = .ok (.iload_n 2, 1) := oc_28 (by decide +kernel)
theorem dX12_bury_38 : decode cX12_bury 38 = .ok (.if_icmp .ne 5, 3) := oc_160 (a := 0) (b := 5) (by decide +kernel)
theorem dX12_bury_43 : decode cX12_bury 43 = .ok (.aload_n 0, 1) := oc_42 (by decide +kernel)
theorem dX12_bury_44 : decode cX12_bury 44 = .ok (.iload_n 1, 1) := oc_27 (by decide +kernel)
theorem dX12_bury_45 : decode cX12_bury 45 = .ok (.iload_n 2, 1) := oc_28 (by decide +kernel)
theorem dX12_bury_46 : decode cX12_bury 46 = .ok (.invokevirtual 384, 3) := oc_182 (a := 1) (b := 128) (by decide +kernel)
theorem dX12_bury_49 : decode cX12_bury 49 = .ok (.iconst 1, 1) := oc_4 (by decide +kernel)
theorem dX12_bury_50 : decode cX12_bury 50 = .ok (.ireturn, 1) := oc_172 (by decide +kernel)
theorem dX12_found_0 : decode cX12_found 0 = .ok (.aload_n 0, 1) := oc_42 (by decide +kernel)
theorem dX12_found_1 : decode cX12_found 1 = .ok (.iload_n 1, 1) := oc_27 (by decide +kernel)
theorem dX12_found_2 : decode cX12_found 2 = .ok (.invokevirtual 88, 3) := oc_182 (a := 0) (b := 88) (by decide +kernel)
theorem dX12_found_12 : decode cX12_found 12 = .ok (.iconst (-1), 1) := oc_2 (by decide +kernel)
theorem dX12_found_13 : decode cX12_found 13 = .ok (.ireturn, 1) := oc_172 (by decide +kernel)
theorem dX12_found_5 : decode cX12_found 5 = .ok (.ifCond .eq 7, 3) := oc_153 (a := 0) (b := 7) (by decide +kernel)
theorem dX12_found_8 : decode cX12_found 8 = .ok (.iload_n 2, 1) := oc_28 (by decide +kernel)
theorem dX12_found_9 : decode cX12_found 9 = .ok (.ifCond .ge 5, 3) := oc_156 (a := 0) (b := 5) (by decide +kernel)
theorem dX12_found_14 : decode cX12_found 14 = .ok (.iload_n 2, 1) := oc_28 (by decide +kernel)
theorem dX12_found_15 : decode cX12_found 15 = .ok (.istore_n 3, 1) := oc_62 (by decide +kernel)
theorem dX12_found_16 : decode cX12_found 16 = .ok (.iconst 0, 1) := oc_3 (by decide +kernel)
theorem dX12_found_17 : decode cX12_found 17 = .ok (.istore 4, 2) := oc_54 (by decide +kernel)
theorem dX12_found_19 : decode cX12_found 19 = .ok (.iload 4, 2) := oc_21 (by decide +kernel)
theorem dX12_found_21 : decode cX12_found 21 = .ok (.aload_n 0, 1) := oc_42 (by decide +kernel)
theorem dX12_found_22 : decode cX12_found 22 = .ok (.getfield 7, 3) := oc_180 (a := 0) (b := 7) (by decide +kernel)
theorem dX12_found_25 : decode cX12_found 25 = .ok (.bipush 10, 2) := oc_16 (a := 10) (by decide +kernel)
theorem dX12_found_27 : decode cX12_found 27 = .ok (.iaload, 1) := oc_46 (by decide +kernel)
theorem dX12_found_28 : decode cX12_found 28 = .ok (.if_icmp .ge 80, 3) := oc_162 (a := 0) (b := 80) (by decide +kernel)
theorem dX12_found_108 : decode cX12_found 108 = .ok (.iconst (-1), 1) := oc_2 (by decide +kernel)
theorem dX12_found_109 : decode cX12_found 109 = .ok (.ireturn, 1) := oc_172 (by decide +kernel)
theorem dX12_found_31 : decode cX12_found 31 = .ok (.sipush 2400, 3) := oc_17 (a := 9) (b := 96) (by decide +kernel)
theorem dX12_found_34 : decode cX12_found 34 = .ok (.iconst 4, 1) := oc_7 (by decide +kernel)
theorem dX12_found_35 : decode cX12_found 35 = .ok (.iload 4, 2) := oc_21 (by decide +kernel)
theorem dX12_found_37 : decode cX12_found 37 = .ok (.imul, 1) := oc_104 (by decide +kernel)
theorem dX12_found_38 : decode cX12_found 38 = .ok (.iadd, 1) := oc_96 (by decide +kernel)
theorem dX12_found_39 : decode cX12_found 39 = .ok (.istore 5, 2) := oc_54 (by decide +kernel)
theorem dX12_found_41 : decode cX12_found 41 = .ok (.iload_n 1, 1) := oc_27 (by decide +kernel)
theorem dX12_found_42 : decode cX12_found 42 = .ok (.bipush 20, 2) := oc_16 (a := 20) (by decide +kernel)
theorem dX12_found_75 : decode cX12_found 75 = .ok (.istore 6, 2) := oc_54 (by decide +kernel)
theorem dX12_found_77 : decode cX12_found 77 = .ok (.iload 6, 2) := oc_21 (by decide +kernel)
theorem dX12_found_79 : decode cX12_found 79 = .ok (.iconst 1, 1) := oc_4 (by decide +kernel)
theorem dX12_found_80 : decode cX12_found 80 = .ok (.iand, 1) := oc_126 (by decide +kernel)
theorem dX12_found_102 : decode cX12_found 102 = .ok (.iinc 4 1, 3) := oc_132 (b := 1) (by decide +kernel)
theorem dX12_found_105 : decode cX12_found 105 = .ok (.goto (-86), 3) := oc_167 (a := 255) (b := 170) (by decide +kernel)
theorem dX12_found_81 : decode cX12_found 81 = .ok (.ifCond .ne 6, 3) := oc_154 (a := 0) (b := 6) (by decide +kernel)
theorem dX12_found_87 : decode cX12_found 87 = .ok (.iload_n 3, 1) := oc_29 (by decide +kernel)
theorem dX12_found_88 : decode cX12_found 88 = .ok (.ifCond .ne 11, 3) := oc_154 (a := 0) (b := 11) (by decide +kernel)
theorem dX12_found_99 : decode cX12_found 99 = .ok (.iinc 3 (-1), 3) := oc_132 (b := 255) (by decide +kernel)
theorem dX12_found_91 : decode cX12_found 91 = .ok (.aload_n 0, 1) := oc_42 (by decide +kernel)
theorem dX12_found_92 : decode cX12_found 92 = .ok (.getfield 7, 3) := oc_180 (a := 0) (b := 7) (by decide +kernel)
theorem dX12_found_95 : decode cX12_found 95 = .ok (.iload 5, 2) := oc_21 (by decide +kernel)
theorem dX12_found_97 : decode cX12_found 97 = .ok (.iaload, 1) := oc_46 (by decide +kernel)
theorem dX12_found_98 : decode cX12_found 98 = .ok (.ireturn, 1) := oc_172 (by decide +kernel)
theorem dX12_found_84 : decode cX12_found 84 = .ok (.goto 18, 3) := oc_167 (a := 0) (b := 18) (by decide +kernel)
theorem dX12_found_44 : decode cX12_found 44 = .ok (.if_icmp .ge 17, 3) := oc_162 (a := 0) (b := 17) (by decide +kernel)
theorem dX12_found_61 : decode cX12_found 61 = .ok (.aload_n 0, 1) := oc_42 (by decide +kernel)
theorem dX12_found_62 : decode cX12_found 62 = .ok (.getfield 7, 3) := oc_180 (a := 0) (b := 7) (by decide +kernel)
theorem dX12_found_65 : decode cX12_found 65 = .ok (.iload 5, 2) := oc_21 (by decide +kernel)
theorem dX12_found_67 : decode cX12_found 67 = .ok (.iconst 2, 1) := oc_5 (by decide +kernel)
theorem dX12_found_68 : decode cX12_found 68 = .ok (.iadd, 1) := oc_96 (by decide +kernel)
theorem dX12_found_69 : decode cX12_found 69 = .ok (.iaload, 1) := oc_46 (by decide +kernel)
theorem dX12_found_70 : decode cX12_found 70 = .ok (.iload_n 1, 1) := oc_27 (by decide +kernel)
theorem dX12_found_71 : decode cX12_found 71 = .ok (.bipush 20, 2) := oc_16 (a := 20) (by decide +kernel)
theorem dX12_found_73 : decode cX12_found 73 = .ok (.isub, 1) := oc_100 (by decide +kernel)
theorem dX12_found_74 : decode cX12_found 74 = .ok (.ishr, 1) := oc_122 (by decide +kernel)
theorem dX12_found_47 : decode cX12_found 47 = .ok (.aload_n 0, 1) := oc_42 (by decide +kernel)
theorem dX12_found_48 : decode cX12_found 48 = .ok (.getfield 7, 3) := oc_180 (a := 0) (b := 7) (by decide +kernel)
theorem dX12_found_51 : decode cX12_found 51 = .ok (.iload 5, 2) := oc_21 (by decide +kernel)
theorem dX12_found_53 : decode cX12_found 53 = .ok (.iconst 1, 1) := oc_4 (by decide +kernel)
theorem dX12_found_54 : decode cX12_found 54 = .ok (.iadd, 1) := oc_96 (by decide +kernel)
theorem dX12_found_55 : decode cX12_found 55 = .ok (.iaload, 1) := oc_46 (by decide +kernel)
theorem dX12_found_56 : decode cX12_found 56 = .ok (.iload_n 1, 1) := oc_27 (by decide +kernel)
theorem dX12_found_57 : decode cX12_found 57 = .ok (.ishr, 1) := oc_122 (by decide +kernel)
theorem dX12_found_58 : decode cX12_found 58 = .ok (.goto 17, 3) := oc_167 (a := 0) (b := 17) (by decide +kernel)
theorem dX12_image_0 : decode cX12_image 0 = .ok (.aload_n 0, 1) := oc_42 (by decide +kernel)
theorem dX12_image_1 : decode cX12_image 1 = .ok (.getfield 7, 3) := oc_180 (a := 0) (b := 7) (by decide +kernel)
theorem dX12_image_4 : decode cX12_image 4 = .ok (.aload_n 0, 1) := oc_42 (by decide +kernel)
theorem tw_177 : Cond.fieldLink RX12 13 "RingsUnderModel" "image" "[I" ∈ wsL_law := sg_8 _ (List.mem_of_getElem? (i := 9) rfl)
theorem dX12_image_5 : decode cX12_image 5 = .ok (.getfield 13, 3) := oc_180 (a := 0) (b := 13) (by decide +kernel)
theorem dX12_image_8 : decode cX12_image 8 = .ok (.invokestatic 58, 3) := oc_184 (a := 0) (b := 58) (by decide +kernel)
theorem dX12_image_11 : decode cX12_image 11 = .ok (.aload_n 0, 1) := oc_42 (by decide +kernel)
theorem dX12_image_12 : decode cX12_image 12 = .ok (.getfield 7, 3) := oc_180 (a := 0) (b := 7) (by decide +kernel)
theorem dX12_image_15 : decode cX12_image 15 = .ok (.iconst 0, 1) := oc_3 (by decide +kernel)
theorem dX12_image_16 : decode cX12_image 16 = .ok (.iaload, 1) := oc_46 (by decide +kernel)
theorem dX12_image_17 : decode cX12_image 17 = .ok (.ireturn, 1) := oc_172 (by decide +kernel)
theorem dX12_back_0 : decode cX12_back 0 = .ok (.aload_n 0, 1) := oc_42 (by decide +kernel)
theorem dX12_back_1 : decode cX12_back 1 = .ok (.getfield 13, 3) := oc_180 (a := 0) (b := 13) (by decide +kernel)
theorem dX12_back_4 : decode cX12_back 4 = .ok (.aload_n 0, 1) := oc_42 (by decide +kernel)
theorem dX12_back_5 : decode cX12_back 5 = .ok (.getfield 7, 3) := oc_180 (a := 0) (b := 7) (by decide +kernel)
theorem dX12_back_8 : decode cX12_back 8 = .ok (.invokestatic 58, 3) := oc_184 (a := 0) (b := 58) (by decide +kernel)
theorem dX12_back_11 : decode cX12_back 11 = .ok (.aload_n 0, 1) := oc_42 (by decide +kernel)
theorem dX12_back_12 : decode cX12_back 12 = .ok (.getfield 7, 3) := oc_180 (a := 0) (b := 7) (by decide +kernel)
theorem dX12_back_15 : decode cX12_back 15 = .ok (.iconst 0, 1) := oc_3 (by decide +kernel)
theorem dX12_back_16 : decode cX12_back 16 = .ok (.iaload, 1) := oc_46 (by decide +kernel)
theorem dX12_back_17 : decode cX12_back 17 = .ok (.ireturn, 1) := oc_172 (by decide +kernel)
theorem dX12_about_0 : decode cX12_about 0 = .ok (.iconst 0, 1) := oc_3 (by decide +kernel)
theorem dX12_about_1 : decode cX12_about 1 = .ok (.istore_n 2, 1) := oc_61 (by decide +kernel)
theorem dX12_about_2 : decode cX12_about 2 = .ok (.iload_n 1, 1) := oc_27 (by decide +kernel)
theorem dX12_about_3 : decode cX12_about 3 = .ok (.tableswitch 122 13 16 #[29, 34, 63, 92], 29) := by decide +kernel
theorem dX12_about_32 : decode cX12_about 32 = .ok (.aload_n 0, 1) := oc_42 (by decide +kernel)
theorem dX12_about_33 : decode cX12_about 33 = .ok (.getfield 127, 3) := oc_180 (a := 0) (b := 127) (by decide +kernel)
theorem dX12_about_36 : decode cX12_about 36 = .ok (.ireturn, 1) := oc_172 (by decide +kernel)
theorem dX12_about_37 : decode cX12_about 37 = .ok (.iconst 0, 1) := oc_3 (by decide +kernel)
theorem dX12_about_38 : decode cX12_about 38 = .ok (.istore_n 3, 1) := oc_62 (by decide +kernel)
theorem dX12_about_39 : decode cX12_about 39 = .ok (.iload_n 3, 1) := oc_29 (by decide +kernel)
theorem dX12_about_40 : decode cX12_about 40 = .ok (.aload_n 0, 1) := oc_42 (by decide +kernel)
theorem dX12_about_41 : decode cX12_about 41 = .ok (.getfield 7, 3) := oc_180 (a := 0) (b := 7) (by decide +kernel)
theorem dX12_about_44 : decode cX12_about 44 = .ok (.iconst 2, 1) := oc_5 (by decide +kernel)
theorem dX12_about_45 : decode cX12_about 45 = .ok (.iaload, 1) := oc_46 (by decide +kernel)
theorem dX12_about_46 : decode cX12_about 46 = .ok (.if_icmp .ge 18, 3) := oc_162 (a := 0) (b := 18) (by decide +kernel)
theorem dX12_about_64 : decode cX12_about 64 = .ok (.iload_n 2, 1) := oc_28 (by decide +kernel)
theorem dX12_about_65 : decode cX12_about 65 = .ok (.ireturn, 1) := oc_172 (by decide +kernel)
theorem dX12_about_49 : decode cX12_about 49 = .ok (.iload_n 2, 1) := oc_28 (by decide +kernel)
theorem dX12_about_50 : decode cX12_about 50 = .ok (.aload_n 0, 1) := oc_42 (by decide +kernel)
theorem dX12_about_51 : decode cX12_about 51 = .ok (.iload_n 3, 1) := oc_29 (by decide +kernel)
theorem dX12_about_52 : decode cX12_about 52 = .ok (.iconst 4, 1) := oc_7 (by decide +kernel)
theorem dX12_about_53 : decode cX12_about 53 = .ok (.invokevirtual 91, 3) := oc_182 (a := 0) (b := 91) (by decide +kernel)
theorem dX12_about_56 : decode cX12_about 56 = .ok (.iadd, 1) := oc_96 (by decide +kernel)
theorem dX12_about_57 : decode cX12_about 57 = .ok (.istore_n 2, 1) := oc_61 (by decide +kernel)
theorem dX12_about_58 : decode cX12_about 58 = .ok (.iinc 3 1, 3) := oc_132 (b := 1) (by decide +kernel)
theorem dX12_about_61 : decode cX12_about 61 = .ok (.goto (-22), 3) := oc_167 (a := 255) (b := 234) (by decide +kernel)
theorem dX12_about_66 : decode cX12_about 66 = .ok (.iconst 0, 1) := oc_3 (by decide +kernel)
theorem dX12_about_67 : decode cX12_about 67 = .ok (.istore_n 3, 1) := oc_62 (by decide +kernel)
theorem dX12_about_68 : decode cX12_about 68 = .ok (.iload_n 3, 1) := oc_29 (by decide +kernel)
theorem dX12_about_69 : decode cX12_about 69 = .ok (.aload_n 0, 1) := oc_42 (by decide +kernel)
theorem dX12_about_70 : decode cX12_about 70 = .ok (.getfield 7, 3) := oc_180 (a := 0) (b := 7) (by decide +kernel)
theorem dX12_about_73 : decode cX12_about 73 = .ok (.iconst 5, 1) := oc_8 (by decide +kernel)
theorem dX12_about_74 : decode cX12_about 74 = .ok (.iaload, 1) := oc_46 (by decide +kernel)
theorem dX12_about_75 : decode cX12_about 75 = .ok (.if_icmp .ge 18, 3) := oc_162 (a := 0) (b := 18) (by decide +kernel)
theorem dX12_about_93 : decode cX12_about 93 = .ok (.iload_n 2, 1) := oc_28 (by decide +kernel)
theorem dX12_about_94 : decode cX12_about 94 = .ok (.ireturn, 1) := oc_172 (by decide +kernel)
theorem dX12_about_78 : decode cX12_about 78 = .ok (.iload_n 2, 1) := oc_28 (by decide +kernel)
theorem dX12_about_79 : decode cX12_about 79 = .ok (.aload_n 0, 1) := oc_42 (by decide +kernel)
theorem dX12_about_80 : decode cX12_about 80 = .ok (.iload_n 3, 1) := oc_29 (by decide +kernel)
theorem dX12_about_81 : decode cX12_about 81 = .ok (.iconst 5, 1) := oc_8 (by decide +kernel)
theorem dX12_about_82 : decode cX12_about 82 = .ok (.invokevirtual 94, 3) := oc_182 (a := 0) (b := 94) (by decide +kernel)
theorem dX12_about_85 : decode cX12_about 85 = .ok (.iadd, 1) := oc_96 (by decide +kernel)
theorem dX12_about_86 : decode cX12_about 86 = .ok (.istore_n 2, 1) := oc_61 (by decide +kernel)
theorem dX12_about_87 : decode cX12_about 87 = .ok (.iinc 3 1, 3) := oc_132 (b := 1) (by decide +kernel)
theorem dX12_about_90 : decode cX12_about 90 = .ok (.goto (-22), 3) := oc_167 (a := 255) (b := 234) (by decide +kernel)
theorem dX12_about_95 : decode cX12_about 95 = .ok (.iconst 0, 1) := oc_3 (by decide +kernel)
theorem dX12_about_96 : decode cX12_about 96 = .ok (.istore_n 3, 1) := oc_62 (by decide +kernel)
theorem dX12_about_97 : decode cX12_about 97 = .ok (.iload_n 3, 1) := oc_29 (by decide +kernel)
theorem dX12_about_98 : decode cX12_about 98 = .ok (.aload_n 0, 1) := oc_42 (by decide +kernel)
theorem dX12_about_99 : decode cX12_about 99 = .ok (.getfield 7, 3) := oc_180 (a := 0) (b := 7) (by decide +kernel)
theorem dX12_about_102 : decode cX12_about 102 = .ok (.iconst 5, 1) := oc_8 (by decide +kernel)
theorem dX12_about_103 : decode cX12_about 103 = .ok (.iaload, 1) := oc_46 (by decide +kernel)
theorem dX12_about_104 : decode cX12_about 104 = .ok (.if_icmp .ge 19, 3) := oc_162 (a := 0) (b := 19) (by decide +kernel)
theorem dX12_about_123 : decode cX12_about 123 = .ok (.iload_n 2, 1) := oc_28 (by decide +kernel)
theorem dX12_about_124 : decode cX12_about 124 = .ok (.ireturn, 1) := oc_172 (by decide +kernel)
theorem dX12_about_107 : decode cX12_about 107 = .ok (.iload_n 2, 1) := oc_28 (by decide +kernel)
theorem dX12_about_108 : decode cX12_about 108 = .ok (.aload_n 0, 1) := oc_42 (by decide +kernel)
theorem dX12_about_109 : decode cX12_about 109 = .ok (.iload_n 3, 1) := oc_29 (by decide +kernel)
theorem dX12_about_110 : decode cX12_about 110 = .ok (.bipush 6, 2) := oc_16 (a := 6) (by decide +kernel)
theorem dX12_about_112 : decode cX12_about 112 = .ok (.invokevirtual 94, 3) := oc_182 (a := 0) (b := 94) (by decide +kernel)
theorem dX12_about_115 : decode cX12_about 115 = .ok (.iadd, 1) := oc_96 (by decide +kernel)
theorem dX12_about_116 : decode cX12_about 116 = .ok (.istore_n 2, 1) := oc_61 (by decide +kernel)
theorem dX12_about_117 : decode cX12_about 117 = .ok (.iinc 3 1, 3) := oc_132 (b := 1) (by decide +kernel)
theorem dX12_about_120 : decode cX12_about 120 = .ok (.goto (-23), 3) := oc_167 (a := 255) (b := 233) (by decide +kernel)
theorem dX12_about_125 : decode cX12_about 125 = .ok (.iload_n 1, 1) := oc_27 (by decide +kernel)
theorem dX12_about_126 : decode cX12_about 126 = .ok (.iconst 0, 1) := oc_3 (by decide +kernel)
theorem dX12_about_127 : decode cX12_about 127 = .ok (.bipush 12, 2) := oc_16 (a := 12) (by decide +kernel)
theorem dX12_about_129 : decode cX12_about 129 = .ok (.invokestatic 62, 3) := oc_184 (a := 0) (b := 62) (by decide +kernel)
theorem dX12_about_132 : decode cX12_about 132 = .ok (.ifCond .eq 12, 3) := oc_153 (a := 0) (b := 12) (by decide +kernel)
theorem tw_1566 : Cond.constant RX12 387 (-1000000000) ∈ wsL_law := sg_66 _ (List.mem_of_getElem? (i := 6) rfl)
theorem dX12_about_144 : decode cX12_about 144 = .ok (.ldc_w 387, 3) := oc_19 (a := 1) (b := 131) (by decide +kernel)
theorem dX12_about_147 : decode cX12_about 147 = .ok (.ireturn, 1) := oc_172 (by decide +kernel)
theorem dX12_about_135 : decode cX12_about 135 = .ok (.aload_n 0, 1) := oc_42 (by decide +kernel)
theorem dX12_about_136 : decode cX12_about 136 = .ok (.getfield 7, 3) := oc_180 (a := 0) (b := 7) (by decide +kernel)
theorem dX12_about_139 : decode cX12_about 139 = .ok (.iload_n 1, 1) := oc_27 (by decide +kernel)
theorem dX12_about_140 : decode cX12_about 140 = .ok (.iaload, 1) := oc_46 (by decide +kernel)
theorem dX12_about_141 : decode cX12_about 141 = .ok (.goto 6, 3) := oc_167 (a := 0) (b := 6) (by decide +kernel)
set_option maxHeartbeats 4000000 in
set_option maxRecDepth 100000 in
theorem s_X12_found (l : Launch) (D : va_G) (t : pq_T) (σ : pq_S) (I : Nat → Nat → Int32) (J : Nat → Nat → Int64) (ri : Nat → Nat → Int32) (rj : Nat → Nat → Int64) (rq : Nat → Nat → Option Nat) (sz : Nat) (tg : Nat → Nat) (hSH : SH σ tg) (hG0 : GT tg I ri) (this : Nat) (a0 : Int32) (a1 : Int32) (hL_this : this ∈ σ.1) (hK_this : σ.2.1 this = 12) : MetI l yX12_found (wa yX12_found cX12_found 7 (some .int)) ({ frames := 2, cells := 0, slots := 0, locals := 43 }) [.ref this, .int a0, .int a1] D t σ (I, J, ri, rj, rq) sz 0 0 (fun (r : Int32) (u : pq_S × pq_M) => u = (σ, I, J, ri, rj, rq)) := by
  refine Met.ofW (cc := cX12_found) (maxL := 7) (ret := (some .int)) (by decide) rfl ?_
  intro p e s m args below meth c s₁ B hml hv
  obtain ⟨rfl, hsz, hP, hK, hD0, hN⟩ := hv
  have hx := B.exec
  have hb := B.bytes
  have hr := B.returns
  have hts := atoms_spec (ws := (wa yX12_found cX12_found 7 (some .int))) B.pre
  have hown : s.vm.findClass RX12 = some m.cls := findClass_of_methodNamed B.named
  have hlocks := B.notSynchronized
  subst hsz
  have hD : va_D (pq_B t σ (I, J, ri, rj, rq) s.heap.size) (pq_P t σ (I, J, ri, rj, rq)) := hD0.self
  generalize hAe : pq_B t σ (I, J, ri, rj, rq) s.heap.size = A at hD ⊢
  have hA : ∀ q : Nat, s.heap.size ≤ q → A q := fun q h => by rw [← hAe]; exact Or.inr h
  have hS : va_S A s.heap s.heap [] := va_S.rf
  have hG : GM [] tg σ I ri I ri rq := ⟨hG0, fun _ _ _ => rfl, fun _ _ _ _ _ => rfl, fun _ _ _ _ _ _ => rfl⟩
  have hl := lv_entry ([.ref this, .int a0, .int a1]) (n := 7) (Nat.le_of_ble_eq_true rfl)
  rw [lg_entry_eq]
  generalize (lg_sl ([.ref this, .int a0, .int a1]) ++ List.replicate (7 - (lg_sl ([.ref this, .int a0, .int a1])).length) Slot.unset).toArray = ls at hl ⊢
  have hl : lv_has ls 7 [(0, .ref this), (1, .int a0), (2, .int a1)] := hl
  refine q_gen (fun Q hQ => ?_)
  have go : ∀ (H : Heap) (locs : List Loc) (ls : Array Slot), va_P D vwCl (pq_P t σ (I, J, ri, rj, rq)) H → va_D A (pq_P t σ (I, J, ri, rj, rq)) → va_S A s.heap H locs → lv_has ls 7 [(0, .ref this), (1, .int a0), (2, .int a1)] → W p l e ({ frames := 2, cells := 0, slots := 0, locals := 43 } : Room) s m (List.toArray ([.ref this, .int a0, .int a1] : List Value)) below meth c H locs 0 0 Q (F0 m 0 ls []) := by
    intro H locs ls hP hD hS hl
    refine lv_aload_n hx hb dX12_found_0 rfl (lv_at hl 0 rfl) ?_
    refine lv_iload_n hx hb dX12_found_1 rfl (lv_at hl 1 rfl) ?_
    refine pk_i (va_runV (As := [.int a0]) (rest := []) ⟨hx, hb, hml, hown, hts⟩ (s_X12_isCell l D t σ I J ri rj rq H.size tg hSH hG.1 this a0 hL_this hK_this) (cwV 1 hts (tw_V tw_340 tw_341 tw_342 tw_5 tw_343) rfl rfl rfl cv_yX12_isCell_1 ⟨Nat.le_of_ble_eq_true rfl, Nat.le_of_ble_eq_true rfl⟩) ⟨pq_blind, pq_recv hK hP hL_this hK_this (by decide) rfl, pq_pre hK hN hP hD⟩ rfl rfl hl.1 rfl (lv_room (Nat.le_of_ble_eq_true rfl)) dX12_found_2 ⟨Nat.le_of_ble_eq_true rfl, Nat.le_of_ble_eq_true rfl⟩) hD hS hA (fun x_1 σ1 μ1 H locs hw_2 hP hD hS => ?_)
    obtain ⟨hu_3, hr_5⟩ := hw_2
    obtain ⟨hu_3a, hu_3b⟩ := Prod.mk.inj hu_3
    rw [hu_3a, hu_3b] at hP hD
    have h_6 : rg x_1 0 1 := by rcases hr_5 with ⟨q, -⟩ | ⟨q, -⟩ <;> rw [q] <;> exact ⟨by decide, by decide⟩
    have uh_6 := h_6.1
    have vh_6 := h_6.2
    have K_535 : ∀  (H : Heap) (locs : List Loc) (ls : Array Slot), GM [] tg σ I ri I ri rq → va_P D vwCl (pq_P t σ (I, J, ri, rj, rq)) H → va_D A (pq_P t σ (I, J, ri, rj, rq)) → va_S A s.heap H locs → lv_has ls 7 [] → W p l e ({ frames := 2, cells := 0, slots := 0, locals := 43 } : Room) s m (List.toArray ([.ref this, .int a0, .int a1] : List Value)) below meth c H locs 0 0 Q (F0 m 12 ls []) := by
      intro H locs ls hG hP hD hS hl
      refine lv_iconst (v := (-1)) hx hb dX12_found_12 (by decide) ?_
      subst hQ
      exact W.iret (v := (-1)) hx hb hr (fun t1 ht hW => ⟨⟨(-1), (σ, I, J, ri, rj, rq), rfl, rfl, by rw [ht]; exact hP, va_K.moved hW.alike hK, hD⟩, hS.F ht⟩) hS.2.2 dX12_found_13
    refine lv_if_eq (tgt := 12) hx hb dX12_found_5 (by decide) (fun c_536 => ?_) (fun c_536 => ?_)
    · have f_537 := (hr_5.resolve_left (fun q => absurd (q.1.symm.trans c_536) (by decide))).2
      have tc_538 : (x_1).toInt = 0 := congrArg Int32.toInt c_536
      have h_539 : rg x_1 0 0 := rg_and h_6 (rg_of_eq c_536 (rg_k (0 : Int32) 0 rfl)) (by decide)
      have uh_539 := h_539.1
      have vh_539 := h_539.2
      exact K_535 _ _ _ hG hP hD hS (lv_sub hl [] rfl)
    · have f_540 := (hr_5.resolve_right (fun q => c_536 q.1)).2
      have uf_540 := f_540.1
      have vf_540 := f_540.2
      have tc_541 : (x_1).toInt ≠ 0 := fun q => c_536 (Int32.toInt_inj.mp q)
      have h_542 : rg x_1 1 1 := rg_ne c_536 h_6 0 rfl (by decide)
      have uh_542 := h_542.1
      have vh_542 := h_542.2
      refine lv_iload_n hx hb dX12_found_8 rfl (lv_at hl 2 rfl) ?_
      refine lv_if_ge (tgt := 14) hx hb dX12_found_9 (by decide) (fun c_543 => ?_) (fun c_543 => ?_)
      · have tc_544 : 0 ≤ (a1).toInt := Int32.le_iff_toInt_le.mp c_543
        have h_545 : rg a1 0 2147483647 := rg_le2 c_543 (rg_k (0 : Int32) 0 rfl) (rg_full _) (by decide)
        have uh_545 := h_545.1
        have vh_545 := h_545.2
        refine lv_iload_n hx hb dX12_found_14 rfl (lv_at hl 2 rfl) ?_
        refine lv_istore_n (lv' := [(3, .int a1), (0, .ref this), (1, .int a0), (2, .int a1)]) hx hb dX12_found_15 rfl hl (by decide) rfl (fun ls hl => ?_)
        refine lv_iconst (v := 0) hx hb dX12_found_16 (by decide) ?_
        refine lv_istore (lv' := [(4, .int 0), (3, .int a1), (0, .ref this), (1, .int a0), (2, .int a1)]) hx hb dX12_found_17 hl (by decide) rfl (fun ls hl => ?_)
        have L_1016 : ∀ (n_1015 : Nat) (x_966 : Int32) (x_967 : Int32) (H : Heap) (locs : List Loc) (ls : Array Slot), rg x_966 0 2147483647 → rg x_967 0 30 → (30 - (x_967).toInt).toNat < n_1015 → GM [] tg σ I ri I ri rq → va_P D vwCl (pq_P t σ (I, J, ri, rj, rq)) H → va_D A (pq_P t σ (I, J, ri, rj, rq)) → va_S A s.heap H locs → lv_has ls 7 [(0, .ref this), (1, .int a0), (3, .int x_966), (4, .int x_967)] → W p l e ({ frames := 2, cells := 0, slots := 0, locals := 43 } : Room) s m (List.toArray ([.ref this, .int a0, .int a1] : List Value)) below meth c H locs 0 0 Q (F0 m 19 ls []) := by
          intro n_1015
          induction n_1015 with
          | zero => intro x_966 x_967 H locs ls h_1020 h_1021 hm_1014 hG hP hD hS hl; exact absurd hm_1014 (Nat.not_lt_zero _)
          | succ n_1015 ih_1017 =>
            intro x_966 x_967 H locs ls h_1020 h_1021 hm_1014 hG hP hD hS hl
            have uh_1020 := h_1020.1
            have vh_1020 := h_1020.2
            have uh_1021 := h_1021.1
            have vh_1021 := h_1021.2
            refine lv_iload hx hb dX12_found_19 (lv_at hl 3 rfl) ?_
            refine lv_aload_n hx hb dX12_found_21 rfl (lv_at hl 0 rfl) ?_
            obtain ⟨w_1022, hR_w_1022, hL_w_1022, hK_w_1022, hN_w_1022, hT_w_1022⟩ := sh_a hSH 384 (ci := 12) (kd := 13) (len := 12720) rfl (by decide) hL_this hK_this
            refine pg_f (v := .ref w_1022) (C := RX12) (T := TX12) (N := 31) hx hb hts (tw_i inlX12) hown hK hP hL_this hK_this (by decide) rfl 0 (by decide) (hts _ (tw_c tw_176)) (pq_hv rfl hR_w_1022) dX12_found_22 ?_
            refine lv_bipush (v := 10) hx hb dX12_found_25 (by decide) ?_
            refine pl_i hx hb hK hP hL_w_1022 hK_w_1022 hN_w_1022 (vp_in_iff.mpr (by decide)) dX12_found_27 ?_
            refine lv_tov (ri w_1022 10) rfl ?_
            have h_1023 : rg (ri w_1022 10) 0 30 := GM.z0 hG0 (by rw [hT_w_1022]; decide) (i := 10) (k := 10) (by decide) rfl
            have uh_1023 := h_1023.1
            have vh_1023 := h_1023.2
            refine lv_icmp_ge (tgt := 108) hx hb dX12_found_28 (by decide) (fun c_1024 => ?_) (fun c_1024 => ?_)
            · have tc_1025 : (ri w_1022 10).toInt ≤ (x_967).toInt := Int32.le_iff_toInt_le.mp c_1024
              refine lv_iconst (v := (-1)) hx hb dX12_found_108 (by decide) ?_
              subst hQ
              exact W.iret (v := (-1)) hx hb hr (fun t1 ht hW => ⟨⟨(-1), (σ, I, J, ri, rj, rq), rfl, rfl, by rw [ht]; exact hP, va_K.moved hW.alike hK, hD⟩, hS.F ht⟩) hS.2.2 dX12_found_109
            · have tc_1026 : (x_967).toInt < (ri w_1022 10).toInt := Int32.lt_iff_toInt_lt.mp (nle c_1024)
              have h_1027 : rg x_967 0 29 := rg_lt1 (nle c_1024) h_1021 h_1023 (by decide)
              have uh_1027 := h_1027.1
              have vh_1027 := h_1027.2
              have h_1028 : rg (ri w_1022 10) 1 30 := rg_lt2 (nle c_1024) h_1021 h_1023 (by decide)
              have uh_1028 := h_1028.1
              have vh_1028 := h_1028.2
              refine lv_sipush (v := 2400) hx hb dX12_found_31 (by decide) ?_
              refine lv_iconst (v := 4) hx hb dX12_found_34 (by decide) ?_
              refine lv_iload hx hb dX12_found_35 (lv_at hl 3 rfl) ?_
              refine lv_imul hx hb dX12_found_37 ?_
              refine lv_topi (fun x_1029 ex_1029 => ?_)
              have h_1030 : rg x_1029 0 116 := rg_of_eq ex_1029 (rg_mul (rg_k (4 : Int32) 4 rfl) h_1027 (by decide))
              have uh_1030 := h_1030.1
              have vh_1030 := h_1030.2
              have tx_1029 : (x_1029).toInt = 4 * (x_967).toInt := by rw [ex_1029]; exact i_mul_rg (a2 := 4) (b2 := (x_967).toInt) rfl rfl (rg_k (4 : Int32) 4 rfl) h_1027 (by decide)
              refine lv_iadd hx hb dX12_found_38 ?_
              refine lv_topi (fun x_1031 ex_1031 => ?_)
              have h_1032 : rg x_1031 2400 2516 := rg_of_eq ex_1031 (rg_add (rg_k (2400 : Int32) 2400 rfl) h_1030 (by decide))
              have uh_1032 := h_1032.1
              have vh_1032 := h_1032.2
              have tx_1031 : (x_1031).toInt = 2400 + (x_1029).toInt := by rw [ex_1031]; exact i_add_rg (a2 := 2400) (b2 := (x_1029).toInt) rfl rfl (rg_k (2400 : Int32) 2400 rfl) h_1030 (by decide)
              refine lv_istore (lv' := [(5, .int x_1031), (0, .ref this), (1, .int a0), (3, .int x_966), (4, .int x_967)]) hx hb dX12_found_39 hl (by decide) rfl (fun ls hl => ?_)
              refine lv_iload_n hx hb dX12_found_41 rfl (lv_at hl 2 rfl) ?_
              refine lv_bipush (v := 20) hx hb dX12_found_42 (by decide) ?_
              have K_1066 : ∀  (x_1048 : Int32) (H : Heap) (locs : List Loc) (ls : Array Slot), GM [] tg σ I ri I ri rq → va_P D vwCl (pq_P t σ (I, J, ri, rj, rq)) H → va_D A (pq_P t σ (I, J, ri, rj, rq)) → va_S A s.heap H locs → lv_has ls 7 [(0, .ref this), (1, .int a0), (3, .int x_966), (4, .int x_967), (5, .int x_1031)] → W p l e ({ frames := 2, cells := 0, slots := 0, locals := 43 } : Room) s m (List.toArray ([.ref this, .int a0, .int a1] : List Value)) below meth c H locs 0 0 Q (F0 m 75 ls [.int x_1048]) := by
                intro x_1048 H locs ls hG hP hD hS hl
                refine lv_istore (lv' := [(6, .int x_1048), (0, .ref this), (1, .int a0), (3, .int x_966), (4, .int x_967), (5, .int x_1031)]) hx hb dX12_found_75 hl (by decide) rfl (fun ls hl => ?_)
                refine lv_iload hx hb dX12_found_77 (lv_at hl 0 rfl) ?_
                refine lv_iconst (v := 1) hx hb dX12_found_79 (by decide) ?_
                refine lv_iand hx hb dX12_found_80 ?_
                refine lv_topi (fun x_1067 ex_1067 => ?_)
                have K_1084 : ∀  (x_1080 : Int32) (H : Heap) (locs : List Loc) (ls : Array Slot), rg x_1080 0 2147483647 → GM [] tg σ I ri I ri rq → va_P D vwCl (pq_P t σ (I, J, ri, rj, rq)) H → va_D A (pq_P t σ (I, J, ri, rj, rq)) → va_S A s.heap H locs → lv_has ls 7 [(0, .ref this), (1, .int a0), (3, .int x_1080), (4, .int x_967)] → W p l e ({ frames := 2, cells := 0, slots := 0, locals := 43 } : Room) s m (List.toArray ([.ref this, .int a0, .int a1] : List Value)) below meth c H locs 0 0 Q (F0 m 102 ls []) := by
                  intro x_1080 H locs ls h_1086 hG hP hD hS hl
                  have uh_1086 := h_1086.1
                  have vh_1086 := h_1086.2
                  obtain ⟨x_1087, ex_1087⟩ : ∃ y : Int32, y = x_967 + Int32.ofInt 1 := ⟨_, rfl⟩
                  have h_1088 : rg x_1087 1 30 := rg_of_eq ex_1087 (rg_add h_1027 (rg_k (Int32.ofInt 1) 1 rfl) (by decide))
                  have uh_1088 := h_1088.1
                  have vh_1088 := h_1088.2
                  have tx_1087 : (x_1087).toInt = (x_967).toInt + 1 := by rw [ex_1087]; exact i_add_rg (a2 := (x_967).toInt) (b2 := 1) rfl rfl h_1027 (rg_k (Int32.ofInt 1) 1 rfl) (by decide)
                  refine lv_iinc (v := x_1087) (lv' := [(4, .int x_1087), (0, .ref this), (1, .int a0), (3, .int x_1080)]) hx hb dX12_found_102 hl (k := 3) rfl ex_1087.symm (by decide) rfl (fun ls hl => ?_)
                  refine lv_goto (tgt := 19) hx hb dX12_found_105 (by decide) ?_
                  exact ih_1017 x_1080 x_1087 _ _ _ (rg_w h_1086 (by decide)) (rg_w h_1088 (by decide)) (ms_up 1 hm_1014 ex_1087 rfl (by decide) h_1027 (by decide) (by decide)) hG hP hD hS (lv_sub hl [1, 2, 3, 0] rfl)
                refine lv_if_ne (tgt := 87) hx hb dX12_found_81 (by decide) (fun c_1089 => ?_) (fun c_1089 => ?_)
                · have tc_1090 : (x_1067).toInt ≠ 0 := fun q => c_1089 (Int32.toInt_inj.mp q)
                  refine lv_iload_n hx hb dX12_found_87 rfl (lv_at hl 3 rfl) ?_
                  refine lv_if_ne (tgt := 99) hx hb dX12_found_88 (by decide) (fun c_1091 => ?_) (fun c_1091 => ?_)
                  · have tc_1092 : (x_966).toInt ≠ 0 := fun q => c_1091 (Int32.toInt_inj.mp q)
                    have h_1093 : rg x_966 1 2147483647 := rg_ne c_1091 h_1020 0 rfl (by decide)
                    have uh_1093 := h_1093.1
                    have vh_1093 := h_1093.2
                    obtain ⟨x_1094, ex_1094⟩ : ∃ y : Int32, y = x_966 + Int32.ofInt (-1) := ⟨_, rfl⟩
                    have h_1095 : rg x_1094 0 2147483646 := rg_of_eq ex_1094 (rg_add h_1093 (rg_k (Int32.ofInt (-1)) (-1) rfl) (by decide))
                    have uh_1095 := h_1095.1
                    have vh_1095 := h_1095.2
                    have tx_1094 : (x_1094).toInt = (x_966).toInt + (-1) := by rw [ex_1094]; exact i_add_rg (a2 := (x_966).toInt) (b2 := (-1)) rfl rfl h_1093 (rg_k (Int32.ofInt (-1)) (-1) rfl) (by decide)
                    refine lv_iinc (v := x_1094) (lv' := [(3, .int x_1094), (6, .int x_1048), (0, .ref this), (1, .int a0), (4, .int x_967), (5, .int x_1031)]) hx hb dX12_found_99 hl (k := 3) rfl ex_1094.symm (by decide) rfl (fun ls hl => ?_)
                    exact K_1084 x_1094 _ _ _ (rg_w h_1095 (by decide)) hG hP hD hS (lv_sub hl [2, 3, 0, 4] rfl)
                  · have tc_1096 : (x_966).toInt = 0 := congrArg Int32.toInt c_1091
                    have h_1097 : rg x_966 0 0 := rg_and h_1020 (rg_of_eq c_1091 (rg_k (0 : Int32) 0 rfl)) (by decide)
                    have uh_1097 := h_1097.1
                    have vh_1097 := h_1097.2
                    refine lv_aload_n hx hb dX12_found_91 rfl (lv_at hl 1 rfl) ?_
                    refine pg_f (v := .ref w_1022) (C := RX12) (T := TX12) (N := 31) hx hb hts (tw_i inlX12) hown hK hP hL_this hK_this (by decide) rfl 0 (by decide) (hts _ (tw_c tw_176)) (pq_hv rfl hR_w_1022) dX12_found_92 ?_
                    refine lv_iload hx hb dX12_found_95 (lv_at hl 5 rfl) ?_
                    refine pl_i hx hb hK hP hL_w_1022 hK_w_1022 hN_w_1022 (rg_in h_1032 (by decide)) dX12_found_97 ?_
                    refine lv_topi (fun x_1098 ex_1098 => ?_)
                    subst hQ
                    exact W.iret (v := x_1098) hx hb hr (fun t1 ht hW => ⟨⟨x_1098, (σ, I, J, ri, rj, rq), rfl, rfl, by rw [ht]; exact hP, va_K.moved hW.alike hK, hD⟩, hS.F ht⟩) hS.2.2 dX12_found_98
                · have tc_1099 : (x_1067).toInt = 0 := congrArg Int32.toInt c_1089
                  have h_1100 : rg x_1067 0 0 := rg_and (rg_full _) (rg_of_eq c_1089 (rg_k (0 : Int32) 0 rfl)) (by decide)
                  have uh_1100 := h_1100.1
                  have vh_1100 := h_1100.2
                  refine lv_goto (tgt := 102) hx hb dX12_found_84 (by decide) ?_
                  exact K_1084 x_966 _ _ _ (rg_w h_1020 (by decide)) hG hP hD hS (lv_sub hl [1, 2, 3, 4] rfl)
              refine lv_icmp_ge (tgt := 61) hx hb dX12_found_44 (by decide) (fun c_1101 => ?_) (fun c_1101 => ?_)
              · have tc_1102 : 20 ≤ (a0).toInt := Int32.le_iff_toInt_le.mp c_1101
                have h_1103 : rg a0 20 39 := rg_le2 c_1101 (rg_k (20 : Int32) 20 rfl) f_540 (by decide)
                have uh_1103 := h_1103.1
                have vh_1103 := h_1103.2
                refine lv_aload_n hx hb dX12_found_61 rfl (lv_at hl 1 rfl) ?_
                refine pg_f (v := .ref w_1022) (C := RX12) (T := TX12) (N := 31) hx hb hts (tw_i inlX12) hown hK hP hL_this hK_this (by decide) rfl 0 (by decide) (hts _ (tw_c tw_176)) (pq_hv rfl hR_w_1022) dX12_found_62 ?_
                refine lv_iload hx hb dX12_found_65 (lv_at hl 0 rfl) ?_
                refine lv_iconst (v := 2) hx hb dX12_found_67 (by decide) ?_
                refine lv_iadd hx hb dX12_found_68 ?_
                refine lv_topi (fun x_1104 ex_1104 => ?_)
                have h_1105 : rg x_1104 2402 2518 := rg_of_eq ex_1104 (rg_add h_1032 (rg_k (2 : Int32) 2 rfl) (by decide))
                have uh_1105 := h_1105.1
                have vh_1105 := h_1105.2
                have tx_1104 : (x_1104).toInt = (x_1031).toInt + 2 := by rw [ex_1104]; exact i_add_rg (a2 := (x_1031).toInt) (b2 := 2) rfl rfl h_1032 (rg_k (2 : Int32) 2 rfl) (by decide)
                refine pl_i hx hb hK hP hL_w_1022 hK_w_1022 hN_w_1022 (rg_in h_1105 (by decide)) dX12_found_69 ?_
                refine lv_topi (fun x_1106 ex_1106 => ?_)
                refine lv_iload_n hx hb dX12_found_70 rfl (lv_at hl 2 rfl) ?_
                refine lv_bipush (v := 20) hx hb dX12_found_71 (by decide) ?_
                refine lv_isub hx hb dX12_found_73 ?_
                refine lv_topi (fun x_1107 ex_1107 => ?_)
                have h_1108 : rg x_1107 0 19 := rg_of_eq ex_1107 (rg_sub h_1103 (rg_k (20 : Int32) 20 rfl) (by decide))
                have uh_1108 := h_1108.1
                have vh_1108 := h_1108.2
                have tx_1107 : (x_1107).toInt = (a0).toInt - 20 := by rw [ex_1107]; exact i_sub_rg (a2 := (a0).toInt) (b2 := 20) rfl rfl h_1103 (rg_k (20 : Int32) 20 rfl) (by decide)
                refine lv_ishr hx hb dX12_found_74 ?_
                refine lv_topi (fun x_1109 ex_1109 => ?_)
                exact K_1066 x_1109 _ _ _ hG hP hD hS (lv_sub hl [1, 2, 3, 4, 0] rfl)
              · have tc_1110 : (a0).toInt < 20 := Int32.lt_iff_toInt_lt.mp (nle c_1101)
                have h_1111 : rg a0 0 19 := rg_lt1 (nle c_1101) f_540 (rg_k (20 : Int32) 20 rfl) (by decide)
                have uh_1111 := h_1111.1
                have vh_1111 := h_1111.2
                refine lv_aload_n hx hb dX12_found_47 rfl (lv_at hl 1 rfl) ?_
                refine pg_f (v := .ref w_1022) (C := RX12) (T := TX12) (N := 31) hx hb hts (tw_i inlX12) hown hK hP hL_this hK_this (by decide) rfl 0 (by decide) (hts _ (tw_c tw_176)) (pq_hv rfl hR_w_1022) dX12_found_48 ?_
                refine lv_iload hx hb dX12_found_51 (lv_at hl 0 rfl) ?_
                refine lv_iconst (v := 1) hx hb dX12_found_53 (by decide) ?_
                refine lv_iadd hx hb dX12_found_54 ?_
                refine lv_topi (fun x_1112 ex_1112 => ?_)
                have h_1113 : rg x_1112 2401 2517 := rg_of_eq ex_1112 (rg_add h_1032 (rg_k (1 : Int32) 1 rfl) (by decide))
                have uh_1113 := h_1113.1
                have vh_1113 := h_1113.2
                have tx_1112 : (x_1112).toInt = (x_1031).toInt + 1 := by rw [ex_1112]; exact i_add_rg (a2 := (x_1031).toInt) (b2 := 1) rfl rfl h_1032 (rg_k (1 : Int32) 1 rfl) (by decide)
                refine pl_i hx hb hK hP hL_w_1022 hK_w_1022 hN_w_1022 (rg_in h_1113 (by decide)) dX12_found_55 ?_
                refine lv_topi (fun x_1114 ex_1114 => ?_)
                refine lv_iload_n hx hb dX12_found_56 rfl (lv_at hl 2 rfl) ?_
                refine lv_ishr hx hb dX12_found_57 ?_
                refine lv_topi (fun x_1115 ex_1115 => ?_)
                refine lv_goto (tgt := 75) hx hb dX12_found_58 (by decide) ?_
                exact K_1066 x_1115 _ _ _ hG hP hD hS (lv_sub hl [1, 2, 3, 4, 0] rfl)
        exact L_1016 _ a1 (0 : Int32) _ _ _ (rg_w h_545 (by decide)) (rg_w (rg_k (0 : Int32) 0 rfl) (by decide)) (Nat.lt_succ_self _) hG hP hD hS (lv_sub hl [2, 3, 1, 0] rfl)
      · have tc_1116 : (a1).toInt < 0 := Int32.lt_iff_toInt_lt.mp (nle c_543)
        have h_1117 : rg a1 (-2147483648) (-1) := rg_lt1 (nle c_543) (rg_full _) (rg_k (0 : Int32) 0 rfl) (by decide)
        have uh_1117 := h_1117.1
        have vh_1117 := h_1117.2
        exact K_535 _ _ _ hG hP hD hS (lv_sub hl [] rfl)
  exact go _ _ _ hP hD hS hl

set_option maxHeartbeats 4000000 in
set_option maxRecDepth 100000 in
theorem s_X12_about (l : Launch) (D : va_G) (t : pq_T) (σ : pq_S) (I : Nat → Nat → Int32) (J : Nat → Nat → Int64) (ri : Nat → Nat → Int32) (rj : Nat → Nat → Int64) (rq : Nat → Nat → Option Nat) (sz : Nat) (tg : Nat → Nat) (hSH : SH σ tg) (hG0 : GT tg I ri) (this : Nat) (a0 : Int32) (hL_this : this ∈ σ.1) (hK_this : σ.2.1 this = 12) : MetI l yX12_about (wa yX12_about cX12_about 4 (some .int)) ({ frames := 1, cells := 0, slots := 0, locals := 22 }) [.ref this, .int a0] D t σ (I, J, ri, rj, rq) sz 0 0 (fun (r : Int32) (u : pq_S × pq_M) => u = (σ, I, J, ri, rj, rq)) := by
  refine Met.ofW (cc := cX12_about) (maxL := 4) (ret := (some .int)) (by decide) rfl ?_
  intro p e s m args below meth c s₁ B hml hv
  obtain ⟨rfl, hsz, hP, hK, hD0, hN⟩ := hv
  have hx := B.exec
  have hb := B.bytes
  have hr := B.returns
  have hts := atoms_spec (ws := (wa yX12_about cX12_about 4 (some .int))) B.pre
  have hown : s.vm.findClass RX12 = some m.cls := findClass_of_methodNamed B.named
  have hlocks := B.notSynchronized
  subst hsz
  have hD : va_D (pq_B t σ (I, J, ri, rj, rq) s.heap.size) (pq_P t σ (I, J, ri, rj, rq)) := hD0.self
  generalize hAe : pq_B t σ (I, J, ri, rj, rq) s.heap.size = A at hD ⊢
  have hA : ∀ q : Nat, s.heap.size ≤ q → A q := fun q h => by rw [← hAe]; exact Or.inr h
  have hS : va_S A s.heap s.heap [] := va_S.rf
  have hG : GM [] tg σ I ri I ri rq := ⟨hG0, fun _ _ _ => rfl, fun _ _ _ _ _ => rfl, fun _ _ _ _ _ _ => rfl⟩
  have hl := lv_entry ([.ref this, .int a0]) (n := 4) (Nat.le_of_ble_eq_true rfl)
  rw [lg_entry_eq]
  generalize (lg_sl ([.ref this, .int a0]) ++ List.replicate (4 - (lg_sl ([.ref this, .int a0])).length) Slot.unset).toArray = ls at hl ⊢
  have hl : lv_has ls 4 [(0, .ref this), (1, .int a0)] := hl
  refine q_gen (fun Q hQ => ?_)
  have go : ∀ (H : Heap) (locs : List Loc) (ls : Array Slot), va_P D vwCl (pq_P t σ (I, J, ri, rj, rq)) H → va_D A (pq_P t σ (I, J, ri, rj, rq)) → va_S A s.heap H locs → lv_has ls 4 [(0, .ref this), (1, .int a0)] → W p l e ({ frames := 1, cells := 0, slots := 0, locals := 22 } : Room) s m (List.toArray ([.ref this, .int a0] : List Value)) below meth c H locs 0 0 Q (F0 m 0 ls []) := by
    intro H locs ls hP hD hS hl
    refine lv_iconst (v := 0) hx hb dX12_about_0 (by decide) ?_
    refine lv_istore_n (lv' := [(2, .int 0), (0, .ref this), (1, .int a0)]) hx hb dX12_about_1 rfl hl (by decide) rfl (fun ls hl => ?_)
    refine lv_iload_n hx hb dX12_about_2 rfl (lv_at hl 2 rfl) ?_
    by_cases k_1 : a0 = (13 : Int32)
    · have tc_2 : (a0).toInt = 13 := congrArg Int32.toInt k_1
      have h_3 : rg a0 13 13 := rg_and (rg_full _) (rg_of_eq k_1 (rg_k (13 : Int32) 13 rfl)) (by decide)
      have uh_3 := h_3.1
      have vh_3 := h_3.2
      refine lv_tov 13 k_1 ?_
      refine lv_tableIn (tgt := 32) hx hb dX12_about_3 (by decide) (by decide) rfl (by decide) ?_
      refine lv_aload_n hx hb dX12_about_32 rfl (lv_at hl 1 rfl) ?_
      refine pg_f (v := .int (I 388 this)) (C := RX12) (T := TX12) (N := 31) hx hb hts (tw_i inlX12) hown hK hP hL_this hK_this (by decide) rfl 4 (by decide) (hts _ (tw_c tw_631)) rfl dX12_about_33 ?_
      have h_4 : rg (I 388 this) 0 300 := GM.rI hG 388 rfl
      have uh_4 := h_4.1
      have vh_4 := h_4.2
      subst hQ
      exact W.iret (v := (I 388 this)) hx hb hr (fun t1 ht hW => ⟨⟨(I 388 this), (σ, I, J, ri, rj, rq), rfl, rfl, by rw [ht]; exact hP, va_K.moved hW.alike hK, hD⟩, hS.F ht⟩) hS.2.2 dX12_about_36
    by_cases k_5 : a0 = (14 : Int32)
    · have tc_6 : (a0).toInt = 14 := congrArg Int32.toInt k_5
      have h_7 : rg a0 14 14 := rg_and (rg_full _) (rg_of_eq k_5 (rg_k (14 : Int32) 14 rfl)) (by decide)
      have uh_7 := h_7.1
      have vh_7 := h_7.2
      refine lv_tov 14 k_5 ?_
      refine lv_tableIn (tgt := 37) hx hb dX12_about_3 (by decide) (by decide) rfl (by decide) ?_
      refine lv_iconst (v := 0) hx hb dX12_about_37 (by decide) ?_
      refine lv_istore_n (lv' := [(3, .int 0), (2, .int 0), (0, .ref this), (1, .int a0)]) hx hb dX12_about_38 rfl hl (by decide) rfl (fun ls hl => ?_)
      have L_244 : ∀ (n_243 : Nat) (x_224 : Int32) (x_225 : Int32) (H : Heap) (locs : List Loc) (ls : Array Slot), rg x_225 0 40 → (40 - (x_225).toInt).toNat < n_243 → GM [] tg σ I ri I ri rq → va_P D vwCl (pq_P t σ (I, J, ri, rj, rq)) H → va_D A (pq_P t σ (I, J, ri, rj, rq)) → va_S A s.heap H locs → lv_has ls 4 [(0, .ref this), (2, .int x_224), (3, .int x_225)] → W p l e ({ frames := 1, cells := 0, slots := 0, locals := 22 } : Room) s m (List.toArray ([.ref this, .int a0] : List Value)) below meth c H locs 0 0 Q (F0 m 39 ls []) := by
        intro n_243
        induction n_243 with
        | zero => intro x_224 x_225 H locs ls h_247 hm_242 hG hP hD hS hl; exact absurd hm_242 (Nat.not_lt_zero _)
        | succ n_243 ih_245 =>
          intro x_224 x_225 H locs ls h_247 hm_242 hG hP hD hS hl
          have uh_247 := h_247.1
          have vh_247 := h_247.2
          refine lv_iload_n hx hb dX12_about_39 rfl (lv_at hl 2 rfl) ?_
          refine lv_aload_n hx hb dX12_about_40 rfl (lv_at hl 0 rfl) ?_
          obtain ⟨w_248, hR_w_248, hL_w_248, hK_w_248, hN_w_248, hT_w_248⟩ := sh_a hSH 384 (ci := 12) (kd := 13) (len := 12720) rfl (by decide) hL_this hK_this
          refine pg_f (v := .ref w_248) (C := RX12) (T := TX12) (N := 31) hx hb hts (tw_i inlX12) hown hK hP hL_this hK_this (by decide) rfl 0 (by decide) (hts _ (tw_c tw_176)) (pq_hv rfl hR_w_248) dX12_about_41 ?_
          refine lv_iconst (v := 2) hx hb dX12_about_44 (by decide) ?_
          refine pl_i hx hb hK hP hL_w_248 hK_w_248 hN_w_248 (vp_in_iff.mpr (by decide)) dX12_about_45 ?_
          refine lv_tov (ri w_248 2) rfl ?_
          have h_249 : rg (ri w_248 2) 0 40 := GM.z0 hG0 (by rw [hT_w_248]; decide) (i := 2) (k := 2) (by decide) rfl
          have uh_249 := h_249.1
          have vh_249 := h_249.2
          refine lv_icmp_ge (tgt := 64) hx hb dX12_about_46 (by decide) (fun c_250 => ?_) (fun c_250 => ?_)
          · have tc_251 : (ri w_248 2).toInt ≤ (x_225).toInt := Int32.le_iff_toInt_le.mp c_250
            refine lv_iload_n hx hb dX12_about_64 rfl (lv_at hl 1 rfl) ?_
            subst hQ
            exact W.iret (v := x_224) hx hb hr (fun t1 ht hW => ⟨⟨x_224, (σ, I, J, ri, rj, rq), rfl, rfl, by rw [ht]; exact hP, va_K.moved hW.alike hK, hD⟩, hS.F ht⟩) hS.2.2 dX12_about_65
          · have tc_252 : (x_225).toInt < (ri w_248 2).toInt := Int32.lt_iff_toInt_lt.mp (nle c_250)
            have h_253 : rg x_225 0 39 := rg_lt1 (nle c_250) h_247 h_249 (by decide)
            have uh_253 := h_253.1
            have vh_253 := h_253.2
            have h_254 : rg (ri w_248 2) 1 40 := rg_lt2 (nle c_250) h_247 h_249 (by decide)
            have uh_254 := h_254.1
            have vh_254 := h_254.2
            refine lv_iload_n hx hb dX12_about_49 rfl (lv_at hl 1 rfl) ?_
            refine lv_aload_n hx hb dX12_about_50 rfl (lv_at hl 0 rfl) ?_
            refine lv_iload_n hx hb dX12_about_51 rfl (lv_at hl 2 rfl) ?_
            refine lv_iconst (v := 4) hx hb dX12_about_52 (by decide) ?_
            refine pk_i (va_runV (As := [.int x_225, .int 4]) (rest := [.int x_224]) ⟨hx, hb, hml, hown, hts⟩ (s_X12_cellAt_c4 l D t σ I J ri rj rq H.size tg hSH hG.1 this x_225 hL_this hK_this (rg_w h_253 (by decide))) (cwV 2 hts (tw_V tw_361 tw_362 tw_363 tw_5 tw_364) rfl rfl rfl cv_yX12_cellAt_2 ⟨Nat.le_of_ble_eq_true rfl, Nat.le_of_ble_eq_true rfl⟩) ⟨pq_blind, pq_recv hK hP hL_this hK_this (by decide) rfl, pq_pre hK hN hP hD⟩ rfl rfl hl.1 rfl (lv_room (Nat.le_of_ble_eq_true rfl)) dX12_about_53 ⟨Nat.le_of_ble_eq_true rfl, Nat.le_of_ble_eq_true rfl⟩) hD hS hA (fun x_255 σ1 μ1 H locs hw_256 hP hD hS => ?_)
            have hu_257 := hw_256
            obtain ⟨hu_257a, hu_257b⟩ := Prod.mk.inj hu_257
            rw [hu_257a, hu_257b] at hP hD
            refine lv_iadd hx hb dX12_about_56 ?_
            refine lv_topi (fun x_260 ex_260 => ?_)
            refine lv_istore_n (lv' := [(2, .int x_260), (0, .ref this), (3, .int x_225)]) hx hb dX12_about_57 rfl hl (by decide) rfl (fun ls hl => ?_)
            obtain ⟨x_261, ex_261⟩ : ∃ y : Int32, y = x_225 + Int32.ofInt 1 := ⟨_, rfl⟩
            have h_262 : rg x_261 1 40 := rg_of_eq ex_261 (rg_add h_253 (rg_k (Int32.ofInt 1) 1 rfl) (by decide))
            have uh_262 := h_262.1
            have vh_262 := h_262.2
            have tx_261 : (x_261).toInt = (x_225).toInt + 1 := by rw [ex_261]; exact i_add_rg (a2 := (x_225).toInt) (b2 := 1) rfl rfl h_253 (rg_k (Int32.ofInt 1) 1 rfl) (by decide)
            refine lv_iinc (v := x_261) (lv' := [(3, .int x_261), (2, .int x_260), (0, .ref this)]) hx hb dX12_about_58 hl (k := 2) rfl ex_261.symm (by decide) rfl (fun ls hl => ?_)
            refine lv_goto (tgt := 39) hx hb dX12_about_61 (by decide) ?_
            exact ih_245 x_260 x_261 _ _ _ (rg_w h_262 (by decide)) (ms_up 1 hm_242 ex_261 rfl (by decide) h_253 (by decide) (by decide)) hG hP hD hS (lv_sub hl [2, 1, 0] rfl)
      exact L_244 _ (0 : Int32) (0 : Int32) _ _ _ (rg_w (rg_k (0 : Int32) 0 rfl) (by decide)) (Nat.lt_succ_self _) hG hP hD hS (lv_sub hl [2, 1, 0] rfl)
    by_cases k_263 : a0 = (15 : Int32)
    · have tc_264 : (a0).toInt = 15 := congrArg Int32.toInt k_263
      have h_265 : rg a0 15 15 := rg_and (rg_full _) (rg_of_eq k_263 (rg_k (15 : Int32) 15 rfl)) (by decide)
      have uh_265 := h_265.1
      have vh_265 := h_265.2
      refine lv_tov 15 k_263 ?_
      refine lv_tableIn (tgt := 66) hx hb dX12_about_3 (by decide) (by decide) rfl (by decide) ?_
      refine lv_iconst (v := 0) hx hb dX12_about_66 (by decide) ?_
      refine lv_istore_n (lv' := [(3, .int 0), (2, .int 0), (0, .ref this), (1, .int a0)]) hx hb dX12_about_67 rfl hl (by decide) rfl (fun ls hl => ?_)
      have L_515 : ∀ (n_514 : Nat) (x_494 : Int32) (x_495 : Int32) (H : Heap) (locs : List Loc) (ls : Array Slot), rg x_495 0 40 → (40 - (x_495).toInt).toNat < n_514 → GM [] tg σ I ri I ri rq → va_P D vwCl (pq_P t σ (I, J, ri, rj, rq)) H → va_D A (pq_P t σ (I, J, ri, rj, rq)) → va_S A s.heap H locs → lv_has ls 4 [(0, .ref this), (2, .int x_494), (3, .int x_495)] → W p l e ({ frames := 1, cells := 0, slots := 0, locals := 22 } : Room) s m (List.toArray ([.ref this, .int a0] : List Value)) below meth c H locs 0 0 Q (F0 m 68 ls []) := by
        intro n_514
        induction n_514 with
        | zero => intro x_494 x_495 H locs ls h_518 hm_513 hG hP hD hS hl; exact absurd hm_513 (Nat.not_lt_zero _)
        | succ n_514 ih_516 =>
          intro x_494 x_495 H locs ls h_518 hm_513 hG hP hD hS hl
          have uh_518 := h_518.1
          have vh_518 := h_518.2
          refine lv_iload_n hx hb dX12_about_68 rfl (lv_at hl 2 rfl) ?_
          refine lv_aload_n hx hb dX12_about_69 rfl (lv_at hl 0 rfl) ?_
          obtain ⟨w_519, hR_w_519, hL_w_519, hK_w_519, hN_w_519, hT_w_519⟩ := sh_a hSH 384 (ci := 12) (kd := 13) (len := 12720) rfl (by decide) hL_this hK_this
          refine pg_f (v := .ref w_519) (C := RX12) (T := TX12) (N := 31) hx hb hts (tw_i inlX12) hown hK hP hL_this hK_this (by decide) rfl 0 (by decide) (hts _ (tw_c tw_176)) (pq_hv rfl hR_w_519) dX12_about_70 ?_
          refine lv_iconst (v := 5) hx hb dX12_about_73 (by decide) ?_
          refine pl_i hx hb hK hP hL_w_519 hK_w_519 hN_w_519 (vp_in_iff.mpr (by decide)) dX12_about_74 ?_
          refine lv_tov (ri w_519 5) rfl ?_
          have h_520 : rg (ri w_519 5) 0 40 := GM.z0 hG0 (by rw [hT_w_519]; decide) (i := 5) (k := 5) (by decide) rfl
          have uh_520 := h_520.1
          have vh_520 := h_520.2
          refine lv_icmp_ge (tgt := 93) hx hb dX12_about_75 (by decide) (fun c_521 => ?_) (fun c_521 => ?_)
          · have tc_522 : (ri w_519 5).toInt ≤ (x_495).toInt := Int32.le_iff_toInt_le.mp c_521
            refine lv_iload_n hx hb dX12_about_93 rfl (lv_at hl 1 rfl) ?_
            subst hQ
            exact W.iret (v := x_494) hx hb hr (fun t1 ht hW => ⟨⟨x_494, (σ, I, J, ri, rj, rq), rfl, rfl, by rw [ht]; exact hP, va_K.moved hW.alike hK, hD⟩, hS.F ht⟩) hS.2.2 dX12_about_94
          · have tc_523 : (x_495).toInt < (ri w_519 5).toInt := Int32.lt_iff_toInt_lt.mp (nle c_521)
            have h_524 : rg x_495 0 39 := rg_lt1 (nle c_521) h_518 h_520 (by decide)
            have uh_524 := h_524.1
            have vh_524 := h_524.2
            have h_525 : rg (ri w_519 5) 1 40 := rg_lt2 (nle c_521) h_518 h_520 (by decide)
            have uh_525 := h_525.1
            have vh_525 := h_525.2
            refine lv_iload_n hx hb dX12_about_78 rfl (lv_at hl 1 rfl) ?_
            refine lv_aload_n hx hb dX12_about_79 rfl (lv_at hl 0 rfl) ?_
            refine lv_iload_n hx hb dX12_about_80 rfl (lv_at hl 2 rfl) ?_
            refine lv_iconst (v := 5) hx hb dX12_about_81 (by decide) ?_
            refine pk_i (va_runV (As := [.int x_495, .int 5]) (rest := [.int x_494]) ⟨hx, hb, hml, hown, hts⟩ (s_X12_personAt_c5 l D t σ I J ri rj rq H.size tg hSH hG.1 this x_495 hL_this hK_this (rg_w h_524 (by decide)) w_519 hR_w_519 hL_w_519 hK_w_519 hN_w_519 hT_w_519) (cwV 2 hts (tw_V tw_437 tw_438 tw_439 tw_5 tw_440) rfl rfl rfl cv_yX12_personAt_2 ⟨Nat.le_of_ble_eq_true rfl, Nat.le_of_ble_eq_true rfl⟩) ⟨pq_blind, pq_recv hK hP hL_this hK_this (by decide) rfl, pq_pre hK hN hP hD⟩ rfl rfl hl.1 rfl (lv_room (Nat.le_of_ble_eq_true rfl)) dX12_about_82 ⟨Nat.le_of_ble_eq_true rfl, Nat.le_of_ble_eq_true rfl⟩) hD hS hA (fun x_526 σ1 μ1 H locs hw_527 hP hD hS => ?_)
            obtain ⟨hu_528, hp_531⟩ := hw_527
            obtain ⟨hu_528a, hu_528b⟩ := Prod.mk.inj hu_528
            rw [hu_528a, hu_528b] at hP hD
            refine lv_iadd hx hb dX12_about_85 ?_
            refine lv_topi (fun x_532 ex_532 => ?_)
            refine lv_istore_n (lv' := [(2, .int x_532), (0, .ref this), (3, .int x_495)]) hx hb dX12_about_86 rfl hl (by decide) rfl (fun ls hl => ?_)
            obtain ⟨x_533, ex_533⟩ : ∃ y : Int32, y = x_495 + Int32.ofInt 1 := ⟨_, rfl⟩
            have h_534 : rg x_533 1 40 := rg_of_eq ex_533 (rg_add h_524 (rg_k (Int32.ofInt 1) 1 rfl) (by decide))
            have uh_534 := h_534.1
            have vh_534 := h_534.2
            have tx_533 : (x_533).toInt = (x_495).toInt + 1 := by rw [ex_533]; exact i_add_rg (a2 := (x_495).toInt) (b2 := 1) rfl rfl h_524 (rg_k (Int32.ofInt 1) 1 rfl) (by decide)
            refine lv_iinc (v := x_533) (lv' := [(3, .int x_533), (2, .int x_532), (0, .ref this)]) hx hb dX12_about_87 hl (k := 2) rfl ex_533.symm (by decide) rfl (fun ls hl => ?_)
            refine lv_goto (tgt := 68) hx hb dX12_about_90 (by decide) ?_
            exact ih_516 x_532 x_533 _ _ _ (rg_w h_534 (by decide)) (ms_up 1 hm_513 ex_533 rfl (by decide) h_524 (by decide) (by decide)) hG hP hD hS (lv_sub hl [2, 1, 0] rfl)
      exact L_515 _ (0 : Int32) (0 : Int32) _ _ _ (rg_w (rg_k (0 : Int32) 0 rfl) (by decide)) (Nat.lt_succ_self _) hG hP hD hS (lv_sub hl [2, 1, 0] rfl)
    by_cases k_535 : a0 = (16 : Int32)
    · have tc_536 : (a0).toInt = 16 := congrArg Int32.toInt k_535
      have h_537 : rg a0 16 16 := rg_and (rg_full _) (rg_of_eq k_535 (rg_k (16 : Int32) 16 rfl)) (by decide)
      have uh_537 := h_537.1
      have vh_537 := h_537.2
      refine lv_tov 16 k_535 ?_
      refine lv_tableIn (tgt := 95) hx hb dX12_about_3 (by decide) (by decide) rfl (by decide) ?_
      refine lv_iconst (v := 0) hx hb dX12_about_95 (by decide) ?_
      refine lv_istore_n (lv' := [(3, .int 0), (2, .int 0), (0, .ref this), (1, .int a0)]) hx hb dX12_about_96 rfl hl (by decide) rfl (fun ls hl => ?_)
      have L_787 : ∀ (n_786 : Nat) (x_766 : Int32) (x_767 : Int32) (H : Heap) (locs : List Loc) (ls : Array Slot), rg x_767 0 40 → (40 - (x_767).toInt).toNat < n_786 → GM [] tg σ I ri I ri rq → va_P D vwCl (pq_P t σ (I, J, ri, rj, rq)) H → va_D A (pq_P t σ (I, J, ri, rj, rq)) → va_S A s.heap H locs → lv_has ls 4 [(0, .ref this), (2, .int x_766), (3, .int x_767)] → W p l e ({ frames := 1, cells := 0, slots := 0, locals := 22 } : Room) s m (List.toArray ([.ref this, .int a0] : List Value)) below meth c H locs 0 0 Q (F0 m 97 ls []) := by
        intro n_786
        induction n_786 with
        | zero => intro x_766 x_767 H locs ls h_790 hm_785 hG hP hD hS hl; exact absurd hm_785 (Nat.not_lt_zero _)
        | succ n_786 ih_788 =>
          intro x_766 x_767 H locs ls h_790 hm_785 hG hP hD hS hl
          have uh_790 := h_790.1
          have vh_790 := h_790.2
          refine lv_iload_n hx hb dX12_about_97 rfl (lv_at hl 2 rfl) ?_
          refine lv_aload_n hx hb dX12_about_98 rfl (lv_at hl 0 rfl) ?_
          obtain ⟨w_791, hR_w_791, hL_w_791, hK_w_791, hN_w_791, hT_w_791⟩ := sh_a hSH 384 (ci := 12) (kd := 13) (len := 12720) rfl (by decide) hL_this hK_this
          refine pg_f (v := .ref w_791) (C := RX12) (T := TX12) (N := 31) hx hb hts (tw_i inlX12) hown hK hP hL_this hK_this (by decide) rfl 0 (by decide) (hts _ (tw_c tw_176)) (pq_hv rfl hR_w_791) dX12_about_99 ?_
          refine lv_iconst (v := 5) hx hb dX12_about_102 (by decide) ?_
          refine pl_i hx hb hK hP hL_w_791 hK_w_791 hN_w_791 (vp_in_iff.mpr (by decide)) dX12_about_103 ?_
          refine lv_tov (ri w_791 5) rfl ?_
          have h_792 : rg (ri w_791 5) 0 40 := GM.z0 hG0 (by rw [hT_w_791]; decide) (i := 5) (k := 5) (by decide) rfl
          have uh_792 := h_792.1
          have vh_792 := h_792.2
          refine lv_icmp_ge (tgt := 123) hx hb dX12_about_104 (by decide) (fun c_793 => ?_) (fun c_793 => ?_)
          · have tc_794 : (ri w_791 5).toInt ≤ (x_767).toInt := Int32.le_iff_toInt_le.mp c_793
            refine lv_iload_n hx hb dX12_about_123 rfl (lv_at hl 1 rfl) ?_
            subst hQ
            exact W.iret (v := x_766) hx hb hr (fun t1 ht hW => ⟨⟨x_766, (σ, I, J, ri, rj, rq), rfl, rfl, by rw [ht]; exact hP, va_K.moved hW.alike hK, hD⟩, hS.F ht⟩) hS.2.2 dX12_about_124
          · have tc_795 : (x_767).toInt < (ri w_791 5).toInt := Int32.lt_iff_toInt_lt.mp (nle c_793)
            have h_796 : rg x_767 0 39 := rg_lt1 (nle c_793) h_790 h_792 (by decide)
            have uh_796 := h_796.1
            have vh_796 := h_796.2
            have h_797 : rg (ri w_791 5) 1 40 := rg_lt2 (nle c_793) h_790 h_792 (by decide)
            have uh_797 := h_797.1
            have vh_797 := h_797.2
            refine lv_iload_n hx hb dX12_about_107 rfl (lv_at hl 1 rfl) ?_
            refine lv_aload_n hx hb dX12_about_108 rfl (lv_at hl 0 rfl) ?_
            refine lv_iload_n hx hb dX12_about_109 rfl (lv_at hl 2 rfl) ?_
            refine lv_bipush (v := 6) hx hb dX12_about_110 (by decide) ?_
            refine pk_i (va_runV (As := [.int x_767, .int 6]) (rest := [.int x_766]) ⟨hx, hb, hml, hown, hts⟩ (s_X12_personAt_c6 l D t σ I J ri rj rq H.size tg hSH hG.1 this x_767 hL_this hK_this (rg_w h_796 (by decide)) w_791 hR_w_791 hL_w_791 hK_w_791 hN_w_791 hT_w_791) (cwV 2 hts (tw_V tw_437 tw_438 tw_439 tw_5 tw_440) rfl rfl rfl cv_yX12_personAt_2 ⟨Nat.le_of_ble_eq_true rfl, Nat.le_of_ble_eq_true rfl⟩) ⟨pq_blind, pq_recv hK hP hL_this hK_this (by decide) rfl, pq_pre hK hN hP hD⟩ rfl rfl hl.1 rfl (lv_room (Nat.le_of_ble_eq_true rfl)) dX12_about_112 ⟨Nat.le_of_ble_eq_true rfl, Nat.le_of_ble_eq_true rfl⟩) hD hS hA (fun x_798 σ1 μ1 H locs hw_799 hP hD hS => ?_)
            obtain ⟨hu_800, hp_803⟩ := hw_799
            obtain ⟨hu_800a, hu_800b⟩ := Prod.mk.inj hu_800
            rw [hu_800a, hu_800b] at hP hD
            refine lv_iadd hx hb dX12_about_115 ?_
            refine lv_topi (fun x_804 ex_804 => ?_)
            refine lv_istore_n (lv' := [(2, .int x_804), (0, .ref this), (3, .int x_767)]) hx hb dX12_about_116 rfl hl (by decide) rfl (fun ls hl => ?_)
            obtain ⟨x_805, ex_805⟩ : ∃ y : Int32, y = x_767 + Int32.ofInt 1 := ⟨_, rfl⟩
            have h_806 : rg x_805 1 40 := rg_of_eq ex_805 (rg_add h_796 (rg_k (Int32.ofInt 1) 1 rfl) (by decide))
            have uh_806 := h_806.1
            have vh_806 := h_806.2
            have tx_805 : (x_805).toInt = (x_767).toInt + 1 := by rw [ex_805]; exact i_add_rg (a2 := (x_767).toInt) (b2 := 1) rfl rfl h_796 (rg_k (Int32.ofInt 1) 1 rfl) (by decide)
            refine lv_iinc (v := x_805) (lv' := [(3, .int x_805), (2, .int x_804), (0, .ref this)]) hx hb dX12_about_117 hl (k := 2) rfl ex_805.symm (by decide) rfl (fun ls hl => ?_)
            refine lv_goto (tgt := 97) hx hb dX12_about_120 (by decide) ?_
            exact ih_788 x_804 x_805 _ _ _ (rg_w h_806 (by decide)) (ms_up 1 hm_785 ex_805 rfl (by decide) h_796 (by decide) (by decide)) hG hP hD hS (lv_sub hl [2, 1, 0] rfl)
      exact L_787 _ (0 : Int32) (0 : Int32) _ _ _ (rg_w (rg_k (0 : Int32) 0 rfl) (by decide)) (Nat.lt_succ_self _) hG hP hD hS (lv_sub hl [2, 1, 0] rfl)
    refine lv_tableOut (tgt := 125) hx hb dX12_about_3 (by have z_k_1 := sw_ne k_1 (n := 13) rfl; have z_k_5 := sw_ne k_5 (n := 14) rfl; have z_k_263 := sw_ne k_263 (n := 15) rfl; have z_k_535 := sw_ne k_535 (n := 16) rfl; omega) (by decide) ?_
    refine lv_iload_n hx hb dX12_about_125 rfl (lv_at hl 2 rfl) ?_
    refine lv_iconst (v := 0) hx hb dX12_about_126 (by decide) ?_
    refine lv_bipush (v := 12) hx hb dX12_about_127 (by decide) ?_
    refine pk_i (va_runS (As := [.int a0, .int 0, .int 12]) (rest := []) ⟨hx, hb, hml, hown, hts⟩ (s_X12_isIn l D t σ I J ri rj rq H.size tg hSH hG.1 a0 (0 : Int32) (12 : Int32)) (va_cwS 3 hts (tw_S tw_235 tw_236 tw_5 tw_237) rfl rfl rfl cd_yX12_isIn_3 ⟨Nat.le_of_ble_eq_true rfl, Nat.le_of_ble_eq_true rfl⟩) ⟨pq_blind, pq_pre hK hN hP hD⟩ rfl rfl hl.1 rfl (lv_room (Nat.le_of_ble_eq_true rfl)) dX12_about_129 ⟨Nat.le_of_ble_eq_true rfl, Nat.le_of_ble_eq_true rfl⟩) hD hS hA (fun x_807 σ1 μ1 H locs hw_808 hP hD hS => ?_)
    obtain ⟨hu_809, hr_811⟩ := hw_808
    obtain ⟨hu_809a, hu_809b⟩ := Prod.mk.inj hu_809
    rw [hu_809a, hu_809b] at hP hD
    have h_812 : rg x_807 0 1 := by rcases hr_811 with ⟨q, -⟩ | ⟨q, -⟩ <;> rw [q] <;> exact ⟨by decide, by decide⟩
    have uh_812 := h_812.1
    have vh_812 := h_812.2
    refine lv_if_eq (tgt := 144) hx hb dX12_about_132 (by decide) (fun c_813 => ?_) (fun c_813 => ?_)
    · have f_814 := (hr_811.resolve_left (fun q => absurd (q.1.symm.trans c_813) (by decide))).2
      have tc_815 : (x_807).toInt = 0 := congrArg Int32.toInt c_813
      have h_816 : rg x_807 0 0 := rg_and h_812 (rg_of_eq c_813 (rg_k (0 : Int32) 0 rfl)) (by decide)
      have uh_816 := h_816.1
      have vh_816 := h_816.2
      refine lv_ldcw hx hb hown (hts _ (tw_c tw_1566)) dX12_about_144 ?_
      subst hQ
      exact W.iret (v := (-1000000000)) hx hb hr (fun t1 ht hW => ⟨⟨(-1000000000), (σ, I, J, ri, rj, rq), rfl, rfl, by rw [ht]; exact hP, va_K.moved hW.alike hK, hD⟩, hS.F ht⟩) hS.2.2 dX12_about_147
    · obtain ⟨f_817, f_818⟩ := (hr_811.resolve_right (fun q => c_813 q.1)).2
      have tc_819 : 0 ≤ (a0).toInt := Int32.le_iff_toInt_le.mp f_817
      have h_820 : rg a0 0 2147483647 := rg_le2 f_817 (rg_k (0 : Int32) 0 rfl) (rg_full _) (by decide)
      have uh_820 := h_820.1
      have vh_820 := h_820.2
      have tc_821 : (a0).toInt ≤ 12 := Int32.le_iff_toInt_le.mp f_818
      have h_822 : rg a0 0 12 := rg_le1 f_818 h_820 (rg_k (12 : Int32) 12 rfl) (by decide)
      have uh_822 := h_822.1
      have vh_822 := h_822.2
      have tc_823 : (x_807).toInt ≠ 0 := fun q => c_813 (Int32.toInt_inj.mp q)
      have h_824 : rg x_807 1 1 := rg_ne c_813 h_812 0 rfl (by decide)
      have uh_824 := h_824.1
      have vh_824 := h_824.2
      refine lv_aload_n hx hb dX12_about_135 rfl (lv_at hl 1 rfl) ?_
      obtain ⟨w_825, hR_w_825, hL_w_825, hK_w_825, hN_w_825, hT_w_825⟩ := sh_a hSH 384 (ci := 12) (kd := 13) (len := 12720) rfl (by decide) hL_this hK_this
      refine pg_f (v := .ref w_825) (C := RX12) (T := TX12) (N := 31) hx hb hts (tw_i inlX12) hown hK hP hL_this hK_this (by decide) rfl 0 (by decide) (hts _ (tw_c tw_176)) (pq_hv rfl hR_w_825) dX12_about_136 ?_
      refine lv_iload_n hx hb dX12_about_139 rfl (lv_at hl 2 rfl) ?_
      refine pl_i hx hb hK hP hL_w_825 hK_w_825 hN_w_825 (rg_in h_822 (by decide)) dX12_about_140 ?_
      refine lv_topi (fun x_826 ex_826 => ?_)
      refine lv_goto (tgt := 147) hx hb dX12_about_141 (by decide) ?_
      subst hQ
      exact W.iret (v := x_826) hx hb hr (fun t1 ht hW => ⟨⟨x_826, (σ, I, J, ri, rj, rq), rfl, rfl, by rw [ht]; exact hP, va_K.moved hW.alike hK, hD⟩, hS.F ht⟩) hS.2.2 dX12_about_147
  exact go _ _ _ hP hD hS hl
