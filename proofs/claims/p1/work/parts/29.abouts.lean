theorem dX11_sum_0 : decode cX11_sum 0 = .ok (.iconst 0, 1) := by decide +kernel
theorem dX11_sum_1 : decode cX11_sum 1 = .ok (.istore_n 2, 1) := by decide +kernel
theorem dX11_sum_2 : decode cX11_sum 2 = .ok (.iconst 0, 1) := by decide +kernel
theorem dX11_sum_3 : decode cX11_sum 3 = .ok (.istore_n 3, 1) := by decide +kernel
theorem dX11_sum_4 : decode cX11_sum 4 = .ok (.iload_n 3, 1) := by decide +kernel
theorem dX11_sum_5 : decode cX11_sum 5 = .ok (.iload_n 1, 1) := by decide +kernel
theorem dX11_sum_6 : decode cX11_sum 6 = .ok (.if_icmp .ge 15, 3) := by decide +kernel
theorem dX11_sum_21 : decode cX11_sum 21 = .ok (.iload_n 2, 1) := by decide +kernel
theorem dX11_sum_22 : decode cX11_sum 22 = .ok (.ireturn, 1) := by decide +kernel
theorem dX11_about_0 : decode cX11_about 0 = .ok (.iload_n 1, 1) := by decide +kernel
theorem dX11_about_1 : decode cX11_about 1 = .ok (.tableswitch 297 0 16 #[83, 91, 102, 113, 124, 135, 146, 157, 168, 176, 187, 198, 206, 214, 225, 249, 273], 83) := by decide +kernel
theorem dX11_about_84 : decode cX11_about 84 = .ok (.aload_n 0, 1) := by decide +kernel
theorem dX11_about_85 : decode cX11_about 85 = .ok (.getfield 10, 3) := by decide +kernel
theorem dX11_about_88 : decode cX11_about 88 = .ok (.getfield 54, 3) := by decide +kernel
theorem dX11_about_91 : decode cX11_about 91 = .ok (.ireturn, 1) := by decide +kernel
theorem dX11_about_92 : decode cX11_about 92 = .ok (.aload_n 0, 1) := by decide +kernel
theorem dX11_about_93 : decode cX11_about 93 = .ok (.getfield 10, 3) := by decide +kernel
theorem dX11_about_96 : decode cX11_about 96 = .ok (.getfield 36, 3) := by decide +kernel
theorem dX11_about_99 : decode cX11_about 99 = .ok (.getfield 40, 3) := by decide +kernel
theorem dX11_about_102 : decode cX11_about 102 = .ok (.ireturn, 1) := by decide +kernel
theorem dX11_about_103 : decode cX11_about 103 = .ok (.aload_n 0, 1) := by decide +kernel
theorem dX11_about_104 : decode cX11_about 104 = .ok (.getfield 10, 3) := by decide +kernel
theorem dX11_about_107 : decode cX11_about 107 = .ok (.getfield 36, 3) := by decide +kernel
theorem dX11_about_110 : decode cX11_about 110 = .ok (.getfield 57, 3) := by decide +kernel
theorem dX11_about_113 : decode cX11_about 113 = .ok (.ireturn, 1) := by decide +kernel
theorem dX11_about_114 : decode cX11_about 114 = .ok (.aload_n 0, 1) := by decide +kernel
theorem dX11_about_115 : decode cX11_about 115 = .ok (.getfield 10, 3) := by decide +kernel
theorem dX11_about_118 : decode cX11_about 118 = .ok (.getfield 70, 3) := by decide +kernel
theorem dX11_about_121 : decode cX11_about 121 = .ok (.getfield 74, 3) := by decide +kernel
theorem dX11_about_124 : decode cX11_about 124 = .ok (.ireturn, 1) := by decide +kernel
theorem dX11_about_125 : decode cX11_about 125 = .ok (.aload_n 0, 1) := by decide +kernel
theorem dX11_about_126 : decode cX11_about 126 = .ok (.getfield 10, 3) := by decide +kernel
theorem dX11_about_129 : decode cX11_about 129 = .ok (.getfield 143, 3) := by decide +kernel
theorem dX11_about_132 : decode cX11_about 132 = .ok (.getfield 147, 3) := by decide +kernel
theorem dX11_about_135 : decode cX11_about 135 = .ok (.ireturn, 1) := by decide +kernel
theorem dX11_about_136 : decode cX11_about 136 = .ok (.aload_n 0, 1) := by decide +kernel
theorem dX11_about_137 : decode cX11_about 137 = .ok (.getfield 10, 3) := by decide +kernel
theorem dX11_about_140 : decode cX11_about 140 = .ok (.getfield 143, 3) := by decide +kernel
theorem dX11_about_143 : decode cX11_about 143 = .ok (.getfield 155, 3) := by decide +kernel
theorem dX11_about_146 : decode cX11_about 146 = .ok (.ireturn, 1) := by decide +kernel
theorem dX11_about_147 : decode cX11_about 147 = .ok (.aload_n 0, 1) := by decide +kernel
theorem dX11_about_148 : decode cX11_about 148 = .ok (.getfield 10, 3) := by decide +kernel
theorem dX11_about_151 : decode cX11_about 151 = .ok (.getfield 208, 3) := by decide +kernel
theorem dX11_about_154 : decode cX11_about 154 = .ok (.getfield 212, 3) := by decide +kernel
theorem dX11_about_157 : decode cX11_about 157 = .ok (.ireturn, 1) := by decide +kernel
theorem dX11_about_158 : decode cX11_about 158 = .ok (.aload_n 0, 1) := by decide +kernel
theorem dX11_about_159 : decode cX11_about 159 = .ok (.getfield 10, 3) := by decide +kernel
theorem dX11_about_162 : decode cX11_about 162 = .ok (.getfield 208, 3) := by decide +kernel
theorem tw_950 : Cond.fieldLink RX11 230 "RingsUnder$Law" "forces" "I" ∈ wsL_law := List.mem_of_getElem? (i := 950) (by decide +kernel)
theorem dX11_about_165 : decode cX11_about 165 = .ok (.getfield 230, 3) := by decide +kernel
theorem dX11_about_168 : decode cX11_about 168 = .ok (.ireturn, 1) := by decide +kernel
theorem dX11_about_169 : decode cX11_about 169 = .ok (.aload_n 0, 1) := by decide +kernel
theorem dX11_about_170 : decode cX11_about 170 = .ok (.getfield 10, 3) := by decide +kernel
theorem dX11_about_173 : decode cX11_about 173 = .ok (.getfield 257, 3) := by decide +kernel
theorem dX11_about_176 : decode cX11_about 176 = .ok (.ireturn, 1) := by decide +kernel
theorem dX11_about_177 : decode cX11_about 177 = .ok (.aload_n 0, 1) := by decide +kernel
theorem dX11_about_178 : decode cX11_about 178 = .ok (.getfield 10, 3) := by decide +kernel
theorem dX11_about_181 : decode cX11_about 181 = .ok (.getfield 36, 3) := by decide +kernel
theorem tw_1557 : Cond.fieldLink RX11 352 "RingsUnder$Land" "deep" "I" ∈ wsL_law := List.mem_of_getElem? (i := 1557) (by decide +kernel)
theorem dX11_about_184 : decode cX11_about 184 = .ok (.getfield 352, 3) := by decide +kernel
theorem dX11_about_187 : decode cX11_about 187 = .ok (.ireturn, 1) := by decide +kernel
theorem dX11_about_188 : decode cX11_about 188 = .ok (.aload_n 0, 1) := by decide +kernel
theorem dX11_about_189 : decode cX11_about 189 = .ok (.getfield 10, 3) := by decide +kernel
theorem dX11_about_192 : decode cX11_about 192 = .ok (.getfield 355, 3) := by decide +kernel
theorem dX11_about_195 : decode cX11_about 195 = .ok (.getfield 359, 3) := by decide +kernel
theorem dX11_about_198 : decode cX11_about 198 = .ok (.ireturn, 1) := by decide +kernel
theorem dX11_about_199 : decode cX11_about 199 = .ok (.aload_n 0, 1) := by decide +kernel
theorem dX11_about_200 : decode cX11_about 200 = .ok (.getfield 10, 3) := by decide +kernel
theorem dX11_about_203 : decode cX11_about 203 = .ok (.getfield 254, 3) := by decide +kernel
theorem dX11_about_206 : decode cX11_about 206 = .ok (.ireturn, 1) := by decide +kernel
theorem dX11_about_207 : decode cX11_about 207 = .ok (.aload_n 0, 1) := by decide +kernel
theorem dX11_about_208 : decode cX11_about 208 = .ok (.getfield 10, 3) := by decide +kernel
theorem dX11_about_211 : decode cX11_about 211 = .ok (.getfield 276, 3) := by decide +kernel
theorem dX11_about_214 : decode cX11_about 214 = .ok (.ireturn, 1) := by decide +kernel
theorem dX11_about_215 : decode cX11_about 215 = .ok (.aload_n 0, 1) := by decide +kernel
theorem dX11_about_216 : decode cX11_about 216 = .ok (.getfield 32, 3) := by decide +kernel
theorem dX11_about_219 : decode cX11_about 219 = .ok (.getfield 195, 3) := by decide +kernel
theorem dX11_about_222 : decode cX11_about 222 = .ok (.getfield 199, 3) := by decide +kernel
theorem dX11_about_225 : decode cX11_about 225 = .ok (.ireturn, 1) := by decide +kernel
theorem dX11_about_226 : decode cX11_about 226 = .ok (.aload_n 0, 1) := by decide +kernel
theorem dX11_about_227 : decode cX11_about 227 = .ok (.getfield 10, 3) := by decide +kernel
theorem dX11_about_230 : decode cX11_about 230 = .ok (.getfield 36, 3) := by decide +kernel
theorem tw_1273 : Cond.fieldLink RX11 301 "RingsUnder$Land" "sand" "[I" ∈ wsL_law := List.mem_of_getElem? (i := 1273) (by decide +kernel)
theorem dX11_about_233 : decode cX11_about 233 = .ok (.getfield 301, 3) := by decide +kernel
theorem dX11_about_236 : decode cX11_about 236 = .ok (.aload_n 0, 1) := by decide +kernel
theorem dX11_about_237 : decode cX11_about 237 = .ok (.getfield 10, 3) := by decide +kernel
theorem dX11_about_240 : decode cX11_about 240 = .ok (.getfield 36, 3) := by decide +kernel
theorem dX11_about_243 : decode cX11_about 243 = .ok (.getfield 57, 3) := by decide +kernel
theorem tw_1559 : Cond.methodLink RX11 364 yX11_sum ∈ wsL_law := List.mem_of_getElem? (i := 1559) (by decide +kernel)
theorem tw_1560 : Cond.static yX11_sum ∈ wsL_law := List.mem_of_getElem? (i := 1560) (by decide +kernel)
theorem tw_1561 : Cond.code yX11_sum cX11_sum 4 (some .int) ∈ wsL_law := List.mem_of_getElem? (i := 1561) (by decide +kernel)
theorem dX11_about_246 : decode cX11_about 246 = .ok (.invokestatic 364, 3) := by decide +kernel
theorem dX11_about_249 : decode cX11_about 249 = .ok (.ireturn, 1) := by decide +kernel
theorem dX11_about_250 : decode cX11_about 250 = .ok (.aload_n 0, 1) := by decide +kernel
theorem dX11_about_251 : decode cX11_about 251 = .ok (.getfield 10, 3) := by decide +kernel
theorem dX11_about_254 : decode cX11_about 254 = .ok (.getfield 143, 3) := by decide +kernel
theorem tw_1296 : Cond.fieldLink RX11 337 "RingsUnder$Folk" "thirst" "[I" ∈ wsL_law := List.mem_of_getElem? (i := 1296) (by decide +kernel)
theorem dX11_about_257 : decode cX11_about 257 = .ok (.getfield 337, 3) := by decide +kernel
theorem dX11_about_260 : decode cX11_about 260 = .ok (.aload_n 0, 1) := by decide +kernel
theorem dX11_about_261 : decode cX11_about 261 = .ok (.getfield 10, 3) := by decide +kernel
theorem dX11_about_264 : decode cX11_about 264 = .ok (.getfield 143, 3) := by decide +kernel
theorem dX11_about_267 : decode cX11_about 267 = .ok (.getfield 155, 3) := by decide +kernel
theorem dX11_about_270 : decode cX11_about 270 = .ok (.invokestatic 364, 3) := by decide +kernel
theorem dX11_about_273 : decode cX11_about 273 = .ok (.ireturn, 1) := by decide +kernel
theorem dX11_about_274 : decode cX11_about 274 = .ok (.aload_n 0, 1) := by decide +kernel
theorem dX11_about_275 : decode cX11_about 275 = .ok (.getfield 10, 3) := by decide +kernel
theorem dX11_about_278 : decode cX11_about 278 = .ok (.getfield 143, 3) := by decide +kernel
theorem tw_1297 : Cond.fieldLink RX11 340 "RingsUnder$Folk" "noBed" "[I" ∈ wsL_law := List.mem_of_getElem? (i := 1297) (by decide +kernel)
theorem dX11_about_281 : decode cX11_about 281 = .ok (.getfield 340, 3) := by decide +kernel
theorem dX11_about_284 : decode cX11_about 284 = .ok (.aload_n 0, 1) := by decide +kernel
theorem dX11_about_285 : decode cX11_about 285 = .ok (.getfield 10, 3) := by decide +kernel
theorem dX11_about_288 : decode cX11_about 288 = .ok (.getfield 143, 3) := by decide +kernel
theorem dX11_about_291 : decode cX11_about 291 = .ok (.getfield 155, 3) := by decide +kernel
theorem dX11_about_294 : decode cX11_about 294 = .ok (.invokestatic 364, 3) := by decide +kernel
theorem dX11_about_297 : decode cX11_about 297 = .ok (.ireturn, 1) := by decide +kernel
theorem tw_1558 : Cond.constant RX11 368 (-1000000000) ∈ wsL_law := List.mem_of_getElem? (i := 1558) (by decide +kernel)
theorem dX11_about_298 : decode cX11_about 298 = .ok (.ldc_w 368, 3) := by decide +kernel
theorem dX11_about_301 : decode cX11_about 301 = .ok (.ireturn, 1) := by decide +kernel
theorem dX12_about_0 : decode cX12_about 0 = .ok (.iconst 0, 1) := by decide +kernel
theorem dX12_about_1 : decode cX12_about 1 = .ok (.istore_n 2, 1) := by decide +kernel
theorem dX12_about_2 : decode cX12_about 2 = .ok (.iload_n 1, 1) := by decide +kernel
theorem dX12_about_3 : decode cX12_about 3 = .ok (.tableswitch 122 13 16 #[29, 34, 63, 92], 29) := by decide +kernel
theorem dX12_about_32 : decode cX12_about 32 = .ok (.aload_n 0, 1) := by decide +kernel
theorem dX12_about_33 : decode cX12_about 33 = .ok (.getfield 127, 3) := by decide +kernel
theorem dX12_about_36 : decode cX12_about 36 = .ok (.ireturn, 1) := by decide +kernel
theorem dX12_about_37 : decode cX12_about 37 = .ok (.iconst 0, 1) := by decide +kernel
theorem dX12_about_38 : decode cX12_about 38 = .ok (.istore_n 3, 1) := by decide +kernel
theorem dX12_about_39 : decode cX12_about 39 = .ok (.iload_n 3, 1) := by decide +kernel
theorem dX12_about_40 : decode cX12_about 40 = .ok (.aload_n 0, 1) := by decide +kernel
theorem dX12_about_41 : decode cX12_about 41 = .ok (.getfield 7, 3) := by decide +kernel
theorem dX12_about_44 : decode cX12_about 44 = .ok (.iconst 2, 1) := by decide +kernel
theorem dX12_about_45 : decode cX12_about 45 = .ok (.iaload, 1) := by decide +kernel
theorem dX12_about_46 : decode cX12_about 46 = .ok (.if_icmp .ge 18, 3) := by decide +kernel
theorem dX12_about_64 : decode cX12_about 64 = .ok (.iload_n 2, 1) := by decide +kernel
theorem dX12_about_65 : decode cX12_about 65 = .ok (.ireturn, 1) := by decide +kernel
theorem dX12_about_66 : decode cX12_about 66 = .ok (.iconst 0, 1) := by decide +kernel
theorem dX12_about_67 : decode cX12_about 67 = .ok (.istore_n 3, 1) := by decide +kernel
theorem dX12_about_68 : decode cX12_about 68 = .ok (.iload_n 3, 1) := by decide +kernel
theorem dX12_about_69 : decode cX12_about 69 = .ok (.aload_n 0, 1) := by decide +kernel
theorem dX12_about_70 : decode cX12_about 70 = .ok (.getfield 7, 3) := by decide +kernel
theorem dX12_about_73 : decode cX12_about 73 = .ok (.iconst 5, 1) := by decide +kernel
theorem dX12_about_74 : decode cX12_about 74 = .ok (.iaload, 1) := by decide +kernel
theorem dX12_about_75 : decode cX12_about 75 = .ok (.if_icmp .ge 18, 3) := by decide +kernel
theorem dX12_about_93 : decode cX12_about 93 = .ok (.iload_n 2, 1) := by decide +kernel
theorem dX12_about_94 : decode cX12_about 94 = .ok (.ireturn, 1) := by decide +kernel
theorem dX12_about_95 : decode cX12_about 95 = .ok (.iconst 0, 1) := by decide +kernel
theorem dX12_about_96 : decode cX12_about 96 = .ok (.istore_n 3, 1) := by decide +kernel
theorem dX12_about_97 : decode cX12_about 97 = .ok (.iload_n 3, 1) := by decide +kernel
theorem dX12_about_98 : decode cX12_about 98 = .ok (.aload_n 0, 1) := by decide +kernel
theorem dX12_about_99 : decode cX12_about 99 = .ok (.getfield 7, 3) := by decide +kernel
theorem dX12_about_102 : decode cX12_about 102 = .ok (.iconst 5, 1) := by decide +kernel
theorem dX12_about_103 : decode cX12_about 103 = .ok (.iaload, 1) := by decide +kernel
theorem dX12_about_104 : decode cX12_about 104 = .ok (.if_icmp .ge 19, 3) := by decide +kernel
theorem dX12_about_123 : decode cX12_about 123 = .ok (.iload_n 2, 1) := by decide +kernel
theorem dX12_about_124 : decode cX12_about 124 = .ok (.ireturn, 1) := by decide +kernel
theorem dX12_about_125 : decode cX12_about 125 = .ok (.iload_n 1, 1) := by decide +kernel
theorem dX12_about_126 : decode cX12_about 126 = .ok (.iconst 0, 1) := by decide +kernel
theorem dX12_about_127 : decode cX12_about 127 = .ok (.bipush 12, 2) := by decide +kernel
theorem dX12_about_129 : decode cX12_about 129 = .ok (.invokestatic 62, 3) := by decide +kernel
theorem dX12_about_132 : decode cX12_about 132 = .ok (.ifCond .eq 12, 3) := by decide +kernel
theorem dX12_about_135 : decode cX12_about 135 = .ok (.aload_n 0, 1) := by decide +kernel
theorem dX12_about_136 : decode cX12_about 136 = .ok (.getfield 7, 3) := by decide +kernel
theorem dX12_about_139 : decode cX12_about 139 = .ok (.iload_n 1, 1) := by decide +kernel
theorem dX12_about_140 : decode cX12_about 140 = .ok (.iaload, 1) := by decide +kernel
theorem dX12_about_141 : decode cX12_about 141 = .ok (.goto 6, 3) := by decide +kernel
theorem dX12_about_147 : decode cX12_about 147 = .ok (.ireturn, 1) := by decide +kernel
theorem tw_1566 : Cond.constant RX12 387 (-1000000000) ∈ wsL_law := List.mem_of_getElem? (i := 1566) (by decide +kernel)
theorem dX12_about_144 : decode cX12_about 144 = .ok (.ldc_w 387, 3) := by decide +kernel
theorem dX12_see_0 : decode cX12_see 0 = .ok (.iload_n 1, 1) := by decide +kernel
theorem dX12_see_1 : decode cX12_see 1 = .ok (.aload_n 0, 1) := by decide +kernel
theorem dX12_see_2 : decode cX12_see 2 = .ok (.getfield 127, 3) := by decide +kernel
theorem dX12_see_5 : decode cX12_see 5 = .ok (.if_icmp .ge 12, 3) := by decide +kernel
theorem dX12_see_17 : decode cX12_see 17 = .ok (.iconst (-1), 1) := by decide +kernel
theorem dX12_see_18 : decode cX12_see 18 = .ok (.ireturn, 1) := by decide +kernel
theorem dX12_nextToken_0 : decode cX12_nextToken 0 = .ok (.aload_n 0, 1) := by decide +kernel
theorem dX12_nextToken_1 : decode cX12_nextToken 1 = .ok (.aload_n 0, 1) := by decide +kernel
theorem tw_830 : Cond.fieldLink RX12 134 "RingsUnderModel" "at" "I" ∈ wsL_law := List.mem_of_getElem? (i := 830) (by decide +kernel)
theorem dX12_nextToken_2 : decode cX12_nextToken 2 = .ok (.getfield 134, 3) := by decide +kernel
theorem tw_839 : Cond.methodLink RX12 137 yX12_see ∈ wsL_law := List.mem_of_getElem? (i := 839) (by decide +kernel)
theorem tw_840 : Cond.instanceMethod yX12_see ∈ wsL_law := List.mem_of_getElem? (i := 840) (by decide +kernel)
theorem tw_841 : Cond.selects RX12 yX12_see yX12_see ∈ wsL_law := List.mem_of_getElem? (i := 841) (by decide +kernel)
theorem tw_842 : Cond.code yX12_see cX12_see 2 (some .int) ∈ wsL_law := List.mem_of_getElem? (i := 842) (by decide +kernel)
theorem dX12_nextToken_5 : decode cX12_nextToken 5 = .ok (.invokevirtual 137, 3) := by decide +kernel
theorem dX12_nextToken_8 : decode cX12_nextToken 8 = .ok (.bipush 32, 2) := by decide +kernel
theorem dX12_nextToken_10 : decode cX12_nextToken 10 = .ok (.if_icmp .eq 16, 3) := by decide +kernel
theorem dX12_nextToken_13 : decode cX12_nextToken 13 = .ok (.aload_n 0, 1) := by decide +kernel
theorem dX12_nextToken_14 : decode cX12_nextToken 14 = .ok (.aload_n 0, 1) := by decide +kernel
theorem dX12_nextToken_15 : decode cX12_nextToken 15 = .ok (.getfield 134, 3) := by decide +kernel
theorem dX12_nextToken_18 : decode cX12_nextToken 18 = .ok (.invokevirtual 137, 3) := by decide +kernel
theorem dX12_nextToken_21 : decode cX12_nextToken 21 = .ok (.bipush 10, 2) := by decide +kernel
theorem dX12_nextToken_23 : decode cX12_nextToken 23 = .ok (.if_icmp .ne 16, 3) := by decide +kernel
theorem dX12_nextToken_39 : decode cX12_nextToken 39 = .ok (.aload_n 0, 1) := by decide +kernel
theorem dX12_nextToken_40 : decode cX12_nextToken 40 = .ok (.aload_n 0, 1) := by decide +kernel
theorem dX12_nextToken_41 : decode cX12_nextToken 41 = .ok (.getfield 134, 3) := by decide +kernel
theorem tw_820 : Cond.fieldLink RX12 140 "RingsUnderModel" "place" "I" ∈ wsL_law := List.mem_of_getElem? (i := 820) (by decide +kernel)
theorem dX12_nextToken_44 : decode cX12_nextToken 44 = .ok (.putfield 140, 3) := by decide +kernel
theorem dX12_nextToken_47 : decode cX12_nextToken 47 = .ok (.aload_n 0, 1) := by decide +kernel
theorem dX12_nextToken_48 : decode cX12_nextToken 48 = .ok (.aload_n 0, 1) := by decide +kernel
theorem dX12_nextToken_49 : decode cX12_nextToken 49 = .ok (.getfield 134, 3) := by decide +kernel
theorem dX12_nextToken_52 : decode cX12_nextToken 52 = .ok (.invokevirtual 137, 3) := by decide +kernel
theorem dX12_nextToken_55 : decode cX12_nextToken 55 = .ok (.istore_n 1, 1) := by decide +kernel
theorem dX12_nextToken_56 : decode cX12_nextToken 56 = .ok (.iload_n 1, 1) := by decide +kernel
theorem dX12_nextToken_57 : decode cX12_nextToken 57 = .ok (.ifCond .ge 11, 3) := by decide +kernel
theorem dX12_nextToken_60 : decode cX12_nextToken 60 = .ok (.aload_n 0, 1) := by decide +kernel
theorem dX12_nextToken_61 : decode cX12_nextToken 61 = .ok (.iconst 0, 1) := by decide +kernel
theorem tw_831 : Cond.fieldLink RX12 143 "RingsUnderModel" "token" "I" ∈ wsL_law := List.mem_of_getElem? (i := 831) (by decide +kernel)
theorem dX12_nextToken_62 : decode cX12_nextToken 62 = .ok (.putfield 143, 3) := by decide +kernel
theorem dX12_nextToken_65 : decode cX12_nextToken 65 = .ok (.goto 331, 3) := by decide +kernel
theorem dX12_nextToken_396 : decode cX12_nextToken 396 = .ok (.return_, 1) := by decide +kernel
theorem dX12_readText_0 : decode cX12_readText 0 = .ok (.aload_n 0, 1) := by decide +kernel
theorem dX12_readText_1 : decode cX12_readText 1 = .ok (.sipush 3720, 3) := by decide +kernel
theorem dX12_readText_4 : decode cX12_readText 4 = .ok (.sipush 900, 3) := by decide +kernel
theorem dX12_readText_7 : decode cX12_readText 7 = .ok (.aload_n 0, 1) := by decide +kernel
theorem dX12_readText_8 : decode cX12_readText 8 = .ok (.getfield 7, 3) := by decide +kernel
theorem dX12_readText_11 : decode cX12_readText 11 = .ok (.bipush 6, 2) := by decide +kernel
theorem dX12_readText_13 : decode cX12_readText 13 = .ok (.iaload, 1) := by decide +kernel
theorem dX12_readText_14 : decode cX12_readText 14 = .ok (.imul, 1) := by decide +kernel
theorem dX12_readText_15 : decode cX12_readText 15 = .ok (.iadd, 1) := by decide +kernel
theorem tw_821 : Cond.fieldLink RX12 172 "RingsUnderModel" "text0" "I" ∈ wsL_law := List.mem_of_getElem? (i := 821) (by decide +kernel)
theorem dX12_readText_16 : decode cX12_readText 16 = .ok (.putfield 172, 3) := by decide +kernel
theorem dX12_readText_19 : decode cX12_readText 19 = .ok (.aload_n 0, 1) := by decide +kernel
theorem dX12_readText_20 : decode cX12_readText 20 = .ok (.iconst 0, 1) := by decide +kernel
theorem tw_822 : Cond.fieldLink RX12 248 "RingsUnderModel" "clauses" "I" ∈ wsL_law := List.mem_of_getElem? (i := 822) (by decide +kernel)
theorem dX12_readText_21 : decode cX12_readText 21 = .ok (.putfield 248, 3) := by decide +kernel
theorem dX12_readText_24 : decode cX12_readText 24 = .ok (.aload_n 0, 1) := by decide +kernel
theorem dX12_readText_25 : decode cX12_readText 25 = .ok (.iconst 0, 1) := by decide +kernel
theorem tw_827 : Cond.fieldLink RX12 175 "RingsUnderModel" "written" "I" ∈ wsL_law := List.mem_of_getElem? (i := 827) (by decide +kernel)
theorem dX12_readText_26 : decode cX12_readText 26 = .ok (.putfield 175, 3) := by decide +kernel
theorem dX12_readText_29 : decode cX12_readText 29 = .ok (.aload_n 0, 1) := by decide +kernel
theorem dX12_readText_30 : decode cX12_readText 30 = .ok (.iconst 0, 1) := by decide +kernel
theorem tw_828 : Cond.fieldLink RX12 185 "RingsUnderModel" "opens" "I" ∈ wsL_law := List.mem_of_getElem? (i := 828) (by decide +kernel)
theorem dX12_readText_31 : decode cX12_readText 31 = .ok (.putfield 185, 3) := by decide +kernel
theorem dX12_readText_34 : decode cX12_readText 34 = .ok (.aload_n 0, 1) := by decide +kernel
theorem dX12_readText_35 : decode cX12_readText 35 = .ok (.iconst 0, 1) := by decide +kernel
theorem tw_829 : Cond.fieldLink RX12 245 "RingsUnderModel" "came" "I" ∈ wsL_law := List.mem_of_getElem? (i := 829) (by decide +kernel)
theorem dX12_readText_36 : decode cX12_readText 36 = .ok (.putfield 245, 3) := by decide +kernel
theorem dX12_readText_39 : decode cX12_readText 39 = .ok (.aload_n 0, 1) := by decide +kernel
theorem dX12_readText_40 : decode cX12_readText 40 = .ok (.iconst 0, 1) := by decide +kernel
theorem dX12_readText_41 : decode cX12_readText 41 = .ok (.putfield 134, 3) := by decide +kernel
theorem dX12_readText_44 : decode cX12_readText 44 = .ok (.aload_n 0, 1) := by decide +kernel
theorem tw_832 : Cond.methodLink RX12 196 yX12_nextToken ∈ wsL_law := List.mem_of_getElem? (i := 832) (by decide +kernel)
theorem tw_833 : Cond.instanceMethod yX12_nextToken ∈ wsL_law := List.mem_of_getElem? (i := 833) (by decide +kernel)
theorem tw_834 : Cond.selects RX12 yX12_nextToken yX12_nextToken ∈ wsL_law := List.mem_of_getElem? (i := 834) (by decide +kernel)
theorem tw_835 : Cond.code yX12_nextToken cX12_nextToken 3 none ∈ wsL_law := List.mem_of_getElem? (i := 835) (by decide +kernel)
theorem dX12_readText_45 : decode cX12_readText 45 = .ok (.invokevirtual 196, 3) := by decide +kernel
theorem dX12_readText_48 : decode cX12_readText 48 = .ok (.aload_n 0, 1) := by decide +kernel
theorem dX12_readText_49 : decode cX12_readText 49 = .ok (.getfield 143, 3) := by decide +kernel
theorem dX12_readText_52 : decode cX12_readText 52 = .ok (.ifCond .eq 17, 3) := by decide +kernel
theorem dX12_readText_69 : decode cX12_readText 69 = .ok (.iconst 0, 1) := by decide +kernel
theorem dX12_readText_70 : decode cX12_readText 70 = .ok (.ireturn, 1) := by decide +kernel
theorem dX12_text_0 : decode cX12_text 0 = .ok (.aload_n 0, 1) := by decide +kernel
theorem dX12_text_1 : decode cX12_text 1 = .ok (.getfield 7, 3) := by decide +kernel
theorem dX12_text_4 : decode cX12_text 4 = .ok (.bipush 6, 2) := by decide +kernel
theorem dX12_text_6 : decode cX12_text 6 = .ok (.iaload, 1) := by decide +kernel
theorem dX12_text_7 : decode cX12_text 7 = .ok (.bipush 10, 2) := by decide +kernel
theorem dX12_text_9 : decode cX12_text 9 = .ok (.if_icmp .ne 5, 3) := by decide +kernel
theorem dX12_text_14 : decode cX12_text 14 = .ok (.aload_n 0, 1) := by decide +kernel
theorem dX12_text_15 : decode cX12_text 15 = .ok (.aload_n 0, 1) := by decide +kernel
theorem tw_823 : Cond.methodLink RX12 263 yX12_readText ∈ wsL_law := List.mem_of_getElem? (i := 823) (by decide +kernel)
theorem tw_824 : Cond.instanceMethod yX12_readText ∈ wsL_law := List.mem_of_getElem? (i := 824) (by decide +kernel)
theorem tw_825 : Cond.selects RX12 yX12_readText yX12_readText ∈ wsL_law := List.mem_of_getElem? (i := 825) (by decide +kernel)
theorem tw_826 : Cond.code yX12_readText cX12_readText 2 (some .int) ∈ wsL_law := List.mem_of_getElem? (i := 826) (by decide +kernel)
theorem dX12_text_16 : decode cX12_text 16 = .ok (.invokevirtual 263, 3) := by decide +kernel
theorem dX12_text_19 : decode cX12_text 19 = .ok (.putfield 22, 3) := by decide +kernel
theorem dX12_text_22 : decode cX12_text 22 = .ok (.aload_n 0, 1) := by decide +kernel
theorem dX12_text_23 : decode cX12_text 23 = .ok (.aload_n 0, 1) := by decide +kernel
theorem dX12_text_24 : decode cX12_text 24 = .ok (.getfield 22, 3) := by decide +kernel
theorem dX12_text_27 : decode cX12_text 27 = .ok (.ifCond .ne 7, 3) := by decide +kernel
theorem dX12_text_30 : decode cX12_text 30 = .ok (.iconst (-1), 1) := by decide +kernel
theorem dX12_text_31 : decode cX12_text 31 = .ok (.goto 7, 3) := by decide +kernel
theorem dX12_text_38 : decode cX12_text 38 = .ok (.putfield 26, 3) := by decide +kernel
theorem dX12_text_41 : decode cX12_text 41 = .ok (.aload_n 0, 1) := by decide +kernel
theorem dX12_text_42 : decode cX12_text 42 = .ok (.iconst 0, 1) := by decide +kernel
theorem dX12_text_43 : decode cX12_text 43 = .ok (.putfield 127, 3) := by decide +kernel
theorem dX12_text_46 : decode cX12_text 46 = .ok (.aload_n 0, 1) := by decide +kernel
theorem dX12_text_47 : decode cX12_text 47 = .ok (.getfield 22, 3) := by decide +kernel
theorem dX12_text_50 : decode cX12_text 50 = .ok (.ifCond .eq 5, 3) := by decide +kernel
theorem dX12_text_55 : decode cX12_text 55 = .ok (.aload_n 0, 1) := by decide +kernel
theorem dX12_text_56 : decode cX12_text 56 = .ok (.getfield 7, 3) := by decide +kernel
theorem dX12_text_59 : decode cX12_text 59 = .ok (.aload_n 0, 1) := by decide +kernel
theorem dX12_text_60 : decode cX12_text 60 = .ok (.getfield 172, 3) := by decide +kernel
theorem dX12_text_63 : decode cX12_text 63 = .ok (.aload_n 0, 1) := by decide +kernel
theorem dX12_text_64 : decode cX12_text 64 = .ok (.getfield 248, 3) := by decide +kernel
theorem dX12_text_67 : decode cX12_text 67 = .ok (.iastore, 1) := by decide +kernel
theorem dX12_text_68 : decode cX12_text 68 = .ok (.aload_n 0, 1) := by decide +kernel
theorem dX12_text_69 : decode cX12_text 69 = .ok (.getfield 7, 3) := by decide +kernel
theorem dX12_text_72 : decode cX12_text 72 = .ok (.bipush 6, 2) := by decide +kernel
theorem dX12_text_74 : decode cX12_text 74 = .ok (.dup2, 1) := by decide +kernel
theorem dX12_text_75 : decode cX12_text 75 = .ok (.iaload, 1) := by decide +kernel
theorem dX12_text_76 : decode cX12_text 76 = .ok (.iconst 1, 1) := by decide +kernel
theorem dX12_text_77 : decode cX12_text 77 = .ok (.iadd, 1) := by decide +kernel
theorem dX12_text_78 : decode cX12_text 78 = .ok (.iastore, 1) := by decide +kernel
theorem dX12_text_79 : decode cX12_text 79 = .ok (.aload_n 0, 1) := by decide +kernel
theorem dX12_text_80 : decode cX12_text 80 = .ok (.getfield 7, 3) := by decide +kernel
theorem dX12_text_83 : decode cX12_text 83 = .ok (.bipush 6, 2) := by decide +kernel
theorem dX12_text_85 : decode cX12_text 85 = .ok (.iaload, 1) := by decide +kernel
theorem dX12_text_86 : decode cX12_text 86 = .ok (.iconst 1, 1) := by decide +kernel
theorem dX12_text_87 : decode cX12_text 87 = .ok (.isub, 1) := by decide +kernel
theorem dX12_text_88 : decode cX12_text 88 = .ok (.ireturn, 1) := by decide +kernel
set_option maxHeartbeats 4000000 in
set_option maxRecDepth 100000 in
theorem c_X11_sum (l : Launch) (D : va_G) (t : pq_T) (σ : pq_S) (I : Nat → Nat → Int32) (J : Nat → Nat → Int64) (ri : Nat → Nat → Int32) (rj : Nat → Nat → Int64) (rq : Nat → Nat → Option Nat) (sz : Nat) (of : Nat) (n_of : Nat) (hL_of : of ∈ σ.1) (hK_of : σ.2.1 of = 13) (hN_of : σ.2.2.2 of = n_of) : MetI l yX11_sum (wa yX11_sum cX11_sum 4 (some .int)) ({ frames := 0, cells := 0, slots := 0, locals := 0 }) [.ref of, .int 0] D t σ (I, J, ri, rj, rq) sz 0 0 (fun (r : Int32) (u : pq_S × pq_M) => u = (σ, I, J, ri, rj, rq) ∧ ((r = 0))) := by
  refine Met.ofW (cc := cX11_sum) (maxL := 4) (ret := (some .int)) (by decide) rfl ?_
  intro p e s m args below meth c s₁ B hml hv
  obtain ⟨rfl, hsz, hP, hK, hD0, hN⟩ := hv
  have hx := B.exec
  have hb := B.bytes
  have hr := B.returns
  have hts := atoms_spec (ws := (wa yX11_sum cX11_sum 4 (some .int))) B.pre
  have hown : s.vm.findClass RX11 = some m.cls := findClass_of_methodNamed B.named
  have hlocks := B.notSynchronized
  subst hsz
  have hD : va_D (pq_B t σ (I, J, ri, rj, rq) s.heap.size) (pq_P t σ (I, J, ri, rj, rq)) := hD0.self
  generalize hAe : pq_B t σ (I, J, ri, rj, rq) s.heap.size = A at hD ⊢
  have hA : ∀ q : Nat, s.heap.size ≤ q → A q := fun q h => by rw [← hAe]; exact Or.inr h
  have hS : va_S A s.heap s.heap [] := va_S.rf
  have hl := lv_entry ([.ref of, .int 0]) (n := 4) (Nat.le_of_ble_eq_true rfl)
  rw [lg_entry_eq]
  generalize (lg_sl ([.ref of, .int 0]) ++ List.replicate (4 - (lg_sl ([.ref of, .int 0])).length) Slot.unset).toArray = ls at hl ⊢
  have hl : lv_has ls 4 [(0, .ref of), (1, .int 0)] := hl
  refine lv_iconst (v := 0) hx hb dX11_sum_0 (by decide) ?_
  refine lv_istore_n (lv' := [(2, .int 0), (0, .ref of), (1, .int 0)]) hx hb dX11_sum_1 rfl hl (by decide) rfl (fun ls hl => ?_)
  refine lv_iconst (v := 0) hx hb dX11_sum_2 (by decide) ?_
  refine lv_istore_n (lv' := [(3, .int 0), (2, .int 0), (0, .ref of), (1, .int 0)]) hx hb dX11_sum_3 rfl hl (by decide) rfl (fun ls hl => ?_)
  refine lv_iload_n hx hb dX11_sum_4 rfl (lv_at hl 0 rfl) ?_
  refine lv_iload_n hx hb dX11_sum_5 rfl (lv_at hl 3 rfl) ?_
  refine lv_icmp_ge (tgt := 21) hx hb dX11_sum_6 (by decide) (fun c_1 => ?_) (fun c_1 => absurd c_1 (by decide))
  refine lv_iload_n hx hb dX11_sum_21 rfl (lv_at hl 1 rfl) ?_
  exact W.iret (v := 0) hx hb hr (fun t1 ht hW => ⟨⟨0, (σ, I, J, ri, rj, rq), rfl, ⟨rfl, rfl⟩, by rw [ht]; exact hP, va_K.moved hW.alike hK, hD⟩, hS.F ht⟩) hS.2.2 dX11_sum_22

def sp_about (what : Int32) : Int32 := if what = 12 then (-1) else if 0 ≤ what ∧ what ≤ 16 then 0 else (-1000000000)
theorem sp_ab0 {w : Int32} (h12 : ¬ w = 12) (h : ¬ (0 ≤ w ∧ w ≤ 16)) : (-1000000000 : Int32) = sp_about w := by
  unfold sp_about
  rw [if_neg h12, if_neg h]
theorem sp_ab1 {w : Int32} (h : ∀ n : Nat, n < 17 → w.toInt ≠ n) : (-1000000000 : Int32) = sp_about w := by
  refine sp_ab0 (fun q => h 12 (by decide) (by rw [q]; rfl)) (fun q => ?_)
  have q1 := Int32.le_iff_toInt_le.mp q.1
  have q2 := Int32.le_iff_toInt_le.mp q.2
  have e0 : (0 : Int32).toInt = 0 := rfl
  have e16 : (16 : Int32).toInt = 16 := rfl
  exact h w.toInt.toNat (by omega) (by omega)
theorem sp_ab2 {f : Nat → Int32} {w x : Int32} (h : fm f 0) (h0 : 0 ≤ w) (h1 : w ≤ 12) (e : x = f w.toNatClampNeg) : x = sp_about w := by
  obtain ⟨k, hk, -, hk2⟩ := nI_rg h0 h1 (by decide)
  have e12 : (12 : Int32).toInt = 12 := rfl
  have hk3 : k < 13 := by omega
  rw [e, hk, nI_clamp (by omega)]
  have hz : f 0 = 0 := h.1.trans nI_0
  have key : ∀ j, j < 13 → j ≠ 0 → fm_b j = sp_about (nI j) := by decide
  by_cases h3 : k = 0
  · rw [h3, hz]; decide
  · rw [h.2 k (by omega) h3 (by omega)]
    exact key k hk3 h3
theorem sp_ab3 {w : Int32} (h : ¬ (0 ≤ w ∧ w ≤ 12)) (h13 : ¬ w = 13) (h14 : ¬ w = 14) (h15 : ¬ w = 15) (h16 : ¬ w = 16) : (-1000000000 : Int32) = sp_about w := by
  refine sp_ab1 (fun n hn e => ?_)
  by_cases h4 : n < 13
  · refine h ⟨Int32.le_iff_toInt_le.mpr ?_, Int32.le_iff_toInt_le.mpr ?_⟩
    · rw [e, show (0 : Int32).toInt = 0 from rfl]; omega
    · rw [e, show (12 : Int32).toInt = 12 from rfl]; omega
  · have h5 : n = 13 ∨ n = 14 ∨ n = 15 ∨ n = 16 := by omega
    rcases h5 with h5 | h5 | h5 | h5 <;> subst h5
    · exact h13 (Int32.toInt_inj.mp (e.trans rfl))
    · exact h14 (Int32.toInt_inj.mp (e.trans rfl))
    · exact h15 (Int32.toInt_inj.mp (e.trans rfl))
    · exact h16 (Int32.toInt_inj.mp (e.trans rfl))

set_option maxHeartbeats 4000000 in
set_option maxRecDepth 100000 in
theorem c_X11_about (l : Launch) (D : va_G) (t : pq_T) (σ : pq_S) (I : Nat → Nat → Int32) (J : Nat → Nat → Int64) (ri : Nat → Nat → Int32) (rj : Nat → Nat → Int64) (rq : Nat → Nat → Option Nat) (sz : Nat) (this : Nat) (what : Int32) (hL_this : this ∈ σ.1) (hK_this : σ.2.1 this = 11) (this_now : Nat) (hR_this_now : σ.2.2.1 352 this = some this_now) (hL_this_now : this_now ∈ σ.1) (hK_this_now : σ.2.1 this_now = 10) (this_now_land : Nat) (hR_this_now_land : σ.2.2.1 327 this_now = some this_now_land) (hL_this_now_land : this_now_land ∈ σ.1) (hK_this_now_land : σ.2.1 this_now_land = 2) (this_now_seas : Nat) (hR_this_now_seas : σ.2.2.1 326 this_now = some this_now_seas) (hL_this_now_seas : this_now_seas ∈ σ.1) (hK_this_now_seas : σ.2.1 this_now_seas = 7) (this_now_folk : Nat) (hR_this_now_folk : σ.2.2.1 328 this_now = some this_now_folk) (hL_this_now_folk : this_now_folk ∈ σ.1) (hK_this_now_folk : σ.2.1 this_now_folk = 0) (this_now_law : Nat) (hR_this_now_law : σ.2.2.1 329 this_now = some this_now_law) (hL_this_now_law : this_now_law ∈ σ.1) (hK_this_now_law : σ.2.1 this_now_law = 3) (this_now_graves : Nat) (hR_this_now_graves : σ.2.2.1 330 this_now = some this_now_graves) (hL_this_now_graves : this_now_graves ∈ σ.1) (hK_this_now_graves : σ.2.1 this_now_graves = 1) (this_reader : Nat) (hR_this_reader : σ.2.2.1 356 this = some this_reader) (hL_this_reader : this_reader ∈ σ.1) (hK_this_reader : σ.2.1 this_reader = 4) (this_reader_scanner : Nat) (hR_this_reader_scanner : σ.2.2.1 128 this_reader = some this_reader_scanner) (hL_this_reader_scanner : this_reader_scanner ∈ σ.1) (hK_this_reader_scanner : σ.2.1 this_reader_scanner = 6) (this_now_land_sand : Nat) (hR_this_now_land_sand : σ.2.2.1 73 this_now_land = some this_now_land_sand) (hL_this_now_land_sand : this_now_land_sand ∈ σ.1) (hK_this_now_land_sand : σ.2.1 this_now_land_sand = 13) (hN_this_now_land_sand : σ.2.2.2 this_now_land_sand = 40) (this_now_folk_thirst : Nat) (hR_this_now_folk_thirst : σ.2.2.1 6 this_now_folk = some this_now_folk_thirst) (hL_this_now_folk_thirst : this_now_folk_thirst ∈ σ.1) (hK_this_now_folk_thirst : σ.2.1 this_now_folk_thirst = 13) (hN_this_now_folk_thirst : σ.2.2.2 this_now_folk_thirst = 40) (this_now_folk_noBed : Nat) (hR_this_now_folk_noBed : σ.2.2.1 7 this_now_folk = some this_now_folk_noBed) (hL_this_now_folk_noBed : this_now_folk_noBed ∈ σ.1) (hK_this_now_folk_noBed : σ.2.1 this_now_folk_noBed = 13) (hN_this_now_folk_noBed : σ.2.2.2 this_now_folk_noBed = 40) (hZ : pq_Z I) (hC0 : I 320 this_now = 0) (hCM : I 323 this_now = (-1)) : MetI l yX11_about (wa yX11_about cX11_about 2 (some .int)) ({ frames := 1, cells := 0, slots := 0, locals := 23 }) [.ref this, .int what] D t σ (I, J, ri, rj, rq) sz 0 0 (fun (r : Int32) (u : pq_S × pq_M) => u = (σ, I, J, ri, rj, rq) ∧ (r = sp_about what)) := by
  refine Met.ofW (cc := cX11_about) (maxL := 2) (ret := (some .int)) (by decide) rfl ?_
  intro p e s m args below meth c s₁ B hml hv
  obtain ⟨rfl, hsz, hP, hK, hD0, hN⟩ := hv
  have hx := B.exec
  have hb := B.bytes
  have hr := B.returns
  have hts := atoms_spec (ws := (wa yX11_about cX11_about 2 (some .int))) B.pre
  have hown : s.vm.findClass RX11 = some m.cls := findClass_of_methodNamed B.named
  have hlocks := B.notSynchronized
  subst hsz
  have hD : va_D (pq_B t σ (I, J, ri, rj, rq) s.heap.size) (pq_P t σ (I, J, ri, rj, rq)) := hD0.self
  generalize hAe : pq_B t σ (I, J, ri, rj, rq) s.heap.size = A at hD ⊢
  have hA : ∀ q : Nat, s.heap.size ≤ q → A q := fun q h => by rw [← hAe]; exact Or.inr h
  have hS : va_S A s.heap s.heap [] := va_S.rf
  have hl := lv_entry ([.ref this, .int what]) (n := 2) (Nat.le_of_ble_eq_true rfl)
  rw [lg_entry_eq]
  generalize (lg_sl ([.ref this, .int what]) ++ List.replicate (2 - (lg_sl ([.ref this, .int what])).length) Slot.unset).toArray = ls at hl ⊢
  have hl : lv_has ls 2 [(0, .ref this), (1, .int what)] := hl
  refine lv_iload_n hx hb dX11_about_0 rfl (lv_at hl 1 rfl) ?_
  by_cases k_1 : what = (0 : Int32)
  · refine lv_tov (0) k_1 ?_
    refine lv_tableIn (tgt := 84) hx hb dX11_about_1 (by decide) (by decide) rfl (by decide) ?_
    refine lv_aload_n hx hb dX11_about_84 rfl (lv_at hl 0 rfl) ?_
    refine pg_f (v := .ref this_now) (C := RX11) (T := TX11) (N := 5) hx hb hts (tw_i inlX11) hown hK hP hL_this hK_this (by decide) rfl 0 (by decide) (hts _ (tw_c tw_16)) (pq_hv rfl hR_this_now) dX11_about_85 ?_
    refine pg_f (v := .int (I 320 this_now)) (C := RX10) (T := TX10) (N := 13) hx hb hts (tw_i inlX10) hown hK hP hL_this_now hK_this_now (by decide) rfl 0 (by decide) (hts _ (tw_c tw_209)) rfl dX11_about_88 ?_
    refine lv_tov 0 hC0 ?_
    exact W.iret (v := 0) hx hb hr (fun t1 ht hW => ⟨⟨0, (σ, I, J, ri, rj, rq), rfl, ⟨rfl, (by rw [k_1]; decide)⟩, by rw [ht]; exact hP, va_K.moved hW.alike hK, hD⟩, hS.F ht⟩) hS.2.2 dX11_about_91
  by_cases k_2 : what = (1 : Int32)
  · refine lv_tov (1) k_2 ?_
    refine lv_tableIn (tgt := 92) hx hb dX11_about_1 (by decide) (by decide) rfl (by decide) ?_
    refine lv_aload_n hx hb dX11_about_92 rfl (lv_at hl 0 rfl) ?_
    refine pg_f (v := .ref this_now) (C := RX11) (T := TX11) (N := 5) hx hb hts (tw_i inlX11) hown hK hP hL_this hK_this (by decide) rfl 0 (by decide) (hts _ (tw_c tw_16)) (pq_hv rfl hR_this_now) dX11_about_93 ?_
    refine pg_f (v := .ref this_now_land) (C := RX10) (T := TX10) (N := 13) hx hb hts (tw_i inlX10) hown hK hP hL_this_now hK_this_now (by decide) rfl 7 (by decide) (hts _ (tw_c tw_199)) (pq_hv rfl hR_this_now_land) dX11_about_96 ?_
    refine pg_f (v := .int (I 64 this_now_land)) (C := RX2) (T := TX2) (N := 20) hx hb hts (tw_i inlX2) hown hK hP hL_this_now_land hK_this_now_land (by decide) rfl 0 (by decide) (hts _ (tw_c tw_200)) rfl dX11_about_99 ?_
    refine lv_tov 0 (congrFun (hZ 64 (by decide)) this_now_land) ?_
    exact W.iret (v := 0) hx hb hr (fun t1 ht hW => ⟨⟨0, (σ, I, J, ri, rj, rq), rfl, ⟨rfl, (by rw [k_2]; decide)⟩, by rw [ht]; exact hP, va_K.moved hW.alike hK, hD⟩, hS.F ht⟩) hS.2.2 dX11_about_102
  by_cases k_3 : what = (2 : Int32)
  · refine lv_tov (2) k_3 ?_
    refine lv_tableIn (tgt := 103) hx hb dX11_about_1 (by decide) (by decide) rfl (by decide) ?_
    refine lv_aload_n hx hb dX11_about_103 rfl (lv_at hl 0 rfl) ?_
    refine pg_f (v := .ref this_now) (C := RX11) (T := TX11) (N := 5) hx hb hts (tw_i inlX11) hown hK hP hL_this hK_this (by decide) rfl 0 (by decide) (hts _ (tw_c tw_16)) (pq_hv rfl hR_this_now) dX11_about_104 ?_
    refine pg_f (v := .ref this_now_land) (C := RX10) (T := TX10) (N := 13) hx hb hts (tw_i inlX10) hown hK hP hL_this_now hK_this_now (by decide) rfl 7 (by decide) (hts _ (tw_c tw_199)) (pq_hv rfl hR_this_now_land) dX11_about_107 ?_
    refine pg_f (v := .int (I 65 this_now_land)) (C := RX2) (T := TX2) (N := 20) hx hb hts (tw_i inlX2) hown hK hP hL_this_now_land hK_this_now_land (by decide) rfl 1 (by decide) (hts _ (tw_c tw_210)) rfl dX11_about_110 ?_
    refine lv_tov 0 (congrFun (hZ 65 (by decide)) this_now_land) ?_
    exact W.iret (v := 0) hx hb hr (fun t1 ht hW => ⟨⟨0, (σ, I, J, ri, rj, rq), rfl, ⟨rfl, (by rw [k_3]; decide)⟩, by rw [ht]; exact hP, va_K.moved hW.alike hK, hD⟩, hS.F ht⟩) hS.2.2 dX11_about_113
  by_cases k_4 : what = (3 : Int32)
  · refine lv_tov (3) k_4 ?_
    refine lv_tableIn (tgt := 114) hx hb dX11_about_1 (by decide) (by decide) rfl (by decide) ?_
    refine lv_aload_n hx hb dX11_about_114 rfl (lv_at hl 0 rfl) ?_
    refine pg_f (v := .ref this_now) (C := RX11) (T := TX11) (N := 5) hx hb hts (tw_i inlX11) hown hK hP hL_this hK_this (by decide) rfl 0 (by decide) (hts _ (tw_c tw_16)) (pq_hv rfl hR_this_now) dX11_about_115 ?_
    refine pg_f (v := .ref this_now_seas) (C := RX10) (T := TX10) (N := 13) hx hb hts (tw_i inlX10) hown hK hP hL_this_now hK_this_now (by decide) rfl 6 (by decide) (hts _ (tw_c tw_242)) (pq_hv rfl hR_this_now_seas) dX11_about_118 ?_
    refine pg_f (v := .int (I 224 this_now_seas)) (C := RX7) (T := TX7) (N := 15) hx hb hts (tw_i inlX7) hown hK hP hL_this_now_seas hK_this_now_seas (by decide) rfl 0 (by decide) (hts _ (tw_c tw_243)) rfl dX11_about_121 ?_
    refine lv_tov 0 (congrFun (hZ 224 (by decide)) this_now_seas) ?_
    exact W.iret (v := 0) hx hb hr (fun t1 ht hW => ⟨⟨0, (σ, I, J, ri, rj, rq), rfl, ⟨rfl, (by rw [k_4]; decide)⟩, by rw [ht]; exact hP, va_K.moved hW.alike hK, hD⟩, hS.F ht⟩) hS.2.2 dX11_about_124
  by_cases k_5 : what = (4 : Int32)
  · refine lv_tov (4) k_5 ?_
    refine lv_tableIn (tgt := 125) hx hb dX11_about_1 (by decide) (by decide) rfl (by decide) ?_
    refine lv_aload_n hx hb dX11_about_125 rfl (lv_at hl 0 rfl) ?_
    refine pg_f (v := .ref this_now) (C := RX11) (T := TX11) (N := 5) hx hb hts (tw_i inlX11) hown hK hP hL_this hK_this (by decide) rfl 0 (by decide) (hts _ (tw_c tw_16)) (pq_hv rfl hR_this_now) dX11_about_126 ?_
    refine pg_f (v := .ref this_now_folk) (C := RX10) (T := TX10) (N := 13) hx hb hts (tw_i inlX10) hown hK hP hL_this_now hK_this_now (by decide) rfl 8 (by decide) (hts _ (tw_c tw_379)) (pq_hv rfl hR_this_now_folk) dX11_about_129 ?_
    refine pg_f (v := .int (I 10 this_now_folk)) (C := RX0) (T := TX0) (N := 16) hx hb hts (tw_i inlX0) hown hK hP hL_this_now_folk hK_this_now_folk (by decide) rfl 10 (by decide) (hts _ (tw_c tw_380)) rfl dX11_about_132 ?_
    refine lv_tov 0 (congrFun (hZ 10 (by decide)) this_now_folk) ?_
    exact W.iret (v := 0) hx hb hr (fun t1 ht hW => ⟨⟨0, (σ, I, J, ri, rj, rq), rfl, ⟨rfl, (by rw [k_5]; decide)⟩, by rw [ht]; exact hP, va_K.moved hW.alike hK, hD⟩, hS.F ht⟩) hS.2.2 dX11_about_135
  by_cases k_6 : what = (5 : Int32)
  · refine lv_tov (5) k_6 ?_
    refine lv_tableIn (tgt := 136) hx hb dX11_about_1 (by decide) (by decide) rfl (by decide) ?_
    refine lv_aload_n hx hb dX11_about_136 rfl (lv_at hl 0 rfl) ?_
    refine pg_f (v := .ref this_now) (C := RX11) (T := TX11) (N := 5) hx hb hts (tw_i inlX11) hown hK hP hL_this hK_this (by decide) rfl 0 (by decide) (hts _ (tw_c tw_16)) (pq_hv rfl hR_this_now) dX11_about_137 ?_
    refine pg_f (v := .ref this_now_folk) (C := RX10) (T := TX10) (N := 13) hx hb hts (tw_i inlX10) hown hK hP hL_this_now hK_this_now (by decide) rfl 8 (by decide) (hts _ (tw_c tw_379)) (pq_hv rfl hR_this_now_folk) dX11_about_140 ?_
    refine pg_f (v := .int (I 0 this_now_folk)) (C := RX0) (T := TX0) (N := 16) hx hb hts (tw_i inlX0) hown hK hP hL_this_now_folk hK_this_now_folk (by decide) rfl 0 (by decide) (hts _ (tw_c tw_390)) rfl dX11_about_143 ?_
    refine lv_tov 0 (congrFun (hZ 0 (by decide)) this_now_folk) ?_
    exact W.iret (v := 0) hx hb hr (fun t1 ht hW => ⟨⟨0, (σ, I, J, ri, rj, rq), rfl, ⟨rfl, (by rw [k_6]; decide)⟩, by rw [ht]; exact hP, va_K.moved hW.alike hK, hD⟩, hS.F ht⟩) hS.2.2 dX11_about_146
  by_cases k_7 : what = (6 : Int32)
  · refine lv_tov (6) k_7 ?_
    refine lv_tableIn (tgt := 147) hx hb dX11_about_1 (by decide) (by decide) rfl (by decide) ?_
    refine lv_aload_n hx hb dX11_about_147 rfl (lv_at hl 0 rfl) ?_
    refine pg_f (v := .ref this_now) (C := RX11) (T := TX11) (N := 5) hx hb hts (tw_i inlX11) hown hK hP hL_this hK_this (by decide) rfl 0 (by decide) (hts _ (tw_c tw_16)) (pq_hv rfl hR_this_now) dX11_about_148 ?_
    refine pg_f (v := .ref this_now_law) (C := RX10) (T := TX10) (N := 13) hx hb hts (tw_i inlX10) hown hK hP hL_this_now hK_this_now (by decide) rfl 9 (by decide) (hts _ (tw_c tw_648)) (pq_hv rfl hR_this_now_law) dX11_about_151 ?_
    refine pg_f (v := .int (I 96 this_now_law)) (C := RX3) (T := TX3) (N := 8) hx hb hts (tw_i inlX3) hown hK hP hL_this_now_law hK_this_now_law (by decide) rfl 0 (by decide) (hts _ (tw_c tw_649)) rfl dX11_about_154 ?_
    refine lv_tov 0 (congrFun (hZ 96 (by decide)) this_now_law) ?_
    exact W.iret (v := 0) hx hb hr (fun t1 ht hW => ⟨⟨0, (σ, I, J, ri, rj, rq), rfl, ⟨rfl, (by rw [k_7]; decide)⟩, by rw [ht]; exact hP, va_K.moved hW.alike hK, hD⟩, hS.F ht⟩) hS.2.2 dX11_about_157
  by_cases k_8 : what = (7 : Int32)
  · refine lv_tov (7) k_8 ?_
    refine lv_tableIn (tgt := 158) hx hb dX11_about_1 (by decide) (by decide) rfl (by decide) ?_
    refine lv_aload_n hx hb dX11_about_158 rfl (lv_at hl 0 rfl) ?_
    refine pg_f (v := .ref this_now) (C := RX11) (T := TX11) (N := 5) hx hb hts (tw_i inlX11) hown hK hP hL_this hK_this (by decide) rfl 0 (by decide) (hts _ (tw_c tw_16)) (pq_hv rfl hR_this_now) dX11_about_159 ?_
    refine pg_f (v := .ref this_now_law) (C := RX10) (T := TX10) (N := 13) hx hb hts (tw_i inlX10) hown hK hP hL_this_now hK_this_now (by decide) rfl 9 (by decide) (hts _ (tw_c tw_648)) (pq_hv rfl hR_this_now_law) dX11_about_162 ?_
    refine pg_f (v := .int (I 98 this_now_law)) (C := RX3) (T := TX3) (N := 8) hx hb hts (tw_i inlX3) hown hK hP hL_this_now_law hK_this_now_law (by decide) rfl 2 (by decide) (hts _ (tw_c tw_950)) rfl dX11_about_165 ?_
    refine lv_tov 0 (congrFun (hZ 98 (by decide)) this_now_law) ?_
    exact W.iret (v := 0) hx hb hr (fun t1 ht hW => ⟨⟨0, (σ, I, J, ri, rj, rq), rfl, ⟨rfl, (by rw [k_8]; decide)⟩, by rw [ht]; exact hP, va_K.moved hW.alike hK, hD⟩, hS.F ht⟩) hS.2.2 dX11_about_168
  by_cases k_9 : what = (8 : Int32)
  · refine lv_tov (8) k_9 ?_
    refine lv_tableIn (tgt := 169) hx hb dX11_about_1 (by decide) (by decide) rfl (by decide) ?_
    refine lv_aload_n hx hb dX11_about_169 rfl (lv_at hl 0 rfl) ?_
    refine pg_f (v := .ref this_now) (C := RX11) (T := TX11) (N := 5) hx hb hts (tw_i inlX11) hown hK hP hL_this hK_this (by decide) rfl 0 (by decide) (hts _ (tw_c tw_16)) (pq_hv rfl hR_this_now) dX11_about_170 ?_
    refine pg_f (v := .int (I 321 this_now)) (C := RX10) (T := TX10) (N := 13) hx hb hts (tw_i inlX10) hown hK hP hL_this_now hK_this_now (by decide) rfl 1 (by decide) (hts _ (tw_c tw_1026)) rfl dX11_about_173 ?_
    refine lv_tov 0 (congrFun (hZ 321 (by decide)) this_now) ?_
    exact W.iret (v := 0) hx hb hr (fun t1 ht hW => ⟨⟨0, (σ, I, J, ri, rj, rq), rfl, ⟨rfl, (by rw [k_9]; decide)⟩, by rw [ht]; exact hP, va_K.moved hW.alike hK, hD⟩, hS.F ht⟩) hS.2.2 dX11_about_176
  by_cases k_10 : what = (9 : Int32)
  · refine lv_tov (9) k_10 ?_
    refine lv_tableIn (tgt := 177) hx hb dX11_about_1 (by decide) (by decide) rfl (by decide) ?_
    refine lv_aload_n hx hb dX11_about_177 rfl (lv_at hl 0 rfl) ?_
    refine pg_f (v := .ref this_now) (C := RX11) (T := TX11) (N := 5) hx hb hts (tw_i inlX11) hown hK hP hL_this hK_this (by decide) rfl 0 (by decide) (hts _ (tw_c tw_16)) (pq_hv rfl hR_this_now) dX11_about_178 ?_
    refine pg_f (v := .ref this_now_land) (C := RX10) (T := TX10) (N := 13) hx hb hts (tw_i inlX10) hown hK hP hL_this_now hK_this_now (by decide) rfl 7 (by decide) (hts _ (tw_c tw_199)) (pq_hv rfl hR_this_now_land) dX11_about_181 ?_
    refine pg_f (v := .int (I 66 this_now_land)) (C := RX2) (T := TX2) (N := 20) hx hb hts (tw_i inlX2) hown hK hP hL_this_now_land hK_this_now_land (by decide) rfl 2 (by decide) (hts _ (tw_c tw_1557)) rfl dX11_about_184 ?_
    refine lv_tov 0 (congrFun (hZ 66 (by decide)) this_now_land) ?_
    exact W.iret (v := 0) hx hb hr (fun t1 ht hW => ⟨⟨0, (σ, I, J, ri, rj, rq), rfl, ⟨rfl, (by rw [k_10]; decide)⟩, by rw [ht]; exact hP, va_K.moved hW.alike hK, hD⟩, hS.F ht⟩) hS.2.2 dX11_about_187
  by_cases k_11 : what = (10 : Int32)
  · refine lv_tov (10) k_11 ?_
    refine lv_tableIn (tgt := 188) hx hb dX11_about_1 (by decide) (by decide) rfl (by decide) ?_
    refine lv_aload_n hx hb dX11_about_188 rfl (lv_at hl 0 rfl) ?_
    refine pg_f (v := .ref this_now) (C := RX11) (T := TX11) (N := 5) hx hb hts (tw_i inlX11) hown hK hP hL_this hK_this (by decide) rfl 0 (by decide) (hts _ (tw_c tw_16)) (pq_hv rfl hR_this_now) dX11_about_189 ?_
    refine pg_f (v := .ref this_now_graves) (C := RX10) (T := TX10) (N := 13) hx hb hts (tw_i inlX10) hown hK hP hL_this_now hK_this_now (by decide) rfl 10 (by decide) (hts _ (tw_c tw_1499)) (pq_hv rfl hR_this_now_graves) dX11_about_192 ?_
    refine pg_f (v := .int (I 32 this_now_graves)) (C := RX1) (T := TX1) (N := 3) hx hb hts (tw_i inlX1) hown hK hP hL_this_now_graves hK_this_now_graves (by decide) rfl 0 (by decide) (hts _ (tw_c tw_1500)) rfl dX11_about_195 ?_
    refine lv_tov 0 (congrFun (hZ 32 (by decide)) this_now_graves) ?_
    exact W.iret (v := 0) hx hb hr (fun t1 ht hW => ⟨⟨0, (σ, I, J, ri, rj, rq), rfl, ⟨rfl, (by rw [k_11]; decide)⟩, by rw [ht]; exact hP, va_K.moved hW.alike hK, hD⟩, hS.F ht⟩) hS.2.2 dX11_about_198
  by_cases k_12 : what = (11 : Int32)
  · refine lv_tov (11) k_12 ?_
    refine lv_tableIn (tgt := 199) hx hb dX11_about_1 (by decide) (by decide) rfl (by decide) ?_
    refine lv_aload_n hx hb dX11_about_199 rfl (lv_at hl 0 rfl) ?_
    refine pg_f (v := .ref this_now) (C := RX11) (T := TX11) (N := 5) hx hb hts (tw_i inlX11) hown hK hP hL_this hK_this (by decide) rfl 0 (by decide) (hts _ (tw_c tw_16)) (pq_hv rfl hR_this_now) dX11_about_200 ?_
    refine pg_f (v := .int (I 322 this_now)) (C := RX10) (T := TX10) (N := 13) hx hb hts (tw_i inlX10) hown hK hP hL_this_now hK_this_now (by decide) rfl 2 (by decide) (hts _ (tw_c tw_1025)) rfl dX11_about_203 ?_
    refine lv_tov 0 (congrFun (hZ 322 (by decide)) this_now) ?_
    exact W.iret (v := 0) hx hb hr (fun t1 ht hW => ⟨⟨0, (σ, I, J, ri, rj, rq), rfl, ⟨rfl, (by rw [k_12]; decide)⟩, by rw [ht]; exact hP, va_K.moved hW.alike hK, hD⟩, hS.F ht⟩) hS.2.2 dX11_about_206
  by_cases k_13 : what = (12 : Int32)
  · refine lv_tov (12) k_13 ?_
    refine lv_tableIn (tgt := 207) hx hb dX11_about_1 (by decide) (by decide) rfl (by decide) ?_
    refine lv_aload_n hx hb dX11_about_207 rfl (lv_at hl 0 rfl) ?_
    refine pg_f (v := .ref this_now) (C := RX11) (T := TX11) (N := 5) hx hb hts (tw_i inlX11) hown hK hP hL_this hK_this (by decide) rfl 0 (by decide) (hts _ (tw_c tw_16)) (pq_hv rfl hR_this_now) dX11_about_208 ?_
    refine pg_f (v := .int (I 323 this_now)) (C := RX10) (T := TX10) (N := 13) hx hb hts (tw_i inlX10) hown hK hP hL_this_now hK_this_now (by decide) rfl 3 (by decide) (hts _ (tw_c tw_1405)) rfl dX11_about_211 ?_
    refine lv_tov (-1) hCM ?_
    exact W.iret (v := (-1)) hx hb hr (fun t1 ht hW => ⟨⟨(-1), (σ, I, J, ri, rj, rq), rfl, ⟨rfl, (by rw [k_13]; decide)⟩, by rw [ht]; exact hP, va_K.moved hW.alike hK, hD⟩, hS.F ht⟩) hS.2.2 dX11_about_214
  by_cases k_14 : what = (13 : Int32)
  · refine lv_tov (13) k_14 ?_
    refine lv_tableIn (tgt := 215) hx hb dX11_about_1 (by decide) (by decide) rfl (by decide) ?_
    refine lv_aload_n hx hb dX11_about_215 rfl (lv_at hl 0 rfl) ?_
    refine pg_f (v := .ref this_reader) (C := RX11) (T := TX11) (N := 5) hx hb hts (tw_i inlX11) hown hK hP hL_this hK_this (by decide) rfl 4 (by decide) (hts _ (tw_c tw_26)) (pq_hv rfl hR_this_reader) dX11_about_216 ?_
    refine pg_f (v := .ref this_reader_scanner) (C := RX4) (T := TX4) (N := 12) hx hb hts (tw_i inlX4) hown hK hP hL_this_reader hK_this_reader (by decide) rfl 0 (by decide) (hts _ (tw_c tw_620)) (pq_hv rfl hR_this_reader_scanner) dX11_about_219 ?_
    refine pg_f (v := .int (I 193 this_reader_scanner)) (C := RX6) (T := TX6) (N := 6) hx hb hts (tw_i inlX6) hown hK hP hL_this_reader_scanner hK_this_reader_scanner (by decide) rfl 1 (by decide) (hts _ (tw_c tw_621)) rfl dX11_about_222 ?_
    refine lv_tov 0 (congrFun (hZ 193 (by decide)) this_reader_scanner) ?_
    exact W.iret (v := 0) hx hb hr (fun t1 ht hW => ⟨⟨0, (σ, I, J, ri, rj, rq), rfl, ⟨rfl, (by rw [k_14]; decide)⟩, by rw [ht]; exact hP, va_K.moved hW.alike hK, hD⟩, hS.F ht⟩) hS.2.2 dX11_about_225
  by_cases k_15 : what = (14 : Int32)
  · refine lv_tov (14) k_15 ?_
    refine lv_tableIn (tgt := 226) hx hb dX11_about_1 (by decide) (by decide) rfl (by decide) ?_
    refine lv_aload_n hx hb dX11_about_226 rfl (lv_at hl 0 rfl) ?_
    refine pg_f (v := .ref this_now) (C := RX11) (T := TX11) (N := 5) hx hb hts (tw_i inlX11) hown hK hP hL_this hK_this (by decide) rfl 0 (by decide) (hts _ (tw_c tw_16)) (pq_hv rfl hR_this_now) dX11_about_227 ?_
    refine pg_f (v := .ref this_now_land) (C := RX10) (T := TX10) (N := 13) hx hb hts (tw_i inlX10) hown hK hP hL_this_now hK_this_now (by decide) rfl 7 (by decide) (hts _ (tw_c tw_199)) (pq_hv rfl hR_this_now_land) dX11_about_230 ?_
    refine pg_f (v := .ref this_now_land_sand) (C := RX2) (T := TX2) (N := 20) hx hb hts (tw_i inlX2) hown hK hP hL_this_now_land hK_this_now_land (by decide) rfl 9 (by decide) (hts _ (tw_c tw_1273)) (pq_hv rfl hR_this_now_land_sand) dX11_about_233 ?_
    refine lv_aload_n hx hb dX11_about_236 rfl (lv_at hl 0 rfl) ?_
    refine pg_f (v := .ref this_now) (C := RX11) (T := TX11) (N := 5) hx hb hts (tw_i inlX11) hown hK hP hL_this hK_this (by decide) rfl 0 (by decide) (hts _ (tw_c tw_16)) (pq_hv rfl hR_this_now) dX11_about_237 ?_
    refine pg_f (v := .ref this_now_land) (C := RX10) (T := TX10) (N := 13) hx hb hts (tw_i inlX10) hown hK hP hL_this_now hK_this_now (by decide) rfl 7 (by decide) (hts _ (tw_c tw_199)) (pq_hv rfl hR_this_now_land) dX11_about_240 ?_
    refine pg_f (v := .int (I 65 this_now_land)) (C := RX2) (T := TX2) (N := 20) hx hb hts (tw_i inlX2) hown hK hP hL_this_now_land hK_this_now_land (by decide) rfl 1 (by decide) (hts _ (tw_c tw_210)) rfl dX11_about_243 ?_
    refine lv_tov 0 (congrFun (hZ 65 (by decide)) this_now_land) ?_
    refine pk_i (va_runS (As := [.ref this_now_land_sand, .int 0]) (rest := []) ⟨hx, hb, hml, hown, hts⟩ (c_X11_sum l D t σ I J ri rj rq (Array.size s.heap) this_now_land_sand 40 hL_this_now_land_sand hK_this_now_land_sand hN_this_now_land_sand) (va_cwS 2 hts (tw_S tw_1559 tw_1560 tw_2 tw_1561) rfl rfl rfl (by decide +kernel) ⟨Nat.le_of_ble_eq_true rfl, Nat.le_of_ble_eq_true rfl⟩) ⟨pq_blind, pq_pre hK hN hP hD⟩ rfl rfl hl.1 rfl (lv_room (Nat.le_of_ble_eq_true rfl)) dX11_about_246 ⟨Nat.le_of_ble_eq_true rfl, Nat.le_of_ble_eq_true rfl⟩) hD hS hA (fun r_16 σ1 μ1 H locs hw_17 hP hD hS => ?_)
    obtain ⟨hu_18, hr_19⟩ := hw_17
    obtain ⟨hu_18a, hu_18b⟩ := Prod.mk.inj hu_18
    rw [hu_18a, hu_18b] at hP hD
    subst hr_19
    exact W.iret (v := 0) hx hb hr (fun t1 ht hW => ⟨⟨0, (σ, I, J, ri, rj, rq), rfl, ⟨rfl, (by rw [k_15]; decide)⟩, by rw [ht]; exact hP, va_K.moved hW.alike hK, hD⟩, hS.F ht⟩) hS.2.2 dX11_about_249
  by_cases k_20 : what = (15 : Int32)
  · refine lv_tov (15) k_20 ?_
    refine lv_tableIn (tgt := 250) hx hb dX11_about_1 (by decide) (by decide) rfl (by decide) ?_
    refine lv_aload_n hx hb dX11_about_250 rfl (lv_at hl 0 rfl) ?_
    refine pg_f (v := .ref this_now) (C := RX11) (T := TX11) (N := 5) hx hb hts (tw_i inlX11) hown hK hP hL_this hK_this (by decide) rfl 0 (by decide) (hts _ (tw_c tw_16)) (pq_hv rfl hR_this_now) dX11_about_251 ?_
    refine pg_f (v := .ref this_now_folk) (C := RX10) (T := TX10) (N := 13) hx hb hts (tw_i inlX10) hown hK hP hL_this_now hK_this_now (by decide) rfl 8 (by decide) (hts _ (tw_c tw_379)) (pq_hv rfl hR_this_now_folk) dX11_about_254 ?_
    refine pg_f (v := .ref this_now_folk_thirst) (C := RX0) (T := TX0) (N := 16) hx hb hts (tw_i inlX0) hown hK hP hL_this_now_folk hK_this_now_folk (by decide) rfl 6 (by decide) (hts _ (tw_c tw_1296)) (pq_hv rfl hR_this_now_folk_thirst) dX11_about_257 ?_
    refine lv_aload_n hx hb dX11_about_260 rfl (lv_at hl 0 rfl) ?_
    refine pg_f (v := .ref this_now) (C := RX11) (T := TX11) (N := 5) hx hb hts (tw_i inlX11) hown hK hP hL_this hK_this (by decide) rfl 0 (by decide) (hts _ (tw_c tw_16)) (pq_hv rfl hR_this_now) dX11_about_261 ?_
    refine pg_f (v := .ref this_now_folk) (C := RX10) (T := TX10) (N := 13) hx hb hts (tw_i inlX10) hown hK hP hL_this_now hK_this_now (by decide) rfl 8 (by decide) (hts _ (tw_c tw_379)) (pq_hv rfl hR_this_now_folk) dX11_about_264 ?_
    refine pg_f (v := .int (I 0 this_now_folk)) (C := RX0) (T := TX0) (N := 16) hx hb hts (tw_i inlX0) hown hK hP hL_this_now_folk hK_this_now_folk (by decide) rfl 0 (by decide) (hts _ (tw_c tw_390)) rfl dX11_about_267 ?_
    refine lv_tov 0 (congrFun (hZ 0 (by decide)) this_now_folk) ?_
    refine pk_i (va_runS (As := [.ref this_now_folk_thirst, .int 0]) (rest := []) ⟨hx, hb, hml, hown, hts⟩ (c_X11_sum l D t σ I J ri rj rq (Array.size s.heap) this_now_folk_thirst 40 hL_this_now_folk_thirst hK_this_now_folk_thirst hN_this_now_folk_thirst) (va_cwS 2 hts (tw_S tw_1559 tw_1560 tw_2 tw_1561) rfl rfl rfl (by decide +kernel) ⟨Nat.le_of_ble_eq_true rfl, Nat.le_of_ble_eq_true rfl⟩) ⟨pq_blind, pq_pre hK hN hP hD⟩ rfl rfl hl.1 rfl (lv_room (Nat.le_of_ble_eq_true rfl)) dX11_about_270 ⟨Nat.le_of_ble_eq_true rfl, Nat.le_of_ble_eq_true rfl⟩) hD hS hA (fun r_21 σ1 μ1 H locs hw_22 hP hD hS => ?_)
    obtain ⟨hu_23, hr_24⟩ := hw_22
    obtain ⟨hu_23a, hu_23b⟩ := Prod.mk.inj hu_23
    rw [hu_23a, hu_23b] at hP hD
    subst hr_24
    exact W.iret (v := 0) hx hb hr (fun t1 ht hW => ⟨⟨0, (σ, I, J, ri, rj, rq), rfl, ⟨rfl, (by rw [k_20]; decide)⟩, by rw [ht]; exact hP, va_K.moved hW.alike hK, hD⟩, hS.F ht⟩) hS.2.2 dX11_about_273
  by_cases k_25 : what = (16 : Int32)
  · refine lv_tov (16) k_25 ?_
    refine lv_tableIn (tgt := 274) hx hb dX11_about_1 (by decide) (by decide) rfl (by decide) ?_
    refine lv_aload_n hx hb dX11_about_274 rfl (lv_at hl 0 rfl) ?_
    refine pg_f (v := .ref this_now) (C := RX11) (T := TX11) (N := 5) hx hb hts (tw_i inlX11) hown hK hP hL_this hK_this (by decide) rfl 0 (by decide) (hts _ (tw_c tw_16)) (pq_hv rfl hR_this_now) dX11_about_275 ?_
    refine pg_f (v := .ref this_now_folk) (C := RX10) (T := TX10) (N := 13) hx hb hts (tw_i inlX10) hown hK hP hL_this_now hK_this_now (by decide) rfl 8 (by decide) (hts _ (tw_c tw_379)) (pq_hv rfl hR_this_now_folk) dX11_about_278 ?_
    refine pg_f (v := .ref this_now_folk_noBed) (C := RX0) (T := TX0) (N := 16) hx hb hts (tw_i inlX0) hown hK hP hL_this_now_folk hK_this_now_folk (by decide) rfl 7 (by decide) (hts _ (tw_c tw_1297)) (pq_hv rfl hR_this_now_folk_noBed) dX11_about_281 ?_
    refine lv_aload_n hx hb dX11_about_284 rfl (lv_at hl 0 rfl) ?_
    refine pg_f (v := .ref this_now) (C := RX11) (T := TX11) (N := 5) hx hb hts (tw_i inlX11) hown hK hP hL_this hK_this (by decide) rfl 0 (by decide) (hts _ (tw_c tw_16)) (pq_hv rfl hR_this_now) dX11_about_285 ?_
    refine pg_f (v := .ref this_now_folk) (C := RX10) (T := TX10) (N := 13) hx hb hts (tw_i inlX10) hown hK hP hL_this_now hK_this_now (by decide) rfl 8 (by decide) (hts _ (tw_c tw_379)) (pq_hv rfl hR_this_now_folk) dX11_about_288 ?_
    refine pg_f (v := .int (I 0 this_now_folk)) (C := RX0) (T := TX0) (N := 16) hx hb hts (tw_i inlX0) hown hK hP hL_this_now_folk hK_this_now_folk (by decide) rfl 0 (by decide) (hts _ (tw_c tw_390)) rfl dX11_about_291 ?_
    refine lv_tov 0 (congrFun (hZ 0 (by decide)) this_now_folk) ?_
    refine pk_i (va_runS (As := [.ref this_now_folk_noBed, .int 0]) (rest := []) ⟨hx, hb, hml, hown, hts⟩ (c_X11_sum l D t σ I J ri rj rq (Array.size s.heap) this_now_folk_noBed 40 hL_this_now_folk_noBed hK_this_now_folk_noBed hN_this_now_folk_noBed) (va_cwS 2 hts (tw_S tw_1559 tw_1560 tw_2 tw_1561) rfl rfl rfl (by decide +kernel) ⟨Nat.le_of_ble_eq_true rfl, Nat.le_of_ble_eq_true rfl⟩) ⟨pq_blind, pq_pre hK hN hP hD⟩ rfl rfl hl.1 rfl (lv_room (Nat.le_of_ble_eq_true rfl)) dX11_about_294 ⟨Nat.le_of_ble_eq_true rfl, Nat.le_of_ble_eq_true rfl⟩) hD hS hA (fun r_26 σ1 μ1 H locs hw_27 hP hD hS => ?_)
    obtain ⟨hu_28, hr_29⟩ := hw_27
    obtain ⟨hu_28a, hu_28b⟩ := Prod.mk.inj hu_28
    rw [hu_28a, hu_28b] at hP hD
    subst hr_29
    exact W.iret (v := 0) hx hb hr (fun t1 ht hW => ⟨⟨0, (σ, I, J, ri, rj, rq), rfl, ⟨rfl, (by rw [k_25]; decide)⟩, by rw [ht]; exact hP, va_K.moved hW.alike hK, hD⟩, hS.F ht⟩) hS.2.2 dX11_about_297
  refine lv_tableOut (tgt := 298) hx hb dX11_about_1 (by have := sw_ne k_1 (n := 0) rfl; have := sw_ne k_2 (n := 1) rfl; have := sw_ne k_3 (n := 2) rfl; have := sw_ne k_4 (n := 3) rfl; have := sw_ne k_5 (n := 4) rfl; have := sw_ne k_6 (n := 5) rfl; have := sw_ne k_7 (n := 6) rfl; have := sw_ne k_8 (n := 7) rfl; have := sw_ne k_9 (n := 8) rfl; have := sw_ne k_10 (n := 9) rfl; have := sw_ne k_11 (n := 10) rfl; have := sw_ne k_12 (n := 11) rfl; have := sw_ne k_13 (n := 12) rfl; have := sw_ne k_14 (n := 13) rfl; have := sw_ne k_15 (n := 14) rfl; have := sw_ne k_20 (n := 15) rfl; have := sw_ne k_25 (n := 16) rfl; omega) (by decide) ?_
  refine lv_ldcw hx hb hown (hts _ (tw_c tw_1558)) dX11_about_298 ?_
  exact W.iret (v := (-1000000000)) hx hb hr (fun t1 ht hW => ⟨⟨(-1000000000), (σ, I, J, ri, rj, rq), rfl, ⟨rfl, (sp_ab1 (fun n hn => by have hn2 : n = 0 ∨ n = 1 ∨ n = 2 ∨ n = 3 ∨ n = 4 ∨ n = 5 ∨ n = 6 ∨ n = 7 ∨ n = 8 ∨ n = 9 ∨ n = 10 ∨ n = 11 ∨ n = 12 ∨ n = 13 ∨ n = 14 ∨ n = 15 ∨ n = 16 := (by omega); rcases hn2 with hn2 | hn2 | hn2 | hn2 | hn2 | hn2 | hn2 | hn2 | hn2 | hn2 | hn2 | hn2 | hn2 | hn2 | hn2 | hn2 | hn2 <;> subst hn2 <;> first | exact sw_ne k_1 rfl | exact sw_ne k_2 rfl | exact sw_ne k_3 rfl | exact sw_ne k_4 rfl | exact sw_ne k_5 rfl | exact sw_ne k_6 rfl | exact sw_ne k_7 rfl | exact sw_ne k_8 rfl | exact sw_ne k_9 rfl | exact sw_ne k_10 rfl | exact sw_ne k_11 rfl | exact sw_ne k_12 rfl | exact sw_ne k_13 rfl | exact sw_ne k_14 rfl | exact sw_ne k_15 rfl | exact sw_ne k_20 rfl | exact sw_ne k_25 rfl))⟩, by rw [ht]; exact hP, va_K.moved hW.alike hK, hD⟩, hS.F ht⟩) hS.2.2 dX11_about_301

set_option maxHeartbeats 4000000 in
set_option maxRecDepth 100000 in
theorem c_X12_about (l : Launch) (D : va_G) (t : pq_T) (σ : pq_S) (I : Nat → Nat → Int32) (J : Nat → Nat → Int64) (ri : Nat → Nat → Int32) (rj : Nat → Nat → Int64) (rq : Nat → Nat → Option Nat) (sz : Nat) (this : Nat) (what : Int32) (hL_this : this ∈ σ.1) (hK_this : σ.2.1 this = 12) (this_a : Nat) (hR_this_a : σ.2.2.1 384 this = some this_a) (hL_this_a : this_a ∈ σ.1) (hK_this_a : σ.2.1 this_a = 13) (hN_this_a : σ.2.2.2 this_a = 12720) (hF : fm (ri this_a) 0) (hT : I 388 this = 0) : MetI l yX12_about (wa yX12_about cX12_about 4 (some .int)) ({ frames := 1, cells := 0, slots := 0, locals := 22 }) [.ref this, .int what] D t σ (I, J, ri, rj, rq) sz 0 0 (fun (r : Int32) (u : pq_S × pq_M) => u = (σ, I, J, ri, rj, rq) ∧ (r = sp_about what)) := by
  refine Met.ofW (cc := cX12_about) (maxL := 4) (ret := (some .int)) (by decide) rfl ?_
  intro p e s m args below meth c s₁ B hml hv
  obtain ⟨rfl, hsz, hP, hK, hD0, hN⟩ := hv
  have hx := B.exec
  have hb := B.bytes
  have hr := B.returns
  have hts := atoms_spec (ws := (wa yX12_about cX12_about 4 (some .int))) B.pre
  have hown : s.vm.findClass RX12 = some m.cls := findClass_of_methodNamed B.named
  have hlocks := B.notSynchronized
  subst hsz
  have hD : va_D (pq_B t σ (I, J, ri, rj, rq) s.heap.size) (pq_P t σ (I, J, ri, rj, rq)) := hD0.self
  generalize hAe : pq_B t σ (I, J, ri, rj, rq) s.heap.size = A at hD ⊢
  have hA : ∀ q : Nat, s.heap.size ≤ q → A q := fun q h => by rw [← hAe]; exact Or.inr h
  have hS : va_S A s.heap s.heap [] := va_S.rf
  have hl := lv_entry ([.ref this, .int what]) (n := 4) (Nat.le_of_ble_eq_true rfl)
  rw [lg_entry_eq]
  generalize (lg_sl ([.ref this, .int what]) ++ List.replicate (4 - (lg_sl ([.ref this, .int what])).length) Slot.unset).toArray = ls at hl ⊢
  have hl : lv_has ls 4 [(0, .ref this), (1, .int what)] := hl
  refine lv_iconst (v := 0) hx hb dX12_about_0 (by decide) ?_
  refine lv_istore_n (lv' := [(2, .int 0), (0, .ref this), (1, .int what)]) hx hb dX12_about_1 rfl hl (by decide) rfl (fun ls hl => ?_)
  refine lv_iload_n hx hb dX12_about_2 rfl (lv_at hl 2 rfl) ?_
  by_cases k_1 : what = (13 : Int32)
  · refine lv_tov (13) k_1 ?_
    refine lv_tableIn (tgt := 32) hx hb dX12_about_3 (by decide) (by decide) rfl (by decide) ?_
    refine lv_aload_n hx hb dX12_about_32 rfl (lv_at hl 1 rfl) ?_
    refine pg_f (v := .int (I 388 this)) (C := RX12) (T := TX12) (N := 31) hx hb hts (tw_i inlX12) hown hK hP hL_this hK_this (by decide) rfl 4 (by decide) (hts _ (tw_c tw_631)) rfl dX12_about_33 ?_
    refine lv_tov 0 hT ?_
    exact W.iret (v := 0) hx hb hr (fun t1 ht hW => ⟨⟨0, (σ, I, J, ri, rj, rq), rfl, ⟨rfl, (by rw [k_1]; decide)⟩, by rw [ht]; exact hP, va_K.moved hW.alike hK, hD⟩, hS.F ht⟩) hS.2.2 dX12_about_36
  by_cases k_2 : what = (14 : Int32)
  · refine lv_tov (14) k_2 ?_
    refine lv_tableIn (tgt := 37) hx hb dX12_about_3 (by decide) (by decide) rfl (by decide) ?_
    refine lv_iconst (v := 0) hx hb dX12_about_37 (by decide) ?_
    refine lv_istore_n (lv' := [(3, .int 0), (2, .int 0), (0, .ref this), (1, .int what)]) hx hb dX12_about_38 rfl hl (by decide) rfl (fun ls hl => ?_)
    refine lv_iload_n hx hb dX12_about_39 rfl (lv_at hl 0 rfl) ?_
    refine lv_aload_n hx hb dX12_about_40 rfl (lv_at hl 2 rfl) ?_
    refine pg_f (v := .ref this_a) (C := RX12) (T := TX12) (N := 31) hx hb hts (tw_i inlX12) hown hK hP hL_this hK_this (by decide) rfl 0 (by decide) (hts _ (tw_c tw_176)) (pq_hv rfl hR_this_a) dX12_about_41 ?_
    refine lv_iconst (v := 2) hx hb dX12_about_44 (by decide) ?_
    refine pl_i hx hb hK hP hL_this_a hK_this_a hN_this_a (vp_in_iff.mpr (by decide)) dX12_about_45 ?_
    refine lv_tov 0 (fm_at hF 2 (v := 0) (by decide)) ?_
    refine lv_icmp_ge (tgt := 64) hx hb dX12_about_46 (by decide) (fun c_3 => ?_) (fun c_3 => absurd c_3 (by decide))
    refine lv_iload_n hx hb dX12_about_64 rfl (lv_at hl 1 rfl) ?_
    exact W.iret (v := 0) hx hb hr (fun t1 ht hW => ⟨⟨0, (σ, I, J, ri, rj, rq), rfl, ⟨rfl, (by rw [k_2]; decide)⟩, by rw [ht]; exact hP, va_K.moved hW.alike hK, hD⟩, hS.F ht⟩) hS.2.2 dX12_about_65
  by_cases k_4 : what = (15 : Int32)
  · refine lv_tov (15) k_4 ?_
    refine lv_tableIn (tgt := 66) hx hb dX12_about_3 (by decide) (by decide) rfl (by decide) ?_
    refine lv_iconst (v := 0) hx hb dX12_about_66 (by decide) ?_
    refine lv_istore_n (lv' := [(3, .int 0), (2, .int 0), (0, .ref this), (1, .int what)]) hx hb dX12_about_67 rfl hl (by decide) rfl (fun ls hl => ?_)
    refine lv_iload_n hx hb dX12_about_68 rfl (lv_at hl 0 rfl) ?_
    refine lv_aload_n hx hb dX12_about_69 rfl (lv_at hl 2 rfl) ?_
    refine pg_f (v := .ref this_a) (C := RX12) (T := TX12) (N := 31) hx hb hts (tw_i inlX12) hown hK hP hL_this hK_this (by decide) rfl 0 (by decide) (hts _ (tw_c tw_176)) (pq_hv rfl hR_this_a) dX12_about_70 ?_
    refine lv_iconst (v := 5) hx hb dX12_about_73 (by decide) ?_
    refine pl_i hx hb hK hP hL_this_a hK_this_a hN_this_a (vp_in_iff.mpr (by decide)) dX12_about_74 ?_
    refine lv_tov 0 (fm_at hF 5 (v := 0) (by decide)) ?_
    refine lv_icmp_ge (tgt := 93) hx hb dX12_about_75 (by decide) (fun c_5 => ?_) (fun c_5 => absurd c_5 (by decide))
    refine lv_iload_n hx hb dX12_about_93 rfl (lv_at hl 1 rfl) ?_
    exact W.iret (v := 0) hx hb hr (fun t1 ht hW => ⟨⟨0, (σ, I, J, ri, rj, rq), rfl, ⟨rfl, (by rw [k_4]; decide)⟩, by rw [ht]; exact hP, va_K.moved hW.alike hK, hD⟩, hS.F ht⟩) hS.2.2 dX12_about_94
  by_cases k_6 : what = (16 : Int32)
  · refine lv_tov (16) k_6 ?_
    refine lv_tableIn (tgt := 95) hx hb dX12_about_3 (by decide) (by decide) rfl (by decide) ?_
    refine lv_iconst (v := 0) hx hb dX12_about_95 (by decide) ?_
    refine lv_istore_n (lv' := [(3, .int 0), (2, .int 0), (0, .ref this), (1, .int what)]) hx hb dX12_about_96 rfl hl (by decide) rfl (fun ls hl => ?_)
    refine lv_iload_n hx hb dX12_about_97 rfl (lv_at hl 0 rfl) ?_
    refine lv_aload_n hx hb dX12_about_98 rfl (lv_at hl 2 rfl) ?_
    refine pg_f (v := .ref this_a) (C := RX12) (T := TX12) (N := 31) hx hb hts (tw_i inlX12) hown hK hP hL_this hK_this (by decide) rfl 0 (by decide) (hts _ (tw_c tw_176)) (pq_hv rfl hR_this_a) dX12_about_99 ?_
    refine lv_iconst (v := 5) hx hb dX12_about_102 (by decide) ?_
    refine pl_i hx hb hK hP hL_this_a hK_this_a hN_this_a (vp_in_iff.mpr (by decide)) dX12_about_103 ?_
    refine lv_tov 0 (fm_at hF 5 (v := 0) (by decide)) ?_
    refine lv_icmp_ge (tgt := 123) hx hb dX12_about_104 (by decide) (fun c_7 => ?_) (fun c_7 => absurd c_7 (by decide))
    refine lv_iload_n hx hb dX12_about_123 rfl (lv_at hl 1 rfl) ?_
    exact W.iret (v := 0) hx hb hr (fun t1 ht hW => ⟨⟨0, (σ, I, J, ri, rj, rq), rfl, ⟨rfl, (by rw [k_6]; decide)⟩, by rw [ht]; exact hP, va_K.moved hW.alike hK, hD⟩, hS.F ht⟩) hS.2.2 dX12_about_124
  refine lv_tableOut (tgt := 125) hx hb dX12_about_3 (by have := sw_ne k_1 (n := 13) rfl; have := sw_ne k_2 (n := 14) rfl; have := sw_ne k_4 (n := 15) rfl; have := sw_ne k_6 (n := 16) rfl; omega) (by decide) ?_
  refine lv_iload_n hx hb dX12_about_125 rfl (lv_at hl 2 rfl) ?_
  refine lv_iconst (v := 0) hx hb dX12_about_126 (by decide) ?_
  refine lv_bipush (v := 12) hx hb dX12_about_127 (by decide) ?_
  refine pk_i (va_runS (As := [.int what, .int 0, .int 12]) (rest := []) ⟨hx, hb, hml, hown, hts⟩ (c_X12_isIn l D t σ I J ri rj rq (Array.size s.heap) what (0 : Int32) (12 : Int32)) (va_cwS 3 hts (tw_S tw_235 tw_236 tw_5 tw_237) rfl rfl rfl (by decide +kernel) ⟨Nat.le_of_ble_eq_true rfl, Nat.le_of_ble_eq_true rfl⟩) ⟨pq_blind, pq_pre hK hN hP hD⟩ rfl rfl hl.1 rfl (lv_room (Nat.le_of_ble_eq_true rfl)) dX12_about_129 ⟨Nat.le_of_ble_eq_true rfl, Nat.le_of_ble_eq_true rfl⟩) hD hS hA (fun r_8 σ1 μ1 H locs hw_9 hP hD hS => ?_)
  obtain ⟨hu_10, hr_11⟩ := hw_9
  obtain ⟨hu_10a, hu_10b⟩ := Prod.mk.inj hu_10
  rw [hu_10a, hu_10b] at hP hD
  rcases hr_11 with ⟨rfl, hr_11_0, hr_11_1⟩ | ⟨rfl, hr_11_0⟩
  · refine lv_if_eq (tgt := 144) hx hb dX12_about_132 (by decide) (fun c_12 => absurd c_12 (by decide)) (fun c_12 => ?_)
    refine lv_aload_n hx hb dX12_about_135 rfl (lv_at hl 1 rfl) ?_
    refine pg_f (v := .ref this_a) (C := RX12) (T := TX12) (N := 31) hx hb hts (tw_i inlX12) hown hK hP hL_this hK_this (by decide) rfl 0 (by decide) (hts _ (tw_c tw_176)) (pq_hv rfl hR_this_a) dX12_about_136 ?_
    refine lv_iload_n hx hb dX12_about_139 rfl (lv_at hl 2 rfl) ?_
    refine pl_i hx hb hK hP hL_this_a hK_this_a hN_this_a (in_of hr_11_0 hr_11_1 (by decide)) dX12_about_140 ?_
    refine lv_topi (fun x_13 ex_13 => ?_)
    refine lv_goto (tgt := 147) hx hb dX12_about_141 (by decide) ?_
    exact W.iret (v := x_13) hx hb hr (fun t1 ht hW => ⟨⟨x_13, (σ, I, J, ri, rj, rq), rfl, ⟨rfl, (sp_ab2 hF hr_11_0 hr_11_1 ex_13)⟩, by rw [ht]; exact hP, va_K.moved hW.alike hK, hD⟩, hS.F ht⟩) hS.2.2 dX12_about_147
  · refine lv_if_eq (tgt := 144) hx hb dX12_about_132 (by decide) (fun c_14 => ?_) (fun c_14 => absurd c_14 (by decide))
    refine lv_ldcw hx hb hown (hts _ (tw_c tw_1566)) dX12_about_144 ?_
    exact W.iret (v := (-1000000000)) hx hb hr (fun t1 ht hW => ⟨⟨(-1000000000), (σ, I, J, ri, rj, rq), rfl, ⟨rfl, (sp_ab3 hr_11_0 k_1 k_2 k_4 k_6)⟩, by rw [ht]; exact hP, va_K.moved hW.alike hK, hD⟩, hS.F ht⟩) hS.2.2 dX12_about_147

set_option maxHeartbeats 4000000 in
set_option maxRecDepth 100000 in
theorem c_X12_see (l : Launch) (D : va_G) (t : pq_T) (σ : pq_S) (I : Nat → Nat → Int32) (J : Nat → Nat → Int64) (ri : Nat → Nat → Int32) (rj : Nat → Nat → Int64) (rq : Nat → Nat → Option Nat) (sz : Nat) (this : Nat) (hL_this : this ∈ σ.1) (hK_this : σ.2.1 this = 12) (hT : I 388 this = 0) : MetI l yX12_see (wa yX12_see cX12_see 2 (some .int)) ({ frames := 0, cells := 0, slots := 0, locals := 0 }) [.ref this, .int 0] D t σ (I, J, ri, rj, rq) sz 0 0 (fun (r : Int32) (u : pq_S × pq_M) => u = (σ, I, J, ri, rj, rq) ∧ ((r = (-1)))) := by
  refine Met.ofW (cc := cX12_see) (maxL := 2) (ret := (some .int)) (by decide) rfl ?_
  intro p e s m args below meth c s₁ B hml hv
  obtain ⟨rfl, hsz, hP, hK, hD0, hN⟩ := hv
  have hx := B.exec
  have hb := B.bytes
  have hr := B.returns
  have hts := atoms_spec (ws := (wa yX12_see cX12_see 2 (some .int))) B.pre
  have hown : s.vm.findClass RX12 = some m.cls := findClass_of_methodNamed B.named
  have hlocks := B.notSynchronized
  subst hsz
  have hD : va_D (pq_B t σ (I, J, ri, rj, rq) s.heap.size) (pq_P t σ (I, J, ri, rj, rq)) := hD0.self
  generalize hAe : pq_B t σ (I, J, ri, rj, rq) s.heap.size = A at hD ⊢
  have hA : ∀ q : Nat, s.heap.size ≤ q → A q := fun q h => by rw [← hAe]; exact Or.inr h
  have hS : va_S A s.heap s.heap [] := va_S.rf
  have hl := lv_entry ([.ref this, .int 0]) (n := 2) (Nat.le_of_ble_eq_true rfl)
  rw [lg_entry_eq]
  generalize (lg_sl ([.ref this, .int 0]) ++ List.replicate (2 - (lg_sl ([.ref this, .int 0])).length) Slot.unset).toArray = ls at hl ⊢
  have hl : lv_has ls 2 [(0, .ref this), (1, .int 0)] := hl
  refine lv_iload_n hx hb dX12_see_0 rfl (lv_at hl 1 rfl) ?_
  refine lv_aload_n hx hb dX12_see_1 rfl (lv_at hl 0 rfl) ?_
  refine pg_f (v := .int (I 388 this)) (C := RX12) (T := TX12) (N := 31) hx hb hts (tw_i inlX12) hown hK hP hL_this hK_this (by decide) rfl 4 (by decide) (hts _ (tw_c tw_631)) rfl dX12_see_2 ?_
  refine lv_tov 0 hT ?_
  refine lv_icmp_ge (tgt := 17) hx hb dX12_see_5 (by decide) (fun c_1 => ?_) (fun c_1 => absurd c_1 (by decide))
  refine lv_iconst (v := (-1)) hx hb dX12_see_17 (by decide) ?_
  exact W.iret (v := (-1)) hx hb hr (fun t1 ht hW => ⟨⟨(-1), (σ, I, J, ri, rj, rq), rfl, ⟨rfl, rfl⟩, by rw [ht]; exact hP, va_K.moved hW.alike hK, hD⟩, hS.F ht⟩) hS.2.2 dX12_see_18

set_option maxHeartbeats 4000000 in
set_option maxRecDepth 100000 in
theorem c_X12_nextToken (l : Launch) (D : va_G) (t : pq_T) (σ : pq_S) (I : Nat → Nat → Int32) (J : Nat → Nat → Int64) (ri : Nat → Nat → Int32) (rj : Nat → Nat → Int64) (rq : Nat → Nat → Option Nat) (sz : Nat) (this : Nat) (hL_this : this ∈ σ.1) (hK_this : σ.2.1 this = 12) (hT : I 388 this = 0) (hAt : I 391 this = 0) : MetV l yX12_nextToken (wa yX12_nextToken cX12_nextToken 3 none) ({ frames := 1, cells := 0, slots := 0, locals := 21 }) [.ref this] D t σ (I, J, ri, rj, rq) sz 0 0 (fun (u : pq_S × pq_M) => ∃ I' : Nat → Nat → Int32, u = (σ, I', J, ri, rj, rq) ∧ (∀ f, f ∉ ([392, 393] : List Nat) → I' f = I f) ∧ (I' 393 this = 0)) := by
  refine Met.ofW (cc := cX12_nextToken) (maxL := 3) (ret := none) (by decide) rfl ?_
  intro p e s m args below meth c s₁ B hml hv
  obtain ⟨rfl, hsz, hP, hK, hD0, hN⟩ := hv
  have hx := B.exec
  have hb := B.bytes
  have hr := B.returns
  have hts := atoms_spec (ws := (wa yX12_nextToken cX12_nextToken 3 none)) B.pre
  have hown : s.vm.findClass RX12 = some m.cls := findClass_of_methodNamed B.named
  have hlocks := B.notSynchronized
  subst hsz
  have hD : va_D (pq_B t σ (I, J, ri, rj, rq) s.heap.size) (pq_P t σ (I, J, ri, rj, rq)) := hD0.self
  generalize hAe : pq_B t σ (I, J, ri, rj, rq) s.heap.size = A at hD ⊢
  have hA : ∀ q : Nat, s.heap.size ≤ q → A q := fun q h => by rw [← hAe]; exact Or.inr h
  have hS : va_S A s.heap s.heap [] := va_S.rf
  have hl := lv_entry ([.ref this]) (n := 3) (Nat.le_of_ble_eq_true rfl)
  rw [lg_entry_eq]
  generalize (lg_sl ([.ref this]) ++ List.replicate (3 - (lg_sl ([.ref this])).length) Slot.unset).toArray = ls at hl ⊢
  have hl : lv_has ls 3 [(0, .ref this)] := hl
  refine lv_aload_n hx hb dX12_nextToken_0 rfl (lv_at hl 0 rfl) ?_
  refine lv_aload_n hx hb dX12_nextToken_1 rfl (lv_at hl 0 rfl) ?_
  refine pg_f (v := .int (I 391 this)) (C := RX12) (T := TX12) (N := 31) hx hb hts (tw_i inlX12) hown hK hP hL_this hK_this (by decide) rfl 7 (by decide) (hts _ (tw_c tw_830)) rfl dX12_nextToken_2 ?_
  refine lv_tov 0 hAt ?_
  refine pk_i (va_runV (As := [.int 0]) (rest := []) ⟨hx, hb, hml, hown, hts⟩ (c_X12_see l D t σ I J ri rj rq (Array.size s.heap) this hL_this hK_this hT) (cwV 1 hts (tw_V tw_839 tw_840 tw_841 tw_5 tw_842) rfl rfl rfl (by decide +kernel) ⟨Nat.le_of_ble_eq_true rfl, Nat.le_of_ble_eq_true rfl⟩) ⟨pq_blind, pq_recv hK hP hL_this hK_this (by decide) rfl, pq_pre hK hN hP hD⟩ rfl rfl hl.1 rfl (lv_room (Nat.le_of_ble_eq_true rfl)) dX12_nextToken_5 ⟨Nat.le_of_ble_eq_true rfl, Nat.le_of_ble_eq_true rfl⟩) hD hS hA (fun r_1 σ1 μ1 H locs hw_2 hP hD hS => ?_)
  obtain ⟨hu_3, hr_4⟩ := hw_2
  obtain ⟨hu_3a, hu_3b⟩ := Prod.mk.inj hu_3
  rw [hu_3a, hu_3b] at hP hD
  subst hr_4
  refine lv_bipush (v := 32) hx hb dX12_nextToken_8 (by decide) ?_
  refine lv_icmp_eq (tgt := 26) hx hb dX12_nextToken_10 (by decide) (fun c_5 => absurd c_5 (by decide)) (fun c_5 => ?_)
  refine lv_aload_n hx hb dX12_nextToken_13 rfl (lv_at hl 0 rfl) ?_
  refine lv_aload_n hx hb dX12_nextToken_14 rfl (lv_at hl 0 rfl) ?_
  refine pg_f (v := .int (I 391 this)) (C := RX12) (T := TX12) (N := 31) hx hb hts (tw_i inlX12) hown hK hP hL_this hK_this (by decide) rfl 7 (by decide) (hts _ (tw_c tw_830)) rfl dX12_nextToken_15 ?_
  refine lv_tov 0 hAt ?_
  refine pk_i (va_runV (As := [.int 0]) (rest := []) ⟨hx, hb, hml, hown, hts⟩ (c_X12_see l D t σ I J ri rj rq H.size this hL_this hK_this hT) (cwV 1 hts (tw_V tw_839 tw_840 tw_841 tw_5 tw_842) rfl rfl rfl (by decide +kernel) ⟨Nat.le_of_ble_eq_true rfl, Nat.le_of_ble_eq_true rfl⟩) ⟨pq_blind, pq_recv hK hP hL_this hK_this (by decide) rfl, pq_pre hK hN hP hD⟩ rfl rfl hl.1 rfl (lv_room (Nat.le_of_ble_eq_true rfl)) dX12_nextToken_18 ⟨Nat.le_of_ble_eq_true rfl, Nat.le_of_ble_eq_true rfl⟩) hD hS hA (fun r_6 σ1 μ1 H locs hw_7 hP hD hS => ?_)
  obtain ⟨hu_8, hr_9⟩ := hw_7
  obtain ⟨hu_8a, hu_8b⟩ := Prod.mk.inj hu_8
  rw [hu_8a, hu_8b] at hP hD
  subst hr_9
  refine lv_bipush (v := 10) hx hb dX12_nextToken_21 (by decide) ?_
  refine lv_icmp_ne (tgt := 39) hx hb dX12_nextToken_23 (by decide) (fun c_10 => ?_) (fun c_10 => absurd c_10 (by decide))
  refine lv_aload_n hx hb dX12_nextToken_39 rfl (lv_at hl 0 rfl) ?_
  refine lv_aload_n hx hb dX12_nextToken_40 rfl (lv_at hl 0 rfl) ?_
  refine pg_f (v := .int (I 391 this)) (C := RX12) (T := TX12) (N := 31) hx hb hts (tw_i inlX12) hown hK hP hL_this hK_this (by decide) rfl 7 (by decide) (hts _ (tw_c tw_830)) rfl dX12_nextToken_41 ?_
  refine lv_tov 0 hAt ?_
  refine pp_i (v := 0) (ty := .int) (C := RX12) (T := TX12) (N := 31) hx hb hts (tw_i inlX12) tyX12 tyX12_ok nmX12 hown hK hP hD hS hL_this hK_this (by decide) rfl 8 392 (by decide) (hts _ (tw_c tw_820)) rfl (by decide +kernel) rfl rfl (Nat.le_of_ble_eq_true rfl) (ps_392 _ _ _ _ _) dX12_nextToken_44 (fun I_11 H locs eI_11 hP hD hS => ?_)
  refine lv_aload_n hx hb dX12_nextToken_47 rfl (lv_at hl 0 rfl) ?_
  refine lv_aload_n hx hb dX12_nextToken_48 rfl (lv_at hl 0 rfl) ?_
  refine pg_f (v := .int (I_11 391 this)) (C := RX12) (T := TX12) (N := 31) hx hb hts (tw_i inlX12) hown hK hP hL_this hK_this (by decide) rfl 7 (by decide) (hts _ (tw_c tw_830)) rfl dX12_nextToken_49 ?_
  refine lv_tov 0 (by rw [eI_11, pq_uf _ _ _ (by decide)]; exact hAt) ?_
  refine pk_i (va_runV (As := [.int 0]) (rest := []) ⟨hx, hb, hml, hown, hts⟩ (c_X12_see l D t σ I_11 J ri rj rq H.size this hL_this hK_this (by rw [eI_11, pq_uf _ _ _ (by decide)]; exact hT)) (cwV 1 hts (tw_V tw_839 tw_840 tw_841 tw_5 tw_842) rfl rfl rfl (by decide +kernel) ⟨Nat.le_of_ble_eq_true rfl, Nat.le_of_ble_eq_true rfl⟩) ⟨pq_blind, pq_recv hK hP hL_this hK_this (by decide) rfl, pq_pre hK hN hP hD⟩ rfl rfl hl.1 rfl (lv_room (Nat.le_of_ble_eq_true rfl)) dX12_nextToken_52 ⟨Nat.le_of_ble_eq_true rfl, Nat.le_of_ble_eq_true rfl⟩) hD hS hA (fun r_12 σ1 μ1 H locs hw_13 hP hD hS => ?_)
  obtain ⟨hu_14, hr_15⟩ := hw_13
  obtain ⟨hu_14a, hu_14b⟩ := Prod.mk.inj hu_14
  rw [hu_14a, hu_14b] at hP hD
  subst hr_15
  refine lv_istore_n (lv' := [(1, .int (-1)), (0, .ref this)]) hx hb dX12_nextToken_55 rfl hl (by decide) rfl (fun ls hl => ?_)
  refine lv_iload_n hx hb dX12_nextToken_56 rfl (lv_at hl 0 rfl) ?_
  refine lv_if_ge (tgt := 68) hx hb dX12_nextToken_57 (by decide) (fun c_16 => absurd c_16 (by decide)) (fun c_16 => ?_)
  refine lv_aload_n hx hb dX12_nextToken_60 rfl (lv_at hl 1 rfl) ?_
  refine lv_iconst (v := 0) hx hb dX12_nextToken_61 (by decide) ?_
  refine pp_i (v := 0) (ty := .int) (C := RX12) (T := TX12) (N := 31) hx hb hts (tw_i inlX12) tyX12 tyX12_ok nmX12 hown hK hP hD hS hL_this hK_this (by decide) rfl 9 393 (by decide) (hts _ (tw_c tw_831)) rfl (by decide +kernel) rfl rfl (Nat.le_of_ble_eq_true rfl) (ps_393 _ _ _ _ _) dX12_nextToken_62 (fun I_17 H locs eI_17 hP hD hS => ?_)
  refine lv_goto (tgt := 396) hx hb dX12_nextToken_65 (by decide) ?_
  exact W.vret hx hb hr (fun t1 ht hW => ⟨⟨(σ, I_17, J, ri, rj, rq), rfl, ⟨I_17, rfl, (fun f hg => by rw [eI_17, pq_uf _ _ _ (by intro q; subst q; exact hg (by decide)), eI_11, pq_uf _ _ _ (by intro q; subst q; exact hg (by decide))]), (by rw [eI_17]; exact pq_us _ _ _ _)⟩, by rw [ht]; exact hP, va_K.moved hW.alike hK, hD⟩, hS.F ht⟩) hS.2.2 dX12_nextToken_396

set_option maxHeartbeats 4000000 in
set_option maxRecDepth 100000 in
theorem c_X12_readText (l : Launch) (D : va_G) (t : pq_T) (σ : pq_S) (I : Nat → Nat → Int32) (J : Nat → Nat → Int64) (ri : Nat → Nat → Int32) (rj : Nat → Nat → Int64) (rq : Nat → Nat → Option Nat) (sz : Nat) (this : Nat) (hL_this : this ∈ σ.1) (hK_this : σ.2.1 this = 12) (this_a : Nat) (hR_this_a : σ.2.2.1 384 this = some this_a) (hL_this_a : this_a ∈ σ.1) (hK_this_a : σ.2.1 this_a = 13) (hN_this_a : σ.2.2.2 this_a = 12720) (hF : fm (ri this_a) 0) (hT : I 388 this = 0) : MetI l yX12_readText (wa yX12_readText cX12_readText 2 (some .int)) ({ frames := 2, cells := 0, slots := 0, locals := 43 }) [.ref this] D t σ (I, J, ri, rj, rq) sz 0 0 (fun (r : Int32) (u : pq_S × pq_M) => ∃ I' : Nat → Nat → Int32, u = (σ, I', J, ri, rj, rq) ∧ (∀ f, f ∉ ([391, 392, 393, 396, 397, 398, 399, 402] : List Nat) → I' f = I f) ∧ (I' 396 this = 3720 ∧ I' 397 this = 0) ∧ (r = 0)) := by
  refine Met.ofW (cc := cX12_readText) (maxL := 2) (ret := (some .int)) (by decide) rfl ?_
  intro p e s m args below meth c s₁ B hml hv
  obtain ⟨rfl, hsz, hP, hK, hD0, hN⟩ := hv
  have hx := B.exec
  have hb := B.bytes
  have hr := B.returns
  have hts := atoms_spec (ws := (wa yX12_readText cX12_readText 2 (some .int))) B.pre
  have hown : s.vm.findClass RX12 = some m.cls := findClass_of_methodNamed B.named
  have hlocks := B.notSynchronized
  subst hsz
  have hD : va_D (pq_B t σ (I, J, ri, rj, rq) s.heap.size) (pq_P t σ (I, J, ri, rj, rq)) := hD0.self
  generalize hAe : pq_B t σ (I, J, ri, rj, rq) s.heap.size = A at hD ⊢
  have hA : ∀ q : Nat, s.heap.size ≤ q → A q := fun q h => by rw [← hAe]; exact Or.inr h
  have hS : va_S A s.heap s.heap [] := va_S.rf
  have hl := lv_entry ([.ref this]) (n := 2) (Nat.le_of_ble_eq_true rfl)
  rw [lg_entry_eq]
  generalize (lg_sl ([.ref this]) ++ List.replicate (2 - (lg_sl ([.ref this])).length) Slot.unset).toArray = ls at hl ⊢
  have hl : lv_has ls 2 [(0, .ref this)] := hl
  refine lv_aload_n hx hb dX12_readText_0 rfl (lv_at hl 0 rfl) ?_
  refine lv_sipush (v := 3720) hx hb dX12_readText_1 (by decide) ?_
  refine lv_sipush (v := 900) hx hb dX12_readText_4 (by decide) ?_
  refine lv_aload_n hx hb dX12_readText_7 rfl (lv_at hl 0 rfl) ?_
  refine pg_f (v := .ref this_a) (C := RX12) (T := TX12) (N := 31) hx hb hts (tw_i inlX12) hown hK hP hL_this hK_this (by decide) rfl 0 (by decide) (hts _ (tw_c tw_176)) (pq_hv rfl hR_this_a) dX12_readText_8 ?_
  refine lv_bipush (v := 6) hx hb dX12_readText_11 (by decide) ?_
  refine pl_i hx hb hK hP hL_this_a hK_this_a hN_this_a (vp_in_iff.mpr (by decide)) dX12_readText_13 ?_
  refine lv_tov 0 (fm_at hF 6 (v := 0) (by decide)) ?_
  refine lv_imul hx hb dX12_readText_14 ?_
  refine lv_tov 0 (by decide) ?_
  refine lv_iadd hx hb dX12_readText_15 ?_
  refine lv_tov 3720 (by decide) ?_
  refine pp_i (v := 3720) (ty := .int) (C := RX12) (T := TX12) (N := 31) hx hb hts (tw_i inlX12) tyX12 tyX12_ok nmX12 hown hK hP hD hS hL_this hK_this (by decide) rfl 12 396 (by decide) (hts _ (tw_c tw_821)) rfl (by decide +kernel) rfl rfl (Nat.le_of_ble_eq_true rfl) (ps_396 _ _ _ _ _) dX12_readText_16 (fun I_1 H locs eI_1 hP hD hS => ?_)
  refine lv_aload_n hx hb dX12_readText_19 rfl (lv_at hl 0 rfl) ?_
  refine lv_iconst (v := 0) hx hb dX12_readText_20 (by decide) ?_
  refine pp_i (v := 0) (ty := .int) (C := RX12) (T := TX12) (N := 31) hx hb hts (tw_i inlX12) tyX12 tyX12_ok nmX12 hown hK hP hD hS hL_this hK_this (by decide) rfl 13 397 (by decide) (hts _ (tw_c tw_822)) rfl (by decide +kernel) rfl rfl (Nat.le_of_ble_eq_true rfl) (ps_397 _ _ _ _ _) dX12_readText_21 (fun I_2 H locs eI_2 hP hD hS => ?_)
  refine lv_aload_n hx hb dX12_readText_24 rfl (lv_at hl 0 rfl) ?_
  refine lv_iconst (v := 0) hx hb dX12_readText_25 (by decide) ?_
  refine pp_i (v := 0) (ty := .int) (C := RX12) (T := TX12) (N := 31) hx hb hts (tw_i inlX12) tyX12 tyX12_ok nmX12 hown hK hP hD hS hL_this hK_this (by decide) rfl 14 398 (by decide) (hts _ (tw_c tw_827)) rfl (by decide +kernel) rfl rfl (Nat.le_of_ble_eq_true rfl) (ps_398 _ _ _ _ _) dX12_readText_26 (fun I_3 H locs eI_3 hP hD hS => ?_)
  refine lv_aload_n hx hb dX12_readText_29 rfl (lv_at hl 0 rfl) ?_
  refine lv_iconst (v := 0) hx hb dX12_readText_30 (by decide) ?_
  refine pp_i (v := 0) (ty := .int) (C := RX12) (T := TX12) (N := 31) hx hb hts (tw_i inlX12) tyX12 tyX12_ok nmX12 hown hK hP hD hS hL_this hK_this (by decide) rfl 18 402 (by decide) (hts _ (tw_c tw_828)) rfl (by decide +kernel) rfl rfl (Nat.le_of_ble_eq_true rfl) (ps_402 _ _ _ _ _) dX12_readText_31 (fun I_4 H locs eI_4 hP hD hS => ?_)
  refine lv_aload_n hx hb dX12_readText_34 rfl (lv_at hl 0 rfl) ?_
  refine lv_iconst (v := 0) hx hb dX12_readText_35 (by decide) ?_
  refine pp_i (v := 0) (ty := .int) (C := RX12) (T := TX12) (N := 31) hx hb hts (tw_i inlX12) tyX12 tyX12_ok nmX12 hown hK hP hD hS hL_this hK_this (by decide) rfl 15 399 (by decide) (hts _ (tw_c tw_829)) rfl (by decide +kernel) rfl rfl (Nat.le_of_ble_eq_true rfl) (ps_399 _ _ _ _ _) dX12_readText_36 (fun I_5 H locs eI_5 hP hD hS => ?_)
  refine lv_aload_n hx hb dX12_readText_39 rfl (lv_at hl 0 rfl) ?_
  refine lv_iconst (v := 0) hx hb dX12_readText_40 (by decide) ?_
  refine pp_i (v := 0) (ty := .int) (C := RX12) (T := TX12) (N := 31) hx hb hts (tw_i inlX12) tyX12 tyX12_ok nmX12 hown hK hP hD hS hL_this hK_this (by decide) rfl 7 391 (by decide) (hts _ (tw_c tw_830)) rfl (by decide +kernel) rfl rfl (Nat.le_of_ble_eq_true rfl) (ps_391 _ _ _ _ _) dX12_readText_41 (fun I_6 H locs eI_6 hP hD hS => ?_)
  refine lv_aload_n hx hb dX12_readText_44 rfl (lv_at hl 0 rfl) ?_
  refine pk_v (va_runV (As := []) (rest := []) ⟨hx, hb, hml, hown, hts⟩ (c_X12_nextToken l D t σ I_6 J ri rj rq H.size this hL_this hK_this (by rw [eI_6, pq_uf _ _ _ (by decide)]; exact (by rw [eI_5, pq_uf _ _ _ (by decide)]; exact (by rw [eI_4, pq_uf _ _ _ (by decide)]; exact (by rw [eI_3, pq_uf _ _ _ (by decide)]; exact (by rw [eI_2, pq_uf _ _ _ (by decide)]; exact (by rw [eI_1, pq_uf _ _ _ (by decide)]; exact hT)))))) (by rw [eI_6]; exact pq_us _ _ _ _)) (cwV 0 hts (tw_V tw_832 tw_833 tw_834 tw_5 tw_835) rfl rfl rfl (by decide +kernel) ⟨Nat.le_of_ble_eq_true rfl, Nat.le_of_ble_eq_true rfl⟩) ⟨pq_blind, pq_recv hK hP hL_this hK_this (by decide) rfl, pq_pre hK hN hP hD⟩ rfl rfl hl.1 rfl (lv_room (Nat.le_of_ble_eq_true rfl)) dX12_readText_45 ⟨Nat.le_of_ble_eq_true rfl, Nat.le_of_ble_eq_true rfl⟩) hD hS hA (fun σ1 μ1 H locs hw_8 hP hD hS => ?_)
  obtain ⟨I_9, hu_10, hu_10f, hu_10p0⟩ := hw_8
  obtain ⟨hu_10a, hu_10b⟩ := Prod.mk.inj hu_10
  rw [hu_10a, hu_10b] at hP hD
  refine lv_aload_n hx hb dX12_readText_48 rfl (lv_at hl 0 rfl) ?_
  refine pg_f (v := .int (I_9 393 this)) (C := RX12) (T := TX12) (N := 31) hx hb hts (tw_i inlX12) hown hK hP hL_this hK_this (by decide) rfl 9 (by decide) (hts _ (tw_c tw_831)) rfl dX12_readText_49 ?_
  refine lv_tov 0 hu_10p0 ?_
  refine lv_if_eq (tgt := 69) hx hb dX12_readText_52 (by decide) (fun c_12 => ?_) (fun c_12 => absurd c_12 (by decide))
  refine lv_iconst (v := 0) hx hb dX12_readText_69 (by decide) ?_
  exact W.iret (v := 0) hx hb hr (fun t1 ht hW => ⟨⟨0, (σ, I_9, J, ri, rj, rq), rfl, ⟨I_9, rfl, (fun f hg => by rw [hu_10f f (fun q => hg (by revert q; simp only [List.mem_cons, List.not_mem_nil, or_false]; omega)), eI_6, pq_uf _ _ _ (by intro q; subst q; exact hg (by decide)), eI_5, pq_uf _ _ _ (by intro q; subst q; exact hg (by decide)), eI_4, pq_uf _ _ _ (by intro q; subst q; exact hg (by decide)), eI_3, pq_uf _ _ _ (by intro q; subst q; exact hg (by decide)), eI_2, pq_uf _ _ _ (by intro q; subst q; exact hg (by decide)), eI_1, pq_uf _ _ _ (by intro q; subst q; exact hg (by decide))]), ⟨(by rw [hu_10f 396 (by decide)]; exact (by rw [eI_6, pq_uf _ _ _ (by decide)]; exact (by rw [eI_5, pq_uf _ _ _ (by decide)]; exact (by rw [eI_4, pq_uf _ _ _ (by decide)]; exact (by rw [eI_3, pq_uf _ _ _ (by decide)]; exact (by rw [eI_2, pq_uf _ _ _ (by decide)]; exact (by rw [eI_1]; exact pq_us _ _ _ _))))))), (by rw [hu_10f 397 (by decide)]; exact (by rw [eI_6, pq_uf _ _ _ (by decide)]; exact (by rw [eI_5, pq_uf _ _ _ (by decide)]; exact (by rw [eI_4, pq_uf _ _ _ (by decide)]; exact (by rw [eI_3, pq_uf _ _ _ (by decide)]; exact (by rw [eI_2]; exact pq_us _ _ _ _))))))⟩, rfl⟩, by rw [ht]; exact hP, va_K.moved hW.alike hK, hD⟩, hS.F ht⟩) hS.2.2 dX12_readText_70

set_option maxHeartbeats 4000000 in
set_option maxRecDepth 100000 in
theorem c_X12_text (l : Launch) (D : va_G) (t : pq_T) (σ : pq_S) (I : Nat → Nat → Int32) (J : Nat → Nat → Int64) (ri : Nat → Nat → Int32) (rj : Nat → Nat → Int64) (rq : Nat → Nat → Option Nat) (sz : Nat) (this : Nat) (hL_this : this ∈ σ.1) (hK_this : σ.2.1 this = 12) (this_a : Nat) (hR_this_a : σ.2.2.1 384 this = some this_a) (hL_this_a : this_a ∈ σ.1) (hK_this_a : σ.2.1 this_a = 13) (hN_this_a : σ.2.2.2 this_a = 12720) (hF : fm (ri this_a) 0) (hT : I 388 this = 0) : MetI l yX12_text (wa yX12_text cX12_text 1 (some .int)) ({ frames := 3, cells := 0, slots := 0, locals := 64 }) [.ref this] D t σ (I, J, ri, rj, rq) sz 0 0 (fun (r : Int32) (u : pq_S × pq_M) => ∃ I' : Nat → Nat → Int32, ∃ ri' : Nat → Nat → Int32, u = (σ, I', J, ri', rj, rq) ∧ ((r = 0))) := by
  refine Met.ofW (cc := cX12_text) (maxL := 1) (ret := (some .int)) (by decide) rfl ?_
  intro p e s m args below meth c s₁ B hml hv
  obtain ⟨rfl, hsz, hP, hK, hD0, hN⟩ := hv
  have hx := B.exec
  have hb := B.bytes
  have hr := B.returns
  have hts := atoms_spec (ws := (wa yX12_text cX12_text 1 (some .int))) B.pre
  have hown : s.vm.findClass RX12 = some m.cls := findClass_of_methodNamed B.named
  have hlocks := B.notSynchronized
  subst hsz
  have hD : va_D (pq_B t σ (I, J, ri, rj, rq) s.heap.size) (pq_P t σ (I, J, ri, rj, rq)) := hD0.self
  generalize hAe : pq_B t σ (I, J, ri, rj, rq) s.heap.size = A at hD ⊢
  have hA : ∀ q : Nat, s.heap.size ≤ q → A q := fun q h => by rw [← hAe]; exact Or.inr h
  have hS : va_S A s.heap s.heap [] := va_S.rf
  have hl := lv_entry ([.ref this]) (n := 1) (Nat.le_of_ble_eq_true rfl)
  rw [lg_entry_eq]
  generalize (lg_sl ([.ref this]) ++ List.replicate (1 - (lg_sl ([.ref this])).length) Slot.unset).toArray = ls at hl ⊢
  have hl : lv_has ls 1 [(0, .ref this)] := hl
  refine lv_aload_n hx hb dX12_text_0 rfl (lv_at hl 0 rfl) ?_
  refine pg_f (v := .ref this_a) (C := RX12) (T := TX12) (N := 31) hx hb hts (tw_i inlX12) hown hK hP hL_this hK_this (by decide) rfl 0 (by decide) (hts _ (tw_c tw_176)) (pq_hv rfl hR_this_a) dX12_text_1 ?_
  refine lv_bipush (v := 6) hx hb dX12_text_4 (by decide) ?_
  refine pl_i hx hb hK hP hL_this_a hK_this_a hN_this_a (vp_in_iff.mpr (by decide)) dX12_text_6 ?_
  refine lv_tov 0 (fm_at hF 6 (v := 0) (by decide)) ?_
  refine lv_bipush (v := 10) hx hb dX12_text_7 (by decide) ?_
  refine lv_icmp_ne (tgt := 14) hx hb dX12_text_9 (by decide) (fun c_1 => ?_) (fun c_1 => absurd c_1 (by decide))
  refine lv_aload_n hx hb dX12_text_14 rfl (lv_at hl 0 rfl) ?_
  refine lv_aload_n hx hb dX12_text_15 rfl (lv_at hl 0 rfl) ?_
  refine pk_i (va_runV (As := []) (rest := [.ref this]) ⟨hx, hb, hml, hown, hts⟩ (c_X12_readText l D t σ I J ri rj rq (Array.size s.heap) this hL_this hK_this this_a hR_this_a hL_this_a hK_this_a hN_this_a hF hT) (cwV 0 hts (tw_V tw_823 tw_824 tw_825 tw_5 tw_826) rfl rfl rfl (by decide +kernel) ⟨Nat.le_of_ble_eq_true rfl, Nat.le_of_ble_eq_true rfl⟩) ⟨pq_blind, pq_recv hK hP hL_this hK_this (by decide) rfl, pq_pre hK hN hP hD⟩ rfl rfl hl.1 rfl (lv_room (Nat.le_of_ble_eq_true rfl)) dX12_text_16 ⟨Nat.le_of_ble_eq_true rfl, Nat.le_of_ble_eq_true rfl⟩) hD hS hA (fun r_2 σ1 μ1 H locs hw_3 hP hD hS => ?_)
  obtain ⟨I_4, hu_5, hu_5f, hu_5p0, hr_6⟩ := hw_3
  obtain ⟨hu_5a, hu_5b⟩ := Prod.mk.inj hu_5
  rw [hu_5a, hu_5b] at hP hD
  refine lv_tov (0 : Int32) hr_6 ?_
  refine pp_i (v := 0) (ty := .int) (C := RX12) (T := TX12) (N := 31) hx hb hts (tw_i inlX12) tyX12 tyX12_ok nmX12 hown hK hP hD hS hL_this hK_this (by decide) rfl 5 389 (by decide) (hts _ (tw_c tw_180)) rfl (by decide +kernel) rfl rfl (Nat.le_of_ble_eq_true rfl) (ps_389 _ _ _ _ _) dX12_text_19 (fun I_7 H locs eI_7 hP hD hS => ?_)
  refine lv_aload_n hx hb dX12_text_22 rfl (lv_at hl 0 rfl) ?_
  refine lv_aload_n hx hb dX12_text_23 rfl (lv_at hl 0 rfl) ?_
  refine pg_f (v := .int (I_7 389 this)) (C := RX12) (T := TX12) (N := 31) hx hb hts (tw_i inlX12) hown hK hP hL_this hK_this (by decide) rfl 5 (by decide) (hts _ (tw_c tw_180)) rfl dX12_text_24 ?_
  refine lv_tov 0 (by rw [eI_7]; exact pq_us _ _ _ _) ?_
  refine lv_if_ne (tgt := 34) hx hb dX12_text_27 (by decide) (fun c_8 => absurd c_8 (by decide)) (fun c_8 => ?_)
  refine lv_iconst (v := (-1)) hx hb dX12_text_30 (by decide) ?_
  refine lv_goto (tgt := 38) hx hb dX12_text_31 (by decide) ?_
  refine pp_i (v := (-1)) (ty := .int) (C := RX12) (T := TX12) (N := 31) hx hb hts (tw_i inlX12) tyX12 tyX12_ok nmX12 hown hK hP hD hS hL_this hK_this (by decide) rfl 6 390 (by decide) (hts _ (tw_c tw_181)) rfl (by decide +kernel) rfl rfl (Nat.le_of_ble_eq_true rfl) (ps_390 _ _ _ _ _) dX12_text_38 (fun I_9 H locs eI_9 hP hD hS => ?_)
  refine lv_aload_n hx hb dX12_text_41 rfl (lv_at hl 0 rfl) ?_
  refine lv_iconst (v := 0) hx hb dX12_text_42 (by decide) ?_
  refine pp_i (v := 0) (ty := .int) (C := RX12) (T := TX12) (N := 31) hx hb hts (tw_i inlX12) tyX12 tyX12_ok nmX12 hown hK hP hD hS hL_this hK_this (by decide) rfl 4 388 (by decide) (hts _ (tw_c tw_631)) rfl (by decide +kernel) rfl rfl (Nat.le_of_ble_eq_true rfl) (ps_388 _ _ _ _ _) dX12_text_43 (fun I_10 H locs eI_10 hP hD hS => ?_)
  refine lv_aload_n hx hb dX12_text_46 rfl (lv_at hl 0 rfl) ?_
  refine pg_f (v := .int (I_10 389 this)) (C := RX12) (T := TX12) (N := 31) hx hb hts (tw_i inlX12) hown hK hP hL_this hK_this (by decide) rfl 5 (by decide) (hts _ (tw_c tw_180)) rfl dX12_text_47 ?_
  refine lv_tov 0 (by rw [eI_10, pq_uf _ _ _ (by decide)]; exact (by rw [eI_9, pq_uf _ _ _ (by decide)]; exact (by rw [eI_7]; exact pq_us _ _ _ _))) ?_
  refine lv_if_eq (tgt := 55) hx hb dX12_text_50 (by decide) (fun c_11 => ?_) (fun c_11 => absurd c_11 (by decide))
  refine lv_aload_n hx hb dX12_text_55 rfl (lv_at hl 0 rfl) ?_
  refine pg_f (v := .ref this_a) (C := RX12) (T := TX12) (N := 31) hx hb hts (tw_i inlX12) hown hK hP hL_this hK_this (by decide) rfl 0 (by decide) (hts _ (tw_c tw_176)) (pq_hv rfl hR_this_a) dX12_text_56 ?_
  refine lv_aload_n hx hb dX12_text_59 rfl (lv_at hl 0 rfl) ?_
  refine pg_f (v := .int (I_10 396 this)) (C := RX12) (T := TX12) (N := 31) hx hb hts (tw_i inlX12) hown hK hP hL_this hK_this (by decide) rfl 12 (by decide) (hts _ (tw_c tw_821)) rfl dX12_text_60 ?_
  refine lv_tov 3720 (by rw [eI_10, pq_uf _ _ _ (by decide)]; exact (by rw [eI_9, pq_uf _ _ _ (by decide)]; exact (by rw [eI_7, pq_uf _ _ _ (by decide)]; exact hu_5p0.1))) ?_
  refine lv_aload_n hx hb dX12_text_63 rfl (lv_at hl 0 rfl) ?_
  refine pg_f (v := .int (I_10 397 this)) (C := RX12) (T := TX12) (N := 31) hx hb hts (tw_i inlX12) hown hK hP hL_this hK_this (by decide) rfl 13 (by decide) (hts _ (tw_c tw_822)) rfl dX12_text_64 ?_
  refine lv_tov 0 (by rw [eI_10, pq_uf _ _ _ (by decide)]; exact (by rw [eI_9, pq_uf _ _ _ (by decide)]; exact (by rw [eI_7, pq_uf _ _ _ (by decide)]; exact hu_5p0.2))) ?_
  refine pt_i hx hb hK hP hD hS hL_this_a hK_this_a hN_this_a (vp_in_iff.mpr (by decide)) dX12_text_67 (fun r_12 H locs er_12 hP hD hS => ?_)
  refine lv_aload_n hx hb dX12_text_68 rfl (lv_at hl 0 rfl) ?_
  refine pg_f (v := .ref this_a) (C := RX12) (T := TX12) (N := 31) hx hb hts (tw_i inlX12) hown hK hP hL_this hK_this (by decide) rfl 0 (by decide) (hts _ (tw_c tw_176)) (pq_hv rfl hR_this_a) dX12_text_69 ?_
  refine lv_bipush (v := 6) hx hb dX12_text_72 (by decide) ?_
  refine lv_dup2_11 hx hb dX12_text_74 rfl rfl ?_
  refine pl_i hx hb hK hP hL_this_a hK_this_a hN_this_a (vp_in_iff.mpr (by decide)) dX12_text_75 ?_
  refine lv_tov 0 (fm_at (fm_hi hF er_12 (Or.inr (by decide))) 6 (v := 0) (by decide)) ?_
  refine lv_iconst (v := 1) hx hb dX12_text_76 (by decide) ?_
  refine lv_iadd hx hb dX12_text_77 ?_
  refine lv_tov 1 (by decide) ?_
  refine pt_i hx hb hK hP hD hS hL_this_a hK_this_a hN_this_a (vp_in_iff.mpr (by decide)) dX12_text_78 (fun r_13 H locs er_13 hP hD hS => ?_)
  refine lv_aload_n hx hb dX12_text_79 rfl (lv_at hl 0 rfl) ?_
  refine pg_f (v := .ref this_a) (C := RX12) (T := TX12) (N := 31) hx hb hts (tw_i inlX12) hown hK hP hL_this hK_this (by decide) rfl 0 (by decide) (hts _ (tw_c tw_176)) (pq_hv rfl hR_this_a) dX12_text_80 ?_
  refine lv_bipush (v := 6) hx hb dX12_text_83 (by decide) ?_
  refine pl_i hx hb hK hP hL_this_a hK_this_a hN_this_a (vp_in_iff.mpr (by decide)) dX12_text_85 ?_
  refine lv_tov 1 (rd_eq er_13) ?_
  refine lv_iconst (v := 1) hx hb dX12_text_86 (by decide) ?_
  refine lv_isub hx hb dX12_text_87 ?_
  refine lv_tov 0 (by decide) ?_
  exact W.iret (v := 0) hx hb hr (fun t1 ht hW => ⟨⟨0, (σ, I_10, J, r_13, rj, rq), rfl, ⟨I_10, r_13, rfl, rfl⟩, by rw [ht]; exact hP, va_K.moved hW.alike hK, hD⟩, hS.F ht⟩) hS.2.2 dX12_text_88
