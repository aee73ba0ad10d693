theorem dX12_cant_29 : decode cX12_cant 29 = .ok (.iload 4, 2) := by decide +kernel
theorem dX12_cant_31 : decode cX12_cant 31 = .ok (.iload_n 2, 1) := by decide +kernel
theorem dX12_cant_32 : decode cX12_cant 32 = .ok (.if_icmp .ge 35, 3) := by decide +kernel
theorem dX12_cant_35 : decode cX12_cant 35 = .ok (.iload_n 3, 1) := by decide +kernel
theorem dX12_cant_36 : decode cX12_cant 36 = .ok (.ifCond .ge 31, 3) := by decide +kernel
theorem dX12_cant_39 : decode cX12_cant 39 = .ok (.aload_n 0, 1) := by decide +kernel
theorem dX12_cant_40 : decode cX12_cant 40 = .ok (.iload_n 1, 1) := by decide +kernel
theorem dX12_cant_41 : decode cX12_cant 41 = .ok (.invokevirtual 372, 3) := by decide +kernel
theorem dX12_cant_44 : decode cX12_cant 44 = .ok (.aload_n 0, 1) := by decide +kernel
theorem dX12_cant_45 : decode cX12_cant 45 = .ok (.getfield 325, 3) := by decide +kernel
theorem dX12_cant_48 : decode cX12_cant 48 = .ok (.iconst 1, 1) := by decide +kernel
theorem dX12_cant_49 : decode cX12_cant 49 = .ok (.if_icmp .ne 12, 3) := by decide +kernel
theorem dX12_cant_61 : decode cX12_cant 61 = .ok (.iinc 4 1, 3) := by decide +kernel
theorem dX12_cant_64 : decode cX12_cant 64 = .ok (.goto (-35), 3) := by decide +kernel
theorem dX12_cant_0 : decode cX12_cant 0 = .ok (.aload_n 0, 1) := by decide +kernel
theorem dX12_cant_1 : decode cX12_cant 1 = .ok (.iload_n 2, 1) := by decide +kernel
theorem dX12_cant_2 : decode cX12_cant 2 = .ok (.bipush 60, 2) := by decide +kernel
theorem dX12_cant_4 : decode cX12_cant 4 = .ok (.iload_n 1, 1) := by decide +kernel
theorem dX12_cant_5 : decode cX12_cant 5 = .ok (.invokevirtual 369, 3) := by decide +kernel
theorem dX12_cant_8 : decode cX12_cant 8 = .ok (.ifCond .ne 5, 3) := by decide +kernel
theorem dX12_cant_13 : decode cX12_cant 13 = .ok (.aload_n 0, 1) := by decide +kernel
theorem dX12_cant_14 : decode cX12_cant 14 = .ok (.getfield 7, 3) := by decide +kernel
theorem dX12_cant_17 : decode cX12_cant 17 = .ok (.aload_n 0, 1) := by decide +kernel
theorem tw_178 : Cond.fieldLink RX12 16 "RingsUnderModel" "kept" "[I" ∈ wsL_law := List.mem_of_getElem? (i := 178) (by decide +kernel)
theorem dX12_cant_18 : decode cX12_cant 18 = .ok (.getfield 16, 3) := by decide +kernel
theorem tw_192 : Cond.methodLink RX12 58 yX12_copy ∈ wsL_law := List.mem_of_getElem? (i := 192) (by decide +kernel)
theorem tw_193 : Cond.static yX12_copy ∈ wsL_law := List.mem_of_getElem? (i := 193) (by decide +kernel)
theorem tw_194 : Cond.code yX12_copy cX12_copy 3 none ∈ wsL_law := List.mem_of_getElem? (i := 194) (by decide +kernel)
theorem dX12_cant_21 : decode cX12_cant 21 = .ok (.invokestatic 58, 3) := by decide +kernel
theorem dX12_cant_24 : decode cX12_cant 24 = .ok (.iconst (-1), 1) := by decide +kernel
theorem dX12_cant_25 : decode cX12_cant 25 = .ok (.istore_n 3, 1) := by decide +kernel
theorem dX12_cant_26 : decode cX12_cant 26 = .ok (.iconst 0, 1) := by decide +kernel
theorem dX12_cant_27 : decode cX12_cant 27 = .ok (.istore 4, 2) := by decide +kernel
theorem dX12_cant_67 : decode cX12_cant 67 = .ok (.aload_n 0, 1) := by decide +kernel
theorem dX12_cant_68 : decode cX12_cant 68 = .ok (.getfield 16, 3) := by decide +kernel
theorem dX12_cant_71 : decode cX12_cant 71 = .ok (.aload_n 0, 1) := by decide +kernel
theorem dX12_cant_72 : decode cX12_cant 72 = .ok (.getfield 7, 3) := by decide +kernel
theorem dX12_cant_75 : decode cX12_cant 75 = .ok (.invokestatic 58, 3) := by decide +kernel
theorem dX12_cant_78 : decode cX12_cant 78 = .ok (.iload_n 3, 1) := by decide +kernel
theorem dX12_cant_79 : decode cX12_cant 79 = .ok (.ireturn, 1) := by decide +kernel
theorem dX12_cant_11 : decode cX12_cant 11 = .ok (.iconst (-1), 1) := by decide +kernel
theorem dX12_cant_12 : decode cX12_cant 12 = .ok (.ireturn, 1) := by decide +kernel
theorem dX12_wants_0 : decode cX12_wants 0 = .ok (.iconst 0, 1) := by decide +kernel
theorem dX12_wants_1 : decode cX12_wants 1 = .ok (.istore_n 1, 1) := by decide +kernel
theorem dX12_wants_2 : decode cX12_wants 2 = .ok (.iconst 0, 1) := by decide +kernel
theorem dX12_wants_3 : decode cX12_wants 3 = .ok (.istore_n 2, 1) := by decide +kernel
theorem dX12_wants_4 : decode cX12_wants 4 = .ok (.iload_n 2, 1) := by decide +kernel
theorem dX12_wants_5 : decode cX12_wants 5 = .ok (.aload_n 0, 1) := by decide +kernel
theorem dX12_wants_6 : decode cX12_wants 6 = .ok (.getfield 7, 3) := by decide +kernel
theorem dX12_wants_9 : decode cX12_wants 9 = .ok (.iconst 5, 1) := by decide +kernel
theorem dX12_wants_10 : decode cX12_wants 10 = .ok (.iaload, 1) := by decide +kernel
theorem dX12_wants_11 : decode cX12_wants 11 = .ok (.if_icmp .ge 26, 3) := by decide +kernel
theorem dX12_wants_37 : decode cX12_wants 37 = .ok (.iload_n 1, 1) := by decide +kernel
theorem dX12_wants_38 : decode cX12_wants 38 = .ok (.ireturn, 1) := by decide +kernel
theorem dX12_nextOrder_0 : decode cX12_nextOrder 0 = .ok (.iload_n 1, 1) := by decide +kernel
theorem dX12_nextOrder_1 : decode cX12_nextOrder 1 = .ok (.iconst 2, 1) := by decide +kernel
theorem dX12_nextOrder_2 : decode cX12_nextOrder 2 = .ok (.isub, 1) := by decide +kernel
theorem dX12_nextOrder_3 : decode cX12_nextOrder 3 = .ok (.istore_n 2, 1) := by decide +kernel
theorem dX12_nextOrder_4 : decode cX12_nextOrder 4 = .ok (.iload_n 2, 1) := by decide +kernel
theorem dX12_nextOrder_5 : decode cX12_nextOrder 5 = .ok (.ifCond .lt 26, 3) := by decide +kernel
theorem dX12_nextOrder_31 : decode cX12_nextOrder 31 = .ok (.iload_n 2, 1) := by decide +kernel
theorem dX12_nextOrder_32 : decode cX12_nextOrder 32 = .ok (.ifCond .ge 5, 3) := by decide +kernel
theorem dX12_nextOrder_35 : decode cX12_nextOrder 35 = .ok (.iconst 0, 1) := by decide +kernel
theorem dX12_nextOrder_36 : decode cX12_nextOrder 36 = .ok (.ireturn, 1) := by decide +kernel
theorem dX12_order_124 : decode cX12_order 124 = .ok (.iload 8, 2) := by decide +kernel
theorem dX12_order_126 : decode cX12_order 126 = .ok (.iload_n 2, 1) := by decide +kernel
theorem dX12_order_127 : decode cX12_order 127 = .ok (.if_icmp .ge 14, 3) := by decide +kernel
theorem dX12_order_130 : decode cX12_order 130 = .ok (.aload_n 0, 1) := by decide +kernel
theorem dX12_order_131 : decode cX12_order 131 = .ok (.iload_n 1, 1) := by decide +kernel
theorem dX12_order_132 : decode cX12_order 132 = .ok (.invokevirtual 372, 3) := by decide +kernel
theorem dX12_order_135 : decode cX12_order 135 = .ok (.iinc 8 1, 3) := by decide +kernel
theorem dX12_order_138 : decode cX12_order 138 = .ok (.goto (-14), 3) := by decide +kernel
theorem dX12_order_0 : decode cX12_order 0 = .ok (.aload_n 0, 1) := by decide +kernel
theorem dX12_order_1 : decode cX12_order 1 = .ok (.iload_n 2, 1) := by decide +kernel
theorem dX12_order_2 : decode cX12_order 2 = .ok (.bipush 12, 2) := by decide +kernel
theorem dX12_order_4 : decode cX12_order 4 = .ok (.iload_n 1, 1) := by decide +kernel
theorem dX12_order_5 : decode cX12_order 5 = .ok (.invokevirtual 369, 3) := by decide +kernel
theorem dX12_order_8 : decode cX12_order 8 = .ok (.ifCond .eq 16, 3) := by decide +kernel
theorem dX12_order_11 : decode cX12_order 11 = .ok (.iload_n 3, 1) := by decide +kernel
theorem dX12_order_12 : decode cX12_order 12 = .ok (.iconst (-1), 1) := by decide +kernel
theorem dX12_order_13 : decode cX12_order 13 = .ok (.if_icmp .eq 13, 3) := by decide +kernel
theorem dX12_order_26 : decode cX12_order 26 = .ok (.aload_n 0, 1) := by decide +kernel
theorem dX12_order_27 : decode cX12_order 27 = .ok (.getfield 7, 3) := by decide +kernel
theorem dX12_order_30 : decode cX12_order 30 = .ok (.aload_n 0, 1) := by decide +kernel
theorem dX12_order_31 : decode cX12_order 31 = .ok (.getfield 16, 3) := by decide +kernel
theorem dX12_order_34 : decode cX12_order 34 = .ok (.invokestatic 58, 3) := by decide +kernel
theorem dX12_order_37 : decode cX12_order 37 = .ok (.aload_n 0, 1) := by decide +kernel
theorem dX12_order_38 : decode cX12_order 38 = .ok (.getfield 7, 3) := by decide +kernel
theorem dX12_order_41 : decode cX12_order 41 = .ok (.iconst 1, 1) := by decide +kernel
theorem dX12_order_42 : decode cX12_order 42 = .ok (.iaload, 1) := by decide +kernel
theorem dX12_order_43 : decode cX12_order 43 = .ok (.istore 4, 2) := by decide +kernel
theorem dX12_order_45 : decode cX12_order 45 = .ok (.iconst 0, 1) := by decide +kernel
theorem dX12_order_46 : decode cX12_order 46 = .ok (.istore 5, 2) := by decide +kernel
theorem dX12_order_48 : decode cX12_order 48 = .ok (.iload 5, 2) := by decide +kernel
theorem dX12_order_50 : decode cX12_order 50 = .ok (.iconst 5, 1) := by decide +kernel
theorem dX12_order_51 : decode cX12_order 51 = .ok (.if_icmp .ge 18, 3) := by decide +kernel
theorem dX12_order_54 : decode cX12_order 54 = .ok (.aload_n 0, 1) := by decide +kernel
theorem tw_191 : Cond.fieldLink RX12 55 "RingsUnderModel" "rings" "[I" ∈ wsL_law := List.mem_of_getElem? (i := 191) (by decide +kernel)
theorem dX12_order_55 : decode cX12_order 55 = .ok (.getfield 55, 3) := by decide +kernel
theorem dX12_order_58 : decode cX12_order 58 = .ok (.iload 5, 2) := by decide +kernel
theorem dX12_order_60 : decode cX12_order 60 = .ok (.iload 5, 2) := by decide +kernel
theorem dX12_order_62 : decode cX12_order 62 = .ok (.iastore, 1) := by decide +kernel
theorem dX12_order_63 : decode cX12_order 63 = .ok (.iinc 5 1, 3) := by decide +kernel
theorem dX12_order_66 : decode cX12_order 66 = .ok (.goto (-18), 3) := by decide +kernel
theorem dX12_order_69 : decode cX12_order 69 = .ok (.iconst (-1), 1) := by decide +kernel
theorem dX12_order_70 : decode cX12_order 70 = .ok (.istore 5, 2) := by decide +kernel
theorem dX12_order_72 : decode cX12_order 72 = .ok (.aload_n 0, 1) := by decide +kernel
theorem dX12_order_73 : decode cX12_order 73 = .ok (.iconst 1, 1) := by decide +kernel
theorem dX12_order_74 : decode cX12_order 74 = .ok (.putfield 328, 3) := by decide +kernel
theorem dX12_order_77 : decode cX12_order 77 = .ok (.iconst 1, 1) := by decide +kernel
theorem dX12_order_78 : decode cX12_order 78 = .ok (.istore 6, 2) := by decide +kernel
theorem dX12_order_80 : decode cX12_order 80 = .ok (.iload 6, 2) := by decide +kernel
theorem dX12_order_82 : decode cX12_order 82 = .ok (.ifCond .eq 136, 3) := by decide +kernel
theorem dX12_order_85 : decode cX12_order 85 = .ok (.iconst 0, 1) := by decide +kernel
theorem dX12_order_86 : decode cX12_order 86 = .ok (.istore 7, 2) := by decide +kernel
theorem dX12_order_88 : decode cX12_order 88 = .ok (.iload 7, 2) := by decide +kernel
theorem dX12_order_90 : decode cX12_order 90 = .ok (.iload 4, 2) := by decide +kernel
theorem dX12_order_92 : decode cX12_order 92 = .ok (.if_icmp .ge 23, 3) := by decide +kernel
theorem dX12_order_115 : decode cX12_order 115 = .ok (.aload_n 0, 1) := by decide +kernel
theorem tw_1487 : Cond.methodLink RX12 378 yX12_wants ∈ wsL_law := List.mem_of_getElem? (i := 1487) (by decide +kernel)
theorem tw_1488 : Cond.instanceMethod yX12_wants ∈ wsL_law := List.mem_of_getElem? (i := 1488) (by decide +kernel)
theorem tw_1489 : Cond.selects RX12 yX12_wants yX12_wants ∈ wsL_law := List.mem_of_getElem? (i := 1489) (by decide +kernel)
theorem tw_1490 : Cond.code yX12_wants cX12_wants 3 (some .int) ∈ wsL_law := List.mem_of_getElem? (i := 1490) (by decide +kernel)
theorem dX12_order_116 : decode cX12_order 116 = .ok (.invokevirtual 378, 3) := by decide +kernel
theorem dX12_order_119 : decode cX12_order 119 = .ok (.istore 7, 2) := by decide +kernel
theorem dX12_order_121 : decode cX12_order 121 = .ok (.iconst 0, 1) := by decide +kernel
theorem dX12_order_122 : decode cX12_order 122 = .ok (.istore 8, 2) := by decide +kernel
theorem dX12_order_141 : decode cX12_order 141 = .ok (.aload_n 0, 1) := by decide +kernel
theorem dX12_order_142 : decode cX12_order 142 = .ok (.invokevirtual 378, 3) := by decide +kernel
theorem dX12_order_145 : decode cX12_order 145 = .ok (.iload 7, 2) := by decide +kernel
theorem dX12_order_147 : decode cX12_order 147 = .ok (.isub, 1) := by decide +kernel
theorem dX12_order_148 : decode cX12_order 148 = .ok (.istore 8, 2) := by decide +kernel
theorem dX12_order_150 : decode cX12_order 150 = .ok (.aload_n 0, 1) := by decide +kernel
theorem dX12_order_151 : decode cX12_order 151 = .ok (.getfield 16, 3) := by decide +kernel
theorem dX12_order_154 : decode cX12_order 154 = .ok (.aload_n 0, 1) := by decide +kernel
theorem dX12_order_155 : decode cX12_order 155 = .ok (.getfield 7, 3) := by decide +kernel
theorem dX12_order_158 : decode cX12_order 158 = .ok (.invokestatic 58, 3) := by decide +kernel
theorem dX12_order_161 : decode cX12_order 161 = .ok (.iload 5, 2) := by decide +kernel
theorem dX12_order_163 : decode cX12_order 163 = .ok (.ifCond .lt 10, 3) := by decide +kernel
theorem dX12_order_173 : decode cX12_order 173 = .ok (.iload 8, 2) := by decide +kernel
theorem dX12_order_175 : decode cX12_order 175 = .ok (.istore 5, 2) := by decide +kernel
theorem dX12_order_177 : decode cX12_order 177 = .ok (.iconst 0, 1) := by decide +kernel
theorem dX12_order_178 : decode cX12_order 178 = .ok (.istore 9, 2) := by decide +kernel
theorem dX12_order_180 : decode cX12_order 180 = .ok (.iload 9, 2) := by decide +kernel
theorem dX12_order_182 : decode cX12_order 182 = .ok (.iload 4, 2) := by decide +kernel
theorem dX12_order_184 : decode cX12_order 184 = .ok (.if_icmp .ge 23, 3) := by decide +kernel
theorem dX12_order_207 : decode cX12_order 207 = .ok (.aload_n 0, 1) := by decide +kernel
theorem dX12_order_208 : decode cX12_order 208 = .ok (.iload 4, 2) := by decide +kernel
theorem tw_1491 : Cond.methodLink RX12 381 yX12_nextOrder ∈ wsL_law := List.mem_of_getElem? (i := 1491) (by decide +kernel)
theorem tw_1492 : Cond.instanceMethod yX12_nextOrder ∈ wsL_law := List.mem_of_getElem? (i := 1492) (by decide +kernel)
theorem tw_1493 : Cond.selects RX12 yX12_nextOrder yX12_nextOrder ∈ wsL_law := List.mem_of_getElem? (i := 1493) (by decide +kernel)
theorem tw_1494 : Cond.code yX12_nextOrder cX12_nextOrder 7 (some .boolean) ∈ wsL_law := List.mem_of_getElem? (i := 1494) (by decide +kernel)
theorem dX12_order_210 : decode cX12_order 210 = .ok (.invokevirtual 381, 3) := by decide +kernel
theorem dX12_order_213 : decode cX12_order 213 = .ok (.istore 6, 2) := by decide +kernel
theorem dX12_order_215 : decode cX12_order 215 = .ok (.goto (-135), 3) := by decide +kernel
theorem dX12_order_218 : decode cX12_order 218 = .ok (.aload_n 0, 1) := by decide +kernel
theorem dX12_order_219 : decode cX12_order 219 = .ok (.iconst 0, 1) := by decide +kernel
theorem dX12_order_220 : decode cX12_order 220 = .ok (.putfield 328, 3) := by decide +kernel
theorem dX12_order_223 : decode cX12_order 223 = .ok (.iload_n 3, 1) := by decide +kernel
theorem dX12_order_224 : decode cX12_order 224 = .ok (.iconst (-1), 1) := by decide +kernel
theorem dX12_order_225 : decode cX12_order 225 = .ok (.if_icmp .ne 8, 3) := by decide +kernel
theorem dX12_order_228 : decode cX12_order 228 = .ok (.iload 5, 2) := by decide +kernel
theorem dX12_order_230 : decode cX12_order 230 = .ok (.goto 9, 3) := by decide +kernel
theorem dX12_order_239 : decode cX12_order 239 = .ok (.ireturn, 1) := by decide +kernel
theorem dX12_order_16 : decode cX12_order 16 = .ok (.aload_n 0, 1) := by decide +kernel
theorem dX12_order_17 : decode cX12_order 17 = .ok (.iload_n 3, 1) := by decide +kernel
theorem dX12_order_18 : decode cX12_order 18 = .ok (.invokevirtual 66, 3) := by decide +kernel
theorem dX12_order_21 : decode cX12_order 21 = .ok (.ifCond .ne 5, 3) := by decide +kernel
theorem dX12_order_24 : decode cX12_order 24 = .ok (.iconst (-1), 1) := by decide +kernel
theorem dX12_order_25 : decode cX12_order 25 = .ok (.ireturn, 1) := by decide +kernel
theorem dX12_image_0 : decode cX12_image 0 = .ok (.aload_n 0, 1) := by decide +kernel
theorem dX12_image_1 : decode cX12_image 1 = .ok (.getfield 7, 3) := by decide +kernel
theorem dX12_image_4 : decode cX12_image 4 = .ok (.aload_n 0, 1) := by decide +kernel
theorem tw_177 : Cond.fieldLink RX12 13 "RingsUnderModel" "image" "[I" ∈ wsL_law := List.mem_of_getElem? (i := 177) (by decide +kernel)
theorem dX12_image_5 : decode cX12_image 5 = .ok (.getfield 13, 3) := by decide +kernel
theorem dX12_image_8 : decode cX12_image 8 = .ok (.invokestatic 58, 3) := by decide +kernel
theorem dX12_image_11 : decode cX12_image 11 = .ok (.aload_n 0, 1) := by decide +kernel
theorem dX12_image_12 : decode cX12_image 12 = .ok (.getfield 7, 3) := by decide +kernel
theorem dX12_image_15 : decode cX12_image 15 = .ok (.iconst 0, 1) := by decide +kernel
theorem dX12_image_16 : decode cX12_image 16 = .ok (.iaload, 1) := by decide +kernel
theorem dX12_image_17 : decode cX12_image 17 = .ok (.ireturn, 1) := by decide +kernel
theorem dX12_back_0 : decode cX12_back 0 = .ok (.aload_n 0, 1) := by decide +kernel
theorem dX12_back_1 : decode cX12_back 1 = .ok (.getfield 13, 3) := by decide +kernel
theorem dX12_back_4 : decode cX12_back 4 = .ok (.aload_n 0, 1) := by decide +kernel
theorem dX12_back_5 : decode cX12_back 5 = .ok (.getfield 7, 3) := by decide +kernel
theorem dX12_back_8 : decode cX12_back 8 = .ok (.invokestatic 58, 3) := by decide +kernel
theorem dX12_back_11 : decode cX12_back 11 = .ok (.aload_n 0, 1) := by decide +kernel
theorem dX12_back_12 : decode cX12_back 12 = .ok (.getfield 7, 3) := by decide +kernel
theorem dX12_back_15 : decode cX12_back 15 = .ok (.iconst 0, 1) := by decide +kernel
theorem dX12_back_16 : decode cX12_back 16 = .ok (.iaload, 1) := by decide +kernel
theorem dX12_back_17 : decode cX12_back 17 = .ok (.ireturn, 1) := by decide +kernel
theorem dX12_council_0 : decode cX12_council 0 = .ok (.lload_n 1, 1) := by decide +kernel
theorem dX12_council_1 : decode cX12_council 1 = .ok (.lconst 0, 1) := by decide +kernel
theorem dX12_council_2 : decode cX12_council 2 = .ok (.lcmp, 1) := by decide +kernel
theorem dX12_council_3 : decode cX12_council 3 = .ok (.ifCond .lt 16, 3) := by decide +kernel
theorem dX12_council_19 : decode cX12_council 19 = .ok (.iconst (-1), 1) := by decide +kernel
theorem dX12_council_20 : decode cX12_council 20 = .ok (.ireturn, 1) := by decide +kernel
theorem dX12_council_6 : decode cX12_council 6 = .ok (.lload_n 1, 1) := by decide +kernel
theorem dX12_council_7 : decode cX12_council 7 = .ok (.aload_n 0, 1) := by decide +kernel
theorem dX12_council_8 : decode cX12_council 8 = .ok (.getfield 7, 3) := by decide +kernel
theorem dX12_council_11 : decode cX12_council 11 = .ok (.iconst 5, 1) := by decide +kernel
theorem dX12_council_12 : decode cX12_council 12 = .ok (.iaload, 1) := by decide +kernel
theorem dX12_council_13 : decode cX12_council 13 = .ok (.lshr, 1) := by decide +kernel
theorem dX12_council_14 : decode cX12_council 14 = .ok (.lconst 0, 1) := by decide +kernel
theorem dX12_council_15 : decode cX12_council 15 = .ok (.lcmp, 1) := by decide +kernel
theorem dX12_council_16 : decode cX12_council 16 = .ok (.ifCond .eq 5, 3) := by decide +kernel
theorem dX12_council_21 : decode cX12_council 21 = .ok (.aload_n 0, 1) := by decide +kernel
theorem dX12_council_22 : decode cX12_council 22 = .ok (.getfield 7, 3) := by decide +kernel
theorem dX12_council_25 : decode cX12_council 25 = .ok (.iconst 0, 1) := by decide +kernel
theorem dX12_council_26 : decode cX12_council 26 = .ok (.iaload, 1) := by decide +kernel
theorem dX12_council_27 : decode cX12_council 27 = .ok (.istore_n 3, 1) := by decide +kernel
theorem dX12_council_28 : decode cX12_council 28 = .ok (.iconst 0, 1) := by decide +kernel
theorem dX12_council_29 : decode cX12_council 29 = .ok (.istore 4, 2) := by decide +kernel
theorem dX12_council_31 : decode cX12_council 31 = .ok (.iconst 0, 1) := by decide +kernel
theorem dX12_council_32 : decode cX12_council 32 = .ok (.istore 5, 2) := by decide +kernel
theorem dX12_council_34 : decode cX12_council 34 = .ok (.iconst 0, 1) := by decide +kernel
theorem dX12_council_35 : decode cX12_council 35 = .ok (.istore 6, 2) := by decide +kernel
theorem dX12_council_37 : decode cX12_council 37 = .ok (.iconst 0, 1) := by decide +kernel
theorem dX12_council_38 : decode cX12_council 38 = .ok (.istore 7, 2) := by decide +kernel
theorem dX12_council_40 : decode cX12_council 40 = .ok (.iload 7, 2) := by decide +kernel
theorem dX12_council_42 : decode cX12_council 42 = .ok (.aload_n 0, 1) := by decide +kernel
theorem dX12_council_43 : decode cX12_council 43 = .ok (.getfield 7, 3) := by decide +kernel
theorem dX12_council_46 : decode cX12_council 46 = .ok (.iconst 5, 1) := by decide +kernel
theorem dX12_council_47 : decode cX12_council 47 = .ok (.iaload, 1) := by decide +kernel
theorem dX12_council_48 : decode cX12_council 48 = .ok (.if_icmp .ge 104, 3) := by decide +kernel
theorem dX12_council_152 : decode cX12_council 152 = .ok (.bipush 100, 2) := by decide +kernel
theorem dX12_council_154 : decode cX12_council 154 = .ok (.iload 5, 2) := by decide +kernel
theorem dX12_council_156 : decode cX12_council 156 = .ok (.imul, 1) := by decide +kernel
theorem dX12_council_157 : decode cX12_council 157 = .ok (.aload_n 0, 1) := by decide +kernel
theorem dX12_council_158 : decode cX12_council 158 = .ok (.bipush 7, 2) := by decide +kernel
theorem dX12_council_160 : decode cX12_council 160 = .ok (.iload_n 3, 1) := by decide +kernel
theorem dX12_council_161 : decode cX12_council 161 = .ok (.bipush 50, 2) := by decide +kernel
theorem dX12_council_163 : decode cX12_council 163 = .ok (.invokevirtual 304, 3) := by decide +kernel
theorem dX12_council_166 : decode cX12_council 166 = .ok (.iload 4, 2) := by decide +kernel
theorem dX12_council_168 : decode cX12_council 168 = .ok (.imul, 1) := by decide +kernel
theorem dX12_council_169 : decode cX12_council 169 = .ok (.if_icmp .ge 5, 3) := by decide +kernel
theorem dX12_council_174 : decode cX12_council 174 = .ok (.iload 6, 2) := by decide +kernel
theorem dX12_council_176 : decode cX12_council 176 = .ok (.ifCond .le 7, 3) := by decide +kernel
theorem dX12_council_183 : decode cX12_council 183 = .ok (.iconst 0, 1) := by decide +kernel
theorem dX12_council_184 : decode cX12_council 184 = .ok (.ireturn, 1) := by decide +kernel
set_option maxHeartbeats 4000000 in
set_option maxRecDepth 100000 in
theorem lp_X12_cant_29 (l : Launch) (D : va_G) (t : pq_T) (σ : pq_S) (I : Nat → Nat → Int32) (J : Nat → Nat → Int64) (ri : Nat → Nat → Int32) (rj : Nat → Nat → Int64) (rq : Nat → Nat → Option Nat) (this : Nat) (rise : Int32) (n : Int32) (hL_this : this ∈ σ.1) (hK_this : σ.2.1 this = 12) (this_a : Nat) (hR_this_a : σ.2.2.1 384 this = some this_a) (hL_this_a : this_a ∈ σ.1) (hK_this_a : σ.2.1 this_a = 13) (hN_this_a : σ.2.2.2 this_a = 12720) (this_kept : Nat) (hR_this_kept : σ.2.2.1 386 this = some this_kept) (hL_this_kept : this_kept ∈ σ.1) (hK_this_kept : σ.2.1 this_kept = 13) (hN_this_kept : σ.2.2.2 this_kept = 12720) (hF : fm (ri this_a) 0) (hak : this_a ≠ this_kept) (nn : Nat) (hnn : nn ≤ 60) {p : Program} {e : Env} {s : State} {m : MethodId} {args : Array Value} {below : List Frame} {meth : Method} {c : Code} {cells slots : Nat} {Q : State → Prop} {A : Nat → Prop} (hx : p.tables.exec = Jvm.exec) (hb : c.code = cX12_cant) (hml : c.maxLocals = 5) (hts : ∀ w ∈ (wa yX12_cant cX12_cant 5 (some .int)), w.before args s = true) (hown : s.vm.findClass RX12 = some m.cls) (hK : va_K D vwCl (pq_ty t) s) (hN : pq_N s) (hA : ∀ q : Nat, s.heap.size ≤ q → A q) (hcs : cells = 0 ∧ slots = 0)
    (kk : ∀ (i : Nat) (I' : Nat → Nat → Int32) (ri' : Nat → Nat → Int32) (H : Heap) (locs : List Loc) (ls : Array Slot), (i ≤ nn) → (fm (ri' this_a) i) → va_P D vwCl (pq_P t σ (I', J, ri', rj, rq)) H → va_D A (pq_P t σ (I', J, ri', rj, rq)) → va_S A s.heap H locs → lv_has ls 5 [(4, .int (nI i)), (3, .int (-1)), (0, .ref this), (1, .int rise), (2, .int (nI nn))] → W p l e ({ frames := 5, cells := 0, slots := 0, locals := 121 } : Room) s m args below meth c H locs cells slots Q (F0 m 67 ls [])) :
    ∀ (n : Nat) (i : Nat) (I' : Nat → Nat → Int32) (ri' : Nat → Nat → Int32) (H : Heap) (locs : List Loc) (ls : Array Slot), (i ≤ nn) → (fm (ri' this_a) i) → (nn - i) < n → va_P D vwCl (pq_P t σ (I', J, ri', rj, rq)) H → va_D A (pq_P t σ (I', J, ri', rj, rq)) → va_S A s.heap H locs → lv_has ls 5 [(4, .int (nI i)), (3, .int (-1)), (0, .ref this), (1, .int rise), (2, .int (nI nn))] → W p l e ({ frames := 5, cells := 0, slots := 0, locals := 121 } : Room) s m args below meth c H locs cells slots Q (F0 m 29 ls []) := by
  obtain ⟨rfl, rfl⟩ := hcs
  intro n
  induction n with
  | zero => intro i I' ri' H locs ls hi hF' hm; exact absurd hm (Nat.not_lt_zero _)
  | succ n ih =>
    intro i I' ri' H locs ls hi hF' hm hP hD hS hl
    refine lv_iload hx hb dX12_cant_29 (lv_at hl 0 rfl) ?_
    refine lv_iload_n hx hb dX12_cant_31 rfl (lv_at hl 4 rfl) ?_
    refine lv_icmp_ge (tgt := 67) hx hb dX12_cant_32 (by decide) (fun c_1 => ?_) (fun c_1 => ?_)
    · have nc_1 := nq_le (a := nn) (b := i) (by omega) (by omega) c_1
      exact kk i I' ri' _ _ _ hi hF' hP hD hS (lv_sub hl [0, 1, 2, 3, 4] rfl)
    · have nc_1 := nq_nle (a := nn) (b := i) (by omega) (by omega) c_1
      refine lv_iload_n hx hb dX12_cant_35 rfl (lv_at hl 1 rfl) ?_
      refine lv_if_ge (tgt := 67) hx hb dX12_cant_36 (by decide) (fun c_2 => absurd c_2 (by decide)) (fun c_2 => ?_)
      refine lv_aload_n hx hb dX12_cant_39 rfl (lv_at hl 2 rfl) ?_
      refine lv_iload_n hx hb dX12_cant_40 rfl (lv_at hl 3 rfl) ?_
      refine pk_v (va_runV (As := [.int rise]) (rest := []) ⟨hx, hb, hml, hown, hts⟩ (c_X12_month l D t σ I' J ri' rj rq H.size this rise hL_this hK_this this_a hR_this_a hL_this_a hK_this_a hN_this_a i (by omega) hF') (cwV 1 hts (tw_V tw_1193 tw_1194 tw_1195 tw_5 tw_1196) rfl rfl rfl (by decide +kernel) ⟨Nat.le_of_ble_eq_true rfl, Nat.le_of_ble_eq_true rfl⟩) ⟨pq_blind, pq_recv hK hP hL_this hK_this (by decide) rfl, pq_pre hK hN hP hD⟩ rfl rfl hl.1 rfl (lv_room (Nat.le_of_ble_eq_true rfl)) dX12_cant_41 ⟨Nat.le_of_ble_eq_true rfl, Nat.le_of_ble_eq_true rfl⟩) hD hS hA (fun σ1 μ1 H locs hw_4 hP hD hS => ?_)
      obtain ⟨I_5, ri_6, hu_7, hu_7f, hu_7p0, hu_7p1⟩ := hw_4
      obtain ⟨hu_7a, hu_7b⟩ := Prod.mk.inj hu_7
      rw [hu_7a, hu_7b] at hP hD
      refine lv_aload_n hx hb dX12_cant_44 rfl (lv_at hl 2 rfl) ?_
      refine pg_f (v := .int (I_5 410 this)) (C := RX12) (T := TX12) (N := 31) hx hb hts (tw_i inlX12) hown hK hP hL_this hK_this (by decide) rfl 26 (by decide) (hts _ (tw_c tw_1237)) rfl dX12_cant_45 ?_
      refine lv_tov 0 hu_7p1 ?_
      refine lv_iconst (v := 1) hx hb dX12_cant_48 (by decide) ?_
      refine lv_icmp_ne (tgt := 61) hx hb dX12_cant_49 (by decide) (fun c_9 => ?_) (fun c_9 => absurd c_9 (by decide))
      refine lv_iinc (v := (nI (i + 1))) (lv' := [(4, .int (nI (i + 1))), (3, .int (-1)), (0, .ref this), (1, .int rise), (2, .int (nI nn))]) hx hb dX12_cant_61 hl (k := 0) rfl (nI_1 i) (by decide) rfl (fun ls hl => ?_)
      refine lv_goto (tgt := 29) hx hb dX12_cant_64 (by decide) ?_
      exact ih (i + 1) I_5 ri_6 _ _ _ (by omega) hu_7p0.1 (by omega) hP hD hS (lv_sub hl [0, 1, 2, 3, 4] rfl)

set_option maxHeartbeats 4000000 in
set_option maxRecDepth 100000 in
theorem c_X12_cant (l : Launch) (D : va_G) (t : pq_T) (σ : pq_S) (I : Nat → Nat → Int32) (J : Nat → Nat → Int64) (ri : Nat → Nat → Int32) (rj : Nat → Nat → Int64) (rq : Nat → Nat → Option Nat) (sz : Nat) (this : Nat) (rise : Int32) (n : Int32) (hL_this : this ∈ σ.1) (hK_this : σ.2.1 this = 12) (this_a : Nat) (hR_this_a : σ.2.2.1 384 this = some this_a) (hL_this_a : this_a ∈ σ.1) (hK_this_a : σ.2.1 this_a = 13) (hN_this_a : σ.2.2.2 this_a = 12720) (this_kept : Nat) (hR_this_kept : σ.2.2.1 386 this = some this_kept) (hL_this_kept : this_kept ∈ σ.1) (hK_this_kept : σ.2.1 this_kept = 13) (hN_this_kept : σ.2.2.2 this_kept = 12720) (hF : fm (ri this_a) 0) (hak : this_a ≠ this_kept) : MetI l yX12_cant (wa yX12_cant cX12_cant 5 (some .int)) ({ frames := 5, cells := 0, slots := 0, locals := 121 }) [.ref this, .int rise, .int n] D t σ (I, J, ri, rj, rq) sz 0 0 (fun (r : Int32) (u : pq_S × pq_M) => ∃ I' : Nat → Nat → Int32, ∃ ri' : Nat → Nat → Int32, u = (σ, I', J, ri', rj, rq) ∧ ((r = (-1)))) := by
  refine Met.ofW (cc := cX12_cant) (maxL := 5) (ret := (some .int)) (by decide) rfl ?_
  intro p e s m args below meth c s₁ B hml hv
  obtain ⟨rfl, hsz, hP, hK, hD0, hN⟩ := hv
  have hx := B.exec
  have hb := B.bytes
  have hr := B.returns
  have hts := atoms_spec (ws := (wa yX12_cant cX12_cant 5 (some .int))) B.pre
  have hown : s.vm.findClass RX12 = some m.cls := findClass_of_methodNamed B.named
  have hlocks := B.notSynchronized
  subst hsz
  have hD : va_D (pq_B t σ (I, J, ri, rj, rq) s.heap.size) (pq_P t σ (I, J, ri, rj, rq)) := hD0.self
  generalize hAe : pq_B t σ (I, J, ri, rj, rq) s.heap.size = A at hD ⊢
  have hA : ∀ q : Nat, s.heap.size ≤ q → A q := fun q h => by rw [← hAe]; exact Or.inr h
  have hS : va_S A s.heap s.heap [] := va_S.rf
  have hl := lv_entry ([.ref this, .int rise, .int n]) (n := 5) (Nat.le_of_ble_eq_true rfl)
  rw [lg_entry_eq]
  generalize (lg_sl ([.ref this, .int rise, .int n]) ++ List.replicate (5 - (lg_sl ([.ref this, .int rise, .int n])).length) Slot.unset).toArray = ls at hl ⊢
  have hl : lv_has ls 5 [(0, .ref this), (1, .int rise), (2, .int n)] := hl
  refine lv_aload_n hx hb dX12_cant_0 rfl (lv_at hl 0 rfl) ?_
  refine lv_iload_n hx hb dX12_cant_1 rfl (lv_at hl 2 rfl) ?_
  refine lv_bipush (v := 60) hx hb dX12_cant_2 (by decide) ?_
  refine lv_iload_n hx hb dX12_cant_4 rfl (lv_at hl 1 rfl) ?_
  refine pk_i (va_runV (As := [.int n, .int 60, .int rise]) (rest := []) ⟨hx, hb, hml, hown, hts⟩ (c_X12_isTime l D t σ I J ri rj rq (Array.size s.heap) this n (60 : Int32) rise hL_this hK_this this_a hR_this_a hL_this_a hK_this_a hN_this_a hF (by decide)) (cwV 3 hts (tw_V tw_1189 tw_1190 tw_1191 tw_5 tw_1192) rfl rfl rfl (by decide +kernel) ⟨Nat.le_of_ble_eq_true rfl, Nat.le_of_ble_eq_true rfl⟩) ⟨pq_blind, pq_recv hK hP hL_this hK_this (by decide) rfl, pq_pre hK hN hP hD⟩ rfl rfl hl.1 rfl (lv_room (Nat.le_of_ble_eq_true rfl)) dX12_cant_5 ⟨Nat.le_of_ble_eq_true rfl, Nat.le_of_ble_eq_true rfl⟩) hD hS hA (fun r_1 σ1 μ1 H locs hw_2 hP hD hS => ?_)
  obtain ⟨hu_3, hr_4⟩ := hw_2
  obtain ⟨hu_3a, hu_3b⟩ := Prod.mk.inj hu_3
  rw [hu_3a, hu_3b] at hP hD
  rcases hr_4 with ⟨rfl, hr_4_0, hr_4_1, hr_4_2, hr_4_3⟩ | ⟨rfl, hr_4_0⟩
  · refine lv_if_ne (tgt := 13) hx hb dX12_cant_8 (by decide) (fun c_5 => ?_) (fun c_5 => absurd c_5 (by decide))
    obtain ⟨nn, hnn0, hnn1, hnn2⟩ := nI_rg hr_4_0 hr_4_1 (by decide)
    have hnn1 : 1 ≤ nn := by have : (1 : Int32).toInt = 1 := rfl; omega
    have hnn2 : nn ≤ 60 := by have : (60 : Int32).toInt = 60 := rfl; omega
    rw [hnn0] at hl
    refine lv_aload_n hx hb dX12_cant_13 rfl (lv_at hl 0 rfl) ?_
    refine pg_f (v := .ref this_a) (C := RX12) (T := TX12) (N := 31) hx hb hts (tw_i inlX12) hown hK hP hL_this hK_this (by decide) rfl 0 (by decide) (hts _ (tw_c tw_176)) (pq_hv rfl hR_this_a) dX12_cant_14 ?_
    refine lv_aload_n hx hb dX12_cant_17 rfl (lv_at hl 0 rfl) ?_
    refine pg_f (v := .ref this_kept) (C := RX12) (T := TX12) (N := 31) hx hb hts (tw_i inlX12) hown hK hP hL_this hK_this (by decide) rfl 2 (by decide) (hts _ (tw_c tw_178)) (pq_hv rfl hR_this_kept) dX12_cant_18 ?_
    refine pk_v (va_runS (As := [.ref this_a, .ref this_kept]) (rest := []) ⟨hx, hb, hml, hown, hts⟩ (c_X12_copy l D t σ I J ri rj rq H.size this_a this_kept 12720 hL_this_a hK_this_a hN_this_a hL_this_kept hK_this_kept hN_this_kept rfl hak) (va_cwS 2 hts (tw_S tw_192 tw_193 tw_5 tw_194) rfl rfl rfl (by decide +kernel) ⟨Nat.le_of_ble_eq_true rfl, Nat.le_of_ble_eq_true rfl⟩) ⟨pq_blind, pq_pre hK hN hP hD⟩ rfl rfl hl.1 rfl (lv_room (Nat.le_of_ble_eq_true rfl)) dX12_cant_21 ⟨Nat.le_of_ble_eq_true rfl, Nat.le_of_ble_eq_true rfl⟩) hD hS hA (fun σ1 μ1 H locs hw_7 hP hD hS => ?_)
    obtain ⟨ri_8, hu_9, hu_9p0⟩ := hw_7
    obtain ⟨hu_9a, hu_9b⟩ := Prod.mk.inj hu_9
    rw [hu_9a, hu_9b] at hP hD
    refine lv_iconst (v := (-1)) hx hb dX12_cant_24 (by decide) ?_
    refine lv_istore_n (lv' := [(3, .int (-1)), (0, .ref this), (1, .int rise), (2, .int (nI nn))]) hx hb dX12_cant_25 rfl hl (by decide) rfl (fun ls hl => ?_)
    refine lv_iconst (v := 0) hx hb dX12_cant_26 (by decide) ?_
    refine lv_istore (lv' := [(4, .int 0), (3, .int (-1)), (0, .ref this), (1, .int rise), (2, .int (nI nn))]) hx hb dX12_cant_27 hl (by decide) rfl (fun ls hl => ?_)
    refine lp_X12_cant_29 l D t σ I J ri rj rq this rise n hL_this hK_this this_a hR_this_a hL_this_a hK_this_a hN_this_a this_kept hR_this_kept hL_this_kept hK_this_kept hN_this_kept hF hak nn (by omega) hx hb hml hts hown hK hN hA ⟨rfl, rfl⟩ (fun i_13 I_11 ri_12 H locs ls hi_14 hF'_15 hP hD hS hl => ?_) _ 0 I ri_8 _ _ _ (Nat.zero_le _) (fm_eq hF (hu_9p0.2 _ hak)) (Nat.lt_succ_self _) hP hD hS (lv_sub hl [0, 1, 2, 3, 4] rfl)
    refine lv_aload_n hx hb dX12_cant_67 rfl (lv_at hl 2 rfl) ?_
    refine pg_f (v := .ref this_kept) (C := RX12) (T := TX12) (N := 31) hx hb hts (tw_i inlX12) hown hK hP hL_this hK_this (by decide) rfl 2 (by decide) (hts _ (tw_c tw_178)) (pq_hv rfl hR_this_kept) dX12_cant_68 ?_
    refine lv_aload_n hx hb dX12_cant_71 rfl (lv_at hl 2 rfl) ?_
    refine pg_f (v := .ref this_a) (C := RX12) (T := TX12) (N := 31) hx hb hts (tw_i inlX12) hown hK hP hL_this hK_this (by decide) rfl 0 (by decide) (hts _ (tw_c tw_176)) (pq_hv rfl hR_this_a) dX12_cant_72 ?_
    refine pk_v (va_runS (As := [.ref this_kept, .ref this_a]) (rest := []) ⟨hx, hb, hml, hown, hts⟩ (c_X12_copy l D t σ I_11 J ri_12 rj rq H.size this_kept this_a 12720 hL_this_kept hK_this_kept hN_this_kept hL_this_a hK_this_a hN_this_a rfl (Ne.symm hak)) (va_cwS 2 hts (tw_S tw_192 tw_193 tw_5 tw_194) rfl rfl rfl (by decide +kernel) ⟨Nat.le_of_ble_eq_true rfl, Nat.le_of_ble_eq_true rfl⟩) ⟨pq_blind, pq_pre hK hN hP hD⟩ rfl rfl hl.1 rfl (lv_room (Nat.le_of_ble_eq_true rfl)) dX12_cant_75 ⟨Nat.le_of_ble_eq_true rfl, Nat.le_of_ble_eq_true rfl⟩) hD hS hA (fun σ1 μ1 H locs hw_17 hP hD hS => ?_)
    obtain ⟨ri_18, hu_19, hu_19p0⟩ := hw_17
    obtain ⟨hu_19a, hu_19b⟩ := Prod.mk.inj hu_19
    rw [hu_19a, hu_19b] at hP hD
    refine lv_iload_n hx hb dX12_cant_78 rfl (lv_at hl 1 rfl) ?_
    exact W.iret (v := (-1)) hx hb hr (fun t1 ht hW => ⟨⟨(-1), (σ, I_11, J, ri_18, rj, rq), rfl, ⟨I_11, ri_18, rfl, rfl⟩, by rw [ht]; exact hP, va_K.moved hW.alike hK, hD⟩, hS.F ht⟩) hS.2.2 dX12_cant_79
  · refine lv_if_ne (tgt := 13) hx hb dX12_cant_8 (by decide) (fun c_21 => absurd c_21 (by decide)) (fun c_21 => ?_)
    refine lv_iconst (v := (-1)) hx hb dX12_cant_11 (by decide) ?_
    exact W.iret (v := (-1)) hx hb hr (fun t1 ht hW => ⟨⟨(-1), (σ, I, J, ri, rj, rq), rfl, ⟨I, ri, rfl, rfl⟩, by rw [ht]; exact hP, va_K.moved hW.alike hK, hD⟩, hS.F ht⟩) hS.2.2 dX12_cant_12

set_option maxHeartbeats 4000000 in
set_option maxRecDepth 100000 in
theorem c_X12_wants (l : Launch) (D : va_G) (t : pq_T) (σ : pq_S) (I : Nat → Nat → Int32) (J : Nat → Nat → Int64) (ri : Nat → Nat → Int32) (rj : Nat → Nat → Int64) (rq : Nat → Nat → Option Nat) (sz : Nat) (this : Nat) (hL_this : this ∈ σ.1) (hK_this : σ.2.1 this = 12) (this_a : Nat) (hR_this_a : σ.2.2.1 384 this = some this_a) (hL_this_a : this_a ∈ σ.1) (hK_this_a : σ.2.1 this_a = 13) (hN_this_a : σ.2.2.2 this_a = 12720) (k : Nat) (hk : k < 600) (hF : fm (ri this_a) k) : MetI l yX12_wants (wa yX12_wants cX12_wants 3 (some .int)) ({ frames := 0, cells := 0, slots := 0, locals := 0 }) [.ref this] D t σ (I, J, ri, rj, rq) sz 0 0 (fun (r : Int32) (u : pq_S × pq_M) => u = (σ, I, J, ri, rj, rq) ∧ ((r = 0))) := by
  refine Met.ofW (cc := cX12_wants) (maxL := 3) (ret := (some .int)) (by decide) rfl ?_
  intro p e s m args below meth c s₁ B hml hv
  obtain ⟨rfl, hsz, hP, hK, hD0, hN⟩ := hv
  have hx := B.exec
  have hb := B.bytes
  have hr := B.returns
  have hts := atoms_spec (ws := (wa yX12_wants cX12_wants 3 (some .int))) B.pre
  have hown : s.vm.findClass RX12 = some m.cls := findClass_of_methodNamed B.named
  have hlocks := B.notSynchronized
  subst hsz
  have hD : va_D (pq_B t σ (I, J, ri, rj, rq) s.heap.size) (pq_P t σ (I, J, ri, rj, rq)) := hD0.self
  generalize hAe : pq_B t σ (I, J, ri, rj, rq) s.heap.size = A at hD ⊢
  have hA : ∀ q : Nat, s.heap.size ≤ q → A q := fun q h => by rw [← hAe]; exact Or.inr h
  have hS : va_S A s.heap s.heap [] := va_S.rf
  have hl := lv_entry ([.ref this]) (n := 3) (Nat.le_of_ble_eq_true rfl)
  rw [lg_entry_eq]
  generalize (lg_sl ([.ref this]) ++ List.replicate (3 - (lg_sl ([.ref this])).length) Slot.unset).toArray = ls at hl ⊢
  have hl : lv_has ls 3 [(0, .ref this)] := hl
  refine lv_iconst (v := 0) hx hb dX12_wants_0 (by decide) ?_
  refine lv_istore_n (lv' := [(1, .int 0), (0, .ref this)]) hx hb dX12_wants_1 rfl hl (by decide) rfl (fun ls hl => ?_)
  refine lv_iconst (v := 0) hx hb dX12_wants_2 (by decide) ?_
  refine lv_istore_n (lv' := [(2, .int 0), (1, .int 0), (0, .ref this)]) hx hb dX12_wants_3 rfl hl (by decide) rfl (fun ls hl => ?_)
  refine lv_iload_n hx hb dX12_wants_4 rfl (lv_at hl 0 rfl) ?_
  refine lv_aload_n hx hb dX12_wants_5 rfl (lv_at hl 2 rfl) ?_
  refine pg_f (v := .ref this_a) (C := RX12) (T := TX12) (N := 31) hx hb hts (tw_i inlX12) hown hK hP hL_this hK_this (by decide) rfl 0 (by decide) (hts _ (tw_c tw_176)) (pq_hv rfl hR_this_a) dX12_wants_6 ?_
  refine lv_iconst (v := 5) hx hb dX12_wants_9 (by decide) ?_
  refine pl_i hx hb hK hP hL_this_a hK_this_a hN_this_a (vp_in_iff.mpr (by decide)) dX12_wants_10 ?_
  refine lv_tov 0 (fm_at hF 5 (v := 0) (by decide)) ?_
  refine lv_icmp_ge (tgt := 37) hx hb dX12_wants_11 (by decide) (fun c_1 => ?_) (fun c_1 => absurd c_1 (by decide))
  refine lv_iload_n hx hb dX12_wants_37 rfl (lv_at hl 1 rfl) ?_
  exact W.iret (v := 0) hx hb hr (fun t1 ht hW => ⟨⟨0, (σ, I, J, ri, rj, rq), rfl, ⟨rfl, rfl⟩, by rw [ht]; exact hP, va_K.moved hW.alike hK, hD⟩, hS.F ht⟩) hS.2.2 dX12_wants_38

set_option maxHeartbeats 4000000 in
set_option maxRecDepth 100000 in
theorem c_X12_nextOrder (l : Launch) (D : va_G) (t : pq_T) (σ : pq_S) (I : Nat → Nat → Int32) (J : Nat → Nat → Int64) (ri : Nat → Nat → Int32) (rj : Nat → Nat → Int64) (rq : Nat → Nat → Option Nat) (sz : Nat) (this : Nat) (hL_this : this ∈ σ.1) (hK_this : σ.2.1 this = 12) (this_a : Nat) (hR_this_a : σ.2.2.1 384 this = some this_a) (hL_this_a : this_a ∈ σ.1) (hK_this_a : σ.2.1 this_a = 13) (hN_this_a : σ.2.2.2 this_a = 12720) (k : Nat) (hk : k < 600) (hF : fm (ri this_a) k) : MetI l yX12_nextOrder (wa yX12_nextOrder cX12_nextOrder 7 (some .boolean)) ({ frames := 0, cells := 0, slots := 0, locals := 0 }) [.ref this, .int 0] D t σ (I, J, ri, rj, rq) sz 0 0 (fun (r : Int32) (u : pq_S × pq_M) => u = (σ, I, J, ri, rj, rq) ∧ ((r = 0))) := by
  refine Met.ofW (cc := cX12_nextOrder) (maxL := 7) (ret := (some .boolean)) (by decide) rfl ?_
  intro p e s m args below meth c s₁ B hml hv
  obtain ⟨rfl, hsz, hP, hK, hD0, hN⟩ := hv
  have hx := B.exec
  have hb := B.bytes
  have hr := B.returns
  have hts := atoms_spec (ws := (wa yX12_nextOrder cX12_nextOrder 7 (some .boolean))) B.pre
  have hown : s.vm.findClass RX12 = some m.cls := findClass_of_methodNamed B.named
  have hlocks := B.notSynchronized
  subst hsz
  have hD : va_D (pq_B t σ (I, J, ri, rj, rq) s.heap.size) (pq_P t σ (I, J, ri, rj, rq)) := hD0.self
  generalize hAe : pq_B t σ (I, J, ri, rj, rq) s.heap.size = A at hD ⊢
  have hA : ∀ q : Nat, s.heap.size ≤ q → A q := fun q h => by rw [← hAe]; exact Or.inr h
  have hS : va_S A s.heap s.heap [] := va_S.rf
  have hl := lv_entry ([.ref this, .int 0]) (n := 7) (Nat.le_of_ble_eq_true rfl)
  rw [lg_entry_eq]
  generalize (lg_sl ([.ref this, .int 0]) ++ List.replicate (7 - (lg_sl ([.ref this, .int 0])).length) Slot.unset).toArray = ls at hl ⊢
  have hl : lv_has ls 7 [(0, .ref this), (1, .int 0)] := hl
  refine lv_iload_n hx hb dX12_nextOrder_0 rfl (lv_at hl 1 rfl) ?_
  refine lv_iconst (v := 2) hx hb dX12_nextOrder_1 (by decide) ?_
  refine lv_isub hx hb dX12_nextOrder_2 ?_
  refine lv_tov (-2) (by decide) ?_
  refine lv_istore_n (lv' := [(2, .int (-2)), (0, .ref this), (1, .int 0)]) hx hb dX12_nextOrder_3 rfl hl (by decide) rfl (fun ls hl => ?_)
  refine lv_iload_n hx hb dX12_nextOrder_4 rfl (lv_at hl 0 rfl) ?_
  refine lv_if_lt (tgt := 31) hx hb dX12_nextOrder_5 (by decide) (fun c_1 => ?_) (fun c_1 => absurd c_1 (by decide))
  refine lv_iload_n hx hb dX12_nextOrder_31 rfl (lv_at hl 0 rfl) ?_
  refine lv_if_ge (tgt := 37) hx hb dX12_nextOrder_32 (by decide) (fun c_2 => absurd c_2 (by decide)) (fun c_2 => ?_)
  refine lv_iconst (v := 0) hx hb dX12_nextOrder_35 (by decide) ?_
  exact W.zret (v := 0) hx hb hr (by decide) (fun t1 ht hW => ⟨⟨0, (σ, I, J, ri, rj, rq), rfl, ⟨rfl, rfl⟩, by rw [ht]; exact hP, va_K.moved hW.alike hK, hD⟩, hS.F ht⟩) hS.2.2 dX12_nextOrder_36

set_option maxHeartbeats 4000000 in
set_option maxRecDepth 100000 in
theorem lp_X12_order_124 (l : Launch) (D : va_G) (t : pq_T) (σ : pq_S) (I : Nat → Nat → Int32) (J : Nat → Nat → Int64) (ri : Nat → Nat → Int32) (rj : Nat → Nat → Int64) (rq : Nat → Nat → Option Nat) (this : Nat) (rise : Int32) (n : Int32) (what : Int32) (hL_this : this ∈ σ.1) (hK_this : σ.2.1 this = 12) (this_a : Nat) (hR_this_a : σ.2.2.1 384 this = some this_a) (hL_this_a : this_a ∈ σ.1) (hK_this_a : σ.2.1 this_a = 13) (hN_this_a : σ.2.2.2 this_a = 12720) (this_kept : Nat) (hR_this_kept : σ.2.2.1 386 this = some this_kept) (hL_this_kept : this_kept ∈ σ.1) (hK_this_kept : σ.2.1 this_kept = 13) (hN_this_kept : σ.2.2.2 this_kept = 12720) (this_rings : Nat) (hR_this_rings : σ.2.2.1 414 this = some this_rings) (hL_this_rings : this_rings ∈ σ.1) (hK_this_rings : σ.2.1 this_rings = 13) (hN_this_rings : σ.2.2.2 this_rings = 5) (hF : fm (ri this_a) 0) (hak : this_a ≠ this_kept) (har : this_a ≠ this_rings) (hkr : this_kept ≠ this_rings) (nn : Nat) (hnn : nn ≤ 12) {p : Program} {e : Env} {s : State} {m : MethodId} {args : Array Value} {below : List Frame} {meth : Method} {c : Code} {cells slots : Nat} {Q : State → Prop} {A : Nat → Prop} (hx : p.tables.exec = Jvm.exec) (hb : c.code = cX12_order) (hml : c.maxLocals = 10) (hts : ∀ w ∈ (wa yX12_order cX12_order 10 (some .int)), w.before args s = true) (hown : s.vm.findClass RX12 = some m.cls) (hK : va_K D vwCl (pq_ty t) s) (hN : pq_N s) (hA : ∀ q : Nat, s.heap.size ≤ q → A q) (hcs : cells = 0 ∧ slots = 0)
    (kk : ∀ (i : Nat) (I' : Nat → Nat → Int32) (ri' : Nat → Nat → Int32) (H : Heap) (locs : List Loc) (ls : Array Slot), (i ≤ nn) → (fm (ri' this_a) i) → (fm (ri' this_kept) 0) → va_P D vwCl (pq_P t σ (I', J, ri', rj, rq)) H → va_D A (pq_P t σ (I', J, ri', rj, rq)) → va_S A s.heap H locs → lv_has ls 10 [(8, .int (nI i)), (7, .int 0), (6, .int 1), (5, .int (-1)), (4, .int 0), (0, .ref this), (1, .int rise), (2, .int (nI nn)), (3, .int (-1))] → W p l e ({ frames := 5, cells := 0, slots := 0, locals := 121 } : Room) s m args below meth c H locs cells slots Q (F0 m 141 ls [])) :
    ∀ (n : Nat) (i : Nat) (I' : Nat → Nat → Int32) (ri' : Nat → Nat → Int32) (H : Heap) (locs : List Loc) (ls : Array Slot), (i ≤ nn) → (fm (ri' this_a) i) → (fm (ri' this_kept) 0) → (nn - i) < n → va_P D vwCl (pq_P t σ (I', J, ri', rj, rq)) H → va_D A (pq_P t σ (I', J, ri', rj, rq)) → va_S A s.heap H locs → lv_has ls 10 [(8, .int (nI i)), (7, .int 0), (6, .int 1), (5, .int (-1)), (4, .int 0), (0, .ref this), (1, .int rise), (2, .int (nI nn)), (3, .int (-1))] → W p l e ({ frames := 5, cells := 0, slots := 0, locals := 121 } : Room) s m args below meth c H locs cells slots Q (F0 m 124 ls []) := by
  obtain ⟨rfl, rfl⟩ := hcs
  intro n
  induction n with
  | zero => intro i I' ri' H locs ls hi hF' hG' hm; exact absurd hm (Nat.not_lt_zero _)
  | succ n ih =>
    intro i I' ri' H locs ls hi hF' hG' hm hP hD hS hl
    refine lv_iload hx hb dX12_order_124 (lv_at hl 0 rfl) ?_
    refine lv_iload_n hx hb dX12_order_126 rfl (lv_at hl 7 rfl) ?_
    refine lv_icmp_ge (tgt := 141) hx hb dX12_order_127 (by decide) (fun c_1 => ?_) (fun c_1 => ?_)
    · have nc_1 := nq_le (a := nn) (b := i) (by omega) (by omega) c_1
      exact kk i I' ri' _ _ _ hi hF' hG' hP hD hS (lv_sub hl [0, 1, 2, 3, 4, 5, 6, 7, 8] rfl)
    · have nc_1 := nq_nle (a := nn) (b := i) (by omega) (by omega) c_1
      refine lv_aload_n hx hb dX12_order_130 rfl (lv_at hl 5 rfl) ?_
      refine lv_iload_n hx hb dX12_order_131 rfl (lv_at hl 6 rfl) ?_
      refine pk_v (va_runV (As := [.int rise]) (rest := []) ⟨hx, hb, hml, hown, hts⟩ (c_X12_month l D t σ I' J ri' rj rq H.size this rise hL_this hK_this this_a hR_this_a hL_this_a hK_this_a hN_this_a i (by omega) hF') (cwV 1 hts (tw_V tw_1193 tw_1194 tw_1195 tw_5 tw_1196) rfl rfl rfl (by decide +kernel) ⟨Nat.le_of_ble_eq_true rfl, Nat.le_of_ble_eq_true rfl⟩) ⟨pq_blind, pq_recv hK hP hL_this hK_this (by decide) rfl, pq_pre hK hN hP hD⟩ rfl rfl hl.1 rfl (lv_room (Nat.le_of_ble_eq_true rfl)) dX12_order_132 ⟨Nat.le_of_ble_eq_true rfl, Nat.le_of_ble_eq_true rfl⟩) hD hS hA (fun σ1 μ1 H locs hw_3 hP hD hS => ?_)
      obtain ⟨I_4, ri_5, hu_6, hu_6f, hu_6p0, hu_6p1⟩ := hw_3
      obtain ⟨hu_6a, hu_6b⟩ := Prod.mk.inj hu_6
      rw [hu_6a, hu_6b] at hP hD
      refine lv_iinc (v := (nI (i + 1))) (lv' := [(8, .int (nI (i + 1))), (7, .int 0), (6, .int 1), (5, .int (-1)), (4, .int 0), (0, .ref this), (1, .int rise), (2, .int (nI nn)), (3, .int (-1))]) hx hb dX12_order_135 hl (k := 0) rfl (nI_1 i) (by decide) rfl (fun ls hl => ?_)
      refine lv_goto (tgt := 124) hx hb dX12_order_138 (by decide) ?_
      exact ih (i + 1) I_4 ri_5 _ _ _ (by omega) hu_6p0.1 (fm_eq hG' (hu_6p0.2 _ (Ne.symm hak))) (by omega) hP hD hS (lv_sub hl [0, 1, 2, 3, 4, 5, 6, 7, 8] rfl)

set_option maxHeartbeats 4000000 in
set_option maxRecDepth 100000 in
theorem c_X12_order (l : Launch) (D : va_G) (t : pq_T) (σ : pq_S) (I : Nat → Nat → Int32) (J : Nat → Nat → Int64) (ri : Nat → Nat → Int32) (rj : Nat → Nat → Int64) (rq : Nat → Nat → Option Nat) (sz : Nat) (this : Nat) (rise : Int32) (n : Int32) (what : Int32) (hL_this : this ∈ σ.1) (hK_this : σ.2.1 this = 12) (this_a : Nat) (hR_this_a : σ.2.2.1 384 this = some this_a) (hL_this_a : this_a ∈ σ.1) (hK_this_a : σ.2.1 this_a = 13) (hN_this_a : σ.2.2.2 this_a = 12720) (this_kept : Nat) (hR_this_kept : σ.2.2.1 386 this = some this_kept) (hL_this_kept : this_kept ∈ σ.1) (hK_this_kept : σ.2.1 this_kept = 13) (hN_this_kept : σ.2.2.2 this_kept = 12720) (this_rings : Nat) (hR_this_rings : σ.2.2.1 414 this = some this_rings) (hL_this_rings : this_rings ∈ σ.1) (hK_this_rings : σ.2.1 this_rings = 13) (hN_this_rings : σ.2.2.2 this_rings = 5) (hF : fm (ri this_a) 0) (hak : this_a ≠ this_kept) (har : this_a ≠ this_rings) (hkr : this_kept ≠ this_rings) : MetI l yX12_order (wa yX12_order cX12_order 10 (some .int)) ({ frames := 5, cells := 0, slots := 0, locals := 121 }) [.ref this, .int rise, .int n, .int what] D t σ (I, J, ri, rj, rq) sz 0 0 (fun (r : Int32) (u : pq_S × pq_M) => ∃ I' : Nat → Nat → Int32, ∃ ri' : Nat → Nat → Int32, u = (σ, I', J, ri', rj, rq) ∧ (r = sp_order rise n what)) := by
  refine Met.ofW (cc := cX12_order) (maxL := 10) (ret := (some .int)) (by decide) rfl ?_
  intro p e s m args below meth c s₁ B hml hv
  obtain ⟨rfl, hsz, hP, hK, hD0, hN⟩ := hv
  have hx := B.exec
  have hb := B.bytes
  have hr := B.returns
  have hts := atoms_spec (ws := (wa yX12_order cX12_order 10 (some .int))) B.pre
  have hown : s.vm.findClass RX12 = some m.cls := findClass_of_methodNamed B.named
  have hlocks := B.notSynchronized
  subst hsz
  have hD : va_D (pq_B t σ (I, J, ri, rj, rq) s.heap.size) (pq_P t σ (I, J, ri, rj, rq)) := hD0.self
  generalize hAe : pq_B t σ (I, J, ri, rj, rq) s.heap.size = A at hD ⊢
  have hA : ∀ q : Nat, s.heap.size ≤ q → A q := fun q h => by rw [← hAe]; exact Or.inr h
  have hS : va_S A s.heap s.heap [] := va_S.rf
  have hl := lv_entry ([.ref this, .int rise, .int n, .int what]) (n := 10) (Nat.le_of_ble_eq_true rfl)
  rw [lg_entry_eq]
  generalize (lg_sl ([.ref this, .int rise, .int n, .int what]) ++ List.replicate (10 - (lg_sl ([.ref this, .int rise, .int n, .int what])).length) Slot.unset).toArray = ls at hl ⊢
  have hl : lv_has ls 10 [(0, .ref this), (1, .int rise), (2, .int n), (3, .int what)] := hl
  refine lv_aload_n hx hb dX12_order_0 rfl (lv_at hl 0 rfl) ?_
  refine lv_iload_n hx hb dX12_order_1 rfl (lv_at hl 2 rfl) ?_
  refine lv_bipush (v := 12) hx hb dX12_order_2 (by decide) ?_
  refine lv_iload_n hx hb dX12_order_4 rfl (lv_at hl 1 rfl) ?_
  refine pk_i (va_runV (As := [.int n, .int 12, .int rise]) (rest := []) ⟨hx, hb, hml, hown, hts⟩ (c_X12_isTime l D t σ I J ri rj rq (Array.size s.heap) this n (12 : Int32) rise hL_this hK_this this_a hR_this_a hL_this_a hK_this_a hN_this_a hF (by decide)) (cwV 3 hts (tw_V tw_1189 tw_1190 tw_1191 tw_5 tw_1192) rfl rfl rfl (by decide +kernel) ⟨Nat.le_of_ble_eq_true rfl, Nat.le_of_ble_eq_true rfl⟩) ⟨pq_blind, pq_recv hK hP hL_this hK_this (by decide) rfl, pq_pre hK hN hP hD⟩ rfl rfl hl.1 rfl (lv_room (Nat.le_of_ble_eq_true rfl)) dX12_order_5 ⟨Nat.le_of_ble_eq_true rfl, Nat.le_of_ble_eq_true rfl⟩) hD hS hA (fun r_1 σ1 μ1 H locs hw_2 hP hD hS => ?_)
  obtain ⟨hu_3, hr_4⟩ := hw_2
  obtain ⟨hu_3a, hu_3b⟩ := Prod.mk.inj hu_3
  rw [hu_3a, hu_3b] at hP hD
  rcases hr_4 with ⟨rfl, hr_4_0, hr_4_1, hr_4_2, hr_4_3⟩ | ⟨rfl, hr_4_0⟩
  · refine lv_if_eq (tgt := 24) hx hb dX12_order_8 (by decide) (fun c_5 => absurd c_5 (by decide)) (fun c_5 => ?_)
    refine lv_iload_n hx hb dX12_order_11 rfl (lv_at hl 3 rfl) ?_
    refine lv_iconst (v := (-1)) hx hb dX12_order_12 (by decide) ?_
    refine lv_icmp_eq (tgt := 26) hx hb dX12_order_13 (by decide) (fun c_6 => ?_) (fun c_6 => ?_)
    · obtain ⟨nn, hnn0, hnn1, hnn2⟩ := nI_rg hr_4_0 hr_4_1 (by decide)
      have hnn2 : nn ≤ 12 := by have : (12 : Int32).toInt = 12 := rfl; omega
      rw [hnn0, c_6] at hl
      refine lv_aload_n hx hb dX12_order_26 rfl (lv_at hl 0 rfl) ?_
      refine pg_f (v := .ref this_a) (C := RX12) (T := TX12) (N := 31) hx hb hts (tw_i inlX12) hown hK hP hL_this hK_this (by decide) rfl 0 (by decide) (hts _ (tw_c tw_176)) (pq_hv rfl hR_this_a) dX12_order_27 ?_
      refine lv_aload_n hx hb dX12_order_30 rfl (lv_at hl 0 rfl) ?_
      refine pg_f (v := .ref this_kept) (C := RX12) (T := TX12) (N := 31) hx hb hts (tw_i inlX12) hown hK hP hL_this hK_this (by decide) rfl 2 (by decide) (hts _ (tw_c tw_178)) (pq_hv rfl hR_this_kept) dX12_order_31 ?_
      refine pk_v (va_runS (As := [.ref this_a, .ref this_kept]) (rest := []) ⟨hx, hb, hml, hown, hts⟩ (c_X12_copy l D t σ I J ri rj rq H.size this_a this_kept 12720 hL_this_a hK_this_a hN_this_a hL_this_kept hK_this_kept hN_this_kept rfl hak) (va_cwS 2 hts (tw_S tw_192 tw_193 tw_5 tw_194) rfl rfl rfl (by decide +kernel) ⟨Nat.le_of_ble_eq_true rfl, Nat.le_of_ble_eq_true rfl⟩) ⟨pq_blind, pq_pre hK hN hP hD⟩ rfl rfl hl.1 rfl (lv_room (Nat.le_of_ble_eq_true rfl)) dX12_order_34 ⟨Nat.le_of_ble_eq_true rfl, Nat.le_of_ble_eq_true rfl⟩) hD hS hA (fun σ1 μ1 H locs hw_8 hP hD hS => ?_)
      obtain ⟨ri_9, hu_10, hu_10p0⟩ := hw_8
      obtain ⟨hu_10a, hu_10b⟩ := Prod.mk.inj hu_10
      rw [hu_10a, hu_10b] at hP hD
      refine lv_aload_n hx hb dX12_order_37 rfl (lv_at hl 0 rfl) ?_
      refine pg_f (v := .ref this_a) (C := RX12) (T := TX12) (N := 31) hx hb hts (tw_i inlX12) hown hK hP hL_this hK_this (by decide) rfl 0 (by decide) (hts _ (tw_c tw_176)) (pq_hv rfl hR_this_a) dX12_order_38 ?_
      refine lv_iconst (v := 1) hx hb dX12_order_41 (by decide) ?_
      refine pl_i hx hb hK hP hL_this_a hK_this_a hN_this_a (vp_in_iff.mpr (by decide)) dX12_order_42 ?_
      refine lv_tov 0 (fm_at (fm_eq hF (hu_10p0.2 _ hak)) 1 (v := 0) (by decide)) ?_
      refine lv_istore (lv' := [(4, .int 0), (0, .ref this), (1, .int rise), (2, .int (nI nn)), (3, .int (-1))]) hx hb dX12_order_43 hl (by decide) rfl (fun ls hl => ?_)
      refine lv_iconst (v := 0) hx hb dX12_order_45 (by decide) ?_
      refine lv_istore (lv' := [(5, .int 0), (4, .int 0), (0, .ref this), (1, .int rise), (2, .int (nI nn)), (3, .int (-1))]) hx hb dX12_order_46 hl (by decide) rfl (fun ls hl => ?_)
      refine lv_iload hx hb dX12_order_48 (lv_at hl 0 rfl) ?_
      refine lv_iconst (v := 5) hx hb dX12_order_50 (by decide) ?_
      refine lv_icmp_ge (tgt := 69) hx hb dX12_order_51 (by decide) (fun c_12 => absurd c_12 (by decide)) (fun c_12 => ?_)
      refine lv_aload_n hx hb dX12_order_54 rfl (lv_at hl 2 rfl) ?_
      refine pg_f (v := .ref this_rings) (C := RX12) (T := TX12) (N := 31) hx hb hts (tw_i inlX12) hown hK hP hL_this hK_this (by decide) rfl 30 (by decide) (hts _ (tw_c tw_191)) (pq_hv rfl hR_this_rings) dX12_order_55 ?_
      refine lv_iload hx hb dX12_order_58 (lv_at hl 0 rfl) ?_
      refine lv_iload hx hb dX12_order_60 (lv_at hl 0 rfl) ?_
      refine pt_i hx hb hK hP hD hS hL_this_rings hK_this_rings hN_this_rings (vp_in_iff.mpr (by decide)) dX12_order_62 (fun r_13 H locs er_13 hP hD hS => ?_)
      refine lv_iinc (v := 1) (lv' := [(5, .int 1), (4, .int 0), (0, .ref this), (1, .int rise), (2, .int (nI nn)), (3, .int (-1))]) hx hb dX12_order_63 hl (k := 0) rfl (by decide) (by decide) rfl (fun ls hl => ?_)
      refine lv_goto (tgt := 48) hx hb dX12_order_66 (by decide) ?_
      refine lv_iload hx hb dX12_order_48 (lv_at hl 0 rfl) ?_
      refine lv_iconst (v := 5) hx hb dX12_order_50 (by decide) ?_
      refine lv_icmp_ge (tgt := 69) hx hb dX12_order_51 (by decide) (fun c_14 => absurd c_14 (by decide)) (fun c_14 => ?_)
      refine lv_aload_n hx hb dX12_order_54 rfl (lv_at hl 2 rfl) ?_
      refine pg_f (v := .ref this_rings) (C := RX12) (T := TX12) (N := 31) hx hb hts (tw_i inlX12) hown hK hP hL_this hK_this (by decide) rfl 30 (by decide) (hts _ (tw_c tw_191)) (pq_hv rfl hR_this_rings) dX12_order_55 ?_
      refine lv_iload hx hb dX12_order_58 (lv_at hl 0 rfl) ?_
      refine lv_iload hx hb dX12_order_60 (lv_at hl 0 rfl) ?_
      refine pt_i hx hb hK hP hD hS hL_this_rings hK_this_rings hN_this_rings (vp_in_iff.mpr (by decide)) dX12_order_62 (fun r_15 H locs er_15 hP hD hS => ?_)
      refine lv_iinc (v := 2) (lv' := [(5, .int 2), (4, .int 0), (0, .ref this), (1, .int rise), (2, .int (nI nn)), (3, .int (-1))]) hx hb dX12_order_63 hl (k := 0) rfl (by decide) (by decide) rfl (fun ls hl => ?_)
      refine lv_goto (tgt := 48) hx hb dX12_order_66 (by decide) ?_
      refine lv_iload hx hb dX12_order_48 (lv_at hl 0 rfl) ?_
      refine lv_iconst (v := 5) hx hb dX12_order_50 (by decide) ?_
      refine lv_icmp_ge (tgt := 69) hx hb dX12_order_51 (by decide) (fun c_16 => absurd c_16 (by decide)) (fun c_16 => ?_)
      refine lv_aload_n hx hb dX12_order_54 rfl (lv_at hl 2 rfl) ?_
      refine pg_f (v := .ref this_rings) (C := RX12) (T := TX12) (N := 31) hx hb hts (tw_i inlX12) hown hK hP hL_this hK_this (by decide) rfl 30 (by decide) (hts _ (tw_c tw_191)) (pq_hv rfl hR_this_rings) dX12_order_55 ?_
      refine lv_iload hx hb dX12_order_58 (lv_at hl 0 rfl) ?_
      refine lv_iload hx hb dX12_order_60 (lv_at hl 0 rfl) ?_
      refine pt_i hx hb hK hP hD hS hL_this_rings hK_this_rings hN_this_rings (vp_in_iff.mpr (by decide)) dX12_order_62 (fun r_17 H locs er_17 hP hD hS => ?_)
      refine lv_iinc (v := 3) (lv' := [(5, .int 3), (4, .int 0), (0, .ref this), (1, .int rise), (2, .int (nI nn)), (3, .int (-1))]) hx hb dX12_order_63 hl (k := 0) rfl (by decide) (by decide) rfl (fun ls hl => ?_)
      refine lv_goto (tgt := 48) hx hb dX12_order_66 (by decide) ?_
      refine lv_iload hx hb dX12_order_48 (lv_at hl 0 rfl) ?_
      refine lv_iconst (v := 5) hx hb dX12_order_50 (by decide) ?_
      refine lv_icmp_ge (tgt := 69) hx hb dX12_order_51 (by decide) (fun c_18 => absurd c_18 (by decide)) (fun c_18 => ?_)
      refine lv_aload_n hx hb dX12_order_54 rfl (lv_at hl 2 rfl) ?_
      refine pg_f (v := .ref this_rings) (C := RX12) (T := TX12) (N := 31) hx hb hts (tw_i inlX12) hown hK hP hL_this hK_this (by decide) rfl 30 (by decide) (hts _ (tw_c tw_191)) (pq_hv rfl hR_this_rings) dX12_order_55 ?_
      refine lv_iload hx hb dX12_order_58 (lv_at hl 0 rfl) ?_
      refine lv_iload hx hb dX12_order_60 (lv_at hl 0 rfl) ?_
      refine pt_i hx hb hK hP hD hS hL_this_rings hK_this_rings hN_this_rings (vp_in_iff.mpr (by decide)) dX12_order_62 (fun r_19 H locs er_19 hP hD hS => ?_)
      refine lv_iinc (v := 4) (lv' := [(5, .int 4), (4, .int 0), (0, .ref this), (1, .int rise), (2, .int (nI nn)), (3, .int (-1))]) hx hb dX12_order_63 hl (k := 0) rfl (by decide) (by decide) rfl (fun ls hl => ?_)
      refine lv_goto (tgt := 48) hx hb dX12_order_66 (by decide) ?_
      refine lv_iload hx hb dX12_order_48 (lv_at hl 0 rfl) ?_
      refine lv_iconst (v := 5) hx hb dX12_order_50 (by decide) ?_
      refine lv_icmp_ge (tgt := 69) hx hb dX12_order_51 (by decide) (fun c_20 => absurd c_20 (by decide)) (fun c_20 => ?_)
      refine lv_aload_n hx hb dX12_order_54 rfl (lv_at hl 2 rfl) ?_
      refine pg_f (v := .ref this_rings) (C := RX12) (T := TX12) (N := 31) hx hb hts (tw_i inlX12) hown hK hP hL_this hK_this (by decide) rfl 30 (by decide) (hts _ (tw_c tw_191)) (pq_hv rfl hR_this_rings) dX12_order_55 ?_
      refine lv_iload hx hb dX12_order_58 (lv_at hl 0 rfl) ?_
      refine lv_iload hx hb dX12_order_60 (lv_at hl 0 rfl) ?_
      refine pt_i hx hb hK hP hD hS hL_this_rings hK_this_rings hN_this_rings (vp_in_iff.mpr (by decide)) dX12_order_62 (fun r_21 H locs er_21 hP hD hS => ?_)
      refine lv_iinc (v := 5) (lv' := [(5, .int 5), (4, .int 0), (0, .ref this), (1, .int rise), (2, .int (nI nn)), (3, .int (-1))]) hx hb dX12_order_63 hl (k := 0) rfl (by decide) (by decide) rfl (fun ls hl => ?_)
      refine lv_goto (tgt := 48) hx hb dX12_order_66 (by decide) ?_
      refine lv_iload hx hb dX12_order_48 (lv_at hl 0 rfl) ?_
      refine lv_iconst (v := 5) hx hb dX12_order_50 (by decide) ?_
      refine lv_icmp_ge (tgt := 69) hx hb dX12_order_51 (by decide) (fun c_22 => ?_) (fun c_22 => absurd c_22 (by decide))
      refine lv_iconst (v := (-1)) hx hb dX12_order_69 (by decide) ?_
      refine lv_istore (lv' := [(5, .int (-1)), (4, .int 0), (0, .ref this), (1, .int rise), (2, .int (nI nn)), (3, .int (-1))]) hx hb dX12_order_70 hl (by decide) rfl (fun ls hl => ?_)
      refine lv_aload_n hx hb dX12_order_72 rfl (lv_at hl 2 rfl) ?_
      refine lv_iconst (v := 1) hx hb dX12_order_73 (by decide) ?_
      refine pp_i (v := 1) (ty := .int) (C := RX12) (T := TX12) (N := 31) hx hb hts (tw_i inlX12) tyX12 tyX12_ok nmX12 hown hK hP hD hS hL_this hK_this (by decide) rfl 23 407 (by decide) (hts _ (tw_c tw_1238)) rfl (by decide +kernel) rfl rfl (Nat.le_of_ble_eq_true rfl) (ps_407 _ _ _ _ _) dX12_order_74 (fun I_23 H locs eI_23 hP hD hS => ?_)
      refine lv_iconst (v := 1) hx hb dX12_order_77 (by decide) ?_
      refine lv_istore (lv' := [(6, .int 1), (5, .int (-1)), (4, .int 0), (0, .ref this), (1, .int rise), (2, .int (nI nn)), (3, .int (-1))]) hx hb dX12_order_78 hl (by decide) rfl (fun ls hl => ?_)
      refine lv_iload hx hb dX12_order_80 (lv_at hl 0 rfl) ?_
      refine lv_if_eq (tgt := 218) hx hb dX12_order_82 (by decide) (fun c_24 => absurd c_24 (by decide)) (fun c_24 => ?_)
      refine lv_iconst (v := 0) hx hb dX12_order_85 (by decide) ?_
      refine lv_istore (lv' := [(7, .int 0), (6, .int 1), (5, .int (-1)), (4, .int 0), (0, .ref this), (1, .int rise), (2, .int (nI nn)), (3, .int (-1))]) hx hb dX12_order_86 hl (by decide) rfl (fun ls hl => ?_)
      refine lv_iload hx hb dX12_order_88 (lv_at hl 0 rfl) ?_
      refine lv_iload hx hb dX12_order_90 (lv_at hl 3 rfl) ?_
      refine lv_icmp_ge (tgt := 115) hx hb dX12_order_92 (by decide) (fun c_25 => ?_) (fun c_25 => absurd c_25 (by decide))
      refine lv_aload_n hx hb dX12_order_115 rfl (lv_at hl 4 rfl) ?_
      refine pk_i (va_runV (As := []) (rest := []) ⟨hx, hb, hml, hown, hts⟩ (c_X12_wants l D t σ I_23 J r_21 rj rq H.size this hL_this hK_this this_a hR_this_a hL_this_a hK_this_a hN_this_a 0 (by decide) (fm_ne (fm_ne (fm_ne (fm_ne (fm_ne (fm_eq hF (hu_10p0.2 _ hak)) er_13 har) er_15 har) er_17 har) er_19 har) er_21 har)) (cwV 0 hts (tw_V tw_1487 tw_1488 tw_1489 tw_5 tw_1490) rfl rfl rfl (by decide +kernel) ⟨Nat.le_of_ble_eq_true rfl, Nat.le_of_ble_eq_true rfl⟩) ⟨pq_blind, pq_recv hK hP hL_this hK_this (by decide) rfl, pq_pre hK hN hP hD⟩ rfl rfl hl.1 rfl (lv_room (Nat.le_of_ble_eq_true rfl)) dX12_order_116 ⟨Nat.le_of_ble_eq_true rfl, Nat.le_of_ble_eq_true rfl⟩) hD hS hA (fun r_26 σ1 μ1 H locs hw_27 hP hD hS => ?_)
      obtain ⟨hu_28, hr_29⟩ := hw_27
      obtain ⟨hu_28a, hu_28b⟩ := Prod.mk.inj hu_28
      rw [hu_28a, hu_28b] at hP hD
      subst hr_29
      refine lv_istore (lv' := [(7, .int 0), (6, .int 1), (5, .int (-1)), (4, .int 0), (0, .ref this), (1, .int rise), (2, .int (nI nn)), (3, .int (-1))]) hx hb dX12_order_119 hl (by decide) rfl (fun ls hl => ?_)
      refine lv_iconst (v := 0) hx hb dX12_order_121 (by decide) ?_
      refine lv_istore (lv' := [(8, .int 0), (7, .int 0), (6, .int 1), (5, .int (-1)), (4, .int 0), (0, .ref this), (1, .int rise), (2, .int (nI nn)), (3, .int (-1))]) hx hb dX12_order_122 hl (by decide) rfl (fun ls hl => ?_)
      refine lp_X12_order_124 l D t σ I J ri rj rq this rise n what hL_this hK_this this_a hR_this_a hL_this_a hK_this_a hN_this_a this_kept hR_this_kept hL_this_kept hK_this_kept hN_this_kept this_rings hR_this_rings hL_this_rings hK_this_rings hN_this_rings hF hak har hkr nn (by omega) hx hb hml hts hown hK hN hA ⟨rfl, rfl⟩ (fun i_32 I_30 ri_31 H locs ls hi_33 hF'_34 hG'_35 hP hD hS hl => ?_) _ 0 I_23 r_21 _ _ _ (Nat.zero_le _) (fm_ne (fm_ne (fm_ne (fm_ne (fm_ne (fm_eq hF (hu_10p0.2 _ hak)) er_13 har) er_15 har) er_17 har) er_19 har) er_21 har) (fm_ne (fm_ne (fm_ne (fm_ne (fm_ne (fm_cp hF hu_10p0.1) er_13 hkr) er_15 hkr) er_17 hkr) er_19 hkr) er_21 hkr) (Nat.lt_succ_self _) hP hD hS (lv_sub hl [0, 1, 2, 3, 4, 5, 6, 7, 8] rfl)
      refine lv_aload_n hx hb dX12_order_141 rfl (lv_at hl 5 rfl) ?_
      refine pk_i (va_runV (As := []) (rest := []) ⟨hx, hb, hml, hown, hts⟩ (c_X12_wants l D t σ I_30 J ri_31 rj rq H.size this hL_this hK_this this_a hR_this_a hL_this_a hK_this_a hN_this_a i_32 (by omega) hF'_34) (cwV 0 hts (tw_V tw_1487 tw_1488 tw_1489 tw_5 tw_1490) rfl rfl rfl (by decide +kernel) ⟨Nat.le_of_ble_eq_true rfl, Nat.le_of_ble_eq_true rfl⟩) ⟨pq_blind, pq_recv hK hP hL_this hK_this (by decide) rfl, pq_pre hK hN hP hD⟩ rfl rfl hl.1 rfl (lv_room (Nat.le_of_ble_eq_true rfl)) dX12_order_142 ⟨Nat.le_of_ble_eq_true rfl, Nat.le_of_ble_eq_true rfl⟩) hD hS hA (fun r_36 σ1 μ1 H locs hw_37 hP hD hS => ?_)
      obtain ⟨hu_38, hr_39⟩ := hw_37
      obtain ⟨hu_38a, hu_38b⟩ := Prod.mk.inj hu_38
      rw [hu_38a, hu_38b] at hP hD
      subst hr_39
      refine lv_iload hx hb dX12_order_145 (lv_at hl 1 rfl) ?_
      refine lv_isub hx hb dX12_order_147 ?_
      refine lv_tov 0 (by decide) ?_
      refine lv_istore (lv' := [(8, .int 0), (7, .int 0), (6, .int 1), (5, .int (-1)), (4, .int 0), (0, .ref this), (1, .int rise), (2, .int (nI nn)), (3, .int (-1))]) hx hb dX12_order_148 hl (by decide) rfl (fun ls hl => ?_)
      refine lv_aload_n hx hb dX12_order_150 rfl (lv_at hl 5 rfl) ?_
      refine pg_f (v := .ref this_kept) (C := RX12) (T := TX12) (N := 31) hx hb hts (tw_i inlX12) hown hK hP hL_this hK_this (by decide) rfl 2 (by decide) (hts _ (tw_c tw_178)) (pq_hv rfl hR_this_kept) dX12_order_151 ?_
      refine lv_aload_n hx hb dX12_order_154 rfl (lv_at hl 5 rfl) ?_
      refine pg_f (v := .ref this_a) (C := RX12) (T := TX12) (N := 31) hx hb hts (tw_i inlX12) hown hK hP hL_this hK_this (by decide) rfl 0 (by decide) (hts _ (tw_c tw_176)) (pq_hv rfl hR_this_a) dX12_order_155 ?_
      refine pk_v (va_runS (As := [.ref this_kept, .ref this_a]) (rest := []) ⟨hx, hb, hml, hown, hts⟩ (c_X12_copy l D t σ I_30 J ri_31 rj rq H.size this_kept this_a 12720 hL_this_kept hK_this_kept hN_this_kept hL_this_a hK_this_a hN_this_a rfl (Ne.symm hak)) (va_cwS 2 hts (tw_S tw_192 tw_193 tw_5 tw_194) rfl rfl rfl (by decide +kernel) ⟨Nat.le_of_ble_eq_true rfl, Nat.le_of_ble_eq_true rfl⟩) ⟨pq_blind, pq_pre hK hN hP hD⟩ rfl rfl hl.1 rfl (lv_room (Nat.le_of_ble_eq_true rfl)) dX12_order_158 ⟨Nat.le_of_ble_eq_true rfl, Nat.le_of_ble_eq_true rfl⟩) hD hS hA (fun σ1 μ1 H locs hw_41 hP hD hS => ?_)
      obtain ⟨ri_42, hu_43, hu_43p0⟩ := hw_41
      obtain ⟨hu_43a, hu_43b⟩ := Prod.mk.inj hu_43
      rw [hu_43a, hu_43b] at hP hD
      refine lv_iload hx hb dX12_order_161 (lv_at hl 3 rfl) ?_
      refine lv_if_lt (tgt := 173) hx hb dX12_order_163 (by decide) (fun c_45 => ?_) (fun c_45 => absurd c_45 (by decide))
      refine lv_iload hx hb dX12_order_173 (lv_at hl 0 rfl) ?_
      refine lv_istore (lv' := [(5, .int 0), (8, .int 0), (7, .int 0), (6, .int 1), (4, .int 0), (0, .ref this), (1, .int rise), (2, .int (nI nn)), (3, .int (-1))]) hx hb dX12_order_175 hl (by decide) rfl (fun ls hl => ?_)
      refine lv_iconst (v := 0) hx hb dX12_order_177 (by decide) ?_
      refine lv_istore (lv' := [(9, .int 0), (5, .int 0), (8, .int 0), (7, .int 0), (6, .int 1), (4, .int 0), (0, .ref this), (1, .int rise), (2, .int (nI nn)), (3, .int (-1))]) hx hb dX12_order_178 hl (by decide) rfl (fun ls hl => ?_)
      refine lv_iload hx hb dX12_order_180 (lv_at hl 0 rfl) ?_
      refine lv_iload hx hb dX12_order_182 (lv_at hl 5 rfl) ?_
      refine lv_icmp_ge (tgt := 207) hx hb dX12_order_184 (by decide) (fun c_46 => ?_) (fun c_46 => absurd c_46 (by decide))
      refine lv_aload_n hx hb dX12_order_207 rfl (lv_at hl 6 rfl) ?_
      refine lv_iload hx hb dX12_order_208 (lv_at hl 5 rfl) ?_
      refine pk_i (va_runV (As := [.int 0]) (rest := []) ⟨hx, hb, hml, hown, hts⟩ (c_X12_nextOrder l D t σ I_30 J ri_42 rj rq H.size this hL_this hK_this this_a hR_this_a hL_this_a hK_this_a hN_this_a 0 (by decide) (fm_cp hG'_35 hu_43p0.1)) (cwV 1 hts (tw_V tw_1491 tw_1492 tw_1493 tw_5 tw_1494) rfl rfl rfl (by decide +kernel) ⟨Nat.le_of_ble_eq_true rfl, Nat.le_of_ble_eq_true rfl⟩) ⟨pq_blind, pq_recv hK hP hL_this hK_this (by decide) rfl, pq_pre hK hN hP hD⟩ rfl rfl hl.1 rfl (lv_room (Nat.le_of_ble_eq_true rfl)) dX12_order_210 ⟨Nat.le_of_ble_eq_true rfl, Nat.le_of_ble_eq_true rfl⟩) hD hS hA (fun r_47 σ1 μ1 H locs hw_48 hP hD hS => ?_)
      obtain ⟨hu_49, hr_50⟩ := hw_48
      obtain ⟨hu_49a, hu_49b⟩ := Prod.mk.inj hu_49
      rw [hu_49a, hu_49b] at hP hD
      subst hr_50
      refine lv_istore (lv' := [(6, .int 0), (9, .int 0), (5, .int 0), (8, .int 0), (7, .int 0), (4, .int 0), (0, .ref this), (1, .int rise), (2, .int (nI nn)), (3, .int (-1))]) hx hb dX12_order_213 hl (by decide) rfl (fun ls hl => ?_)
      refine lv_goto (tgt := 80) hx hb dX12_order_215 (by decide) ?_
      refine lv_iload hx hb dX12_order_80 (lv_at hl 0 rfl) ?_
      refine lv_if_eq (tgt := 218) hx hb dX12_order_82 (by decide) (fun c_51 => ?_) (fun c_51 => absurd c_51 (by decide))
      refine lv_aload_n hx hb dX12_order_218 rfl (lv_at hl 6 rfl) ?_
      refine lv_iconst (v := 0) hx hb dX12_order_219 (by decide) ?_
      refine pp_i (v := 0) (ty := .int) (C := RX12) (T := TX12) (N := 31) hx hb hts (tw_i inlX12) tyX12 tyX12_ok nmX12 hown hK hP hD hS hL_this hK_this (by decide) rfl 23 407 (by decide) (hts _ (tw_c tw_1238)) rfl (by decide +kernel) rfl rfl (Nat.le_of_ble_eq_true rfl) (ps_407 _ _ _ _ _) dX12_order_220 (fun I_52 H locs eI_52 hP hD hS => ?_)
      refine lv_iload_n hx hb dX12_order_223 rfl (lv_at hl 9 rfl) ?_
      refine lv_iconst (v := (-1)) hx hb dX12_order_224 (by decide) ?_
      refine lv_icmp_ne (tgt := 233) hx hb dX12_order_225 (by decide) (fun c_53 => absurd c_53 (by decide)) (fun c_53 => ?_)
      refine lv_iload hx hb dX12_order_228 (lv_at hl 2 rfl) ?_
      refine lv_goto (tgt := 239) hx hb dX12_order_230 (by decide) ?_
      exact W.iret (v := 0) hx hb hr (fun t1 ht hW => ⟨⟨0, (σ, I_52, J, ri_42, rj, rq), rfl, ⟨I_52, ri_42, rfl, (by unfold sp_order; rw [if_pos (show _ from ⟨⟨hr_4_2, hr_4_3, hr_4_0, hr_4_1⟩, ⟨by rw [c_6]; decide, by rw [c_6]; decide⟩⟩)])⟩, by rw [ht]; exact hP, va_K.moved hW.alike hK, hD⟩, hS.F ht⟩) hS.2.2 dX12_order_239
    · refine lv_aload_n hx hb dX12_order_16 rfl (lv_at hl 0 rfl) ?_
      refine lv_iload_n hx hb dX12_order_17 rfl (lv_at hl 3 rfl) ?_
      refine pk_i (va_runV (As := [.int what]) (rest := []) ⟨hx, hb, hml, hown, hts⟩ (c_X12_isRing l D t σ I J ri rj rq H.size this what hL_this hK_this this_a hR_this_a hL_this_a hK_this_a hN_this_a 0 (by decide) hF) (cwV 1 hts (tw_V tw_231 tw_232 tw_233 tw_5 tw_234) rfl rfl rfl (by decide +kernel) ⟨Nat.le_of_ble_eq_true rfl, Nat.le_of_ble_eq_true rfl⟩) ⟨pq_blind, pq_recv hK hP hL_this hK_this (by decide) rfl, pq_pre hK hN hP hD⟩ rfl rfl hl.1 rfl (lv_room (Nat.le_of_ble_eq_true rfl)) dX12_order_18 ⟨Nat.le_of_ble_eq_true rfl, Nat.le_of_ble_eq_true rfl⟩) hD hS hA (fun r_54 σ1 μ1 H locs hw_55 hP hD hS => ?_)
      obtain ⟨hu_56, hr_57⟩ := hw_55
      obtain ⟨hu_56a, hu_56b⟩ := Prod.mk.inj hu_56
      rw [hu_56a, hu_56b] at hP hD
      subst hr_57
      refine lv_if_ne (tgt := 26) hx hb dX12_order_21 (by decide) (fun c_58 => absurd c_58 (by decide)) (fun c_58 => ?_)
      refine lv_iconst (v := (-1)) hx hb dX12_order_24 (by decide) ?_
      exact W.iret (v := (-1)) hx hb hr (fun t1 ht hW => ⟨⟨(-1), (σ, I, J, ri, rj, rq), rfl, ⟨I, ri, rfl, (by unfold sp_order; rw [if_neg (fun q => c_6 (Int32.le_antisymm q.2.2 q.2.1))])⟩, by rw [ht]; exact hP, va_K.moved hW.alike hK, hD⟩, hS.F ht⟩) hS.2.2 dX12_order_25
  · refine lv_if_eq (tgt := 24) hx hb dX12_order_8 (by decide) (fun c_59 => ?_) (fun c_59 => absurd c_59 (by decide))
    refine lv_iconst (v := (-1)) hx hb dX12_order_24 (by decide) ?_
    exact W.iret (v := (-1)) hx hb hr (fun t1 ht hW => ⟨⟨(-1), (σ, I, J, ri, rj, rq), rfl, ⟨I, ri, rfl, (by unfold sp_order; rw [if_neg (fun q => hr_4_0 ⟨⟨q.1.2.2.1, q.1.2.2.2⟩, ⟨q.1.1, q.1.2.1⟩⟩)])⟩, by rw [ht]; exact hP, va_K.moved hW.alike hK, hD⟩, hS.F ht⟩) hS.2.2 dX12_order_25

set_option maxHeartbeats 4000000 in
set_option maxRecDepth 100000 in
theorem c_X12_image (l : Launch) (D : va_G) (t : pq_T) (σ : pq_S) (I : Nat → Nat → Int32) (J : Nat → Nat → Int64) (ri : Nat → Nat → Int32) (rj : Nat → Nat → Int64) (rq : Nat → Nat → Option Nat) (sz : Nat) (this : Nat) (hL_this : this ∈ σ.1) (hK_this : σ.2.1 this = 12) (this_a : Nat) (hR_this_a : σ.2.2.1 384 this = some this_a) (hL_this_a : this_a ∈ σ.1) (hK_this_a : σ.2.1 this_a = 13) (hN_this_a : σ.2.2.2 this_a = 12720) (this_image : Nat) (hR_this_image : σ.2.2.1 385 this = some this_image) (hL_this_image : this_image ∈ σ.1) (hK_this_image : σ.2.1 this_image = 13) (hN_this_image : σ.2.2.2 this_image = 12720) (hF : fm (ri this_a) 0) (hai : this_a ≠ this_image) : MetI l yX12_image (wa yX12_image cX12_image 1 (some .int)) ({ frames := 1, cells := 0, slots := 0, locals := 22 }) [.ref this] D t σ (I, J, ri, rj, rq) sz 0 0 (fun (r : Int32) (u : pq_S × pq_M) => ∃ ri' : Nat → Nat → Int32, u = (σ, I, J, ri', rj, rq) ∧ ((r = 0))) := by
  refine Met.ofW (cc := cX12_image) (maxL := 1) (ret := (some .int)) (by decide) rfl ?_
  intro p e s m args below meth c s₁ B hml hv
  obtain ⟨rfl, hsz, hP, hK, hD0, hN⟩ := hv
  have hx := B.exec
  have hb := B.bytes
  have hr := B.returns
  have hts := atoms_spec (ws := (wa yX12_image cX12_image 1 (some .int))) B.pre
  have hown : s.vm.findClass RX12 = some m.cls := findClass_of_methodNamed B.named
  have hlocks := B.notSynchronized
  subst hsz
  have hD : va_D (pq_B t σ (I, J, ri, rj, rq) s.heap.size) (pq_P t σ (I, J, ri, rj, rq)) := hD0.self
  generalize hAe : pq_B t σ (I, J, ri, rj, rq) s.heap.size = A at hD ⊢
  have hA : ∀ q : Nat, s.heap.size ≤ q → A q := fun q h => by rw [← hAe]; exact Or.inr h
  have hS : va_S A s.heap s.heap [] := va_S.rf
  have hl := lv_entry ([.ref this]) (n := 1) (Nat.le_of_ble_eq_true rfl)
  rw [lg_entry_eq]
  generalize (lg_sl ([.ref this]) ++ List.replicate (1 - (lg_sl ([.ref this])).length) Slot.unset).toArray = ls at hl ⊢
  have hl : lv_has ls 1 [(0, .ref this)] := hl
  refine lv_aload_n hx hb dX12_image_0 rfl (lv_at hl 0 rfl) ?_
  refine pg_f (v := .ref this_a) (C := RX12) (T := TX12) (N := 31) hx hb hts (tw_i inlX12) hown hK hP hL_this hK_this (by decide) rfl 0 (by decide) (hts _ (tw_c tw_176)) (pq_hv rfl hR_this_a) dX12_image_1 ?_
  refine lv_aload_n hx hb dX12_image_4 rfl (lv_at hl 0 rfl) ?_
  refine pg_f (v := .ref this_image) (C := RX12) (T := TX12) (N := 31) hx hb hts (tw_i inlX12) hown hK hP hL_this hK_this (by decide) rfl 1 (by decide) (hts _ (tw_c tw_177)) (pq_hv rfl hR_this_image) dX12_image_5 ?_
  refine pk_v (va_runS (As := [.ref this_a, .ref this_image]) (rest := []) ⟨hx, hb, hml, hown, hts⟩ (c_X12_copy l D t σ I J ri rj rq (Array.size s.heap) this_a this_image 12720 hL_this_a hK_this_a hN_this_a hL_this_image hK_this_image hN_this_image rfl hai) (va_cwS 2 hts (tw_S tw_192 tw_193 tw_5 tw_194) rfl rfl rfl (by decide +kernel) ⟨Nat.le_of_ble_eq_true rfl, Nat.le_of_ble_eq_true rfl⟩) ⟨pq_blind, pq_pre hK hN hP hD⟩ rfl rfl hl.1 rfl (lv_room (Nat.le_of_ble_eq_true rfl)) dX12_image_8 ⟨Nat.le_of_ble_eq_true rfl, Nat.le_of_ble_eq_true rfl⟩) hD hS hA (fun σ1 μ1 H locs hw_2 hP hD hS => ?_)
  obtain ⟨ri_3, hu_4, hu_4p0⟩ := hw_2
  obtain ⟨hu_4a, hu_4b⟩ := Prod.mk.inj hu_4
  rw [hu_4a, hu_4b] at hP hD
  refine lv_aload_n hx hb dX12_image_11 rfl (lv_at hl 0 rfl) ?_
  refine pg_f (v := .ref this_a) (C := RX12) (T := TX12) (N := 31) hx hb hts (tw_i inlX12) hown hK hP hL_this hK_this (by decide) rfl 0 (by decide) (hts _ (tw_c tw_176)) (pq_hv rfl hR_this_a) dX12_image_12 ?_
  refine lv_iconst (v := 0) hx hb dX12_image_15 (by decide) ?_
  refine pl_i hx hb hK hP hL_this_a hK_this_a hN_this_a (vp_in_iff.mpr (by decide)) dX12_image_16 ?_
  refine lv_tov 0 ((fm_eq hF (hu_4p0.2 _ hai)).1.trans nI_0) ?_
  exact W.iret (v := 0) hx hb hr (fun t1 ht hW => ⟨⟨0, (σ, I, J, ri_3, rj, rq), rfl, ⟨ri_3, rfl, rfl⟩, by rw [ht]; exact hP, va_K.moved hW.alike hK, hD⟩, hS.F ht⟩) hS.2.2 dX12_image_17

set_option maxHeartbeats 4000000 in
set_option maxRecDepth 100000 in
theorem c_X12_back (l : Launch) (D : va_G) (t : pq_T) (σ : pq_S) (I : Nat → Nat → Int32) (J : Nat → Nat → Int64) (ri : Nat → Nat → Int32) (rj : Nat → Nat → Int64) (rq : Nat → Nat → Option Nat) (sz : Nat) (this : Nat) (hL_this : this ∈ σ.1) (hK_this : σ.2.1 this = 12) (this_a : Nat) (hR_this_a : σ.2.2.1 384 this = some this_a) (hL_this_a : this_a ∈ σ.1) (hK_this_a : σ.2.1 this_a = 13) (hN_this_a : σ.2.2.2 this_a = 12720) (this_image : Nat) (hR_this_image : σ.2.2.1 385 this = some this_image) (hL_this_image : this_image ∈ σ.1) (hK_this_image : σ.2.1 this_image = 13) (hN_this_image : σ.2.2.2 this_image = 12720) (hai : this_a ≠ this_image) (hG : fm (ri this_image) 0) : MetI l yX12_back (wa yX12_back cX12_back 1 (some .int)) ({ frames := 1, cells := 0, slots := 0, locals := 22 }) [.ref this] D t σ (I, J, ri, rj, rq) sz 0 0 (fun (r : Int32) (u : pq_S × pq_M) => ∃ ri' : Nat → Nat → Int32, u = (σ, I, J, ri', rj, rq) ∧ ((r = 0))) := by
  refine Met.ofW (cc := cX12_back) (maxL := 1) (ret := (some .int)) (by decide) rfl ?_
  intro p e s m args below meth c s₁ B hml hv
  obtain ⟨rfl, hsz, hP, hK, hD0, hN⟩ := hv
  have hx := B.exec
  have hb := B.bytes
  have hr := B.returns
  have hts := atoms_spec (ws := (wa yX12_back cX12_back 1 (some .int))) B.pre
  have hown : s.vm.findClass RX12 = some m.cls := findClass_of_methodNamed B.named
  have hlocks := B.notSynchronized
  subst hsz
  have hD : va_D (pq_B t σ (I, J, ri, rj, rq) s.heap.size) (pq_P t σ (I, J, ri, rj, rq)) := hD0.self
  generalize hAe : pq_B t σ (I, J, ri, rj, rq) s.heap.size = A at hD ⊢
  have hA : ∀ q : Nat, s.heap.size ≤ q → A q := fun q h => by rw [← hAe]; exact Or.inr h
  have hS : va_S A s.heap s.heap [] := va_S.rf
  have hl := lv_entry ([.ref this]) (n := 1) (Nat.le_of_ble_eq_true rfl)
  rw [lg_entry_eq]
  generalize (lg_sl ([.ref this]) ++ List.replicate (1 - (lg_sl ([.ref this])).length) Slot.unset).toArray = ls at hl ⊢
  have hl : lv_has ls 1 [(0, .ref this)] := hl
  refine lv_aload_n hx hb dX12_back_0 rfl (lv_at hl 0 rfl) ?_
  refine pg_f (v := .ref this_image) (C := RX12) (T := TX12) (N := 31) hx hb hts (tw_i inlX12) hown hK hP hL_this hK_this (by decide) rfl 1 (by decide) (hts _ (tw_c tw_177)) (pq_hv rfl hR_this_image) dX12_back_1 ?_
  refine lv_aload_n hx hb dX12_back_4 rfl (lv_at hl 0 rfl) ?_
  refine pg_f (v := .ref this_a) (C := RX12) (T := TX12) (N := 31) hx hb hts (tw_i inlX12) hown hK hP hL_this hK_this (by decide) rfl 0 (by decide) (hts _ (tw_c tw_176)) (pq_hv rfl hR_this_a) dX12_back_5 ?_
  refine pk_v (va_runS (As := [.ref this_image, .ref this_a]) (rest := []) ⟨hx, hb, hml, hown, hts⟩ (c_X12_copy l D t σ I J ri rj rq (Array.size s.heap) this_image this_a 12720 hL_this_image hK_this_image hN_this_image hL_this_a hK_this_a hN_this_a rfl (Ne.symm hai)) (va_cwS 2 hts (tw_S tw_192 tw_193 tw_5 tw_194) rfl rfl rfl (by decide +kernel) ⟨Nat.le_of_ble_eq_true rfl, Nat.le_of_ble_eq_true rfl⟩) ⟨pq_blind, pq_pre hK hN hP hD⟩ rfl rfl hl.1 rfl (lv_room (Nat.le_of_ble_eq_true rfl)) dX12_back_8 ⟨Nat.le_of_ble_eq_true rfl, Nat.le_of_ble_eq_true rfl⟩) hD hS hA (fun σ1 μ1 H locs hw_2 hP hD hS => ?_)
  obtain ⟨ri_3, hu_4, hu_4p0⟩ := hw_2
  obtain ⟨hu_4a, hu_4b⟩ := Prod.mk.inj hu_4
  rw [hu_4a, hu_4b] at hP hD
  refine lv_aload_n hx hb dX12_back_11 rfl (lv_at hl 0 rfl) ?_
  refine pg_f (v := .ref this_a) (C := RX12) (T := TX12) (N := 31) hx hb hts (tw_i inlX12) hown hK hP hL_this hK_this (by decide) rfl 0 (by decide) (hts _ (tw_c tw_176)) (pq_hv rfl hR_this_a) dX12_back_12 ?_
  refine lv_iconst (v := 0) hx hb dX12_back_15 (by decide) ?_
  refine pl_i hx hb hK hP hL_this_a hK_this_a hN_this_a (vp_in_iff.mpr (by decide)) dX12_back_16 ?_
  refine lv_tov 0 ((fm_cp hG hu_4p0.1).1.trans nI_0) ?_
  exact W.iret (v := 0) hx hb hr (fun t1 ht hW => ⟨⟨0, (σ, I, J, ri_3, rj, rq), rfl, ⟨ri_3, rfl, rfl⟩, by rw [ht]; exact hP, va_K.moved hW.alike hK, hD⟩, hS.F ht⟩) hS.2.2 dX12_back_17

theorem sp_co2 {th : Int64} {y : Int32} (e2 : y = lg_cmp th 0) (h : y < 0) : (-1 : Int32) = sp_council th := by
  unfold sp_council
  rw [if_neg]
  intro q
  subst q
  rw [e2] at h
  exact absurd h (by decide)
theorem sp_co3 {th x : Int64} {y : Int32} (e : x = th >>> ((0 : Int32).toInt64 &&& 63)) (e2 : y = lg_cmp x 0) (h : y = 0) : th = 0 := by
  have hs : th >>> ((0 : Int32).toInt64 &&& 63) = th := by
    have h0 : ((0 : Int32).toInt64 &&& 63) = 0 := by decide
    rw [h0]
    simp
  rw [hs] at e
  subst e
  rw [e2] at h
  unfold lg_cmp at h
  split at h
  · exact absurd h (by decide)
  · split at h
    · assumption
    · exact absurd h (by decide)
theorem sp_co4 {th x : Int64} {y : Int32} (e : x = th >>> ((0 : Int32).toInt64 &&& 63)) (e2 : y = lg_cmp x 0) (h : ¬ y = 0) : (-1 : Int32) = sp_council th := by
  unfold sp_council
  rw [if_neg]
  intro q
  subst q
  refine h ?_
  rw [e2, e]
  decide

set_option maxHeartbeats 4000000 in
set_option maxRecDepth 100000 in
theorem c_X12_council (l : Launch) (D : va_G) (t : pq_T) (σ : pq_S) (I : Nat → Nat → Int32) (J : Nat → Nat → Int64) (ri : Nat → Nat → Int32) (rj : Nat → Nat → Int64) (rq : Nat → Nat → Option Nat) (sz : Nat) (this : Nat) (th : Int64) (hL_this : this ∈ σ.1) (hK_this : σ.2.1 this = 12) (this_a : Nat) (hR_this_a : σ.2.2.1 384 this = some this_a) (hL_this_a : this_a ∈ σ.1) (hK_this_a : σ.2.1 this_a = 13) (hN_this_a : σ.2.2.2 this_a = 12720) (hF : fm (ri this_a) 0) : MetI l yX12_council (wa yX12_council cX12_council 8 (some .int)) ({ frames := 2, cells := 0, slots := 0, locals := 48 }) [.ref this, .long th] D t σ (I, J, ri, rj, rq) sz 0 0 (fun (r : Int32) (u : pq_S × pq_M) => u = (σ, I, J, ri, rj, rq) ∧ (r = sp_council th)) := by
  refine Met.ofW (cc := cX12_council) (maxL := 8) (ret := (some .int)) (by decide) rfl ?_
  intro p e s m args below meth c s₁ B hml hv
  obtain ⟨rfl, hsz, hP, hK, hD0, hN⟩ := hv
  have hx := B.exec
  have hb := B.bytes
  have hr := B.returns
  have hts := atoms_spec (ws := (wa yX12_council cX12_council 8 (some .int))) B.pre
  have hown : s.vm.findClass RX12 = some m.cls := findClass_of_methodNamed B.named
  have hlocks := B.notSynchronized
  subst hsz
  have hD : va_D (pq_B t σ (I, J, ri, rj, rq) s.heap.size) (pq_P t σ (I, J, ri, rj, rq)) := hD0.self
  generalize hAe : pq_B t σ (I, J, ri, rj, rq) s.heap.size = A at hD ⊢
  have hA : ∀ q : Nat, s.heap.size ≤ q → A q := fun q h => by rw [← hAe]; exact Or.inr h
  have hS : va_S A s.heap s.heap [] := va_S.rf
  have hl := lv_entry ([.ref this, .long th]) (n := 8) (Nat.le_of_ble_eq_true rfl)
  rw [lg_entry_eq]
  generalize (lg_sl ([.ref this, .long th]) ++ List.replicate (8 - (lg_sl ([.ref this, .long th])).length) Slot.unset).toArray = ls at hl ⊢
  have hl : lv_has ls 8 [(0, .ref this), (1, .long th)] := hl
  refine lv_lload_n hx hb dX12_council_0 rfl (lv_at hl 1 rfl) ?_
  refine lv_lconst (v := 0) hx hb dX12_council_1 (by decide) ?_
  refine W.lcmp hx hb dX12_council_2 ?_
  refine lv_topi (fun x_1 ex_1 => ?_)
  refine lv_if_lt (tgt := 19) hx hb dX12_council_3 (by decide) (fun c_2 => ?_) (fun c_2 => ?_)
  · refine lv_iconst (v := (-1)) hx hb dX12_council_19 (by decide) ?_
    exact W.iret (v := (-1)) hx hb hr (fun t1 ht hW => ⟨⟨(-1), (σ, I, J, ri, rj, rq), rfl, ⟨rfl, (sp_co2 ex_1 c_2)⟩, by rw [ht]; exact hP, va_K.moved hW.alike hK, hD⟩, hS.F ht⟩) hS.2.2 dX12_council_20
  · refine lv_lload_n hx hb dX12_council_6 rfl (lv_at hl 1 rfl) ?_
    refine lv_aload_n hx hb dX12_council_7 rfl (lv_at hl 0 rfl) ?_
    refine pg_f (v := .ref this_a) (C := RX12) (T := TX12) (N := 31) hx hb hts (tw_i inlX12) hown hK hP hL_this hK_this (by decide) rfl 0 (by decide) (hts _ (tw_c tw_176)) (pq_hv rfl hR_this_a) dX12_council_8 ?_
    refine lv_iconst (v := 5) hx hb dX12_council_11 (by decide) ?_
    refine pl_i hx hb hK hP hL_this_a hK_this_a hN_this_a (vp_in_iff.mpr (by decide)) dX12_council_12 ?_
    refine lv_tov 0 (fm_at hF 5 (v := 0) (by decide)) ?_
    refine lv_lshr hx hb dX12_council_13 rfl ?_
    refine lv_topl (fun x_3 ex_3 => ?_)
    refine lv_lconst (v := 0) hx hb dX12_council_14 (by decide) ?_
    refine W.lcmp hx hb dX12_council_15 ?_
    refine lv_topi (fun x_4 ex_4 => ?_)
    refine lv_if_eq (tgt := 21) hx hb dX12_council_16 (by decide) (fun c_5 => ?_) (fun c_5 => ?_)
    · refine lv_aload_n hx hb dX12_council_21 rfl (lv_at hl 0 rfl) ?_
      refine pg_f (v := .ref this_a) (C := RX12) (T := TX12) (N := 31) hx hb hts (tw_i inlX12) hown hK hP hL_this hK_this (by decide) rfl 0 (by decide) (hts _ (tw_c tw_176)) (pq_hv rfl hR_this_a) dX12_council_22 ?_
      refine lv_iconst (v := 0) hx hb dX12_council_25 (by decide) ?_
      refine pl_i hx hb hK hP hL_this_a hK_this_a hN_this_a (vp_in_iff.mpr (by decide)) dX12_council_26 ?_
      refine lv_tov 0 (hF.1.trans nI_0) ?_
      refine lv_istore_n (lv' := [(3, .int 0), (0, .ref this), (1, .long th)]) hx hb dX12_council_27 rfl hl (by decide) rfl (fun ls hl => ?_)
      refine lv_iconst (v := 0) hx hb dX12_council_28 (by decide) ?_
      refine lv_istore (lv' := [(4, .int 0), (3, .int 0), (0, .ref this), (1, .long th)]) hx hb dX12_council_29 hl (by decide) rfl (fun ls hl => ?_)
      refine lv_iconst (v := 0) hx hb dX12_council_31 (by decide) ?_
      refine lv_istore (lv' := [(5, .int 0), (4, .int 0), (3, .int 0), (0, .ref this), (1, .long th)]) hx hb dX12_council_32 hl (by decide) rfl (fun ls hl => ?_)
      refine lv_iconst (v := 0) hx hb dX12_council_34 (by decide) ?_
      refine lv_istore (lv' := [(6, .int 0), (5, .int 0), (4, .int 0), (3, .int 0), (0, .ref this), (1, .long th)]) hx hb dX12_council_35 hl (by decide) rfl (fun ls hl => ?_)
      refine lv_iconst (v := 0) hx hb dX12_council_37 (by decide) ?_
      refine lv_istore (lv' := [(7, .int 0), (6, .int 0), (5, .int 0), (4, .int 0), (3, .int 0), (0, .ref this), (1, .long th)]) hx hb dX12_council_38 hl (by decide) rfl (fun ls hl => ?_)
      refine lv_iload hx hb dX12_council_40 (lv_at hl 0 rfl) ?_
      refine lv_aload_n hx hb dX12_council_42 rfl (lv_at hl 5 rfl) ?_
      refine pg_f (v := .ref this_a) (C := RX12) (T := TX12) (N := 31) hx hb hts (tw_i inlX12) hown hK hP hL_this hK_this (by decide) rfl 0 (by decide) (hts _ (tw_c tw_176)) (pq_hv rfl hR_this_a) dX12_council_43 ?_
      refine lv_iconst (v := 5) hx hb dX12_council_46 (by decide) ?_
      refine pl_i hx hb hK hP hL_this_a hK_this_a hN_this_a (vp_in_iff.mpr (by decide)) dX12_council_47 ?_
      refine lv_tov 0 (fm_at hF 5 (v := 0) (by decide)) ?_
      refine lv_icmp_ge (tgt := 152) hx hb dX12_council_48 (by decide) (fun c_6 => ?_) (fun c_6 => absurd c_6 (by decide))
      refine lv_bipush (v := 100) hx hb dX12_council_152 (by decide) ?_
      refine lv_iload hx hb dX12_council_154 (lv_at hl 2 rfl) ?_
      refine lv_imul hx hb dX12_council_156 ?_
      refine lv_tov 0 (by decide) ?_
      refine lv_aload_n hx hb dX12_council_157 rfl (lv_at hl 5 rfl) ?_
      refine lv_bipush (v := 7) hx hb dX12_council_158 (by decide) ?_
      refine lv_iload_n hx hb dX12_council_160 rfl (lv_at hl 4 rfl) ?_
      refine lv_bipush (v := 50) hx hb dX12_council_161 (by decide) ?_
      refine pk_i (va_runV (As := [.int 7, .int 0, .int 50]) (rest := [.int 0]) ⟨hx, hb, hml, hown, hts⟩ (c_X12_numberOf l D t σ I J ri rj rq (Array.size s.heap) this (7 : Int32) (0 : Int32) (50 : Int32) hL_this hK_this this_a hR_this_a hL_this_a hK_this_a hN_this_a 0 (by decide) hF) (cwV 3 hts (tw_V tw_1016 tw_1017 tw_1018 tw_5 tw_1019) rfl rfl rfl (by decide +kernel) ⟨Nat.le_of_ble_eq_true rfl, Nat.le_of_ble_eq_true rfl⟩) ⟨pq_blind, pq_recv hK hP hL_this hK_this (by decide) rfl, pq_pre hK hN hP hD⟩ rfl rfl hl.1 rfl (lv_room (Nat.le_of_ble_eq_true rfl)) dX12_council_163 ⟨Nat.le_of_ble_eq_true rfl, Nat.le_of_ble_eq_true rfl⟩) hD hS hA (fun r_7 σ1 μ1 H locs hw_8 hP hD hS => ?_)
      obtain ⟨hu_9, hr_10⟩ := hw_8
      obtain ⟨hu_9a, hu_9b⟩ := Prod.mk.inj hu_9
      rw [hu_9a, hu_9b] at hP hD
      refine lv_tov (50 : Int32) hr_10 ?_
      refine lv_iload hx hb dX12_council_166 (lv_at hl 3 rfl) ?_
      refine lv_imul hx hb dX12_council_168 ?_
      refine lv_tov 0 (by decide) ?_
      refine lv_icmp_ge (tgt := 174) hx hb dX12_council_169 (by decide) (fun c_11 => ?_) (fun c_11 => absurd c_11 (by decide))
      refine lv_iload hx hb dX12_council_174 (lv_at hl 1 rfl) ?_
      refine lv_if_le (tgt := 183) hx hb dX12_council_176 (by decide) (fun c_12 => ?_) (fun c_12 => absurd c_12 (by decide))
      refine lv_iconst (v := 0) hx hb dX12_council_183 (by decide) ?_
      exact W.iret (v := 0) hx hb hr (fun t1 ht hW => ⟨⟨0, (σ, I, J, ri, rj, rq), rfl, ⟨rfl, (by unfold sp_council; rw [if_pos (sp_co3 ex_3 ex_4 c_5)])⟩, by rw [ht]; exact hP, va_K.moved hW.alike hK, hD⟩, hS.F ht⟩) hS.2.2 dX12_council_184
    · refine lv_iconst (v := (-1)) hx hb dX12_council_19 (by decide) ?_
      exact W.iret (v := (-1)) hx hb hr (fun t1 ht hW => ⟨⟨(-1), (σ, I, J, ri, rj, rq), rfl, ⟨rfl, (sp_co4 ex_3 ex_4 c_5)⟩, by rw [ht]; exact hP, va_K.moved hW.alike hK, hD⟩, hS.F ht⟩) hS.2.2 dX12_council_20
