theorem dX11_ring_0 : decode cX11_ring 0 = .ok (.aload_n 0, 1) := by decide +kernel
theorem tw_16 : Cond.fieldLink RX11 10 "RingsUnder" "now" "LRingsUnder$World;" ∈ wsL_law := List.mem_of_getElem? (i := 16) (by decide +kernel)
theorem dX11_ring_1 : decode cX11_ring 1 = .ok (.getfield 10, 3) := by decide +kernel
theorem tw_199 : Cond.fieldLink RX11 36 "RingsUnder$World" "land" "LRingsUnder$Land;" ∈ wsL_law := List.mem_of_getElem? (i := 199) (by decide +kernel)
theorem dX11_ring_4 : decode cX11_ring 4 = .ok (.getfield 36, 3) := by decide +kernel
theorem dX11_ring_7 : decode cX11_ring 7 = .ok (.astore_n 1, 1) := by decide +kernel
theorem dX11_ring_8 : decode cX11_ring 8 = .ok (.aload_n 1, 1) := by decide +kernel
theorem tw_200 : Cond.fieldLink RX11 40 "RingsUnder$Land" "rings" "I" ∈ wsL_law := List.mem_of_getElem? (i := 200) (by decide +kernel)
theorem dX11_ring_9 : decode cX11_ring 9 = .ok (.getfield 40, 3) := by decide +kernel
theorem dX11_ring_12 : decode cX11_ring 12 = .ok (.iconst 5, 1) := by decide +kernel
theorem dX11_ring_13 : decode cX11_ring 13 = .ok (.if_icmp .lt 5, 3) := by decide +kernel
theorem dX11_ring_18 : decode cX11_ring 18 = .ok (.aload_n 1, 1) := by decide +kernel
theorem dX11_ring_19 : decode cX11_ring 19 = .ok (.dup, 1) := by decide +kernel
theorem dX11_ring_20 : decode cX11_ring 20 = .ok (.getfield 40, 3) := by decide +kernel
theorem dX11_ring_23 : decode cX11_ring 23 = .ok (.iconst 1, 1) := by decide +kernel
theorem dX11_ring_24 : decode cX11_ring 24 = .ok (.iadd, 1) := by decide +kernel
theorem dX11_ring_25 : decode cX11_ring 25 = .ok (.putfield 40, 3) := by decide +kernel
theorem dX11_ring_28 : decode cX11_ring 28 = .ok (.aload_n 1, 1) := by decide +kernel
theorem dX11_ring_29 : decode cX11_ring 29 = .ok (.getfield 40, 3) := by decide +kernel
theorem dX11_ring_32 : decode cX11_ring 32 = .ok (.iconst 1, 1) := by decide +kernel
theorem dX11_ring_33 : decode cX11_ring 33 = .ok (.isub, 1) := by decide +kernel
theorem dX11_ring_34 : decode cX11_ring 34 = .ok (.ireturn, 1) := by decide +kernel
theorem dX11_ring_16 : decode cX11_ring 16 = .ok (.iconst (-1), 1) := by decide +kernel
theorem dX11_ring_17 : decode cX11_ring 17 = .ok (.ireturn, 1) := by decide +kernel
theorem dX11_between_0 : decode cX11_between 0 = .ok (.iload_n 0, 1) := by decide +kernel
theorem dX11_between_1 : decode cX11_between 1 = .ok (.iload_n 1, 1) := by decide +kernel
theorem dX11_between_14 : decode cX11_between 14 = .ok (.iconst 0, 1) := by decide +kernel
theorem dX11_between_15 : decode cX11_between 15 = .ok (.ireturn, 1) := by decide +kernel
theorem dX11_between_2 : decode cX11_between 2 = .ok (.if_icmp .lt 12, 3) := by decide +kernel
theorem dX11_between_5 : decode cX11_between 5 = .ok (.iload_n 0, 1) := by decide +kernel
theorem dX11_between_6 : decode cX11_between 6 = .ok (.iload_n 2, 1) := by decide +kernel
theorem dX11_between_7 : decode cX11_between 7 = .ok (.if_icmp .gt 7, 3) := by decide +kernel
theorem dX11_between_10 : decode cX11_between 10 = .ok (.iconst 1, 1) := by decide +kernel
theorem dX11_between_11 : decode cX11_between 11 = .ok (.goto 4, 3) := by decide +kernel
theorem dX11_isRing_0 : decode cX11_isRing 0 = .ok (.iload_n 1, 1) := by decide +kernel
theorem dX11_isRing_1 : decode cX11_isRing 1 = .ok (.iconst 0, 1) := by decide +kernel
theorem dX11_isRing_2 : decode cX11_isRing 2 = .ok (.aload_n 0, 1) := by decide +kernel
theorem dX11_isRing_3 : decode cX11_isRing 3 = .ok (.getfield 10, 3) := by decide +kernel
theorem dX11_isRing_6 : decode cX11_isRing 6 = .ok (.getfield 36, 3) := by decide +kernel
theorem dX11_isRing_9 : decode cX11_isRing 9 = .ok (.getfield 40, 3) := by decide +kernel
theorem dX11_isRing_12 : decode cX11_isRing 12 = .ok (.iconst 1, 1) := by decide +kernel
theorem dX11_isRing_13 : decode cX11_isRing 13 = .ok (.isub, 1) := by decide +kernel
theorem tw_215 : Cond.methodLink RX11 50 yX11_between ∈ wsL_law := List.mem_of_getElem? (i := 215) (by decide +kernel)
theorem tw_216 : Cond.static yX11_between ∈ wsL_law := List.mem_of_getElem? (i := 216) (by decide +kernel)
theorem tw_217 : Cond.code yX11_between cX11_between 3 (some .boolean) ∈ wsL_law := List.mem_of_getElem? (i := 217) (by decide +kernel)
theorem dX11_isRing_14 : decode cX11_isRing 14 = .ok (.invokestatic 50, 3) := by decide +kernel
theorem dX11_isRing_17 : decode cX11_isRing 17 = .ok (.ireturn, 1) := by decide +kernel
theorem dX11_cell_0 : decode cX11_cell 0 = .ok (.aload_n 0, 1) := by decide +kernel
theorem dX11_cell_1 : decode cX11_cell 1 = .ok (.iload_n 1, 1) := by decide +kernel
theorem tw_211 : Cond.methodLink RX11 46 yX11_isRing ∈ wsL_law := List.mem_of_getElem? (i := 211) (by decide +kernel)
theorem tw_212 : Cond.instanceMethod yX11_isRing ∈ wsL_law := List.mem_of_getElem? (i := 212) (by decide +kernel)
theorem tw_213 : Cond.selects RX11 yX11_isRing yX11_isRing ∈ wsL_law := List.mem_of_getElem? (i := 213) (by decide +kernel)
theorem tw_214 : Cond.code yX11_isRing cX11_isRing 2 (some .boolean) ∈ wsL_law := List.mem_of_getElem? (i := 214) (by decide +kernel)
theorem dX11_cell_2 : decode cX11_cell 2 = .ok (.invokevirtual 46, 3) := by decide +kernel
theorem dX11_cell_71 : decode cX11_cell 71 = .ok (.istore 7, 2) := by decide +kernel
theorem dX11_cell_73 : decode cX11_cell 73 = .ok (.iload 7, 2) := by decide +kernel
theorem dX11_cell_103 : decode cX11_cell 103 = .ok (.iconst (-1), 1) := by decide +kernel
theorem dX11_cell_104 : decode cX11_cell 104 = .ok (.ireturn, 1) := by decide +kernel
theorem dX11_cell_75 : decode cX11_cell 75 = .ok (.ifCond .eq 28, 3) := by decide +kernel
theorem dX11_cell_78 : decode cX11_cell 78 = .ok (.aload_n 0, 1) := by decide +kernel
theorem dX11_cell_79 : decode cX11_cell 79 = .ok (.getfield 10, 3) := by decide +kernel
theorem tw_209 : Cond.fieldLink RX11 54 "RingsUnder$World" "clock" "I" ∈ wsL_law := List.mem_of_getElem? (i := 209) (by decide +kernel)
theorem dX11_cell_82 : decode cX11_cell 82 = .ok (.getfield 54, 3) := by decide +kernel
theorem dX11_cell_85 : decode cX11_cell 85 = .ok (.ifCond .gt 18, 3) := by decide +kernel
theorem dX11_cell_88 : decode cX11_cell 88 = .ok (.aload_n 0, 1) := by decide +kernel
theorem dX11_cell_89 : decode cX11_cell 89 = .ok (.getfield 10, 3) := by decide +kernel
theorem dX11_cell_92 : decode cX11_cell 92 = .ok (.getfield 36, 3) := by decide +kernel
theorem tw_210 : Cond.fieldLink RX11 57 "RingsUnder$Land" "cells" "I" ∈ wsL_law := List.mem_of_getElem? (i := 210) (by decide +kernel)
theorem dX11_cell_95 : decode cX11_cell 95 = .ok (.getfield 57, 3) := by decide +kernel
theorem dX11_cell_98 : decode cX11_cell 98 = .ok (.bipush 40, 2) := by decide +kernel
theorem dX11_cell_100 : decode cX11_cell 100 = .ok (.if_icmp .lt 5, 3) := by decide +kernel
theorem dX11_cell_105 : decode cX11_cell 105 = .ok (.aload_n 0, 1) := by decide +kernel
theorem dX11_cell_106 : decode cX11_cell 106 = .ok (.getfield 10, 3) := by decide +kernel
theorem dX11_cell_109 : decode cX11_cell 109 = .ok (.getfield 36, 3) := by decide +kernel
theorem dX11_cell_112 : decode cX11_cell 112 = .ok (.iload_n 1, 1) := by decide +kernel
theorem dX11_cell_113 : decode cX11_cell 113 = .ok (.iload_n 2, 1) := by decide +kernel
theorem dX11_cell_114 : decode cX11_cell 114 = .ok (.iload_n 3, 1) := by decide +kernel
theorem dX11_cell_115 : decode cX11_cell 115 = .ok (.iload 4, 2) := by decide +kernel
theorem dX11_cell_117 : decode cX11_cell 117 = .ok (.iload 5, 2) := by decide +kernel
theorem dX11_cell_119 : decode cX11_cell 119 = .ok (.iload 6, 2) := by decide +kernel
theorem tw_218 : Cond.methodLink RX11 60 yX2_addCell ∈ wsL_law := List.mem_of_getElem? (i := 218) (by decide +kernel)
theorem tw_219 : Cond.instanceMethod yX2_addCell ∈ wsL_law := List.mem_of_getElem? (i := 219) (by decide +kernel)
theorem tw_220 : Cond.selects RX2 yX2_addCell yX2_addCell ∈ wsL_law := List.mem_of_getElem? (i := 220) (by decide +kernel)
theorem tw_221 : Cond.code yX2_addCell cX2_addCell 8 (some .int) ∈ wsL_law := List.mem_of_getElem? (i := 221) (by decide +kernel)
theorem dX11_cell_121 : decode cX11_cell 121 = .ok (.invokevirtual 60, 3) := by decide +kernel
theorem dX11_cell_124 : decode cX11_cell 124 = .ok (.ireturn, 1) := by decide +kernel
theorem dX11_cell_70 : decode cX11_cell 70 = .ok (.iconst 0, 1) := by decide +kernel
theorem dX11_cell_5 : decode cX11_cell 5 = .ok (.ifCond .eq 65, 3) := by decide +kernel
theorem dX11_cell_8 : decode cX11_cell 8 = .ok (.iload_n 2, 1) := by decide +kernel
theorem dX11_cell_9 : decode cX11_cell 9 = .ok (.sipush (-500), 3) := by decide +kernel
theorem dX11_cell_12 : decode cX11_cell 12 = .ok (.sipush 3000, 3) := by decide +kernel
theorem dX11_cell_15 : decode cX11_cell 15 = .ok (.invokestatic 50, 3) := by decide +kernel
theorem dX11_cell_18 : decode cX11_cell 18 = .ok (.ifCond .eq 52, 3) := by decide +kernel
theorem dX11_cell_21 : decode cX11_cell 21 = .ok (.iload_n 3, 1) := by decide +kernel
theorem dX11_cell_22 : decode cX11_cell 22 = .ok (.iconst 0, 1) := by decide +kernel
theorem dX11_cell_23 : decode cX11_cell 23 = .ok (.bipush 31, 2) := by decide +kernel
theorem dX11_cell_25 : decode cX11_cell 25 = .ok (.invokestatic 50, 3) := by decide +kernel
theorem dX11_cell_28 : decode cX11_cell 28 = .ok (.ifCond .eq 42, 3) := by decide +kernel
theorem dX11_cell_31 : decode cX11_cell 31 = .ok (.iload 4, 2) := by decide +kernel
theorem dX11_cell_33 : decode cX11_cell 33 = .ok (.iconst 0, 1) := by decide +kernel
theorem dX11_cell_34 : decode cX11_cell 34 = .ok (.bipush 31, 2) := by decide +kernel
theorem dX11_cell_36 : decode cX11_cell 36 = .ok (.invokestatic 50, 3) := by decide +kernel
theorem dX11_cell_39 : decode cX11_cell 39 = .ok (.ifCond .eq 31, 3) := by decide +kernel
theorem dX11_cell_42 : decode cX11_cell 42 = .ok (.iload 5, 2) := by decide +kernel
theorem dX11_cell_44 : decode cX11_cell 44 = .ok (.iconst 0, 1) := by decide +kernel
theorem dX11_cell_45 : decode cX11_cell 45 = .ok (.sipush 500, 3) := by decide +kernel
theorem dX11_cell_48 : decode cX11_cell 48 = .ok (.invokestatic 50, 3) := by decide +kernel
theorem dX11_cell_51 : decode cX11_cell 51 = .ok (.ifCond .eq 19, 3) := by decide +kernel
theorem dX11_cell_54 : decode cX11_cell 54 = .ok (.iload 6, 2) := by decide +kernel
theorem dX11_cell_56 : decode cX11_cell 56 = .ok (.iconst 0, 1) := by decide +kernel
theorem dX11_cell_57 : decode cX11_cell 57 = .ok (.sipush 400, 3) := by decide +kernel
theorem dX11_cell_60 : decode cX11_cell 60 = .ok (.invokestatic 50, 3) := by decide +kernel
theorem dX11_cell_63 : decode cX11_cell 63 = .ok (.ifCond .eq 7, 3) := by decide +kernel
theorem dX11_cell_66 : decode cX11_cell 66 = .ok (.iconst 1, 1) := by decide +kernel
theorem dX11_cell_67 : decode cX11_cell 67 = .ok (.goto 4, 3) := by decide +kernel
theorem dX11_isRise_0 : decode cX11_isRise 0 = .ok (.iload_n 0, 1) := by decide +kernel
theorem dX11_isRise_1 : decode cX11_isRise 1 = .ok (.iconst 0, 1) := by decide +kernel
theorem dX11_isRise_2 : decode cX11_isRise 2 = .ok (.iconst 2, 1) := by decide +kernel
theorem dX11_isRise_3 : decode cX11_isRise 3 = .ok (.invokestatic 50, 3) := by decide +kernel
theorem dX11_isRise_6 : decode cX11_isRise 6 = .ok (.ireturn, 1) := by decide +kernel
theorem dX11_isMonth_0 : decode cX11_isMonth 0 = .ok (.iload_n 0, 1) := by decide +kernel
theorem dX11_isMonth_1 : decode cX11_isMonth 1 = .ok (.iconst 0, 1) := by decide +kernel
theorem dX11_isMonth_2 : decode cX11_isMonth 2 = .ok (.sipush 599, 3) := by decide +kernel
theorem dX11_isMonth_5 : decode cX11_isMonth 5 = .ok (.invokestatic 50, 3) := by decide +kernel
theorem dX11_isMonth_8 : decode cX11_isMonth 8 = .ok (.ireturn, 1) := by decide +kernel
theorem dX11_level_0 : decode cX11_level 0 = .ok (.iload_n 1, 1) := by decide +kernel
theorem tw_244 : Cond.methodLink RX11 64 yX11_isRise ∈ wsL_law := List.mem_of_getElem? (i := 244) (by decide +kernel)
theorem tw_245 : Cond.static yX11_isRise ∈ wsL_law := List.mem_of_getElem? (i := 245) (by decide +kernel)
theorem tw_246 : Cond.code yX11_isRise cX11_isRise 1 (some .boolean) ∈ wsL_law := List.mem_of_getElem? (i := 246) (by decide +kernel)
theorem dX11_level_1 : decode cX11_level 1 = .ok (.invokestatic 64, 3) := by decide +kernel
theorem dX11_level_32 : decode cX11_level 32 = .ok (.iconst (-1), 1) := by decide +kernel
theorem dX11_level_33 : decode cX11_level 33 = .ok (.ireturn, 1) := by decide +kernel
theorem dX11_level_4 : decode cX11_level 4 = .ok (.ifCond .eq 28, 3) := by decide +kernel
theorem dX11_level_7 : decode cX11_level 7 = .ok (.iload_n 2, 1) := by decide +kernel
theorem tw_247 : Cond.methodLink RX11 67 yX11_isMonth ∈ wsL_law := List.mem_of_getElem? (i := 247) (by decide +kernel)
theorem tw_248 : Cond.static yX11_isMonth ∈ wsL_law := List.mem_of_getElem? (i := 248) (by decide +kernel)
theorem tw_249 : Cond.code yX11_isMonth cX11_isMonth 1 (some .boolean) ∈ wsL_law := List.mem_of_getElem? (i := 249) (by decide +kernel)
theorem dX11_level_8 : decode cX11_level 8 = .ok (.invokestatic 67, 3) := by decide +kernel
theorem dX11_level_11 : decode cX11_level 11 = .ok (.ifCond .eq 21, 3) := by decide +kernel
theorem dX11_level_14 : decode cX11_level 14 = .ok (.iload_n 3, 1) := by decide +kernel
theorem dX11_level_34 : decode cX11_level 34 = .ok (.aload_n 0, 1) := by decide +kernel
theorem dX11_level_35 : decode cX11_level 35 = .ok (.getfield 10, 3) := by decide +kernel
theorem tw_242 : Cond.fieldLink RX11 70 "RingsUnder$World" "seas" "LRingsUnder$Seas;" ∈ wsL_law := List.mem_of_getElem? (i := 242) (by decide +kernel)
theorem dX11_level_38 : decode cX11_level 38 = .ok (.getfield 70, 3) := by decide +kernel
theorem tw_243 : Cond.fieldLink RX11 74 "RingsUnder$Seas" "levels" "I" ∈ wsL_law := List.mem_of_getElem? (i := 243) (by decide +kernel)
theorem dX11_level_41 : decode cX11_level 41 = .ok (.getfield 74, 3) := by decide +kernel
theorem dX11_level_44 : decode cX11_level 44 = .ok (.sipush 200, 3) := by decide +kernel
theorem dX11_level_47 : decode cX11_level 47 = .ok (.if_icmp .lt 5, 3) := by decide +kernel
theorem dX11_level_52 : decode cX11_level 52 = .ok (.aload_n 0, 1) := by decide +kernel
theorem dX11_level_53 : decode cX11_level 53 = .ok (.getfield 10, 3) := by decide +kernel
theorem dX11_level_56 : decode cX11_level 56 = .ok (.getfield 70, 3) := by decide +kernel
theorem dX11_level_59 : decode cX11_level 59 = .ok (.iload_n 1, 1) := by decide +kernel
theorem dX11_level_60 : decode cX11_level 60 = .ok (.iload_n 2, 1) := by decide +kernel
theorem dX11_level_61 : decode cX11_level 61 = .ok (.iload_n 3, 1) := by decide +kernel
theorem dX11_level_73 : decode cX11_level 73 = .ok (.aload_n 0, 1) := by decide +kernel
theorem dX11_level_74 : decode cX11_level 74 = .ok (.getfield 10, 3) := by decide +kernel
theorem dX11_level_77 : decode cX11_level 77 = .ok (.getfield 54, 3) := by decide +kernel
theorem tw_250 : Cond.methodLink RX11 79 yX7_tell ∈ wsL_law := List.mem_of_getElem? (i := 250) (by decide +kernel)
theorem tw_251 : Cond.instanceMethod yX7_tell ∈ wsL_law := List.mem_of_getElem? (i := 251) (by decide +kernel)
theorem tw_252 : Cond.selects RX7 yX7_tell yX7_tell ∈ wsL_law := List.mem_of_getElem? (i := 252) (by decide +kernel)
theorem tw_253 : Cond.code yX7_tell cX7_tell 5 (some .int) ∈ wsL_law := List.mem_of_getElem? (i := 253) (by decide +kernel)
theorem dX11_level_80 : decode cX11_level 80 = .ok (.invokevirtual 79, 3) := by decide +kernel
theorem dX11_level_83 : decode cX11_level 83 = .ok (.ireturn, 1) := by decide +kernel
theorem dX11_level_62 : decode cX11_level 62 = .ok (.ifCond .eq 8, 3) := by decide +kernel
theorem dX11_level_70 : decode cX11_level 70 = .ok (.sipush (-5000), 3) := by decide +kernel
theorem dX11_level_65 : decode cX11_level 65 = .ok (.iload 4, 2) := by decide +kernel
theorem dX11_level_67 : decode cX11_level 67 = .ok (.goto 6, 3) := by decide +kernel
theorem dX11_level_50 : decode cX11_level 50 = .ok (.iconst (-1), 1) := by decide +kernel
theorem dX11_level_51 : decode cX11_level 51 = .ok (.ireturn, 1) := by decide +kernel
theorem dX11_level_15 : decode cX11_level 15 = .ok (.ifCond .eq 19, 3) := by decide +kernel
theorem dX11_level_18 : decode cX11_level 18 = .ok (.iload 4, 2) := by decide +kernel
theorem dX11_level_20 : decode cX11_level 20 = .ok (.sipush (-1000), 3) := by decide +kernel
theorem dX11_level_23 : decode cX11_level 23 = .ok (.sipush 5000, 3) := by decide +kernel
theorem dX11_level_26 : decode cX11_level 26 = .ok (.invokestatic 50, 3) := by decide +kernel
theorem dX11_level_29 : decode cX11_level 29 = .ok (.ifCond .ne 5, 3) := by decide +kernel
theorem dX11_levelOf_0 : decode cX11_levelOf 0 = .ok (.iload_n 1, 1) := by decide +kernel
theorem dX11_levelOf_1 : decode cX11_levelOf 1 = .ok (.invokestatic 64, 3) := by decide +kernel
theorem tw_269 : Cond.constant RX11 83 (-1000000) ∈ wsL_law := List.mem_of_getElem? (i := 269) (by decide +kernel)
theorem dX11_levelOf_25 : decode cX11_levelOf 25 = .ok (.ldc 83, 2) := by decide +kernel
theorem dX11_levelOf_27 : decode cX11_levelOf 27 = .ok (.ireturn, 1) := by decide +kernel
theorem dX11_levelOf_4 : decode cX11_levelOf 4 = .ok (.ifCond .eq 21, 3) := by decide +kernel
theorem dX11_levelOf_7 : decode cX11_levelOf 7 = .ok (.iload_n 2, 1) := by decide +kernel
theorem dX11_levelOf_8 : decode cX11_levelOf 8 = .ok (.invokestatic 67, 3) := by decide +kernel
theorem dX11_levelOf_11 : decode cX11_levelOf 11 = .ok (.ifCond .eq 14, 3) := by decide +kernel
theorem dX11_levelOf_14 : decode cX11_levelOf 14 = .ok (.iload_n 3, 1) := by decide +kernel
theorem dX11_levelOf_15 : decode cX11_levelOf 15 = .ok (.iconst 0, 1) := by decide +kernel
theorem dX11_levelOf_16 : decode cX11_levelOf 16 = .ok (.sipush 600, 3) := by decide +kernel
theorem dX11_levelOf_19 : decode cX11_levelOf 19 = .ok (.invokestatic 50, 3) := by decide +kernel
theorem dX11_levelOf_22 : decode cX11_levelOf 22 = .ok (.ifCond .ne 6, 3) := by decide +kernel
theorem dX11_levelOf_28 : decode cX11_levelOf 28 = .ok (.aload_n 0, 1) := by decide +kernel
theorem dX11_levelOf_29 : decode cX11_levelOf 29 = .ok (.getfield 10, 3) := by decide +kernel
theorem dX11_levelOf_32 : decode cX11_levelOf 32 = .ok (.getfield 70, 3) := by decide +kernel
theorem dX11_levelOf_35 : decode cX11_levelOf 35 = .ok (.iload_n 1, 1) := by decide +kernel
theorem dX11_levelOf_36 : decode cX11_levelOf 36 = .ok (.iload_n 2, 1) := by decide +kernel
theorem dX11_levelOf_37 : decode cX11_levelOf 37 = .ok (.iload_n 3, 1) := by decide +kernel
theorem tw_270 : Cond.methodLink RX11 84 yX7_known ∈ wsL_law := List.mem_of_getElem? (i := 270) (by decide +kernel)
theorem dX11_levelOf_38 : decode cX11_levelOf 38 = .ok (.invokevirtual 84, 3) := by decide +kernel
theorem dX11_levelOf_41 : decode cX11_levelOf 41 = .ok (.ireturn, 1) := by decide +kernel
theorem dX11_table_0 : decode cX11_table 0 = .ok (.iload_n 1, 1) := by decide +kernel
theorem dX11_table_1 : decode cX11_table 1 = .ok (.iconst 0, 1) := by decide +kernel
theorem dX11_table_2 : decode cX11_table 2 = .ok (.bipush 11, 2) := by decide +kernel
theorem dX11_table_4 : decode cX11_table 4 = .ok (.invokestatic 50, 3) := by decide +kernel
theorem dX11_table_70 : decode cX11_table 70 = .ok (.istore 7, 2) := by decide +kernel
theorem dX11_table_72 : decode cX11_table 72 = .ok (.iload 7, 2) := by decide +kernel
theorem dX11_table_74 : decode cX11_table 74 = .ok (.ifCond .ne 5, 3) := by decide +kernel
theorem dX11_table_79 : decode cX11_table 79 = .ok (.aload_n 0, 1) := by decide +kernel
theorem dX11_table_80 : decode cX11_table 80 = .ok (.getfield 10, 3) := by decide +kernel
theorem dX11_table_83 : decode cX11_table 83 = .ok (.getfield 70, 3) := by decide +kernel
theorem dX11_table_86 : decode cX11_table 86 = .ok (.astore 8, 2) := by decide +kernel
theorem dX11_table_88 : decode cX11_table 88 = .ok (.aload 8, 2) := by decide +kernel
theorem tw_305 : Cond.fieldLink RX11 88 "RingsUnder$Seas" "low" "[I" ∈ wsL_law := List.mem_of_getElem? (i := 305) (by decide +kernel)
theorem dX11_table_90 : decode cX11_table 90 = .ok (.getfield 88, 3) := by decide +kernel
theorem dX11_table_93 : decode cX11_table 93 = .ok (.iload_n 1, 1) := by decide +kernel
theorem dX11_table_94 : decode cX11_table 94 = .ok (.iload_n 2, 1) := by decide +kernel
theorem dX11_table_95 : decode cX11_table 95 = .ok (.iastore, 1) := by decide +kernel
theorem dX11_table_96 : decode cX11_table 96 = .ok (.aload 8, 2) := by decide +kernel
theorem tw_306 : Cond.fieldLink RX11 92 "RingsUnder$Seas" "high" "[I" ∈ wsL_law := List.mem_of_getElem? (i := 306) (by decide +kernel)
theorem dX11_table_98 : decode cX11_table 98 = .ok (.getfield 92, 3) := by decide +kernel
theorem dX11_table_101 : decode cX11_table 101 = .ok (.iload_n 1, 1) := by decide +kernel
theorem dX11_table_102 : decode cX11_table 102 = .ok (.iload_n 3, 1) := by decide +kernel
theorem dX11_table_103 : decode cX11_table 103 = .ok (.iastore, 1) := by decide +kernel
theorem dX11_table_104 : decode cX11_table 104 = .ok (.aload 8, 2) := by decide +kernel
theorem tw_307 : Cond.fieldLink RX11 95 "RingsUnder$Seas" "warm" "[I" ∈ wsL_law := List.mem_of_getElem? (i := 307) (by decide +kernel)
theorem dX11_table_106 : decode cX11_table 106 = .ok (.getfield 95, 3) := by decide +kernel
theorem dX11_table_109 : decode cX11_table 109 = .ok (.iload_n 1, 1) := by decide +kernel
theorem dX11_table_110 : decode cX11_table 110 = .ok (.iload 4, 2) := by decide +kernel
theorem dX11_table_112 : decode cX11_table 112 = .ok (.iastore, 1) := by decide +kernel
theorem dX11_table_113 : decode cX11_table 113 = .ok (.aload 8, 2) := by decide +kernel
theorem tw_308 : Cond.fieldLink RX11 98 "RingsUnder$Seas" "drift" "[I" ∈ wsL_law := List.mem_of_getElem? (i := 308) (by decide +kernel)
theorem dX11_table_115 : decode cX11_table 115 = .ok (.getfield 98, 3) := by decide +kernel
theorem dX11_table_118 : decode cX11_table 118 = .ok (.iload_n 1, 1) := by decide +kernel
theorem dX11_table_119 : decode cX11_table 119 = .ok (.iload 5, 2) := by decide +kernel
theorem dX11_table_121 : decode cX11_table 121 = .ok (.iastore, 1) := by decide +kernel
theorem dX11_table_122 : decode cX11_table 122 = .ok (.aload 8, 2) := by decide +kernel
theorem tw_309 : Cond.fieldLink RX11 101 "RingsUnder$Seas" "rain" "[I" ∈ wsL_law := List.mem_of_getElem? (i := 309) (by decide +kernel)
theorem dX11_table_124 : decode cX11_table 124 = .ok (.getfield 101, 3) := by decide +kernel
theorem dX11_table_127 : decode cX11_table 127 = .ok (.iload_n 1, 1) := by decide +kernel
theorem dX11_table_128 : decode cX11_table 128 = .ok (.iload 6, 2) := by decide +kernel
theorem dX11_table_130 : decode cX11_table 130 = .ok (.iastore, 1) := by decide +kernel
theorem dX11_table_131 : decode cX11_table 131 = .ok (.iconst 1, 1) := by decide +kernel
theorem dX11_table_132 : decode cX11_table 132 = .ok (.ireturn, 1) := by decide +kernel
theorem dX11_table_77 : decode cX11_table 77 = .ok (.iconst 0, 1) := by decide +kernel
theorem dX11_table_78 : decode cX11_table 78 = .ok (.ireturn, 1) := by decide +kernel
theorem dX11_table_69 : decode cX11_table 69 = .ok (.iconst 0, 1) := by decide +kernel
theorem dX11_table_7 : decode cX11_table 7 = .ok (.ifCond .eq 62, 3) := by decide +kernel
theorem dX11_table_10 : decode cX11_table 10 = .ok (.iload_n 2, 1) := by decide +kernel
theorem dX11_table_11 : decode cX11_table 11 = .ok (.iconst 0, 1) := by decide +kernel
theorem dX11_table_12 : decode cX11_table 12 = .ok (.sipush 2000, 3) := by decide +kernel
theorem dX11_table_15 : decode cX11_table 15 = .ok (.invokestatic 50, 3) := by decide +kernel
theorem dX11_table_18 : decode cX11_table 18 = .ok (.ifCond .eq 51, 3) := by decide +kernel
theorem dX11_table_21 : decode cX11_table 21 = .ok (.iload_n 3, 1) := by decide +kernel
theorem dX11_table_22 : decode cX11_table 22 = .ok (.iload_n 2, 1) := by decide +kernel
theorem dX11_table_23 : decode cX11_table 23 = .ok (.sipush 2000, 3) := by decide +kernel
theorem dX11_table_26 : decode cX11_table 26 = .ok (.invokestatic 50, 3) := by decide +kernel
theorem dX11_table_29 : decode cX11_table 29 = .ok (.ifCond .eq 40, 3) := by decide +kernel
theorem dX11_table_32 : decode cX11_table 32 = .ok (.iload 4, 2) := by decide +kernel
theorem dX11_table_34 : decode cX11_table 34 = .ok (.iconst 0, 1) := by decide +kernel
theorem dX11_table_35 : decode cX11_table 35 = .ok (.bipush 40, 2) := by decide +kernel
theorem dX11_table_37 : decode cX11_table 37 = .ok (.invokestatic 50, 3) := by decide +kernel
theorem dX11_table_40 : decode cX11_table 40 = .ok (.ifCond .eq 29, 3) := by decide +kernel
theorem dX11_table_43 : decode cX11_table 43 = .ok (.iload 5, 2) := by decide +kernel
theorem dX11_table_45 : decode cX11_table 45 = .ok (.iconst 0, 1) := by decide +kernel
theorem dX11_table_46 : decode cX11_table 46 = .ok (.bipush 50, 2) := by decide +kernel
theorem dX11_table_48 : decode cX11_table 48 = .ok (.invokestatic 50, 3) := by decide +kernel
theorem dX11_table_51 : decode cX11_table 51 = .ok (.ifCond .eq 18, 3) := by decide +kernel
theorem dX11_table_54 : decode cX11_table 54 = .ok (.iload 6, 2) := by decide +kernel
theorem dX11_table_56 : decode cX11_table 56 = .ok (.iconst 0, 1) := by decide +kernel
theorem dX11_table_57 : decode cX11_table 57 = .ok (.bipush 100, 2) := by decide +kernel
theorem dX11_table_59 : decode cX11_table 59 = .ok (.invokestatic 50, 3) := by decide +kernel
theorem dX11_table_62 : decode cX11_table 62 = .ok (.ifCond .eq 7, 3) := by decide +kernel
theorem dX11_table_65 : decode cX11_table 65 = .ok (.iconst 1, 1) := by decide +kernel
theorem dX11_table_66 : decode cX11_table 66 = .ok (.goto 4, 3) := by decide +kernel
theorem dX11_rules_0 : decode cX11_rules 0 = .ok (.iload_n 1, 1) := by decide +kernel
theorem dX11_rules_1 : decode cX11_rules 1 = .ok (.iconst 0, 1) := by decide +kernel
theorem dX11_rules_2 : decode cX11_rules 2 = .ok (.bipush 40, 2) := by decide +kernel
theorem dX11_rules_4 : decode cX11_rules 4 = .ok (.invokestatic 50, 3) := by decide +kernel
theorem dX11_rules_56 : decode cX11_rules 56 = .ok (.istore 6, 2) := by decide +kernel
theorem dX11_rules_58 : decode cX11_rules 58 = .ok (.iload 6, 2) := by decide +kernel
theorem dX11_rules_60 : decode cX11_rules 60 = .ok (.ifCond .ne 5, 3) := by decide +kernel
theorem dX11_rules_65 : decode cX11_rules 65 = .ok (.aload_n 0, 1) := by decide +kernel
theorem dX11_rules_66 : decode cX11_rules 66 = .ok (.getfield 10, 3) := by decide +kernel
theorem dX11_rules_69 : decode cX11_rules 69 = .ok (.getfield 70, 3) := by decide +kernel
theorem dX11_rules_72 : decode cX11_rules 72 = .ok (.astore 7, 2) := by decide +kernel
theorem dX11_rules_74 : decode cX11_rules 74 = .ok (.aload 7, 2) := by decide +kernel
theorem dX11_rules_76 : decode cX11_rules 76 = .ok (.iload_n 1, 1) := by decide +kernel
theorem tw_318 : Cond.fieldLink RX11 104 "RingsUnder$Seas" "bear" "I" ∈ wsL_law := List.mem_of_getElem? (i := 318) (by decide +kernel)
theorem dX11_rules_77 : decode cX11_rules 77 = .ok (.putfield 104, 3) := by decide +kernel
theorem dX11_rules_80 : decode cX11_rules 80 = .ok (.aload 7, 2) := by decide +kernel
theorem dX11_rules_82 : decode cX11_rules 82 = .ok (.iload_n 2, 1) := by decide +kernel
theorem tw_319 : Cond.fieldLink RX11 107 "RingsUnder$Seas" "grow" "I" ∈ wsL_law := List.mem_of_getElem? (i := 319) (by decide +kernel)
theorem dX11_rules_83 : decode cX11_rules 83 = .ok (.putfield 107, 3) := by decide +kernel
theorem dX11_rules_86 : decode cX11_rules 86 = .ok (.aload 7, 2) := by decide +kernel
theorem dX11_rules_88 : decode cX11_rules 88 = .ok (.iload_n 3, 1) := by decide +kernel
theorem tw_320 : Cond.fieldLink RX11 110 "RingsUnder$Seas" "die" "I" ∈ wsL_law := List.mem_of_getElem? (i := 320) (by decide +kernel)
theorem dX11_rules_89 : decode cX11_rules 89 = .ok (.putfield 110, 3) := by decide +kernel
theorem dX11_rules_92 : decode cX11_rules 92 = .ok (.aload 7, 2) := by decide +kernel
theorem dX11_rules_94 : decode cX11_rules 94 = .ok (.iload 4, 2) := by decide +kernel
theorem tw_321 : Cond.fieldLink RX11 113 "RingsUnder$Seas" "reach" "I" ∈ wsL_law := List.mem_of_getElem? (i := 321) (by decide +kernel)
theorem dX11_rules_96 : decode cX11_rules 96 = .ok (.putfield 113, 3) := by decide +kernel
theorem dX11_rules_99 : decode cX11_rules 99 = .ok (.aload 7, 2) := by decide +kernel
theorem dX11_rules_101 : decode cX11_rules 101 = .ok (.iload 5, 2) := by decide +kernel
theorem tw_322 : Cond.fieldLink RX11 116 "RingsUnder$Seas" "cost" "I" ∈ wsL_law := List.mem_of_getElem? (i := 322) (by decide +kernel)
theorem dX11_rules_103 : decode cX11_rules 103 = .ok (.putfield 116, 3) := by decide +kernel
theorem dX11_rules_106 : decode cX11_rules 106 = .ok (.iconst 1, 1) := by decide +kernel
theorem dX11_rules_107 : decode cX11_rules 107 = .ok (.ireturn, 1) := by decide +kernel
theorem dX11_rules_63 : decode cX11_rules 63 = .ok (.iconst 0, 1) := by decide +kernel
theorem dX11_rules_64 : decode cX11_rules 64 = .ok (.ireturn, 1) := by decide +kernel
theorem dX11_rules_55 : decode cX11_rules 55 = .ok (.iconst 0, 1) := by decide +kernel
theorem dX11_rules_7 : decode cX11_rules 7 = .ok (.ifCond .eq 48, 3) := by decide +kernel
theorem dX11_rules_10 : decode cX11_rules 10 = .ok (.iload_n 2, 1) := by decide +kernel
theorem dX11_rules_11 : decode cX11_rules 11 = .ok (.iconst 0, 1) := by decide +kernel
theorem dX11_rules_12 : decode cX11_rules 12 = .ok (.iconst 5, 1) := by decide +kernel
theorem dX11_rules_13 : decode cX11_rules 13 = .ok (.invokestatic 50, 3) := by decide +kernel
theorem dX11_rules_16 : decode cX11_rules 16 = .ok (.ifCond .eq 39, 3) := by decide +kernel
theorem dX11_rules_19 : decode cX11_rules 19 = .ok (.iload_n 3, 1) := by decide +kernel
theorem dX11_rules_20 : decode cX11_rules 20 = .ok (.iconst 0, 1) := by decide +kernel
theorem dX11_rules_21 : decode cX11_rules 21 = .ok (.bipush 50, 2) := by decide +kernel
theorem dX11_rules_23 : decode cX11_rules 23 = .ok (.invokestatic 50, 3) := by decide +kernel
theorem dX11_rules_26 : decode cX11_rules 26 = .ok (.ifCond .eq 29, 3) := by decide +kernel
theorem dX11_rules_29 : decode cX11_rules 29 = .ok (.iload 4, 2) := by decide +kernel
theorem dX11_rules_31 : decode cX11_rules 31 = .ok (.iconst 1, 1) := by decide +kernel
theorem dX11_rules_32 : decode cX11_rules 32 = .ok (.bipush 20, 2) := by decide +kernel
theorem dX11_rules_34 : decode cX11_rules 34 = .ok (.invokestatic 50, 3) := by decide +kernel
theorem dX11_rules_37 : decode cX11_rules 37 = .ok (.ifCond .eq 18, 3) := by decide +kernel
theorem dX11_rules_40 : decode cX11_rules 40 = .ok (.iload 5, 2) := by decide +kernel
theorem dX11_rules_42 : decode cX11_rules 42 = .ok (.iconst 0, 1) := by decide +kernel
theorem dX11_rules_43 : decode cX11_rules 43 = .ok (.bipush 100, 2) := by decide +kernel
theorem dX11_rules_45 : decode cX11_rules 45 = .ok (.invokestatic 50, 3) := by decide +kernel
theorem dX11_rules_48 : decode cX11_rules 48 = .ok (.ifCond .eq 7, 3) := by decide +kernel
theorem dX11_rules_51 : decode cX11_rules 51 = .ok (.iconst 1, 1) := by decide +kernel
theorem dX11_rules_52 : decode cX11_rules 52 = .ok (.goto 4, 3) := by decide +kernel
theorem dX11_isCell_0 : decode cX11_isCell 0 = .ok (.iload_n 1, 1) := by decide +kernel
theorem dX11_isCell_1 : decode cX11_isCell 1 = .ok (.iconst 0, 1) := by decide +kernel
theorem dX11_isCell_2 : decode cX11_isCell 2 = .ok (.aload_n 0, 1) := by decide +kernel
theorem dX11_isCell_3 : decode cX11_isCell 3 = .ok (.getfield 10, 3) := by decide +kernel
theorem dX11_isCell_6 : decode cX11_isCell 6 = .ok (.getfield 36, 3) := by decide +kernel
theorem dX11_isCell_9 : decode cX11_isCell 9 = .ok (.getfield 57, 3) := by decide +kernel
theorem dX11_isCell_12 : decode cX11_isCell 12 = .ok (.iconst 1, 1) := by decide +kernel
theorem dX11_isCell_13 : decode cX11_isCell 13 = .ok (.isub, 1) := by decide +kernel
theorem dX11_isCell_14 : decode cX11_isCell 14 = .ok (.invokestatic 50, 3) := by decide +kernel
theorem dX11_isCell_17 : decode cX11_isCell 17 = .ok (.ireturn, 1) := by decide +kernel
theorem dX11_wall_0 : decode cX11_wall 0 = .ok (.aload_n 0, 1) := by decide +kernel
theorem dX11_wall_1 : decode cX11_wall 1 = .ok (.iload_n 1, 1) := by decide +kernel
theorem tw_332 : Cond.methodLink RX11 119 yX11_isCell ∈ wsL_law := List.mem_of_getElem? (i := 332) (by decide +kernel)
theorem tw_333 : Cond.instanceMethod yX11_isCell ∈ wsL_law := List.mem_of_getElem? (i := 333) (by decide +kernel)
theorem tw_334 : Cond.selects RX11 yX11_isCell yX11_isCell ∈ wsL_law := List.mem_of_getElem? (i := 334) (by decide +kernel)
theorem tw_335 : Cond.code yX11_isCell cX11_isCell 2 (some .boolean) ∈ wsL_law := List.mem_of_getElem? (i := 335) (by decide +kernel)
theorem dX11_wall_2 : decode cX11_wall 2 = .ok (.invokevirtual 119, 3) := by decide +kernel
theorem dX11_wall_19 : decode cX11_wall 19 = .ok (.iconst 0, 1) := by decide +kernel
theorem dX11_wall_20 : decode cX11_wall 20 = .ok (.ireturn, 1) := by decide +kernel
theorem dX11_wall_5 : decode cX11_wall 5 = .ok (.ifCond .eq 14, 3) := by decide +kernel
theorem dX11_wall_8 : decode cX11_wall 8 = .ok (.iload_n 2, 1) := by decide +kernel
theorem dX11_wall_9 : decode cX11_wall 9 = .ok (.iconst 0, 1) := by decide +kernel
theorem dX11_wall_10 : decode cX11_wall 10 = .ok (.sipush 1000, 3) := by decide +kernel
theorem dX11_wall_13 : decode cX11_wall 13 = .ok (.invokestatic 50, 3) := by decide +kernel
theorem dX11_wall_16 : decode cX11_wall 16 = .ok (.ifCond .ne 5, 3) := by decide +kernel
theorem dX11_wall_21 : decode cX11_wall 21 = .ok (.aload_n 0, 1) := by decide +kernel
theorem dX11_wall_22 : decode cX11_wall 22 = .ok (.getfield 10, 3) := by decide +kernel
theorem dX11_wall_25 : decode cX11_wall 25 = .ok (.getfield 36, 3) := by decide +kernel
theorem tw_331 : Cond.fieldLink RX11 122 "RingsUnder$Land" "wall" "[I" ∈ wsL_law := List.mem_of_getElem? (i := 331) (by decide +kernel)
theorem dX11_wall_28 : decode cX11_wall 28 = .ok (.getfield 122, 3) := by decide +kernel
theorem dX11_wall_31 : decode cX11_wall 31 = .ok (.iload_n 1, 1) := by decide +kernel
theorem dX11_wall_32 : decode cX11_wall 32 = .ok (.iload_n 2, 1) := by decide +kernel
theorem dX11_wall_33 : decode cX11_wall 33 = .ok (.iastore, 1) := by decide +kernel
theorem dX11_wall_34 : decode cX11_wall 34 = .ok (.iconst 1, 1) := by decide +kernel
theorem dX11_wall_35 : decode cX11_wall 35 = .ok (.ireturn, 1) := by decide +kernel
theorem dX11_well_0 : decode cX11_well 0 = .ok (.aload_n 0, 1) := by decide +kernel
theorem dX11_well_1 : decode cX11_well 1 = .ok (.iload_n 1, 1) := by decide +kernel
theorem dX11_well_2 : decode cX11_well 2 = .ok (.invokevirtual 119, 3) := by decide +kernel
theorem dX11_well_45 : decode cX11_well 45 = .ok (.istore 5, 2) := by decide +kernel
theorem dX11_well_47 : decode cX11_well 47 = .ok (.iload 5, 2) := by decide +kernel
theorem dX11_well_69 : decode cX11_well 69 = .ok (.iconst 0, 1) := by decide +kernel
theorem dX11_well_70 : decode cX11_well 70 = .ok (.ireturn, 1) := by decide +kernel
theorem dX11_well_49 : decode cX11_well 49 = .ok (.ifCond .eq 20, 3) := by decide +kernel
theorem dX11_well_52 : decode cX11_well 52 = .ok (.aload_n 0, 1) := by decide +kernel
theorem dX11_well_53 : decode cX11_well 53 = .ok (.getfield 10, 3) := by decide +kernel
theorem dX11_well_56 : decode cX11_well 56 = .ok (.getfield 36, 3) := by decide +kernel
theorem tw_348 : Cond.fieldLink RX11 125 "RingsUnder$Land" "wells" "LRingsUnder$Wells;" ∈ wsL_law := List.mem_of_getElem? (i := 348) (by decide +kernel)
theorem dX11_well_59 : decode cX11_well 59 = .ok (.getfield 125, 3) := by decide +kernel
theorem dX11_well_62 : decode cX11_well 62 = .ok (.iload_n 1, 1) := by decide +kernel
theorem tw_349 : Cond.methodLink RX11 129 yX9_isAt ∈ wsL_law := List.mem_of_getElem? (i := 349) (by decide +kernel)
theorem dX11_well_63 : decode cX11_well 63 = .ok (.invokevirtual 129, 3) := by decide +kernel
theorem dX11_well_66 : decode cX11_well 66 = .ok (.ifCond .eq 5, 3) := by decide +kernel
theorem dX11_well_71 : decode cX11_well 71 = .ok (.aload_n 0, 1) := by decide +kernel
theorem dX11_well_72 : decode cX11_well 72 = .ok (.getfield 10, 3) := by decide +kernel
theorem dX11_well_75 : decode cX11_well 75 = .ok (.getfield 36, 3) := by decide +kernel
theorem dX11_well_78 : decode cX11_well 78 = .ok (.getfield 125, 3) := by decide +kernel
theorem dX11_well_81 : decode cX11_well 81 = .ok (.iload_n 1, 1) := by decide +kernel
theorem dX11_well_82 : decode cX11_well 82 = .ok (.iload_n 2, 1) := by decide +kernel
theorem dX11_well_83 : decode cX11_well 83 = .ok (.iload_n 3, 1) := by decide +kernel
theorem dX11_well_84 : decode cX11_well 84 = .ok (.iload 4, 2) := by decide +kernel
theorem tw_353 : Cond.methodLink RX11 134 yX9_dig ∈ wsL_law := List.mem_of_getElem? (i := 353) (by decide +kernel)
theorem tw_354 : Cond.instanceMethod yX9_dig ∈ wsL_law := List.mem_of_getElem? (i := 354) (by decide +kernel)
theorem tw_355 : Cond.selects RX9 yX9_dig yX9_dig ∈ wsL_law := List.mem_of_getElem? (i := 355) (by decide +kernel)
theorem tw_356 : Cond.code yX9_dig cX9_dig 5 none ∈ wsL_law := List.mem_of_getElem? (i := 356) (by decide +kernel)
theorem dX11_well_86 : decode cX11_well 86 = .ok (.invokevirtual 134, 3) := by decide +kernel
theorem dX11_well_89 : decode cX11_well 89 = .ok (.iconst 1, 1) := by decide +kernel
theorem dX11_well_90 : decode cX11_well 90 = .ok (.ireturn, 1) := by decide +kernel
theorem dX11_well_44 : decode cX11_well 44 = .ok (.iconst 0, 1) := by decide +kernel
theorem dX11_well_5 : decode cX11_well 5 = .ok (.ifCond .eq 39, 3) := by decide +kernel
theorem dX11_well_8 : decode cX11_well 8 = .ok (.iload_n 2, 1) := by decide +kernel
theorem dX11_well_9 : decode cX11_well 9 = .ok (.iconst 1, 1) := by decide +kernel
theorem dX11_well_10 : decode cX11_well 10 = .ok (.bipush 20, 2) := by decide +kernel
theorem dX11_well_12 : decode cX11_well 12 = .ok (.invokestatic 50, 3) := by decide +kernel
theorem dX11_well_15 : decode cX11_well 15 = .ok (.ifCond .eq 29, 3) := by decide +kernel
theorem dX11_well_18 : decode cX11_well 18 = .ok (.iload_n 3, 1) := by decide +kernel
theorem dX11_well_19 : decode cX11_well 19 = .ok (.iconst 0, 1) := by decide +kernel
theorem dX11_well_20 : decode cX11_well 20 = .ok (.sipush 10000, 3) := by decide +kernel
theorem dX11_well_23 : decode cX11_well 23 = .ok (.invokestatic 50, 3) := by decide +kernel
theorem dX11_well_26 : decode cX11_well 26 = .ok (.ifCond .eq 18, 3) := by decide +kernel
theorem dX11_well_29 : decode cX11_well 29 = .ok (.iload 4, 2) := by decide +kernel
theorem dX11_well_31 : decode cX11_well 31 = .ok (.iconst 0, 1) := by decide +kernel
theorem dX11_well_32 : decode cX11_well 32 = .ok (.bipush 100, 2) := by decide +kernel
theorem dX11_well_34 : decode cX11_well 34 = .ok (.invokestatic 50, 3) := by decide +kernel
theorem dX11_well_37 : decode cX11_well 37 = .ok (.ifCond .eq 7, 3) := by decide +kernel
theorem dX11_well_40 : decode cX11_well 40 = .ok (.iconst 1, 1) := by decide +kernel
theorem dX11_well_41 : decode cX11_well 41 = .ok (.goto 4, 3) := by decide +kernel
set_option maxHeartbeats 4000000 in
set_option maxRecDepth 100000 in
theorem s_X11_ring (l : Launch) (D : va_G) (t : pq_T) (σ : pq_S) (I : Nat → Nat → Int32) (J : Nat → Nat → Int64) (ri : Nat → Nat → Int32) (rj : Nat → Nat → Int64) (rq : Nat → Nat → Option Nat) (sz : Nat) (tg : Nat → Nat) (hSH : SH σ tg) (hG0 : GS tg σ I ri rq) (this : Nat) (hL_this : this ∈ σ.1) (hK_this : σ.2.1 this = 11) : MetI l yX11_ring (wa yX11_ring cX11_ring 2 (some .int)) ({ frames := 0, cells := 0, slots := 0, locals := 0 }) [.ref this] D t σ (I, J, ri, rj, rq) sz 0 0 (fun (r : Int32) (u : pq_S × pq_M) => ∃ I' : Nat → Nat → Int32, u = (σ, I', J, ri, rj, rq) ∧ GX [64] tg σ I ri rj I' ri rj rq ∧ rg r (-1) 4) := by
  refine Met.ofW (cc := cX11_ring) (maxL := 2) (ret := (some .int)) (by decide) rfl ?_
  intro p e s m args below meth c s₁ B hml hv
  obtain ⟨rfl, hsz, hP, hK, hD0, hN⟩ := hv
  have hx := B.exec
  have hb := B.bytes
  have hr := B.returns
  have hts := atoms_spec (ws := (wa yX11_ring cX11_ring 2 (some .int))) B.pre
  have hown : s.vm.findClass RX11 = some m.cls := findClass_of_methodNamed B.named
  have hlocks := B.notSynchronized
  subst hsz
  have hD : va_D (pq_B t σ (I, J, ri, rj, rq) s.heap.size) (pq_P t σ (I, J, ri, rj, rq)) := hD0.self
  generalize hAe : pq_B t σ (I, J, ri, rj, rq) s.heap.size = A at hD ⊢
  have hA : ∀ q : Nat, s.heap.size ≤ q → A q := fun q h => by rw [← hAe]; exact Or.inr h
  have hS : va_S A s.heap s.heap [] := va_S.rf
  have hG : GX [64] tg σ I ri rj I ri rj rq := ⟨hG0, fun _ _ _ => rfl, fun _ _ _ _ _ => rfl, fun _ _ _ _ _ => rfl⟩
  have hl := lv_entry ([.ref this]) (n := 2) (Nat.le_of_ble_eq_true rfl)
  rw [lg_entry_eq]
  generalize (lg_sl ([.ref this]) ++ List.replicate (2 - (lg_sl ([.ref this])).length) Slot.unset).toArray = ls at hl ⊢
  have hl : lv_has ls 2 [(0, .ref this)] := hl
  refine q_gen (fun Q hQ => ?_)
  have go : ∀ (H : Heap) (locs : List Loc) (ls : Array Slot), va_P D vwCl (pq_P t σ (I, J, ri, rj, rq)) H → va_D A (pq_P t σ (I, J, ri, rj, rq)) → va_S A s.heap H locs → lv_has ls 2 [(0, .ref this)] → W p l e ({ frames := 0, cells := 0, slots := 0, locals := 0 } : Room) s m (List.toArray ([.ref this] : List Value)) below meth c H locs 0 0 Q (F0 m 0 ls []) := by
    intro H locs ls hP hD hS hl
    refine lv_aload_n hx hb dX11_ring_0 rfl (lv_at hl 0 rfl) ?_
    obtain ⟨w_1, hR_w_1, hL_w_1, hK_w_1⟩ := sh_o hSH 352 (ci := 11) (kd := 10) rfl hL_this hK_this
    refine pg_f (v := .ref w_1) (C := RX11) (T := TX11) (N := 5) hx hb hts (tw_i inlX11) hown hK hP hL_this hK_this (by decide) rfl 0 (by decide) (hts _ (tw_c tw_16)) (pq_hv rfl hR_w_1) dX11_ring_1 ?_
    obtain ⟨w_2, hR_w_2, hL_w_2, hK_w_2⟩ := sh_o hSH 327 (ci := 10) (kd := 2) rfl hL_w_1 hK_w_1
    refine pg_f (v := .ref w_2) (C := RX10) (T := TX10) (N := 13) hx hb hts (tw_i inlX10) hown hK hP hL_w_1 hK_w_1 (by decide) rfl 7 (by decide) (hts _ (tw_c tw_199)) (pq_hv rfl hR_w_2) dX11_ring_4 ?_
    refine lv_astore_n (lv' := [(1, .ref w_2), (0, .ref this)]) hx hb dX11_ring_7 rfl hl (by decide) rfl (fun ls hl => ?_)
    refine lv_aload_n hx hb dX11_ring_8 rfl (lv_at hl 0 rfl) ?_
    refine pg_f (v := .int (I 64 w_2)) (C := RX2) (T := TX2) (N := 20) hx hb hts (tw_i inlX2) hown hK hP hL_w_2 hK_w_2 (by decide) rfl 0 (by decide) (hts _ (tw_c tw_200)) rfl dX11_ring_9 ?_
    have h_3 : rg (I 64 w_2) 0 5 := GX.rI hG 64 rfl
    refine lv_iconst (v := 5) hx hb dX11_ring_12 (by decide) ?_
    refine lv_icmp_lt (tgt := 18) hx hb dX11_ring_13 (by decide) (fun c_4 => ?_) (fun c_4 => ?_)
    · have h_5 : rg (I 64 w_2) 0 4 := rg_lt1 c_4 h_3 (rg_k (5 : Int32) 5 rfl) (by decide)
      refine lv_aload_n hx hb dX11_ring_18 rfl (lv_at hl 0 rfl) ?_
      refine lv_dup hx hb dX11_ring_19 rfl ?_
      refine pg_f (v := .int (I 64 w_2)) (C := RX2) (T := TX2) (N := 20) hx hb hts (tw_i inlX2) hown hK hP hL_w_2 hK_w_2 (by decide) rfl 0 (by decide) (hts _ (tw_c tw_200)) rfl dX11_ring_20 ?_
      refine lv_iconst (v := 1) hx hb dX11_ring_23 (by decide) ?_
      refine lv_iadd hx hb dX11_ring_24 ?_
      refine lv_topi (fun x_6 ex_6 => ?_)
      have h_7 : rg x_6 1 5 := rg_of_eq ex_6 (rg_add h_5 (rg_k (1 : Int32) 1 rfl) (by decide))
      refine pp_i (v := x_6) (ty := .int) (C := RX2) (T := TX2) (N := 20) hx hb hts (tw_i inlX2) tyX2 tyX2_ok nmX2 hown hK hP hD hS hL_w_2 hK_w_2 (by decide) rfl 0 64 (by decide) (hts _ (tw_c tw_200)) rfl (by decide +kernel) rfl rfl (Nat.le_of_ble_eq_true rfl) (ps_64 _ _ _ _ _) dX11_ring_25 (fun I_8 H locs eI_8 hP hD hS => ?_)
      have hG := GX.wI hG 64 rfl eI_8 (rg_w h_7 (by decide)) (by decide)
      refine lv_aload_n hx hb dX11_ring_28 rfl (lv_at hl 0 rfl) ?_
      refine pg_f (v := .int (I_8 64 w_2)) (C := RX2) (T := TX2) (N := 20) hx hb hts (tw_i inlX2) hown hK hP hL_w_2 hK_w_2 (by decide) rfl 0 (by decide) (hts _ (tw_c tw_200)) rfl dX11_ring_29 ?_
      have h_9 : rg (I_8 64 w_2) 1 5 := (by rw [eI_8, pq_us]; exact h_7)
      refine lv_iconst (v := 1) hx hb dX11_ring_32 (by decide) ?_
      refine lv_isub hx hb dX11_ring_33 ?_
      refine lv_topi (fun x_10 ex_10 => ?_)
      have h_11 : rg x_10 0 4 := rg_of_eq ex_10 (rg_sub h_9 (rg_k (1 : Int32) 1 rfl) (by decide))
      subst hQ
      exact W.iret (v := x_10) hx hb hr (fun t1 ht hW => ⟨⟨x_10, (σ, I_8, J, ri, rj, rq), rfl, ⟨I_8, rfl, hG, (rg_w h_11 (by decide))⟩, by rw [ht]; exact hP, va_K.moved hW.alike hK, hD⟩, hS.F ht⟩) hS.2.2 dX11_ring_34
    · have h_12 : rg (I 64 w_2) 5 5 := rg_le2 (nlt c_4) (rg_k (5 : Int32) 5 rfl) h_3 (by decide)
      refine lv_iconst (v := (-1)) hx hb dX11_ring_16 (by decide) ?_
      subst hQ
      exact W.iret (v := (-1)) hx hb hr (fun t1 ht hW => ⟨⟨(-1), (σ, I, J, ri, rj, rq), rfl, ⟨I, rfl, hG, (rg_w (rg_k (-1 : Int32) (-1) rfl) (by decide))⟩, by rw [ht]; exact hP, va_K.moved hW.alike hK, hD⟩, hS.F ht⟩) hS.2.2 dX11_ring_17
  exact go _ _ _ hP hD hS hl

set_option maxHeartbeats 4000000 in
set_option maxRecDepth 100000 in
theorem s_X11_between (l : Launch) (D : va_G) (t : pq_T) (σ : pq_S) (I : Nat → Nat → Int32) (J : Nat → Nat → Int64) (ri : Nat → Nat → Int32) (rj : Nat → Nat → Int64) (rq : Nat → Nat → Option Nat) (sz : Nat) (tg : Nat → Nat) (hSH : SH σ tg) (hG0 : GS tg σ I ri rq) (a0 : Int32) (a1 : Int32) (a2 : Int32) : MetI l yX11_between (wa yX11_between cX11_between 3 (some .boolean)) ({ frames := 0, cells := 0, slots := 0, locals := 0 }) [.int a0, .int a1, .int a2] D t σ (I, J, ri, rj, rq) sz 0 0 (fun (r : Int32) (u : pq_S × pq_M) => u = (σ, I, J, ri, rj, rq) ∧ ((r = 1 ∧ a1 ≤ a0 ∧ a0 ≤ a2) ∨ (r = 0 ∧ True))) := by
  refine Met.ofW (cc := cX11_between) (maxL := 3) (ret := (some .boolean)) (by decide) rfl ?_
  intro p e s m args below meth c s₁ B hml hv
  obtain ⟨rfl, hsz, hP, hK, hD0, hN⟩ := hv
  have hx := B.exec
  have hb := B.bytes
  have hr := B.returns
  have hts := atoms_spec (ws := (wa yX11_between cX11_between 3 (some .boolean))) B.pre
  have hown : s.vm.findClass RX11 = some m.cls := findClass_of_methodNamed B.named
  have hlocks := B.notSynchronized
  subst hsz
  have hD : va_D (pq_B t σ (I, J, ri, rj, rq) s.heap.size) (pq_P t σ (I, J, ri, rj, rq)) := hD0.self
  generalize hAe : pq_B t σ (I, J, ri, rj, rq) s.heap.size = A at hD ⊢
  have hA : ∀ q : Nat, s.heap.size ≤ q → A q := fun q h => by rw [← hAe]; exact Or.inr h
  have hS : va_S A s.heap s.heap [] := va_S.rf
  have hG : GX [] tg σ I ri rj I ri rj rq := ⟨hG0, fun _ _ _ => rfl, fun _ _ _ _ _ => rfl, fun _ _ _ _ _ => rfl⟩
  have hl := lv_entry ([.int a0, .int a1, .int a2]) (n := 3) (Nat.le_of_ble_eq_true rfl)
  rw [lg_entry_eq]
  generalize (lg_sl ([.int a0, .int a1, .int a2]) ++ List.replicate (3 - (lg_sl ([.int a0, .int a1, .int a2])).length) Slot.unset).toArray = ls at hl ⊢
  have hl : lv_has ls 3 [(0, .int a0), (1, .int a1), (2, .int a2)] := hl
  refine q_gen (fun Q hQ => ?_)
  have go : ∀ (H : Heap) (locs : List Loc) (ls : Array Slot), va_P D vwCl (pq_P t σ (I, J, ri, rj, rq)) H → va_D A (pq_P t σ (I, J, ri, rj, rq)) → va_S A s.heap H locs → lv_has ls 3 [(0, .int a0), (1, .int a1), (2, .int a2)] → W p l e ({ frames := 0, cells := 0, slots := 0, locals := 0 } : Room) s m (List.toArray ([.int a0, .int a1, .int a2] : List Value)) below meth c H locs 0 0 Q (F0 m 0 ls []) := by
    intro H locs ls hP hD hS hl
    refine lv_iload_n hx hb dX11_between_0 rfl (lv_at hl 0 rfl) ?_
    refine lv_iload_n hx hb dX11_between_1 rfl (lv_at hl 1 rfl) ?_
    have K_7 : ∀  (H : Heap) (locs : List Loc) (ls : Array Slot), GX [] tg σ I ri rj I ri rj rq → va_P D vwCl (pq_P t σ (I, J, ri, rj, rq)) H → va_D A (pq_P t σ (I, J, ri, rj, rq)) → va_S A s.heap H locs → lv_has ls 3 [] → W p l e ({ frames := 0, cells := 0, slots := 0, locals := 0 } : Room) s m (List.toArray ([.int a0, .int a1, .int a2] : List Value)) below meth c H locs 0 0 Q (F0 m 14 ls []) := by
      intro H locs ls hG hP hD hS hl
      refine lv_iconst (v := 0) hx hb dX11_between_14 (by decide) ?_
      subst hQ
      exact W.zret (v := 0) hx hb hr (by decide) (fun t1 ht hW => ⟨⟨0, (σ, I, J, ri, rj, rq), rfl, ⟨rfl, (Or.inr ⟨rfl, trivial⟩)⟩, by rw [ht]; exact hP, va_K.moved hW.alike hK, hD⟩, hS.F ht⟩) hS.2.2 dX11_between_15
    refine lv_icmp_lt (tgt := 14) hx hb dX11_between_2 (by decide) (fun c_8 => ?_) (fun c_8 => ?_)
    · have h_9 : rg a0 (-2147483648) 2147483646 := rg_lt1 c_8 (rg_full _) (rg_full _) (by decide)
      have h_10 : rg a1 (-2147483647) 2147483647 := rg_lt2 c_8 (rg_full _) (rg_full _) (by decide)
      exact K_7 _ _ _ hG hP hD hS (lv_sub hl [] rfl)
    · refine lv_iload_n hx hb dX11_between_5 rfl (lv_at hl 0 rfl) ?_
      refine lv_iload_n hx hb dX11_between_6 rfl (lv_at hl 2 rfl) ?_
      refine lv_icmp_gt (tgt := 14) hx hb dX11_between_7 (by decide) (fun c_11 => ?_) (fun c_11 => ?_)
      · have h_12 : rg a2 (-2147483648) 2147483646 := rg_lt1 c_11 (rg_full _) (rg_full _) (by decide)
        have h_13 : rg a0 (-2147483647) 2147483647 := rg_lt2 c_11 (rg_full _) (rg_full _) (by decide)
        exact K_7 _ _ _ hG hP hD hS (lv_sub hl [] rfl)
      · refine lv_iconst (v := 1) hx hb dX11_between_10 (by decide) ?_
        refine lv_goto (tgt := 15) hx hb dX11_between_11 (by decide) ?_
        subst hQ
        exact W.zret (v := 1) hx hb hr (by decide) (fun t1 ht hW => ⟨⟨1, (σ, I, J, ri, rj, rq), rfl, ⟨rfl, (Or.inl ⟨rfl, (nlt c_8), (nlt c_11)⟩)⟩, by rw [ht]; exact hP, va_K.moved hW.alike hK, hD⟩, hS.F ht⟩) hS.2.2 dX11_between_15
  exact go _ _ _ hP hD hS hl

set_option maxHeartbeats 4000000 in
set_option maxRecDepth 100000 in
theorem s_X11_isRing (l : Launch) (D : va_G) (t : pq_T) (σ : pq_S) (I : Nat → Nat → Int32) (J : Nat → Nat → Int64) (ri : Nat → Nat → Int32) (rj : Nat → Nat → Int64) (rq : Nat → Nat → Option Nat) (sz : Nat) (tg : Nat → Nat) (hSH : SH σ tg) (hG0 : GS tg σ I ri rq) (this : Nat) (a0 : Int32) (hL_this : this ∈ σ.1) (hK_this : σ.2.1 this = 11) : MetI l yX11_isRing (wa yX11_isRing cX11_isRing 2 (some .boolean)) ({ frames := 1, cells := 0, slots := 0, locals := 22 }) [.ref this, .int a0] D t σ (I, J, ri, rj, rq) sz 0 0 (fun (r : Int32) (u : pq_S × pq_M) => u = (σ, I, J, ri, rj, rq) ∧ ((r = 1 ∧ rg a0 0 4) ∨ (r = 0 ∧ True))) := by
  refine Met.ofW (cc := cX11_isRing) (maxL := 2) (ret := (some .boolean)) (by decide) rfl ?_
  intro p e s m args below meth c s₁ B hml hv
  obtain ⟨rfl, hsz, hP, hK, hD0, hN⟩ := hv
  have hx := B.exec
  have hb := B.bytes
  have hr := B.returns
  have hts := atoms_spec (ws := (wa yX11_isRing cX11_isRing 2 (some .boolean))) B.pre
  have hown : s.vm.findClass RX11 = some m.cls := findClass_of_methodNamed B.named
  have hlocks := B.notSynchronized
  subst hsz
  have hD : va_D (pq_B t σ (I, J, ri, rj, rq) s.heap.size) (pq_P t σ (I, J, ri, rj, rq)) := hD0.self
  generalize hAe : pq_B t σ (I, J, ri, rj, rq) s.heap.size = A at hD ⊢
  have hA : ∀ q : Nat, s.heap.size ≤ q → A q := fun q h => by rw [← hAe]; exact Or.inr h
  have hS : va_S A s.heap s.heap [] := va_S.rf
  have hG : GX [] tg σ I ri rj I ri rj rq := ⟨hG0, fun _ _ _ => rfl, fun _ _ _ _ _ => rfl, fun _ _ _ _ _ => rfl⟩
  have hl := lv_entry ([.ref this, .int a0]) (n := 2) (Nat.le_of_ble_eq_true rfl)
  rw [lg_entry_eq]
  generalize (lg_sl ([.ref this, .int a0]) ++ List.replicate (2 - (lg_sl ([.ref this, .int a0])).length) Slot.unset).toArray = ls at hl ⊢
  have hl : lv_has ls 2 [(0, .ref this), (1, .int a0)] := hl
  refine q_gen (fun Q hQ => ?_)
  have go : ∀ (H : Heap) (locs : List Loc) (ls : Array Slot), va_P D vwCl (pq_P t σ (I, J, ri, rj, rq)) H → va_D A (pq_P t σ (I, J, ri, rj, rq)) → va_S A s.heap H locs → lv_has ls 2 [(0, .ref this), (1, .int a0)] → W p l e ({ frames := 1, cells := 0, slots := 0, locals := 22 } : Room) s m (List.toArray ([.ref this, .int a0] : List Value)) below meth c H locs 0 0 Q (F0 m 0 ls []) := by
    intro H locs ls hP hD hS hl
    refine lv_iload_n hx hb dX11_isRing_0 rfl (lv_at hl 1 rfl) ?_
    refine lv_iconst (v := 0) hx hb dX11_isRing_1 (by decide) ?_
    refine lv_aload_n hx hb dX11_isRing_2 rfl (lv_at hl 0 rfl) ?_
    obtain ⟨w_1, hR_w_1, hL_w_1, hK_w_1⟩ := sh_o hSH 352 (ci := 11) (kd := 10) rfl hL_this hK_this
    refine pg_f (v := .ref w_1) (C := RX11) (T := TX11) (N := 5) hx hb hts (tw_i inlX11) hown hK hP hL_this hK_this (by decide) rfl 0 (by decide) (hts _ (tw_c tw_16)) (pq_hv rfl hR_w_1) dX11_isRing_3 ?_
    obtain ⟨w_2, hR_w_2, hL_w_2, hK_w_2⟩ := sh_o hSH 327 (ci := 10) (kd := 2) rfl hL_w_1 hK_w_1
    refine pg_f (v := .ref w_2) (C := RX10) (T := TX10) (N := 13) hx hb hts (tw_i inlX10) hown hK hP hL_w_1 hK_w_1 (by decide) rfl 7 (by decide) (hts _ (tw_c tw_199)) (pq_hv rfl hR_w_2) dX11_isRing_6 ?_
    refine pg_f (v := .int (I 64 w_2)) (C := RX2) (T := TX2) (N := 20) hx hb hts (tw_i inlX2) hown hK hP hL_w_2 hK_w_2 (by decide) rfl 0 (by decide) (hts _ (tw_c tw_200)) rfl dX11_isRing_9 ?_
    have h_3 : rg (I 64 w_2) 0 5 := GX.rI hG 64 rfl
    refine lv_iconst (v := 1) hx hb dX11_isRing_12 (by decide) ?_
    refine lv_isub hx hb dX11_isRing_13 ?_
    refine lv_topi (fun x_4 ex_4 => ?_)
    have h_5 : rg x_4 (-1) 4 := rg_of_eq ex_4 (rg_sub h_3 (rg_k (1 : Int32) 1 rfl) (by decide))
    refine pk_i (va_runS (As := [.int a0, .int 0, .int x_4]) (rest := []) ⟨hx, hb, hml, hown, hts⟩ (s_X11_between l D t σ I J ri rj rq H.size tg hSH hG.1 a0 (0 : Int32) x_4) (va_cwS 3 hts (tw_S tw_215 tw_216 tw_2 tw_217) rfl rfl rfl (by decide +kernel) ⟨Nat.le_of_ble_eq_true rfl, Nat.le_of_ble_eq_true rfl⟩) ⟨pq_blind, pq_pre hK hN hP hD⟩ rfl rfl hl.1 rfl (lv_room (Nat.le_of_ble_eq_true rfl)) dX11_isRing_14 ⟨Nat.le_of_ble_eq_true rfl, Nat.le_of_ble_eq_true rfl⟩) hD hS hA (fun x_6 σ1 μ1 H locs hw_7 hP hD hS => ?_)
    obtain ⟨hu_8, hr_10⟩ := hw_7
    obtain ⟨hu_8a, hu_8b⟩ := Prod.mk.inj hu_8
    rw [hu_8a, hu_8b] at hP hD
    have h_11 : rg x_6 0 1 := by rcases hr_10 with ⟨q, -⟩ | ⟨q, -⟩ <;> rw [q] <;> exact ⟨by decide, by decide⟩
    rcases hr_10 with ⟨e_15, f_12, f_13⟩ | ⟨e_15, f_14⟩
    · refine lv_tov 1 e_15 ?_
      have h_16 : rg a0 0 2147483647 := rg_le2 f_12 (rg_k (0 : Int32) 0 rfl) (rg_full _) (by decide)
      have h_17 : rg a0 0 4 := rg_le1 f_13 h_16 h_5 (by decide)
      have h_18 : rg x_4 0 4 := rg_le2 f_13 h_16 h_5 (by decide)
      subst hQ
      exact W.zret (v := 1) hx hb hr (by decide) (fun t1 ht hW => ⟨⟨1, (σ, I, J, ri, rj, rq), rfl, ⟨rfl, (Or.inl ⟨rfl, (rg_w h_17 (by decide))⟩)⟩, by rw [ht]; exact hP, va_K.moved hW.alike hK, hD⟩, hS.F ht⟩) hS.2.2 dX11_isRing_17
    · refine lv_tov 0 e_15 ?_
      subst hQ
      exact W.zret (v := 0) hx hb hr (by decide) (fun t1 ht hW => ⟨⟨0, (σ, I, J, ri, rj, rq), rfl, ⟨rfl, (Or.inr ⟨rfl, trivial⟩)⟩, by rw [ht]; exact hP, va_K.moved hW.alike hK, hD⟩, hS.F ht⟩) hS.2.2 dX11_isRing_17
  exact go _ _ _ hP hD hS hl

set_option maxHeartbeats 4000000 in
set_option maxRecDepth 100000 in
theorem s_X11_cell (l : Launch) (D : va_G) (t : pq_T) (σ : pq_S) (I : Nat → Nat → Int32) (J : Nat → Nat → Int64) (ri : Nat → Nat → Int32) (rj : Nat → Nat → Int64) (rq : Nat → Nat → Option Nat) (sz : Nat) (tg : Nat → Nat) (hSH : SH σ tg) (hG0 : GS tg σ I ri rq) (this : Nat) (a0 : Int32) (a1 : Int32) (a2 : Int32) (a3 : Int32) (a4 : Int32) (a5 : Int32) (hL_this : this ∈ σ.1) (hK_this : σ.2.1 this = 11) : MetI l yX11_cell (wa yX11_cell cX11_cell 8 (some .int)) ({ frames := 2, cells := 0, slots := 0, locals := 51 }) [.ref this, .int a0, .int a1, .int a2, .int a3, .int a4, .int a5] D t σ (I, J, ri, rj, rq) sz 0 0 (fun (r : Int32) (u : pq_S × pq_M) => ∃ I' : Nat → Nat → Int32, ∃ ri' : Nat → Nat → Int32, u = (σ, I', J, ri', rj, rq) ∧ GX [1069, 1070, 1073, 1074, 1079, 65] tg σ I ri rj I' ri' rj rq ∧ rg r (-1) 39) := by
  refine Met.ofW (cc := cX11_cell) (maxL := 8) (ret := (some .int)) (by decide) rfl ?_
  intro p e s m args below meth c s₁ B hml hv
  obtain ⟨rfl, hsz, hP, hK, hD0, hN⟩ := hv
  have hx := B.exec
  have hb := B.bytes
  have hr := B.returns
  have hts := atoms_spec (ws := (wa yX11_cell cX11_cell 8 (some .int))) B.pre
  have hown : s.vm.findClass RX11 = some m.cls := findClass_of_methodNamed B.named
  have hlocks := B.notSynchronized
  subst hsz
  have hD : va_D (pq_B t σ (I, J, ri, rj, rq) s.heap.size) (pq_P t σ (I, J, ri, rj, rq)) := hD0.self
  generalize hAe : pq_B t σ (I, J, ri, rj, rq) s.heap.size = A at hD ⊢
  have hA : ∀ q : Nat, s.heap.size ≤ q → A q := fun q h => by rw [← hAe]; exact Or.inr h
  have hS : va_S A s.heap s.heap [] := va_S.rf
  have hG : GX [1069, 1070, 1073, 1074, 1079, 65] tg σ I ri rj I ri rj rq := ⟨hG0, fun _ _ _ => rfl, fun _ _ _ _ _ => rfl, fun _ _ _ _ _ => rfl⟩
  have hl := lv_entry ([.ref this, .int a0, .int a1, .int a2, .int a3, .int a4, .int a5]) (n := 8) (Nat.le_of_ble_eq_true rfl)
  rw [lg_entry_eq]
  generalize (lg_sl ([.ref this, .int a0, .int a1, .int a2, .int a3, .int a4, .int a5]) ++ List.replicate (8 - (lg_sl ([.ref this, .int a0, .int a1, .int a2, .int a3, .int a4, .int a5])).length) Slot.unset).toArray = ls at hl ⊢
  have hl : lv_has ls 8 [(0, .ref this), (1, .int a0), (2, .int a1), (3, .int a2), (4, .int a3), (5, .int a4), (6, .int a5)] := hl
  refine q_gen (fun Q hQ => ?_)
  have go : ∀ (H : Heap) (locs : List Loc) (ls : Array Slot), va_P D vwCl (pq_P t σ (I, J, ri, rj, rq)) H → va_D A (pq_P t σ (I, J, ri, rj, rq)) → va_S A s.heap H locs → lv_has ls 8 [(0, .ref this), (1, .int a0), (2, .int a1), (3, .int a2), (4, .int a3), (5, .int a4), (6, .int a5)] → W p l e ({ frames := 2, cells := 0, slots := 0, locals := 51 } : Room) s m (List.toArray ([.ref this, .int a0, .int a1, .int a2, .int a3, .int a4, .int a5] : List Value)) below meth c H locs 0 0 Q (F0 m 0 ls []) := by
    intro H locs ls hP hD hS hl
    refine lv_aload_n hx hb dX11_cell_0 rfl (lv_at hl 0 rfl) ?_
    refine lv_iload_n hx hb dX11_cell_1 rfl (lv_at hl 1 rfl) ?_
    refine pk_i (va_runV (As := [.int a0]) (rest := []) ⟨hx, hb, hml, hown, hts⟩ (s_X11_isRing l D t σ I J ri rj rq H.size tg hSH hG.1 this a0 hL_this hK_this) (cwV 1 hts (tw_V tw_211 tw_212 tw_213 tw_2 tw_214) rfl rfl rfl (by decide +kernel) ⟨Nat.le_of_ble_eq_true rfl, Nat.le_of_ble_eq_true rfl⟩) ⟨pq_blind, pq_recv hK hP hL_this hK_this (by decide) rfl, pq_pre hK hN hP hD⟩ rfl rfl hl.1 rfl (lv_room (Nat.le_of_ble_eq_true rfl)) dX11_cell_2 ⟨Nat.le_of_ble_eq_true rfl, Nat.le_of_ble_eq_true rfl⟩) hD hS hA (fun x_1 σ1 μ1 H locs hw_2 hP hD hS => ?_)
    obtain ⟨hu_3, hr_5⟩ := hw_2
    obtain ⟨hu_3a, hu_3b⟩ := Prod.mk.inj hu_3
    rw [hu_3a, hu_3b] at hP hD
    have h_6 : rg x_1 0 1 := by rcases hr_5 with ⟨q, -⟩ | ⟨q, -⟩ <;> rw [q] <;> exact ⟨by decide, by decide⟩
    have K_108 : ∀  (H : Heap) (locs : List Loc) (ls : Array Slot), rg (a0) 0 4 → rg (a1) (-500) 3000 → rg (a2) 0 31 → rg (a3) 0 31 → rg (a4) 0 500 → rg (a5) 0 400 → rg (x_1) 1 1 → GX [1069, 1070, 1073, 1074, 1079, 65] tg σ I ri rj I ri rj rq → va_P D vwCl (pq_P t σ (I, J, ri, rj, rq)) H → va_D A (pq_P t σ (I, J, ri, rj, rq)) → va_S A s.heap H locs → lv_has ls 8 [(0, .ref this), (1, .int a0), (2, .int a1), (3, .int a2), (4, .int a3), (5, .int a4), (6, .int a5)] → W p l e ({ frames := 2, cells := 0, slots := 0, locals := 51 } : Room) s m (List.toArray ([.ref this, .int a0, .int a1, .int a2, .int a3, .int a4, .int a5] : List Value)) below meth c H locs 0 0 Q (F0 m 71 ls [.int 1]) := by
      intro H locs ls h_116 h_117 h_118 h_119 h_120 h_121 h_122 hG hP hD hS hl
      refine lv_istore (lv' := [(7, .int 1), (0, .ref this), (1, .int a0), (2, .int a1), (3, .int a2), (4, .int a3), (5, .int a4), (6, .int a5)]) hx hb dX11_cell_71 hl (by decide) rfl (fun ls hl => ?_)
      refine lv_iload hx hb dX11_cell_73 (lv_at hl 0 rfl) ?_
      have K_141 : ∀  (H : Heap) (locs : List Loc) (ls : Array Slot), GX [1069, 1070, 1073, 1074, 1079, 65] tg σ I ri rj I ri rj rq → va_P D vwCl (pq_P t σ (I, J, ri, rj, rq)) H → va_D A (pq_P t σ (I, J, ri, rj, rq)) → va_S A s.heap H locs → lv_has ls 8 [] → W p l e ({ frames := 2, cells := 0, slots := 0, locals := 51 } : Room) s m (List.toArray ([.ref this, .int a0, .int a1, .int a2, .int a3, .int a4, .int a5] : List Value)) below meth c H locs 0 0 Q (F0 m 103 ls []) := by
        intro H locs ls hG hP hD hS hl
        refine lv_iconst (v := (-1)) hx hb dX11_cell_103 (by decide) ?_
        subst hQ
        exact W.iret (v := (-1)) hx hb hr (fun t1 ht hW => ⟨⟨(-1), (σ, I, J, ri, rj, rq), rfl, ⟨I, ri, rfl, hG, (rg_w (rg_k (-1 : Int32) (-1) rfl) (by decide))⟩, by rw [ht]; exact hP, va_K.moved hW.alike hK, hD⟩, hS.F ht⟩) hS.2.2 dX11_cell_104
      refine lv_if_eq (tgt := 103) hx hb dX11_cell_75 (by decide) (fun c_142 => absurd c_142 (by decide)) (fun c_142 => ?_)
      refine lv_aload_n hx hb dX11_cell_78 rfl (lv_at hl 1 rfl) ?_
      obtain ⟨w_143, hR_w_143, hL_w_143, hK_w_143⟩ := sh_o hSH 352 (ci := 11) (kd := 10) rfl hL_this hK_this
      refine pg_f (v := .ref w_143) (C := RX11) (T := TX11) (N := 5) hx hb hts (tw_i inlX11) hown hK hP hL_this hK_this (by decide) rfl 0 (by decide) (hts _ (tw_c tw_16)) (pq_hv rfl hR_w_143) dX11_cell_79 ?_
      refine pg_f (v := .int (I 320 w_143)) (C := RX10) (T := TX10) (N := 13) hx hb hts (tw_i inlX10) hown hK hP hL_w_143 hK_w_143 (by decide) rfl 0 (by decide) (hts _ (tw_c tw_209)) rfl dX11_cell_82 ?_
      have h_144 : rg (I 320 w_143) 0 600 := GX.rI hG 320 rfl
      refine lv_if_gt (tgt := 103) hx hb dX11_cell_85 (by decide) (fun c_145 => ?_) (fun c_145 => ?_)
      · have h_146 : rg (I 320 w_143) 1 600 := rg_lt2 c_145 (rg_k (0 : Int32) 0 rfl) h_144 (by decide)
        exact K_141 _ _ _ hG hP hD hS (lv_sub hl [] rfl)
      · have h_147 : rg (I 320 w_143) 0 0 := rg_le1 (nlt c_145) h_144 (rg_k (0 : Int32) 0 rfl) (by decide)
        refine lv_aload_n hx hb dX11_cell_88 rfl (lv_at hl 1 rfl) ?_
        refine pg_f (v := .ref w_143) (C := RX11) (T := TX11) (N := 5) hx hb hts (tw_i inlX11) hown hK hP hL_this hK_this (by decide) rfl 0 (by decide) (hts _ (tw_c tw_16)) (pq_hv rfl hR_w_143) dX11_cell_89 ?_
        obtain ⟨w_148, hR_w_148, hL_w_148, hK_w_148⟩ := sh_o hSH 327 (ci := 10) (kd := 2) rfl hL_w_143 hK_w_143
        refine pg_f (v := .ref w_148) (C := RX10) (T := TX10) (N := 13) hx hb hts (tw_i inlX10) hown hK hP hL_w_143 hK_w_143 (by decide) rfl 7 (by decide) (hts _ (tw_c tw_199)) (pq_hv rfl hR_w_148) dX11_cell_92 ?_
        refine pg_f (v := .int (I 65 w_148)) (C := RX2) (T := TX2) (N := 20) hx hb hts (tw_i inlX2) hown hK hP hL_w_148 hK_w_148 (by decide) rfl 1 (by decide) (hts _ (tw_c tw_210)) rfl dX11_cell_95 ?_
        have h_149 : rg (I 65 w_148) 0 40 := GX.rI hG 65 rfl
        refine lv_bipush (v := 40) hx hb dX11_cell_98 (by decide) ?_
        refine lv_icmp_lt (tgt := 105) hx hb dX11_cell_100 (by decide) (fun c_150 => ?_) (fun c_150 => ?_)
        · have h_151 : rg (I 65 w_148) 0 39 := rg_lt1 c_150 h_149 (rg_k (40 : Int32) 40 rfl) (by decide)
          refine lv_aload_n hx hb dX11_cell_105 rfl (lv_at hl 1 rfl) ?_
          refine pg_f (v := .ref w_143) (C := RX11) (T := TX11) (N := 5) hx hb hts (tw_i inlX11) hown hK hP hL_this hK_this (by decide) rfl 0 (by decide) (hts _ (tw_c tw_16)) (pq_hv rfl hR_w_143) dX11_cell_106 ?_
          refine pg_f (v := .ref w_148) (C := RX10) (T := TX10) (N := 13) hx hb hts (tw_i inlX10) hown hK hP hL_w_143 hK_w_143 (by decide) rfl 7 (by decide) (hts _ (tw_c tw_199)) (pq_hv rfl hR_w_148) dX11_cell_109 ?_
          refine lv_iload_n hx hb dX11_cell_112 rfl (lv_at hl 2 rfl) ?_
          refine lv_iload_n hx hb dX11_cell_113 rfl (lv_at hl 3 rfl) ?_
          refine lv_iload_n hx hb dX11_cell_114 rfl (lv_at hl 4 rfl) ?_
          refine lv_iload hx hb dX11_cell_115 (lv_at hl 5 rfl) ?_
          refine lv_iload hx hb dX11_cell_117 (lv_at hl 6 rfl) ?_
          refine lv_iload hx hb dX11_cell_119 (lv_at hl 7 rfl) ?_
          refine pk_i (va_runV (As := [.int a0, .int a1, .int a2, .int a3, .int a4, .int a5]) (rest := []) ⟨hx, hb, hml, hown, hts⟩ (s_X2_addCell l D t σ I J ri rj rq H.size tg hSH hG.1 w_148 a0 a1 a2 a3 a4 a5 hL_w_148 hK_w_148 (rg_w h_116 (by decide)) (rg_w h_118 (by decide)) (rg_w h_119 (by decide))) (cwV 6 hts (tw_V tw_218 tw_219 tw_220 tw_41 tw_221) rfl rfl rfl (by decide +kernel) ⟨Nat.le_of_ble_eq_true rfl, Nat.le_of_ble_eq_true rfl⟩) ⟨pq_blind, pq_recv hK hP hL_w_148 hK_w_148 (by decide) rfl, pq_pre hK hN hP hD⟩ rfl rfl hl.1 rfl (lv_room (Nat.le_of_ble_eq_true rfl)) dX11_cell_121 ⟨Nat.le_of_ble_eq_true rfl, Nat.le_of_ble_eq_true rfl⟩) hD hS hA (fun x_152 σ1 μ1 H locs hw_153 hP hD hS => ?_)
          obtain ⟨I_154, ri_155, hu_156, hg_157, hr_158⟩ := hw_153
          obtain ⟨hu_156a, hu_156b⟩ := Prod.mk.inj hu_156
          rw [hu_156a, hu_156b] at hP hD
          have hG := GX.tr hG hg_157 (by decide)
          subst hQ
          exact W.iret (v := x_152) hx hb hr (fun t1 ht hW => ⟨⟨x_152, (σ, I_154, J, ri_155, rj, rq), rfl, ⟨I_154, ri_155, rfl, hG, (rg_w hr_158 (by decide))⟩, by rw [ht]; exact hP, va_K.moved hW.alike hK, hD⟩, hS.F ht⟩) hS.2.2 dX11_cell_124
        · have h_159 : rg (I 65 w_148) 40 40 := rg_le2 (nlt c_150) (rg_k (40 : Int32) 40 rfl) h_149 (by decide)
          exact K_141 _ _ _ hG hP hD hS (lv_sub hl [] rfl)
    have K_160 : ∀  (H : Heap) (locs : List Loc) (ls : Array Slot), GX [1069, 1070, 1073, 1074, 1079, 65] tg σ I ri rj I ri rj rq → va_P D vwCl (pq_P t σ (I, J, ri, rj, rq)) H → va_D A (pq_P t σ (I, J, ri, rj, rq)) → va_S A s.heap H locs → lv_has ls 8 [(0, .ref this), (1, .int a0), (2, .int a1), (3, .int a2), (4, .int a3), (5, .int a4), (6, .int a5)] → W p l e ({ frames := 2, cells := 0, slots := 0, locals := 51 } : Room) s m (List.toArray ([.ref this, .int a0, .int a1, .int a2, .int a3, .int a4, .int a5] : List Value)) below meth c H locs 0 0 Q (F0 m 71 ls [.int 0]) := by
      intro H locs ls hG hP hD hS hl
      refine lv_istore (lv' := [(7, .int 0), (0, .ref this), (1, .int a0), (2, .int a1), (3, .int a2), (4, .int a3), (5, .int a4), (6, .int a5)]) hx hb dX11_cell_71 hl (by decide) rfl (fun ls hl => ?_)
      refine lv_iload hx hb dX11_cell_73 (lv_at hl 0 rfl) ?_
      have K_162 : ∀  (H : Heap) (locs : List Loc) (ls : Array Slot), GX [1069, 1070, 1073, 1074, 1079, 65] tg σ I ri rj I ri rj rq → va_P D vwCl (pq_P t σ (I, J, ri, rj, rq)) H → va_D A (pq_P t σ (I, J, ri, rj, rq)) → va_S A s.heap H locs → lv_has ls 8 [] → W p l e ({ frames := 2, cells := 0, slots := 0, locals := 51 } : Room) s m (List.toArray ([.ref this, .int a0, .int a1, .int a2, .int a3, .int a4, .int a5] : List Value)) below meth c H locs 0 0 Q (F0 m 103 ls []) := by
        intro H locs ls hG hP hD hS hl
        refine lv_iconst (v := (-1)) hx hb dX11_cell_103 (by decide) ?_
        subst hQ
        exact W.iret (v := (-1)) hx hb hr (fun t1 ht hW => ⟨⟨(-1), (σ, I, J, ri, rj, rq), rfl, ⟨I, ri, rfl, hG, (rg_w (rg_k (-1 : Int32) (-1) rfl) (by decide))⟩, by rw [ht]; exact hP, va_K.moved hW.alike hK, hD⟩, hS.F ht⟩) hS.2.2 dX11_cell_104
      refine lv_if_eq (tgt := 103) hx hb dX11_cell_75 (by decide) (fun c_163 => ?_) (fun c_163 => absurd c_163 (by decide))
      exact K_162 _ _ _ hG hP hD hS (lv_sub hl [] rfl)
    have K_164 : ∀  (H : Heap) (locs : List Loc) (ls : Array Slot), GX [1069, 1070, 1073, 1074, 1079, 65] tg σ I ri rj I ri rj rq → va_P D vwCl (pq_P t σ (I, J, ri, rj, rq)) H → va_D A (pq_P t σ (I, J, ri, rj, rq)) → va_S A s.heap H locs → lv_has ls 8 [(0, .ref this), (1, .int a0), (2, .int a1), (3, .int a2), (4, .int a3), (5, .int a4), (6, .int a5)] → W p l e ({ frames := 2, cells := 0, slots := 0, locals := 51 } : Room) s m (List.toArray ([.ref this, .int a0, .int a1, .int a2, .int a3, .int a4, .int a5] : List Value)) below meth c H locs 0 0 Q (F0 m 70 ls []) := by
      intro H locs ls hG hP hD hS hl
      refine lv_iconst (v := 0) hx hb dX11_cell_70 (by decide) ?_
      exact K_160 _ _ _ hG hP hD hS (lv_sub hl [0, 1, 2, 3, 4, 5, 6] rfl)
    refine lv_if_eq (tgt := 70) hx hb dX11_cell_5 (by decide) (fun c_165 => ?_) (fun c_165 => ?_)
    · have f_166 := (hr_5.resolve_left (fun q => absurd (q.1.symm.trans c_165) (by decide))).2
      have h_167 : rg x_1 0 0 := rg_and h_6 (rg_of_eq c_165 (rg_k (0 : Int32) 0 rfl)) (by decide)
      exact K_164 _ _ _ hG hP hD hS (lv_sub hl [0, 1, 2, 3, 4, 5, 6] rfl)
    · have f_168 := (hr_5.resolve_right (fun q => c_165 q.1)).2
      have h_169 : rg x_1 1 1 := rg_ne c_165 h_6 0 rfl (by decide)
      refine lv_iload_n hx hb dX11_cell_8 rfl (lv_at hl 2 rfl) ?_
      refine lv_sipush (v := (-500)) hx hb dX11_cell_9 (by decide) ?_
      refine lv_sipush (v := 3000) hx hb dX11_cell_12 (by decide) ?_
      refine pk_i (va_runS (As := [.int a1, .int (-500), .int 3000]) (rest := []) ⟨hx, hb, hml, hown, hts⟩ (s_X11_between l D t σ I J ri rj rq H.size tg hSH hG.1 a1 (-500 : Int32) (3000 : Int32)) (va_cwS 3 hts (tw_S tw_215 tw_216 tw_2 tw_217) rfl rfl rfl (by decide +kernel) ⟨Nat.le_of_ble_eq_true rfl, Nat.le_of_ble_eq_true rfl⟩) ⟨pq_blind, pq_pre hK hN hP hD⟩ rfl rfl hl.1 rfl (lv_room (Nat.le_of_ble_eq_true rfl)) dX11_cell_15 ⟨Nat.le_of_ble_eq_true rfl, Nat.le_of_ble_eq_true rfl⟩) hD hS hA (fun x_170 σ1 μ1 H locs hw_171 hP hD hS => ?_)
      obtain ⟨hu_172, hr_174⟩ := hw_171
      obtain ⟨hu_172a, hu_172b⟩ := Prod.mk.inj hu_172
      rw [hu_172a, hu_172b] at hP hD
      have h_175 : rg x_170 0 1 := by rcases hr_174 with ⟨q, -⟩ | ⟨q, -⟩ <;> rw [q] <;> exact ⟨by decide, by decide⟩
      refine lv_if_eq (tgt := 70) hx hb dX11_cell_18 (by decide) (fun c_176 => ?_) (fun c_176 => ?_)
      · have f_177 := (hr_174.resolve_left (fun q => absurd (q.1.symm.trans c_176) (by decide))).2
        have h_178 : rg x_170 0 0 := rg_and h_175 (rg_of_eq c_176 (rg_k (0 : Int32) 0 rfl)) (by decide)
        exact K_164 _ _ _ hG hP hD hS (lv_sub hl [0, 1, 2, 3, 4, 5, 6] rfl)
      · obtain ⟨f_179, f_180⟩ := (hr_174.resolve_right (fun q => c_176 q.1)).2
        have h_181 : rg a1 (-500) 2147483647 := rg_le2 f_179 (rg_k (-500 : Int32) (-500) rfl) (rg_full _) (by decide)
        have h_182 : rg a1 (-500) 3000 := rg_le1 f_180 h_181 (rg_k (3000 : Int32) 3000 rfl) (by decide)
        have h_183 : rg x_170 1 1 := rg_ne c_176 h_175 0 rfl (by decide)
        refine lv_iload_n hx hb dX11_cell_21 rfl (lv_at hl 3 rfl) ?_
        refine lv_iconst (v := 0) hx hb dX11_cell_22 (by decide) ?_
        refine lv_bipush (v := 31) hx hb dX11_cell_23 (by decide) ?_
        refine pk_i (va_runS (As := [.int a2, .int 0, .int 31]) (rest := []) ⟨hx, hb, hml, hown, hts⟩ (s_X11_between l D t σ I J ri rj rq H.size tg hSH hG.1 a2 (0 : Int32) (31 : Int32)) (va_cwS 3 hts (tw_S tw_215 tw_216 tw_2 tw_217) rfl rfl rfl (by decide +kernel) ⟨Nat.le_of_ble_eq_true rfl, Nat.le_of_ble_eq_true rfl⟩) ⟨pq_blind, pq_pre hK hN hP hD⟩ rfl rfl hl.1 rfl (lv_room (Nat.le_of_ble_eq_true rfl)) dX11_cell_25 ⟨Nat.le_of_ble_eq_true rfl, Nat.le_of_ble_eq_true rfl⟩) hD hS hA (fun x_184 σ1 μ1 H locs hw_185 hP hD hS => ?_)
        obtain ⟨hu_186, hr_188⟩ := hw_185
        obtain ⟨hu_186a, hu_186b⟩ := Prod.mk.inj hu_186
        rw [hu_186a, hu_186b] at hP hD
        have h_189 : rg x_184 0 1 := by rcases hr_188 with ⟨q, -⟩ | ⟨q, -⟩ <;> rw [q] <;> exact ⟨by decide, by decide⟩
        refine lv_if_eq (tgt := 70) hx hb dX11_cell_28 (by decide) (fun c_190 => ?_) (fun c_190 => ?_)
        · have f_191 := (hr_188.resolve_left (fun q => absurd (q.1.symm.trans c_190) (by decide))).2
          have h_192 : rg x_184 0 0 := rg_and h_189 (rg_of_eq c_190 (rg_k (0 : Int32) 0 rfl)) (by decide)
          exact K_164 _ _ _ hG hP hD hS (lv_sub hl [0, 1, 2, 3, 4, 5, 6] rfl)
        · obtain ⟨f_193, f_194⟩ := (hr_188.resolve_right (fun q => c_190 q.1)).2
          have h_195 : rg a2 0 2147483647 := rg_le2 f_193 (rg_k (0 : Int32) 0 rfl) (rg_full _) (by decide)
          have h_196 : rg a2 0 31 := rg_le1 f_194 h_195 (rg_k (31 : Int32) 31 rfl) (by decide)
          have h_197 : rg x_184 1 1 := rg_ne c_190 h_189 0 rfl (by decide)
          refine lv_iload hx hb dX11_cell_31 (lv_at hl 4 rfl) ?_
          refine lv_iconst (v := 0) hx hb dX11_cell_33 (by decide) ?_
          refine lv_bipush (v := 31) hx hb dX11_cell_34 (by decide) ?_
          refine pk_i (va_runS (As := [.int a3, .int 0, .int 31]) (rest := []) ⟨hx, hb, hml, hown, hts⟩ (s_X11_between l D t σ I J ri rj rq H.size tg hSH hG.1 a3 (0 : Int32) (31 : Int32)) (va_cwS 3 hts (tw_S tw_215 tw_216 tw_2 tw_217) rfl rfl rfl (by decide +kernel) ⟨Nat.le_of_ble_eq_true rfl, Nat.le_of_ble_eq_true rfl⟩) ⟨pq_blind, pq_pre hK hN hP hD⟩ rfl rfl hl.1 rfl (lv_room (Nat.le_of_ble_eq_true rfl)) dX11_cell_36 ⟨Nat.le_of_ble_eq_true rfl, Nat.le_of_ble_eq_true rfl⟩) hD hS hA (fun x_198 σ1 μ1 H locs hw_199 hP hD hS => ?_)
          obtain ⟨hu_200, hr_202⟩ := hw_199
          obtain ⟨hu_200a, hu_200b⟩ := Prod.mk.inj hu_200
          rw [hu_200a, hu_200b] at hP hD
          have h_203 : rg x_198 0 1 := by rcases hr_202 with ⟨q, -⟩ | ⟨q, -⟩ <;> rw [q] <;> exact ⟨by decide, by decide⟩
          refine lv_if_eq (tgt := 70) hx hb dX11_cell_39 (by decide) (fun c_204 => ?_) (fun c_204 => ?_)
          · have f_205 := (hr_202.resolve_left (fun q => absurd (q.1.symm.trans c_204) (by decide))).2
            have h_206 : rg x_198 0 0 := rg_and h_203 (rg_of_eq c_204 (rg_k (0 : Int32) 0 rfl)) (by decide)
            exact K_164 _ _ _ hG hP hD hS (lv_sub hl [0, 1, 2, 3, 4, 5, 6] rfl)
          · obtain ⟨f_207, f_208⟩ := (hr_202.resolve_right (fun q => c_204 q.1)).2
            have h_209 : rg a3 0 2147483647 := rg_le2 f_207 (rg_k (0 : Int32) 0 rfl) (rg_full _) (by decide)
            have h_210 : rg a3 0 31 := rg_le1 f_208 h_209 (rg_k (31 : Int32) 31 rfl) (by decide)
            have h_211 : rg x_198 1 1 := rg_ne c_204 h_203 0 rfl (by decide)
            refine lv_iload hx hb dX11_cell_42 (lv_at hl 5 rfl) ?_
            refine lv_iconst (v := 0) hx hb dX11_cell_44 (by decide) ?_
            refine lv_sipush (v := 500) hx hb dX11_cell_45 (by decide) ?_
            refine pk_i (va_runS (As := [.int a4, .int 0, .int 500]) (rest := []) ⟨hx, hb, hml, hown, hts⟩ (s_X11_between l D t σ I J ri rj rq H.size tg hSH hG.1 a4 (0 : Int32) (500 : Int32)) (va_cwS 3 hts (tw_S tw_215 tw_216 tw_2 tw_217) rfl rfl rfl (by decide +kernel) ⟨Nat.le_of_ble_eq_true rfl, Nat.le_of_ble_eq_true rfl⟩) ⟨pq_blind, pq_pre hK hN hP hD⟩ rfl rfl hl.1 rfl (lv_room (Nat.le_of_ble_eq_true rfl)) dX11_cell_48 ⟨Nat.le_of_ble_eq_true rfl, Nat.le_of_ble_eq_true rfl⟩) hD hS hA (fun x_212 σ1 μ1 H locs hw_213 hP hD hS => ?_)
            obtain ⟨hu_214, hr_216⟩ := hw_213
            obtain ⟨hu_214a, hu_214b⟩ := Prod.mk.inj hu_214
            rw [hu_214a, hu_214b] at hP hD
            have h_217 : rg x_212 0 1 := by rcases hr_216 with ⟨q, -⟩ | ⟨q, -⟩ <;> rw [q] <;> exact ⟨by decide, by decide⟩
            refine lv_if_eq (tgt := 70) hx hb dX11_cell_51 (by decide) (fun c_218 => ?_) (fun c_218 => ?_)
            · have f_219 := (hr_216.resolve_left (fun q => absurd (q.1.symm.trans c_218) (by decide))).2
              have h_220 : rg x_212 0 0 := rg_and h_217 (rg_of_eq c_218 (rg_k (0 : Int32) 0 rfl)) (by decide)
              exact K_164 _ _ _ hG hP hD hS (lv_sub hl [0, 1, 2, 3, 4, 5, 6] rfl)
            · obtain ⟨f_221, f_222⟩ := (hr_216.resolve_right (fun q => c_218 q.1)).2
              have h_223 : rg a4 0 2147483647 := rg_le2 f_221 (rg_k (0 : Int32) 0 rfl) (rg_full _) (by decide)
              have h_224 : rg a4 0 500 := rg_le1 f_222 h_223 (rg_k (500 : Int32) 500 rfl) (by decide)
              have h_225 : rg x_212 1 1 := rg_ne c_218 h_217 0 rfl (by decide)
              refine lv_iload hx hb dX11_cell_54 (lv_at hl 6 rfl) ?_
              refine lv_iconst (v := 0) hx hb dX11_cell_56 (by decide) ?_
              refine lv_sipush (v := 400) hx hb dX11_cell_57 (by decide) ?_
              refine pk_i (va_runS (As := [.int a5, .int 0, .int 400]) (rest := []) ⟨hx, hb, hml, hown, hts⟩ (s_X11_between l D t σ I J ri rj rq H.size tg hSH hG.1 a5 (0 : Int32) (400 : Int32)) (va_cwS 3 hts (tw_S tw_215 tw_216 tw_2 tw_217) rfl rfl rfl (by decide +kernel) ⟨Nat.le_of_ble_eq_true rfl, Nat.le_of_ble_eq_true rfl⟩) ⟨pq_blind, pq_pre hK hN hP hD⟩ rfl rfl hl.1 rfl (lv_room (Nat.le_of_ble_eq_true rfl)) dX11_cell_60 ⟨Nat.le_of_ble_eq_true rfl, Nat.le_of_ble_eq_true rfl⟩) hD hS hA (fun x_226 σ1 μ1 H locs hw_227 hP hD hS => ?_)
              obtain ⟨hu_228, hr_230⟩ := hw_227
              obtain ⟨hu_228a, hu_228b⟩ := Prod.mk.inj hu_228
              rw [hu_228a, hu_228b] at hP hD
              have h_231 : rg x_226 0 1 := by rcases hr_230 with ⟨q, -⟩ | ⟨q, -⟩ <;> rw [q] <;> exact ⟨by decide, by decide⟩
              refine lv_if_eq (tgt := 70) hx hb dX11_cell_63 (by decide) (fun c_232 => ?_) (fun c_232 => ?_)
              · have f_233 := (hr_230.resolve_left (fun q => absurd (q.1.symm.trans c_232) (by decide))).2
                have h_234 : rg x_226 0 0 := rg_and h_231 (rg_of_eq c_232 (rg_k (0 : Int32) 0 rfl)) (by decide)
                exact K_164 _ _ _ hG hP hD hS (lv_sub hl [0, 1, 2, 3, 4, 5, 6] rfl)
              · obtain ⟨f_235, f_236⟩ := (hr_230.resolve_right (fun q => c_232 q.1)).2
                have h_237 : rg a5 0 2147483647 := rg_le2 f_235 (rg_k (0 : Int32) 0 rfl) (rg_full _) (by decide)
                have h_238 : rg a5 0 400 := rg_le1 f_236 h_237 (rg_k (400 : Int32) 400 rfl) (by decide)
                have h_239 : rg x_226 1 1 := rg_ne c_232 h_231 0 rfl (by decide)
                refine lv_iconst (v := 1) hx hb dX11_cell_66 (by decide) ?_
                refine lv_goto (tgt := 71) hx hb dX11_cell_67 (by decide) ?_
                exact K_108 _ _ _ (rg_w f_168 (by decide)) (rg_w h_182 (by decide)) (rg_w h_196 (by decide)) (rg_w h_210 (by decide)) (rg_w h_224 (by decide)) (rg_w h_238 (by decide)) (rg_w h_169 (by decide)) hG hP hD hS (lv_sub hl [0, 1, 2, 3, 4, 5, 6] rfl)
  exact go _ _ _ hP hD hS hl

set_option maxHeartbeats 4000000 in
set_option maxRecDepth 100000 in
theorem s_X11_isRise (l : Launch) (D : va_G) (t : pq_T) (σ : pq_S) (I : Nat → Nat → Int32) (J : Nat → Nat → Int64) (ri : Nat → Nat → Int32) (rj : Nat → Nat → Int64) (rq : Nat → Nat → Option Nat) (sz : Nat) (tg : Nat → Nat) (hSH : SH σ tg) (hG0 : GS tg σ I ri rq) (a0 : Int32) : MetI l yX11_isRise (wa yX11_isRise cX11_isRise 1 (some .boolean)) ({ frames := 1, cells := 0, slots := 0, locals := 22 }) [.int a0] D t σ (I, J, ri, rj, rq) sz 0 0 (fun (r : Int32) (u : pq_S × pq_M) => u = (σ, I, J, ri, rj, rq) ∧ ((r = 1 ∧ rg a0 0 2) ∨ (r = 0 ∧ True))) := by
  refine Met.ofW (cc := cX11_isRise) (maxL := 1) (ret := (some .boolean)) (by decide) rfl ?_
  intro p e s m args below meth c s₁ B hml hv
  obtain ⟨rfl, hsz, hP, hK, hD0, hN⟩ := hv
  have hx := B.exec
  have hb := B.bytes
  have hr := B.returns
  have hts := atoms_spec (ws := (wa yX11_isRise cX11_isRise 1 (some .boolean))) B.pre
  have hown : s.vm.findClass RX11 = some m.cls := findClass_of_methodNamed B.named
  have hlocks := B.notSynchronized
  subst hsz
  have hD : va_D (pq_B t σ (I, J, ri, rj, rq) s.heap.size) (pq_P t σ (I, J, ri, rj, rq)) := hD0.self
  generalize hAe : pq_B t σ (I, J, ri, rj, rq) s.heap.size = A at hD ⊢
  have hA : ∀ q : Nat, s.heap.size ≤ q → A q := fun q h => by rw [← hAe]; exact Or.inr h
  have hS : va_S A s.heap s.heap [] := va_S.rf
  have hG : GX [] tg σ I ri rj I ri rj rq := ⟨hG0, fun _ _ _ => rfl, fun _ _ _ _ _ => rfl, fun _ _ _ _ _ => rfl⟩
  have hl := lv_entry ([.int a0]) (n := 1) (Nat.le_of_ble_eq_true rfl)
  rw [lg_entry_eq]
  generalize (lg_sl ([.int a0]) ++ List.replicate (1 - (lg_sl ([.int a0])).length) Slot.unset).toArray = ls at hl ⊢
  have hl : lv_has ls 1 [(0, .int a0)] := hl
  refine q_gen (fun Q hQ => ?_)
  have go : ∀ (H : Heap) (locs : List Loc) (ls : Array Slot), va_P D vwCl (pq_P t σ (I, J, ri, rj, rq)) H → va_D A (pq_P t σ (I, J, ri, rj, rq)) → va_S A s.heap H locs → lv_has ls 1 [(0, .int a0)] → W p l e ({ frames := 1, cells := 0, slots := 0, locals := 22 } : Room) s m (List.toArray ([.int a0] : List Value)) below meth c H locs 0 0 Q (F0 m 0 ls []) := by
    intro H locs ls hP hD hS hl
    refine lv_iload_n hx hb dX11_isRise_0 rfl (lv_at hl 0 rfl) ?_
    refine lv_iconst (v := 0) hx hb dX11_isRise_1 (by decide) ?_
    refine lv_iconst (v := 2) hx hb dX11_isRise_2 (by decide) ?_
    refine pk_i (va_runS (As := [.int a0, .int 0, .int 2]) (rest := []) ⟨hx, hb, hml, hown, hts⟩ (s_X11_between l D t σ I J ri rj rq H.size tg hSH hG.1 a0 (0 : Int32) (2 : Int32)) (va_cwS 3 hts (tw_S tw_215 tw_216 tw_2 tw_217) rfl rfl rfl (by decide +kernel) ⟨Nat.le_of_ble_eq_true rfl, Nat.le_of_ble_eq_true rfl⟩) ⟨pq_blind, pq_pre hK hN hP hD⟩ rfl rfl hl.1 rfl (lv_room (Nat.le_of_ble_eq_true rfl)) dX11_isRise_3 ⟨Nat.le_of_ble_eq_true rfl, Nat.le_of_ble_eq_true rfl⟩) hD hS hA (fun x_1 σ1 μ1 H locs hw_2 hP hD hS => ?_)
    obtain ⟨hu_3, hr_5⟩ := hw_2
    obtain ⟨hu_3a, hu_3b⟩ := Prod.mk.inj hu_3
    rw [hu_3a, hu_3b] at hP hD
    have h_6 : rg x_1 0 1 := by rcases hr_5 with ⟨q, -⟩ | ⟨q, -⟩ <;> rw [q] <;> exact ⟨by decide, by decide⟩
    rcases hr_5 with ⟨e_10, f_7, f_8⟩ | ⟨e_10, f_9⟩
    · refine lv_tov 1 e_10 ?_
      have h_11 : rg a0 0 2147483647 := rg_le2 f_7 (rg_k (0 : Int32) 0 rfl) (rg_full _) (by decide)
      have h_12 : rg a0 0 2 := rg_le1 f_8 h_11 (rg_k (2 : Int32) 2 rfl) (by decide)
      subst hQ
      exact W.zret (v := 1) hx hb hr (by decide) (fun t1 ht hW => ⟨⟨1, (σ, I, J, ri, rj, rq), rfl, ⟨rfl, (Or.inl ⟨rfl, (rg_w h_12 (by decide))⟩)⟩, by rw [ht]; exact hP, va_K.moved hW.alike hK, hD⟩, hS.F ht⟩) hS.2.2 dX11_isRise_6
    · refine lv_tov 0 e_10 ?_
      subst hQ
      exact W.zret (v := 0) hx hb hr (by decide) (fun t1 ht hW => ⟨⟨0, (σ, I, J, ri, rj, rq), rfl, ⟨rfl, (Or.inr ⟨rfl, trivial⟩)⟩, by rw [ht]; exact hP, va_K.moved hW.alike hK, hD⟩, hS.F ht⟩) hS.2.2 dX11_isRise_6
  exact go _ _ _ hP hD hS hl

set_option maxHeartbeats 4000000 in
set_option maxRecDepth 100000 in
theorem s_X11_isMonth (l : Launch) (D : va_G) (t : pq_T) (σ : pq_S) (I : Nat → Nat → Int32) (J : Nat → Nat → Int64) (ri : Nat → Nat → Int32) (rj : Nat → Nat → Int64) (rq : Nat → Nat → Option Nat) (sz : Nat) (tg : Nat → Nat) (hSH : SH σ tg) (hG0 : GS tg σ I ri rq) (a0 : Int32) : MetI l yX11_isMonth (wa yX11_isMonth cX11_isMonth 1 (some .boolean)) ({ frames := 1, cells := 0, slots := 0, locals := 22 }) [.int a0] D t σ (I, J, ri, rj, rq) sz 0 0 (fun (r : Int32) (u : pq_S × pq_M) => u = (σ, I, J, ri, rj, rq) ∧ ((r = 1 ∧ rg a0 0 599) ∨ (r = 0 ∧ True))) := by
  refine Met.ofW (cc := cX11_isMonth) (maxL := 1) (ret := (some .boolean)) (by decide) rfl ?_
  intro p e s m args below meth c s₁ B hml hv
  obtain ⟨rfl, hsz, hP, hK, hD0, hN⟩ := hv
  have hx := B.exec
  have hb := B.bytes
  have hr := B.returns
  have hts := atoms_spec (ws := (wa yX11_isMonth cX11_isMonth 1 (some .boolean))) B.pre
  have hown : s.vm.findClass RX11 = some m.cls := findClass_of_methodNamed B.named
  have hlocks := B.notSynchronized
  subst hsz
  have hD : va_D (pq_B t σ (I, J, ri, rj, rq) s.heap.size) (pq_P t σ (I, J, ri, rj, rq)) := hD0.self
  generalize hAe : pq_B t σ (I, J, ri, rj, rq) s.heap.size = A at hD ⊢
  have hA : ∀ q : Nat, s.heap.size ≤ q → A q := fun q h => by rw [← hAe]; exact Or.inr h
  have hS : va_S A s.heap s.heap [] := va_S.rf
  have hG : GX [] tg σ I ri rj I ri rj rq := ⟨hG0, fun _ _ _ => rfl, fun _ _ _ _ _ => rfl, fun _ _ _ _ _ => rfl⟩
  have hl := lv_entry ([.int a0]) (n := 1) (Nat.le_of_ble_eq_true rfl)
  rw [lg_entry_eq]
  generalize (lg_sl ([.int a0]) ++ List.replicate (1 - (lg_sl ([.int a0])).length) Slot.unset).toArray = ls at hl ⊢
  have hl : lv_has ls 1 [(0, .int a0)] := hl
  refine q_gen (fun Q hQ => ?_)
  have go : ∀ (H : Heap) (locs : List Loc) (ls : Array Slot), va_P D vwCl (pq_P t σ (I, J, ri, rj, rq)) H → va_D A (pq_P t σ (I, J, ri, rj, rq)) → va_S A s.heap H locs → lv_has ls 1 [(0, .int a0)] → W p l e ({ frames := 1, cells := 0, slots := 0, locals := 22 } : Room) s m (List.toArray ([.int a0] : List Value)) below meth c H locs 0 0 Q (F0 m 0 ls []) := by
    intro H locs ls hP hD hS hl
    refine lv_iload_n hx hb dX11_isMonth_0 rfl (lv_at hl 0 rfl) ?_
    refine lv_iconst (v := 0) hx hb dX11_isMonth_1 (by decide) ?_
    refine lv_sipush (v := 599) hx hb dX11_isMonth_2 (by decide) ?_
    refine pk_i (va_runS (As := [.int a0, .int 0, .int 599]) (rest := []) ⟨hx, hb, hml, hown, hts⟩ (s_X11_between l D t σ I J ri rj rq H.size tg hSH hG.1 a0 (0 : Int32) (599 : Int32)) (va_cwS 3 hts (tw_S tw_215 tw_216 tw_2 tw_217) rfl rfl rfl (by decide +kernel) ⟨Nat.le_of_ble_eq_true rfl, Nat.le_of_ble_eq_true rfl⟩) ⟨pq_blind, pq_pre hK hN hP hD⟩ rfl rfl hl.1 rfl (lv_room (Nat.le_of_ble_eq_true rfl)) dX11_isMonth_5 ⟨Nat.le_of_ble_eq_true rfl, Nat.le_of_ble_eq_true rfl⟩) hD hS hA (fun x_1 σ1 μ1 H locs hw_2 hP hD hS => ?_)
    obtain ⟨hu_3, hr_5⟩ := hw_2
    obtain ⟨hu_3a, hu_3b⟩ := Prod.mk.inj hu_3
    rw [hu_3a, hu_3b] at hP hD
    have h_6 : rg x_1 0 1 := by rcases hr_5 with ⟨q, -⟩ | ⟨q, -⟩ <;> rw [q] <;> exact ⟨by decide, by decide⟩
    rcases hr_5 with ⟨e_10, f_7, f_8⟩ | ⟨e_10, f_9⟩
    · refine lv_tov 1 e_10 ?_
      have h_11 : rg a0 0 2147483647 := rg_le2 f_7 (rg_k (0 : Int32) 0 rfl) (rg_full _) (by decide)
      have h_12 : rg a0 0 599 := rg_le1 f_8 h_11 (rg_k (599 : Int32) 599 rfl) (by decide)
      subst hQ
      exact W.zret (v := 1) hx hb hr (by decide) (fun t1 ht hW => ⟨⟨1, (σ, I, J, ri, rj, rq), rfl, ⟨rfl, (Or.inl ⟨rfl, (rg_w h_12 (by decide))⟩)⟩, by rw [ht]; exact hP, va_K.moved hW.alike hK, hD⟩, hS.F ht⟩) hS.2.2 dX11_isMonth_8
    · refine lv_tov 0 e_10 ?_
      subst hQ
      exact W.zret (v := 0) hx hb hr (by decide) (fun t1 ht hW => ⟨⟨0, (σ, I, J, ri, rj, rq), rfl, ⟨rfl, (Or.inr ⟨rfl, trivial⟩)⟩, by rw [ht]; exact hP, va_K.moved hW.alike hK, hD⟩, hS.F ht⟩) hS.2.2 dX11_isMonth_8
  exact go _ _ _ hP hD hS hl

set_option maxHeartbeats 4000000 in
set_option maxRecDepth 100000 in
theorem s_X11_level (l : Launch) (D : va_G) (t : pq_T) (σ : pq_S) (I : Nat → Nat → Int32) (J : Nat → Nat → Int64) (ri : Nat → Nat → Int32) (rj : Nat → Nat → Int64) (rq : Nat → Nat → Option Nat) (sz : Nat) (tg : Nat → Nat) (hSH : SH σ tg) (hG0 : GS tg σ I ri rq) (this : Nat) (a0 : Int32) (a1 : Int32) (a2 : Int32) (a3 : Int32) (hL_this : this ∈ σ.1) (hK_this : σ.2.1 this = 11) (h_a2 : rg a2 0 1) : MetI l yX11_level (wa yX11_level cX11_level 5 (some .int)) ({ frames := 2, cells := 0, slots := 0, locals := 42 }) [.ref this, .int a0, .int a1, .int a2, .int a3] D t σ (I, J, ri, rj, rq) sz 0 0 (fun (r : Int32) (u : pq_S × pq_M) => ∃ I' : Nat → Nat → Int32, ∃ ri' : Nat → Nat → Int32, u = (σ, I', J, ri', rj, rq) ∧ GX [1225, 1226, 1227, 1228, 224] tg σ I ri rj I' ri' rj rq ∧ rg r (-1) 200) := by
  refine Met.ofW (cc := cX11_level) (maxL := 5) (ret := (some .int)) (by decide) rfl ?_
  intro p e s m args below meth c s₁ B hml hv
  obtain ⟨rfl, hsz, hP, hK, hD0, hN⟩ := hv
  have hx := B.exec
  have hb := B.bytes
  have hr := B.returns
  have hts := atoms_spec (ws := (wa yX11_level cX11_level 5 (some .int))) B.pre
  have hown : s.vm.findClass RX11 = some m.cls := findClass_of_methodNamed B.named
  have hlocks := B.notSynchronized
  subst hsz
  have hD : va_D (pq_B t σ (I, J, ri, rj, rq) s.heap.size) (pq_P t σ (I, J, ri, rj, rq)) := hD0.self
  generalize hAe : pq_B t σ (I, J, ri, rj, rq) s.heap.size = A at hD ⊢
  have hA : ∀ q : Nat, s.heap.size ≤ q → A q := fun q h => by rw [← hAe]; exact Or.inr h
  have hS : va_S A s.heap s.heap [] := va_S.rf
  have hG : GX [1225, 1226, 1227, 1228, 224] tg σ I ri rj I ri rj rq := ⟨hG0, fun _ _ _ => rfl, fun _ _ _ _ _ => rfl, fun _ _ _ _ _ => rfl⟩
  have hl := lv_entry ([.ref this, .int a0, .int a1, .int a2, .int a3]) (n := 5) (Nat.le_of_ble_eq_true rfl)
  rw [lg_entry_eq]
  generalize (lg_sl ([.ref this, .int a0, .int a1, .int a2, .int a3]) ++ List.replicate (5 - (lg_sl ([.ref this, .int a0, .int a1, .int a2, .int a3])).length) Slot.unset).toArray = ls at hl ⊢
  have hl : lv_has ls 5 [(0, .ref this), (1, .int a0), (2, .int a1), (3, .int a2), (4, .int a3)] := hl
  refine q_gen (fun Q hQ => ?_)
  have go : ∀ (H : Heap) (locs : List Loc) (ls : Array Slot), va_P D vwCl (pq_P t σ (I, J, ri, rj, rq)) H → va_D A (pq_P t σ (I, J, ri, rj, rq)) → va_S A s.heap H locs → lv_has ls 5 [(0, .ref this), (1, .int a0), (2, .int a1), (3, .int a2), (4, .int a3)] → W p l e ({ frames := 2, cells := 0, slots := 0, locals := 42 } : Room) s m (List.toArray ([.ref this, .int a0, .int a1, .int a2, .int a3] : List Value)) below meth c H locs 0 0 Q (F0 m 0 ls []) := by
    intro H locs ls hP hD hS hl
    refine lv_iload_n hx hb dX11_level_0 rfl (lv_at hl 1 rfl) ?_
    refine pk_i (va_runS (As := [.int a0]) (rest := []) ⟨hx, hb, hml, hown, hts⟩ (s_X11_isRise l D t σ I J ri rj rq H.size tg hSH hG.1 a0) (va_cwS 1 hts (tw_S tw_244 tw_245 tw_2 tw_246) rfl rfl rfl (by decide +kernel) ⟨Nat.le_of_ble_eq_true rfl, Nat.le_of_ble_eq_true rfl⟩) ⟨pq_blind, pq_pre hK hN hP hD⟩ rfl rfl hl.1 rfl (lv_room (Nat.le_of_ble_eq_true rfl)) dX11_level_1 ⟨Nat.le_of_ble_eq_true rfl, Nat.le_of_ble_eq_true rfl⟩) hD hS hA (fun x_1 σ1 μ1 H locs hw_2 hP hD hS => ?_)
    obtain ⟨hu_3, hr_5⟩ := hw_2
    obtain ⟨hu_3a, hu_3b⟩ := Prod.mk.inj hu_3
    rw [hu_3a, hu_3b] at hP hD
    have h_6 : rg x_1 0 1 := by rcases hr_5 with ⟨q, -⟩ | ⟨q, -⟩ <;> rw [q] <;> exact ⟨by decide, by decide⟩
    have K_58 : ∀  (H : Heap) (locs : List Loc) (ls : Array Slot), GX [1225, 1226, 1227, 1228, 224] tg σ I ri rj I ri rj rq → va_P D vwCl (pq_P t σ (I, J, ri, rj, rq)) H → va_D A (pq_P t σ (I, J, ri, rj, rq)) → va_S A s.heap H locs → lv_has ls 5 [] → W p l e ({ frames := 2, cells := 0, slots := 0, locals := 42 } : Room) s m (List.toArray ([.ref this, .int a0, .int a1, .int a2, .int a3] : List Value)) below meth c H locs 0 0 Q (F0 m 32 ls []) := by
      intro H locs ls hG hP hD hS hl
      refine lv_iconst (v := (-1)) hx hb dX11_level_32 (by decide) ?_
      subst hQ
      exact W.iret (v := (-1)) hx hb hr (fun t1 ht hW => ⟨⟨(-1), (σ, I, J, ri, rj, rq), rfl, ⟨I, ri, rfl, hG, (rg_w (rg_k (-1 : Int32) (-1) rfl) (by decide))⟩, by rw [ht]; exact hP, va_K.moved hW.alike hK, hD⟩, hS.F ht⟩) hS.2.2 dX11_level_33
    refine lv_if_eq (tgt := 32) hx hb dX11_level_4 (by decide) (fun c_59 => ?_) (fun c_59 => ?_)
    · have f_60 := (hr_5.resolve_left (fun q => absurd (q.1.symm.trans c_59) (by decide))).2
      have h_61 : rg x_1 0 0 := rg_and h_6 (rg_of_eq c_59 (rg_k (0 : Int32) 0 rfl)) (by decide)
      exact K_58 _ _ _ hG hP hD hS (lv_sub hl [] rfl)
    · have f_62 := (hr_5.resolve_right (fun q => c_59 q.1)).2
      have h_63 : rg x_1 1 1 := rg_ne c_59 h_6 0 rfl (by decide)
      refine lv_iload_n hx hb dX11_level_7 rfl (lv_at hl 2 rfl) ?_
      refine pk_i (va_runS (As := [.int a1]) (rest := []) ⟨hx, hb, hml, hown, hts⟩ (s_X11_isMonth l D t σ I J ri rj rq H.size tg hSH hG.1 a1) (va_cwS 1 hts (tw_S tw_247 tw_248 tw_2 tw_249) rfl rfl rfl (by decide +kernel) ⟨Nat.le_of_ble_eq_true rfl, Nat.le_of_ble_eq_true rfl⟩) ⟨pq_blind, pq_pre hK hN hP hD⟩ rfl rfl hl.1 rfl (lv_room (Nat.le_of_ble_eq_true rfl)) dX11_level_8 ⟨Nat.le_of_ble_eq_true rfl, Nat.le_of_ble_eq_true rfl⟩) hD hS hA (fun x_64 σ1 μ1 H locs hw_65 hP hD hS => ?_)
      obtain ⟨hu_66, hr_68⟩ := hw_65
      obtain ⟨hu_66a, hu_66b⟩ := Prod.mk.inj hu_66
      rw [hu_66a, hu_66b] at hP hD
      have h_69 : rg x_64 0 1 := by rcases hr_68 with ⟨q, -⟩ | ⟨q, -⟩ <;> rw [q] <;> exact ⟨by decide, by decide⟩
      refine lv_if_eq (tgt := 32) hx hb dX11_level_11 (by decide) (fun c_70 => ?_) (fun c_70 => ?_)
      · have f_71 := (hr_68.resolve_left (fun q => absurd (q.1.symm.trans c_70) (by decide))).2
        have h_72 : rg x_64 0 0 := rg_and h_69 (rg_of_eq c_70 (rg_k (0 : Int32) 0 rfl)) (by decide)
        exact K_58 _ _ _ hG hP hD hS (lv_sub hl [] rfl)
      · have f_73 := (hr_68.resolve_right (fun q => c_70 q.1)).2
        have h_74 : rg x_64 1 1 := rg_ne c_70 h_69 0 rfl (by decide)
        refine lv_iload_n hx hb dX11_level_14 rfl (lv_at hl 3 rfl) ?_
        have K_110 : ∀  (H : Heap) (locs : List Loc) (ls : Array Slot), GX [1225, 1226, 1227, 1228, 224] tg σ I ri rj I ri rj rq → va_P D vwCl (pq_P t σ (I, J, ri, rj, rq)) H → va_D A (pq_P t σ (I, J, ri, rj, rq)) → va_S A s.heap H locs → lv_has ls 5 [(0, .ref this), (1, .int a0), (2, .int a1), (3, .int a2), (4, .int a3)] → W p l e ({ frames := 2, cells := 0, slots := 0, locals := 42 } : Room) s m (List.toArray ([.ref this, .int a0, .int a1, .int a2, .int a3] : List Value)) below meth c H locs 0 0 Q (F0 m 34 ls []) := by
          intro H locs ls hG hP hD hS hl
          refine lv_aload_n hx hb dX11_level_34 rfl (lv_at hl 0 rfl) ?_
          obtain ⟨w_111, hR_w_111, hL_w_111, hK_w_111⟩ := sh_o hSH 352 (ci := 11) (kd := 10) rfl hL_this hK_this
          refine pg_f (v := .ref w_111) (C := RX11) (T := TX11) (N := 5) hx hb hts (tw_i inlX11) hown hK hP hL_this hK_this (by decide) rfl 0 (by decide) (hts _ (tw_c tw_16)) (pq_hv rfl hR_w_111) dX11_level_35 ?_
          obtain ⟨w_112, hR_w_112, hL_w_112, hK_w_112⟩ := sh_o hSH 326 (ci := 10) (kd := 7) rfl hL_w_111 hK_w_111
          refine pg_f (v := .ref w_112) (C := RX10) (T := TX10) (N := 13) hx hb hts (tw_i inlX10) hown hK hP hL_w_111 hK_w_111 (by decide) rfl 6 (by decide) (hts _ (tw_c tw_242)) (pq_hv rfl hR_w_112) dX11_level_38 ?_
          refine pg_f (v := .int (I 224 w_112)) (C := RX7) (T := TX7) (N := 15) hx hb hts (tw_i inlX7) hown hK hP hL_w_112 hK_w_112 (by decide) rfl 0 (by decide) (hts _ (tw_c tw_243)) rfl dX11_level_41 ?_
          have h_113 : rg (I 224 w_112) 0 200 := GX.rI hG 224 rfl
          refine lv_sipush (v := 200) hx hb dX11_level_44 (by decide) ?_
          refine lv_icmp_lt (tgt := 52) hx hb dX11_level_47 (by decide) (fun c_114 => ?_) (fun c_114 => ?_)
          · have h_115 : rg (I 224 w_112) 0 199 := rg_lt1 c_114 h_113 (rg_k (200 : Int32) 200 rfl) (by decide)
            refine lv_aload_n hx hb dX11_level_52 rfl (lv_at hl 0 rfl) ?_
            refine pg_f (v := .ref w_111) (C := RX11) (T := TX11) (N := 5) hx hb hts (tw_i inlX11) hown hK hP hL_this hK_this (by decide) rfl 0 (by decide) (hts _ (tw_c tw_16)) (pq_hv rfl hR_w_111) dX11_level_53 ?_
            refine pg_f (v := .ref w_112) (C := RX10) (T := TX10) (N := 13) hx hb hts (tw_i inlX10) hown hK hP hL_w_111 hK_w_111 (by decide) rfl 6 (by decide) (hts _ (tw_c tw_242)) (pq_hv rfl hR_w_112) dX11_level_56 ?_
            refine lv_iload_n hx hb dX11_level_59 rfl (lv_at hl 1 rfl) ?_
            refine lv_iload_n hx hb dX11_level_60 rfl (lv_at hl 2 rfl) ?_
            refine lv_iload_n hx hb dX11_level_61 rfl (lv_at hl 3 rfl) ?_
            have K_128 : ∀  (x_119 : Int32) (H : Heap) (locs : List Loc) (ls : Array Slot), GX [1225, 1226, 1227, 1228, 224] tg σ I ri rj I ri rj rq → va_P D vwCl (pq_P t σ (I, J, ri, rj, rq)) H → va_D A (pq_P t σ (I, J, ri, rj, rq)) → va_S A s.heap H locs → lv_has ls 5 [(0, .ref this)] → W p l e ({ frames := 2, cells := 0, slots := 0, locals := 42 } : Room) s m (List.toArray ([.ref this, .int a0, .int a1, .int a2, .int a3] : List Value)) below meth c H locs 0 0 Q (F0 m 73 ls [.int x_119, .int a1, .int a0, .ref w_112]) := by
              intro x_119 H locs ls hG hP hD hS hl
              refine lv_aload_n hx hb dX11_level_73 rfl (lv_at hl 0 rfl) ?_
              refine pg_f (v := .ref w_111) (C := RX11) (T := TX11) (N := 5) hx hb hts (tw_i inlX11) hown hK hP hL_this hK_this (by decide) rfl 0 (by decide) (hts _ (tw_c tw_16)) (pq_hv rfl hR_w_111) dX11_level_74 ?_
              refine pg_f (v := .int (I 320 w_111)) (C := RX10) (T := TX10) (N := 13) hx hb hts (tw_i inlX10) hown hK hP hL_w_111 hK_w_111 (by decide) rfl 0 (by decide) (hts _ (tw_c tw_209)) rfl dX11_level_77 ?_
              have h_129 : rg (I 320 w_111) 0 600 := GX.rI hG 320 rfl
              refine pk_i (va_runV (As := [.int a0, .int a1, .int x_119, .int (I 320 w_111)]) (rest := []) ⟨hx, hb, hml, hown, hts⟩ (s_X7_tell l D t σ I J ri rj rq H.size tg hSH hG.1 w_112 a0 a1 x_119 (I 320 w_111) hL_w_112 hK_w_112) (cwV 4 hts (tw_V tw_250 tw_251 tw_252 tw_37 tw_253) rfl rfl rfl (by decide +kernel) ⟨Nat.le_of_ble_eq_true rfl, Nat.le_of_ble_eq_true rfl⟩) ⟨pq_blind, pq_recv hK hP hL_w_112 hK_w_112 (by decide) rfl, pq_pre hK hN hP hD⟩ rfl rfl hl.1 rfl (lv_room (Nat.le_of_ble_eq_true rfl)) dX11_level_80 ⟨Nat.le_of_ble_eq_true rfl, Nat.le_of_ble_eq_true rfl⟩) hD hS hA (fun x_130 σ1 μ1 H locs hw_131 hP hD hS => ?_)
              obtain ⟨I_132, ri_133, hu_134, hg_135, hr_136⟩ := hw_131
              obtain ⟨hu_134a, hu_134b⟩ := Prod.mk.inj hu_134
              rw [hu_134a, hu_134b] at hP hD
              have hG := GX.tr hG hg_135 (by decide)
              subst hQ
              exact W.iret (v := x_130) hx hb hr (fun t1 ht hW => ⟨⟨x_130, (σ, I_132, J, ri_133, rj, rq), rfl, ⟨I_132, ri_133, rfl, hG, (rg_w hr_136 (by decide))⟩, by rw [ht]; exact hP, va_K.moved hW.alike hK, hD⟩, hS.F ht⟩) hS.2.2 dX11_level_83
            refine lv_if_eq (tgt := 70) hx hb dX11_level_62 (by decide) (fun c_137 => ?_) (fun c_137 => ?_)
            · have h_138 : rg a2 0 0 := rg_and h_a2 (rg_of_eq c_137 (rg_k (0 : Int32) 0 rfl)) (by decide)
              refine lv_sipush (v := (-5000)) hx hb dX11_level_70 (by decide) ?_
              exact K_128 (-5000 : Int32) _ _ _ hG hP hD hS (lv_sub hl [0] rfl)
            · have h_139 : rg a2 1 1 := rg_ne c_137 h_a2 0 rfl (by decide)
              refine lv_iload hx hb dX11_level_65 (lv_at hl 4 rfl) ?_
              refine lv_goto (tgt := 73) hx hb dX11_level_67 (by decide) ?_
              exact K_128 a3 _ _ _ hG hP hD hS (lv_sub hl [0] rfl)
          · have h_140 : rg (I 224 w_112) 200 200 := rg_le2 (nlt c_114) (rg_k (200 : Int32) 200 rfl) h_113 (by decide)
            refine lv_iconst (v := (-1)) hx hb dX11_level_50 (by decide) ?_
            subst hQ
            exact W.iret (v := (-1)) hx hb hr (fun t1 ht hW => ⟨⟨(-1), (σ, I, J, ri, rj, rq), rfl, ⟨I, ri, rfl, hG, (rg_w (rg_k (-1 : Int32) (-1) rfl) (by decide))⟩, by rw [ht]; exact hP, va_K.moved hW.alike hK, hD⟩, hS.F ht⟩) hS.2.2 dX11_level_51
        refine lv_if_eq (tgt := 34) hx hb dX11_level_15 (by decide) (fun c_141 => ?_) (fun c_141 => ?_)
        · have h_142 : rg a2 0 0 := rg_and h_a2 (rg_of_eq c_141 (rg_k (0 : Int32) 0 rfl)) (by decide)
          exact K_110 _ _ _ hG hP hD hS (lv_sub hl [0, 1, 2, 3, 4] rfl)
        · have h_143 : rg a2 1 1 := rg_ne c_141 h_a2 0 rfl (by decide)
          refine lv_iload hx hb dX11_level_18 (lv_at hl 4 rfl) ?_
          refine lv_sipush (v := (-1000)) hx hb dX11_level_20 (by decide) ?_
          refine lv_sipush (v := 5000) hx hb dX11_level_23 (by decide) ?_
          refine pk_i (va_runS (As := [.int a3, .int (-1000), .int 5000]) (rest := []) ⟨hx, hb, hml, hown, hts⟩ (s_X11_between l D t σ I J ri rj rq H.size tg hSH hG.1 a3 (-1000 : Int32) (5000 : Int32)) (va_cwS 3 hts (tw_S tw_215 tw_216 tw_2 tw_217) rfl rfl rfl (by decide +kernel) ⟨Nat.le_of_ble_eq_true rfl, Nat.le_of_ble_eq_true rfl⟩) ⟨pq_blind, pq_pre hK hN hP hD⟩ rfl rfl hl.1 rfl (lv_room (Nat.le_of_ble_eq_true rfl)) dX11_level_26 ⟨Nat.le_of_ble_eq_true rfl, Nat.le_of_ble_eq_true rfl⟩) hD hS hA (fun x_144 σ1 μ1 H locs hw_145 hP hD hS => ?_)
          obtain ⟨hu_146, hr_148⟩ := hw_145
          obtain ⟨hu_146a, hu_146b⟩ := Prod.mk.inj hu_146
          rw [hu_146a, hu_146b] at hP hD
          have h_149 : rg x_144 0 1 := by rcases hr_148 with ⟨q, -⟩ | ⟨q, -⟩ <;> rw [q] <;> exact ⟨by decide, by decide⟩
          refine lv_if_ne (tgt := 34) hx hb dX11_level_29 (by decide) (fun c_150 => ?_) (fun c_150 => ?_)
          · obtain ⟨f_151, f_152⟩ := (hr_148.resolve_right (fun q => c_150 q.1)).2
            have h_153 : rg a3 (-1000) 2147483647 := rg_le2 f_151 (rg_k (-1000 : Int32) (-1000) rfl) (rg_full _) (by decide)
            have h_154 : rg a3 (-1000) 5000 := rg_le1 f_152 h_153 (rg_k (5000 : Int32) 5000 rfl) (by decide)
            have h_155 : rg x_144 1 1 := rg_ne c_150 h_149 0 rfl (by decide)
            exact K_110 _ _ _ hG hP hD hS (lv_sub hl [0, 1, 2, 3, 4] rfl)
          · have f_156 := (hr_148.resolve_left (fun q => absurd (q.1.symm.trans c_150) (by decide))).2
            have h_157 : rg x_144 0 0 := rg_and h_149 (rg_of_eq c_150 (rg_k (0 : Int32) 0 rfl)) (by decide)
            exact K_58 _ _ _ hG hP hD hS (lv_sub hl [] rfl)
  exact go _ _ _ hP hD hS hl

set_option maxHeartbeats 4000000 in
set_option maxRecDepth 100000 in
theorem s_X11_levelOf (l : Launch) (D : va_G) (t : pq_T) (σ : pq_S) (I : Nat → Nat → Int32) (J : Nat → Nat → Int64) (ri : Nat → Nat → Int32) (rj : Nat → Nat → Int64) (rq : Nat → Nat → Option Nat) (sz : Nat) (tg : Nat → Nat) (hSH : SH σ tg) (hG0 : GS tg σ I ri rq) (this : Nat) (a0 : Int32) (a1 : Int32) (a2 : Int32) (hL_this : this ∈ σ.1) (hK_this : σ.2.1 this = 11) : MetI l yX11_levelOf (wa yX11_levelOf cX11_levelOf 4 (some .int)) ({ frames := 3, cells := 0, slots := 0, locals := 69 }) [.ref this, .int a0, .int a1, .int a2] D t σ (I, J, ri, rj, rq) sz 0 0 (fun (r : Int32) (u : pq_S × pq_M) => u = (σ, I, J, ri, rj, rq)) := by
  refine Met.ofW (cc := cX11_levelOf) (maxL := 4) (ret := (some .int)) (by decide) rfl ?_
  intro p e s m args below meth c s₁ B hml hv
  obtain ⟨rfl, hsz, hP, hK, hD0, hN⟩ := hv
  have hx := B.exec
  have hb := B.bytes
  have hr := B.returns
  have hts := atoms_spec (ws := (wa yX11_levelOf cX11_levelOf 4 (some .int))) B.pre
  have hown : s.vm.findClass RX11 = some m.cls := findClass_of_methodNamed B.named
  have hlocks := B.notSynchronized
  subst hsz
  have hD : va_D (pq_B t σ (I, J, ri, rj, rq) s.heap.size) (pq_P t σ (I, J, ri, rj, rq)) := hD0.self
  generalize hAe : pq_B t σ (I, J, ri, rj, rq) s.heap.size = A at hD ⊢
  have hA : ∀ q : Nat, s.heap.size ≤ q → A q := fun q h => by rw [← hAe]; exact Or.inr h
  have hS : va_S A s.heap s.heap [] := va_S.rf
  have hG : GX [] tg σ I ri rj I ri rj rq := ⟨hG0, fun _ _ _ => rfl, fun _ _ _ _ _ => rfl, fun _ _ _ _ _ => rfl⟩
  have hl := lv_entry ([.ref this, .int a0, .int a1, .int a2]) (n := 4) (Nat.le_of_ble_eq_true rfl)
  rw [lg_entry_eq]
  generalize (lg_sl ([.ref this, .int a0, .int a1, .int a2]) ++ List.replicate (4 - (lg_sl ([.ref this, .int a0, .int a1, .int a2])).length) Slot.unset).toArray = ls at hl ⊢
  have hl : lv_has ls 4 [(0, .ref this), (1, .int a0), (2, .int a1), (3, .int a2)] := hl
  refine q_gen (fun Q hQ => ?_)
  have go : ∀ (H : Heap) (locs : List Loc) (ls : Array Slot), va_P D vwCl (pq_P t σ (I, J, ri, rj, rq)) H → va_D A (pq_P t σ (I, J, ri, rj, rq)) → va_S A s.heap H locs → lv_has ls 4 [(0, .ref this), (1, .int a0), (2, .int a1), (3, .int a2)] → W p l e ({ frames := 3, cells := 0, slots := 0, locals := 69 } : Room) s m (List.toArray ([.ref this, .int a0, .int a1, .int a2] : List Value)) below meth c H locs 0 0 Q (F0 m 0 ls []) := by
    intro H locs ls hP hD hS hl
    refine lv_iload_n hx hb dX11_levelOf_0 rfl (lv_at hl 1 rfl) ?_
    refine pk_i (va_runS (As := [.int a0]) (rest := []) ⟨hx, hb, hml, hown, hts⟩ (s_X11_isRise l D t σ I J ri rj rq H.size tg hSH hG.1 a0) (va_cwS 1 hts (tw_S tw_244 tw_245 tw_2 tw_246) rfl rfl rfl (by decide +kernel) ⟨Nat.le_of_ble_eq_true rfl, Nat.le_of_ble_eq_true rfl⟩) ⟨pq_blind, pq_pre hK hN hP hD⟩ rfl rfl hl.1 rfl (lv_room (Nat.le_of_ble_eq_true rfl)) dX11_levelOf_1 ⟨Nat.le_of_ble_eq_true rfl, Nat.le_of_ble_eq_true rfl⟩) hD hS hA (fun x_1 σ1 μ1 H locs hw_2 hP hD hS => ?_)
    obtain ⟨hu_3, hr_5⟩ := hw_2
    obtain ⟨hu_3a, hu_3b⟩ := Prod.mk.inj hu_3
    rw [hu_3a, hu_3b] at hP hD
    have h_6 : rg x_1 0 1 := by rcases hr_5 with ⟨q, -⟩ | ⟨q, -⟩ <;> rw [q] <;> exact ⟨by decide, by decide⟩
    have K_44 : ∀  (H : Heap) (locs : List Loc) (ls : Array Slot), GX [] tg σ I ri rj I ri rj rq → va_P D vwCl (pq_P t σ (I, J, ri, rj, rq)) H → va_D A (pq_P t σ (I, J, ri, rj, rq)) → va_S A s.heap H locs → lv_has ls 4 [] → W p l e ({ frames := 3, cells := 0, slots := 0, locals := 69 } : Room) s m (List.toArray ([.ref this, .int a0, .int a1, .int a2] : List Value)) below meth c H locs 0 0 Q (F0 m 25 ls []) := by
      intro H locs ls hG hP hD hS hl
      refine lv_ldc hx hb hown (hts _ (tw_c tw_269)) dX11_levelOf_25 ?_
      subst hQ
      exact W.iret (v := (-1000000)) hx hb hr (fun t1 ht hW => ⟨⟨(-1000000), (σ, I, J, ri, rj, rq), rfl, rfl, by rw [ht]; exact hP, va_K.moved hW.alike hK, hD⟩, hS.F ht⟩) hS.2.2 dX11_levelOf_27
    refine lv_if_eq (tgt := 25) hx hb dX11_levelOf_4 (by decide) (fun c_45 => ?_) (fun c_45 => ?_)
    · have f_46 := (hr_5.resolve_left (fun q => absurd (q.1.symm.trans c_45) (by decide))).2
      have h_47 : rg x_1 0 0 := rg_and h_6 (rg_of_eq c_45 (rg_k (0 : Int32) 0 rfl)) (by decide)
      exact K_44 _ _ _ hG hP hD hS (lv_sub hl [] rfl)
    · have f_48 := (hr_5.resolve_right (fun q => c_45 q.1)).2
      have h_49 : rg x_1 1 1 := rg_ne c_45 h_6 0 rfl (by decide)
      refine lv_iload_n hx hb dX11_levelOf_7 rfl (lv_at hl 2 rfl) ?_
      refine pk_i (va_runS (As := [.int a1]) (rest := []) ⟨hx, hb, hml, hown, hts⟩ (s_X11_isMonth l D t σ I J ri rj rq H.size tg hSH hG.1 a1) (va_cwS 1 hts (tw_S tw_247 tw_248 tw_2 tw_249) rfl rfl rfl (by decide +kernel) ⟨Nat.le_of_ble_eq_true rfl, Nat.le_of_ble_eq_true rfl⟩) ⟨pq_blind, pq_pre hK hN hP hD⟩ rfl rfl hl.1 rfl (lv_room (Nat.le_of_ble_eq_true rfl)) dX11_levelOf_8 ⟨Nat.le_of_ble_eq_true rfl, Nat.le_of_ble_eq_true rfl⟩) hD hS hA (fun x_50 σ1 μ1 H locs hw_51 hP hD hS => ?_)
      obtain ⟨hu_52, hr_54⟩ := hw_51
      obtain ⟨hu_52a, hu_52b⟩ := Prod.mk.inj hu_52
      rw [hu_52a, hu_52b] at hP hD
      have h_55 : rg x_50 0 1 := by rcases hr_54 with ⟨q, -⟩ | ⟨q, -⟩ <;> rw [q] <;> exact ⟨by decide, by decide⟩
      refine lv_if_eq (tgt := 25) hx hb dX11_levelOf_11 (by decide) (fun c_56 => ?_) (fun c_56 => ?_)
      · have f_57 := (hr_54.resolve_left (fun q => absurd (q.1.symm.trans c_56) (by decide))).2
        have h_58 : rg x_50 0 0 := rg_and h_55 (rg_of_eq c_56 (rg_k (0 : Int32) 0 rfl)) (by decide)
        exact K_44 _ _ _ hG hP hD hS (lv_sub hl [] rfl)
      · have f_59 := (hr_54.resolve_right (fun q => c_56 q.1)).2
        have h_60 : rg x_50 1 1 := rg_ne c_56 h_55 0 rfl (by decide)
        refine lv_iload_n hx hb dX11_levelOf_14 rfl (lv_at hl 3 rfl) ?_
        refine lv_iconst (v := 0) hx hb dX11_levelOf_15 (by decide) ?_
        refine lv_sipush (v := 600) hx hb dX11_levelOf_16 (by decide) ?_
        refine pk_i (va_runS (As := [.int a2, .int 0, .int 600]) (rest := []) ⟨hx, hb, hml, hown, hts⟩ (s_X11_between l D t σ I J ri rj rq H.size tg hSH hG.1 a2 (0 : Int32) (600 : Int32)) (va_cwS 3 hts (tw_S tw_215 tw_216 tw_2 tw_217) rfl rfl rfl (by decide +kernel) ⟨Nat.le_of_ble_eq_true rfl, Nat.le_of_ble_eq_true rfl⟩) ⟨pq_blind, pq_pre hK hN hP hD⟩ rfl rfl hl.1 rfl (lv_room (Nat.le_of_ble_eq_true rfl)) dX11_levelOf_19 ⟨Nat.le_of_ble_eq_true rfl, Nat.le_of_ble_eq_true rfl⟩) hD hS hA (fun x_61 σ1 μ1 H locs hw_62 hP hD hS => ?_)
        obtain ⟨hu_63, hr_65⟩ := hw_62
        obtain ⟨hu_63a, hu_63b⟩ := Prod.mk.inj hu_63
        rw [hu_63a, hu_63b] at hP hD
        have h_66 : rg x_61 0 1 := by rcases hr_65 with ⟨q, -⟩ | ⟨q, -⟩ <;> rw [q] <;> exact ⟨by decide, by decide⟩
        refine lv_if_ne (tgt := 28) hx hb dX11_levelOf_22 (by decide) (fun c_67 => ?_) (fun c_67 => ?_)
        · obtain ⟨f_68, f_69⟩ := (hr_65.resolve_right (fun q => c_67 q.1)).2
          have h_70 : rg a2 0 2147483647 := rg_le2 f_68 (rg_k (0 : Int32) 0 rfl) (rg_full _) (by decide)
          have h_71 : rg a2 0 600 := rg_le1 f_69 h_70 (rg_k (600 : Int32) 600 rfl) (by decide)
          have h_72 : rg x_61 1 1 := rg_ne c_67 h_66 0 rfl (by decide)
          refine lv_aload_n hx hb dX11_levelOf_28 rfl (lv_at hl 0 rfl) ?_
          obtain ⟨w_73, hR_w_73, hL_w_73, hK_w_73⟩ := sh_o hSH 352 (ci := 11) (kd := 10) rfl hL_this hK_this
          refine pg_f (v := .ref w_73) (C := RX11) (T := TX11) (N := 5) hx hb hts (tw_i inlX11) hown hK hP hL_this hK_this (by decide) rfl 0 (by decide) (hts _ (tw_c tw_16)) (pq_hv rfl hR_w_73) dX11_levelOf_29 ?_
          obtain ⟨w_74, hR_w_74, hL_w_74, hK_w_74⟩ := sh_o hSH 326 (ci := 10) (kd := 7) rfl hL_w_73 hK_w_73
          refine pg_f (v := .ref w_74) (C := RX10) (T := TX10) (N := 13) hx hb hts (tw_i inlX10) hown hK hP hL_w_73 hK_w_73 (by decide) rfl 6 (by decide) (hts _ (tw_c tw_242)) (pq_hv rfl hR_w_74) dX11_levelOf_32 ?_
          refine lv_iload_n hx hb dX11_levelOf_35 rfl (lv_at hl 1 rfl) ?_
          refine lv_iload_n hx hb dX11_levelOf_36 rfl (lv_at hl 2 rfl) ?_
          refine lv_iload_n hx hb dX11_levelOf_37 rfl (lv_at hl 3 rfl) ?_
          refine pk_i (va_runV (As := [.int a0, .int a1, .int a2]) (rest := []) ⟨hx, hb, hml, hown, hts⟩ (s_X7_known l D t σ I J ri rj rq H.size tg hSH hG.1 w_74 a0 a1 a2 hL_w_74 hK_w_74) (cwV 3 hts (tw_V tw_270 tw_271 tw_272 tw_37 tw_273) rfl rfl rfl (by decide +kernel) ⟨Nat.le_of_ble_eq_true rfl, Nat.le_of_ble_eq_true rfl⟩) ⟨pq_blind, pq_recv hK hP hL_w_74 hK_w_74 (by decide) rfl, pq_pre hK hN hP hD⟩ rfl rfl hl.1 rfl (lv_room (Nat.le_of_ble_eq_true rfl)) dX11_levelOf_38 ⟨Nat.le_of_ble_eq_true rfl, Nat.le_of_ble_eq_true rfl⟩) hD hS hA (fun x_75 σ1 μ1 H locs hw_76 hP hD hS => ?_)
          have hu_77 := hw_76
          obtain ⟨hu_77a, hu_77b⟩ := Prod.mk.inj hu_77
          rw [hu_77a, hu_77b] at hP hD
          subst hQ
          exact W.iret (v := x_75) hx hb hr (fun t1 ht hW => ⟨⟨x_75, (σ, I, J, ri, rj, rq), rfl, rfl, by rw [ht]; exact hP, va_K.moved hW.alike hK, hD⟩, hS.F ht⟩) hS.2.2 dX11_levelOf_41
        · have f_80 := (hr_65.resolve_left (fun q => absurd (q.1.symm.trans c_67) (by decide))).2
          have h_81 : rg x_61 0 0 := rg_and h_66 (rg_of_eq c_67 (rg_k (0 : Int32) 0 rfl)) (by decide)
          exact K_44 _ _ _ hG hP hD hS (lv_sub hl [] rfl)
  exact go _ _ _ hP hD hS hl

set_option maxHeartbeats 4000000 in
set_option maxRecDepth 100000 in
theorem s_X11_table (l : Launch) (D : va_G) (t : pq_T) (σ : pq_S) (I : Nat → Nat → Int32) (J : Nat → Nat → Int64) (ri : Nat → Nat → Int32) (rj : Nat → Nat → Int64) (rq : Nat → Nat → Option Nat) (sz : Nat) (tg : Nat → Nat) (hSH : SH σ tg) (hG0 : GS tg σ I ri rq) (this : Nat) (a0 : Int32) (a1 : Int32) (a2 : Int32) (a3 : Int32) (a4 : Int32) (a5 : Int32) (hL_this : this ∈ σ.1) (hK_this : σ.2.1 this = 11) : MetI l yX11_table (wa yX11_table cX11_table 9 (some .boolean)) ({ frames := 1, cells := 0, slots := 0, locals := 22 }) [.ref this, .int a0, .int a1, .int a2, .int a3, .int a4, .int a5] D t σ (I, J, ri, rj, rq) sz 0 0 (fun (r : Int32) (u : pq_S × pq_M) => ∃ ri' : Nat → Nat → Int32, u = (σ, I, J, ri', rj, rq) ∧ GX [1229, 1230, 1231, 1232, 1233] tg σ I ri rj I ri' rj rq ∧ ((r = 1 ∧ rg a0 0 11 ∧ rg a1 0 2000 ∧ rg a2 0 2000 ∧ rg a3 0 40 ∧ rg a4 0 50 ∧ rg a5 0 100) ∨ (r = 0 ∧ True))) := by
  refine Met.ofW (cc := cX11_table) (maxL := 9) (ret := (some .boolean)) (by decide) rfl ?_
  intro p e s m args below meth c s₁ B hml hv
  obtain ⟨rfl, hsz, hP, hK, hD0, hN⟩ := hv
  have hx := B.exec
  have hb := B.bytes
  have hr := B.returns
  have hts := atoms_spec (ws := (wa yX11_table cX11_table 9 (some .boolean))) B.pre
  have hown : s.vm.findClass RX11 = some m.cls := findClass_of_methodNamed B.named
  have hlocks := B.notSynchronized
  subst hsz
  have hD : va_D (pq_B t σ (I, J, ri, rj, rq) s.heap.size) (pq_P t σ (I, J, ri, rj, rq)) := hD0.self
  generalize hAe : pq_B t σ (I, J, ri, rj, rq) s.heap.size = A at hD ⊢
  have hA : ∀ q : Nat, s.heap.size ≤ q → A q := fun q h => by rw [← hAe]; exact Or.inr h
  have hS : va_S A s.heap s.heap [] := va_S.rf
  have hG : GX [1229, 1230, 1231, 1232, 1233] tg σ I ri rj I ri rj rq := ⟨hG0, fun _ _ _ => rfl, fun _ _ _ _ _ => rfl, fun _ _ _ _ _ => rfl⟩
  have hl := lv_entry ([.ref this, .int a0, .int a1, .int a2, .int a3, .int a4, .int a5]) (n := 9) (Nat.le_of_ble_eq_true rfl)
  rw [lg_entry_eq]
  generalize (lg_sl ([.ref this, .int a0, .int a1, .int a2, .int a3, .int a4, .int a5]) ++ List.replicate (9 - (lg_sl ([.ref this, .int a0, .int a1, .int a2, .int a3, .int a4, .int a5])).length) Slot.unset).toArray = ls at hl ⊢
  have hl : lv_has ls 9 [(0, .ref this), (1, .int a0), (2, .int a1), (3, .int a2), (4, .int a3), (5, .int a4), (6, .int a5)] := hl
  refine q_gen (fun Q hQ => ?_)
  have go : ∀ (H : Heap) (locs : List Loc) (ls : Array Slot), va_P D vwCl (pq_P t σ (I, J, ri, rj, rq)) H → va_D A (pq_P t σ (I, J, ri, rj, rq)) → va_S A s.heap H locs → lv_has ls 9 [(0, .ref this), (1, .int a0), (2, .int a1), (3, .int a2), (4, .int a3), (5, .int a4), (6, .int a5)] → W p l e ({ frames := 1, cells := 0, slots := 0, locals := 22 } : Room) s m (List.toArray ([.ref this, .int a0, .int a1, .int a2, .int a3, .int a4, .int a5] : List Value)) below meth c H locs 0 0 Q (F0 m 0 ls []) := by
    intro H locs ls hP hD hS hl
    refine lv_iload_n hx hb dX11_table_0 rfl (lv_at hl 1 rfl) ?_
    refine lv_iconst (v := 0) hx hb dX11_table_1 (by decide) ?_
    refine lv_bipush (v := 11) hx hb dX11_table_2 (by decide) ?_
    refine pk_i (va_runS (As := [.int a0, .int 0, .int 11]) (rest := []) ⟨hx, hb, hml, hown, hts⟩ (s_X11_between l D t σ I J ri rj rq H.size tg hSH hG.1 a0 (0 : Int32) (11 : Int32)) (va_cwS 3 hts (tw_S tw_215 tw_216 tw_2 tw_217) rfl rfl rfl (by decide +kernel) ⟨Nat.le_of_ble_eq_true rfl, Nat.le_of_ble_eq_true rfl⟩) ⟨pq_blind, pq_pre hK hN hP hD⟩ rfl rfl hl.1 rfl (lv_room (Nat.le_of_ble_eq_true rfl)) dX11_table_4 ⟨Nat.le_of_ble_eq_true rfl, Nat.le_of_ble_eq_true rfl⟩) hD hS hA (fun x_1 σ1 μ1 H locs hw_2 hP hD hS => ?_)
    obtain ⟨hu_3, hr_5⟩ := hw_2
    obtain ⟨hu_3a, hu_3b⟩ := Prod.mk.inj hu_3
    rw [hu_3a, hu_3b] at hP hD
    have h_6 : rg x_1 0 1 := by rcases hr_5 with ⟨q, -⟩ | ⟨q, -⟩ <;> rw [q] <;> exact ⟨by decide, by decide⟩
    have K_106 : ∀  (H : Heap) (locs : List Loc) (ls : Array Slot), rg (a0) 0 11 → rg (a1) 0 2000 → rg (a2) 0 2000 → rg (a3) 0 40 → rg (a4) 0 50 → rg (a5) 0 100 → rg (x_1) 1 1 → GX [1229, 1230, 1231, 1232, 1233] tg σ I ri rj I ri rj rq → va_P D vwCl (pq_P t σ (I, J, ri, rj, rq)) H → va_D A (pq_P t σ (I, J, ri, rj, rq)) → va_S A s.heap H locs → lv_has ls 9 [(0, .ref this), (1, .int a0), (2, .int a1), (3, .int a2), (4, .int a3), (5, .int a4), (6, .int a5)] → W p l e ({ frames := 1, cells := 0, slots := 0, locals := 22 } : Room) s m (List.toArray ([.ref this, .int a0, .int a1, .int a2, .int a3, .int a4, .int a5] : List Value)) below meth c H locs 0 0 Q (F0 m 70 ls [.int 1]) := by
      intro H locs ls h_114 h_115 h_116 h_117 h_118 h_119 h_120 hG hP hD hS hl
      refine lv_istore (lv' := [(7, .int 1), (0, .ref this), (1, .int a0), (2, .int a1), (3, .int a2), (4, .int a3), (5, .int a4), (6, .int a5)]) hx hb dX11_table_70 hl (by decide) rfl (fun ls hl => ?_)
      refine lv_iload hx hb dX11_table_72 (lv_at hl 0 rfl) ?_
      refine lv_if_ne (tgt := 79) hx hb dX11_table_74 (by decide) (fun c_121 => ?_) (fun c_121 => absurd c_121 (by decide))
      refine lv_aload_n hx hb dX11_table_79 rfl (lv_at hl 1 rfl) ?_
      obtain ⟨w_122, hR_w_122, hL_w_122, hK_w_122⟩ := sh_o hSH 352 (ci := 11) (kd := 10) rfl hL_this hK_this
      refine pg_f (v := .ref w_122) (C := RX11) (T := TX11) (N := 5) hx hb hts (tw_i inlX11) hown hK hP hL_this hK_this (by decide) rfl 0 (by decide) (hts _ (tw_c tw_16)) (pq_hv rfl hR_w_122) dX11_table_80 ?_
      obtain ⟨w_123, hR_w_123, hL_w_123, hK_w_123⟩ := sh_o hSH 326 (ci := 10) (kd := 7) rfl hL_w_122 hK_w_122
      refine pg_f (v := .ref w_123) (C := RX10) (T := TX10) (N := 13) hx hb hts (tw_i inlX10) hown hK hP hL_w_122 hK_w_122 (by decide) rfl 6 (by decide) (hts _ (tw_c tw_242)) (pq_hv rfl hR_w_123) dX11_table_83 ?_
      refine lv_astore (lv' := [(8, .ref w_123), (7, .int 1), (0, .ref this), (1, .int a0), (2, .int a1), (3, .int a2), (4, .int a3), (5, .int a4), (6, .int a5)]) hx hb dX11_table_86 hl (by decide) rfl (fun ls hl => ?_)
      refine lv_aload hx hb dX11_table_88 (lv_at hl 0 rfl) ?_
      obtain ⟨w_124, hR_w_124, hL_w_124, hK_w_124, hN_w_124, hT_w_124⟩ := sh_a hSH 229 (ci := 7) (kd := 13) (len := 12) rfl (by decide) hL_w_123 hK_w_123
      refine pg_f (v := .ref w_124) (C := RX7) (T := TX7) (N := 15) hx hb hts (tw_i inlX7) hown hK hP hL_w_123 hK_w_123 (by decide) rfl 5 (by decide) (hts _ (tw_c tw_305)) (pq_hv rfl hR_w_124) dX11_table_90 ?_
      refine lv_iload_n hx hb dX11_table_93 rfl (lv_at hl 3 rfl) ?_
      refine lv_iload_n hx hb dX11_table_94 rfl (lv_at hl 4 rfl) ?_
      refine pt_i hx hb hK hP hD hS hL_w_124 hK_w_124 hN_w_124 (rg_in h_114 (by decide)) dX11_table_95 (fun r_125 H locs er_125 hP hD hS => ?_)
      have hG := GX.wR hG hSH hT_w_124 rfl er_125 (rg_w h_115 (by decide)) (by decide)
      refine lv_aload hx hb dX11_table_96 (lv_at hl 0 rfl) ?_
      obtain ⟨w_126, hR_w_126, hL_w_126, hK_w_126, hN_w_126, hT_w_126⟩ := sh_a hSH 230 (ci := 7) (kd := 13) (len := 12) rfl (by decide) hL_w_123 hK_w_123
      refine pg_f (v := .ref w_126) (C := RX7) (T := TX7) (N := 15) hx hb hts (tw_i inlX7) hown hK hP hL_w_123 hK_w_123 (by decide) rfl 6 (by decide) (hts _ (tw_c tw_306)) (pq_hv rfl hR_w_126) dX11_table_98 ?_
      refine lv_iload_n hx hb dX11_table_101 rfl (lv_at hl 3 rfl) ?_
      refine lv_iload_n hx hb dX11_table_102 rfl (lv_at hl 5 rfl) ?_
      refine pt_i hx hb hK hP hD hS hL_w_126 hK_w_126 hN_w_126 (rg_in h_114 (by decide)) dX11_table_103 (fun r_127 H locs er_127 hP hD hS => ?_)
      have hG := GX.wR hG hSH hT_w_126 rfl er_127 (rg_w h_116 (by decide)) (by decide)
      refine lv_aload hx hb dX11_table_104 (lv_at hl 0 rfl) ?_
      obtain ⟨w_128, hR_w_128, hL_w_128, hK_w_128, hN_w_128, hT_w_128⟩ := sh_a hSH 231 (ci := 7) (kd := 13) (len := 12) rfl (by decide) hL_w_123 hK_w_123
      refine pg_f (v := .ref w_128) (C := RX7) (T := TX7) (N := 15) hx hb hts (tw_i inlX7) hown hK hP hL_w_123 hK_w_123 (by decide) rfl 7 (by decide) (hts _ (tw_c tw_307)) (pq_hv rfl hR_w_128) dX11_table_106 ?_
      refine lv_iload_n hx hb dX11_table_109 rfl (lv_at hl 3 rfl) ?_
      refine lv_iload hx hb dX11_table_110 (lv_at hl 6 rfl) ?_
      refine pt_i hx hb hK hP hD hS hL_w_128 hK_w_128 hN_w_128 (rg_in h_114 (by decide)) dX11_table_112 (fun r_129 H locs er_129 hP hD hS => ?_)
      have hG := GX.wR hG hSH hT_w_128 rfl er_129 (rg_w h_117 (by decide)) (by decide)
      refine lv_aload hx hb dX11_table_113 (lv_at hl 0 rfl) ?_
      obtain ⟨w_130, hR_w_130, hL_w_130, hK_w_130, hN_w_130, hT_w_130⟩ := sh_a hSH 232 (ci := 7) (kd := 13) (len := 12) rfl (by decide) hL_w_123 hK_w_123
      refine pg_f (v := .ref w_130) (C := RX7) (T := TX7) (N := 15) hx hb hts (tw_i inlX7) hown hK hP hL_w_123 hK_w_123 (by decide) rfl 8 (by decide) (hts _ (tw_c tw_308)) (pq_hv rfl hR_w_130) dX11_table_115 ?_
      refine lv_iload_n hx hb dX11_table_118 rfl (lv_at hl 3 rfl) ?_
      refine lv_iload hx hb dX11_table_119 (lv_at hl 7 rfl) ?_
      refine pt_i hx hb hK hP hD hS hL_w_130 hK_w_130 hN_w_130 (rg_in h_114 (by decide)) dX11_table_121 (fun r_131 H locs er_131 hP hD hS => ?_)
      have hG := GX.wR hG hSH hT_w_130 rfl er_131 (rg_w h_118 (by decide)) (by decide)
      refine lv_aload hx hb dX11_table_122 (lv_at hl 0 rfl) ?_
      obtain ⟨w_132, hR_w_132, hL_w_132, hK_w_132, hN_w_132, hT_w_132⟩ := sh_a hSH 233 (ci := 7) (kd := 13) (len := 12) rfl (by decide) hL_w_123 hK_w_123
      refine pg_f (v := .ref w_132) (C := RX7) (T := TX7) (N := 15) hx hb hts (tw_i inlX7) hown hK hP hL_w_123 hK_w_123 (by decide) rfl 9 (by decide) (hts _ (tw_c tw_309)) (pq_hv rfl hR_w_132) dX11_table_124 ?_
      refine lv_iload_n hx hb dX11_table_127 rfl (lv_at hl 3 rfl) ?_
      refine lv_iload hx hb dX11_table_128 (lv_at hl 8 rfl) ?_
      refine pt_i hx hb hK hP hD hS hL_w_132 hK_w_132 hN_w_132 (rg_in h_114 (by decide)) dX11_table_130 (fun r_133 H locs er_133 hP hD hS => ?_)
      have hG := GX.wR hG hSH hT_w_132 rfl er_133 (rg_w h_119 (by decide)) (by decide)
      refine lv_iconst (v := 1) hx hb dX11_table_131 (by decide) ?_
      subst hQ
      exact W.zret (v := 1) hx hb hr (by decide) (fun t1 ht hW => ⟨⟨1, (σ, I, J, r_133, rj, rq), rfl, ⟨r_133, rfl, hG, (Or.inl ⟨rfl, (rg_w h_114 (by decide)), (rg_w h_115 (by decide)), (rg_w h_116 (by decide)), (rg_w h_117 (by decide)), (rg_w h_118 (by decide)), (rg_w h_119 (by decide))⟩)⟩, by rw [ht]; exact hP, va_K.moved hW.alike hK, hD⟩, hS.F ht⟩) hS.2.2 dX11_table_132
    have K_134 : ∀  (H : Heap) (locs : List Loc) (ls : Array Slot), GX [1229, 1230, 1231, 1232, 1233] tg σ I ri rj I ri rj rq → va_P D vwCl (pq_P t σ (I, J, ri, rj, rq)) H → va_D A (pq_P t σ (I, J, ri, rj, rq)) → va_S A s.heap H locs → lv_has ls 9 [(0, .ref this), (1, .int a0), (2, .int a1), (3, .int a2), (4, .int a3), (5, .int a4), (6, .int a5)] → W p l e ({ frames := 1, cells := 0, slots := 0, locals := 22 } : Room) s m (List.toArray ([.ref this, .int a0, .int a1, .int a2, .int a3, .int a4, .int a5] : List Value)) below meth c H locs 0 0 Q (F0 m 70 ls [.int 0]) := by
      intro H locs ls hG hP hD hS hl
      refine lv_istore (lv' := [(7, .int 0), (0, .ref this), (1, .int a0), (2, .int a1), (3, .int a2), (4, .int a3), (5, .int a4), (6, .int a5)]) hx hb dX11_table_70 hl (by decide) rfl (fun ls hl => ?_)
      refine lv_iload hx hb dX11_table_72 (lv_at hl 0 rfl) ?_
      refine lv_if_ne (tgt := 79) hx hb dX11_table_74 (by decide) (fun c_135 => absurd c_135 (by decide)) (fun c_135 => ?_)
      refine lv_iconst (v := 0) hx hb dX11_table_77 (by decide) ?_
      subst hQ
      exact W.zret (v := 0) hx hb hr (by decide) (fun t1 ht hW => ⟨⟨0, (σ, I, J, ri, rj, rq), rfl, ⟨ri, rfl, hG, (Or.inr ⟨rfl, trivial⟩)⟩, by rw [ht]; exact hP, va_K.moved hW.alike hK, hD⟩, hS.F ht⟩) hS.2.2 dX11_table_78
    have K_136 : ∀  (H : Heap) (locs : List Loc) (ls : Array Slot), GX [1229, 1230, 1231, 1232, 1233] tg σ I ri rj I ri rj rq → va_P D vwCl (pq_P t σ (I, J, ri, rj, rq)) H → va_D A (pq_P t σ (I, J, ri, rj, rq)) → va_S A s.heap H locs → lv_has ls 9 [(0, .ref this), (1, .int a0), (2, .int a1), (3, .int a2), (4, .int a3), (5, .int a4), (6, .int a5)] → W p l e ({ frames := 1, cells := 0, slots := 0, locals := 22 } : Room) s m (List.toArray ([.ref this, .int a0, .int a1, .int a2, .int a3, .int a4, .int a5] : List Value)) below meth c H locs 0 0 Q (F0 m 69 ls []) := by
      intro H locs ls hG hP hD hS hl
      refine lv_iconst (v := 0) hx hb dX11_table_69 (by decide) ?_
      exact K_134 _ _ _ hG hP hD hS (lv_sub hl [0, 1, 2, 3, 4, 5, 6] rfl)
    refine lv_if_eq (tgt := 69) hx hb dX11_table_7 (by decide) (fun c_137 => ?_) (fun c_137 => ?_)
    · have f_138 := (hr_5.resolve_left (fun q => absurd (q.1.symm.trans c_137) (by decide))).2
      have h_139 : rg x_1 0 0 := rg_and h_6 (rg_of_eq c_137 (rg_k (0 : Int32) 0 rfl)) (by decide)
      exact K_136 _ _ _ hG hP hD hS (lv_sub hl [0, 1, 2, 3, 4, 5, 6] rfl)
    · obtain ⟨f_140, f_141⟩ := (hr_5.resolve_right (fun q => c_137 q.1)).2
      have h_142 : rg a0 0 2147483647 := rg_le2 f_140 (rg_k (0 : Int32) 0 rfl) (rg_full _) (by decide)
      have h_143 : rg a0 0 11 := rg_le1 f_141 h_142 (rg_k (11 : Int32) 11 rfl) (by decide)
      have h_144 : rg x_1 1 1 := rg_ne c_137 h_6 0 rfl (by decide)
      refine lv_iload_n hx hb dX11_table_10 rfl (lv_at hl 2 rfl) ?_
      refine lv_iconst (v := 0) hx hb dX11_table_11 (by decide) ?_
      refine lv_sipush (v := 2000) hx hb dX11_table_12 (by decide) ?_
      refine pk_i (va_runS (As := [.int a1, .int 0, .int 2000]) (rest := []) ⟨hx, hb, hml, hown, hts⟩ (s_X11_between l D t σ I J ri rj rq H.size tg hSH hG.1 a1 (0 : Int32) (2000 : Int32)) (va_cwS 3 hts (tw_S tw_215 tw_216 tw_2 tw_217) rfl rfl rfl (by decide +kernel) ⟨Nat.le_of_ble_eq_true rfl, Nat.le_of_ble_eq_true rfl⟩) ⟨pq_blind, pq_pre hK hN hP hD⟩ rfl rfl hl.1 rfl (lv_room (Nat.le_of_ble_eq_true rfl)) dX11_table_15 ⟨Nat.le_of_ble_eq_true rfl, Nat.le_of_ble_eq_true rfl⟩) hD hS hA (fun x_145 σ1 μ1 H locs hw_146 hP hD hS => ?_)
      obtain ⟨hu_147, hr_149⟩ := hw_146
      obtain ⟨hu_147a, hu_147b⟩ := Prod.mk.inj hu_147
      rw [hu_147a, hu_147b] at hP hD
      have h_150 : rg x_145 0 1 := by rcases hr_149 with ⟨q, -⟩ | ⟨q, -⟩ <;> rw [q] <;> exact ⟨by decide, by decide⟩
      refine lv_if_eq (tgt := 69) hx hb dX11_table_18 (by decide) (fun c_151 => ?_) (fun c_151 => ?_)
      · have f_152 := (hr_149.resolve_left (fun q => absurd (q.1.symm.trans c_151) (by decide))).2
        have h_153 : rg x_145 0 0 := rg_and h_150 (rg_of_eq c_151 (rg_k (0 : Int32) 0 rfl)) (by decide)
        exact K_136 _ _ _ hG hP hD hS (lv_sub hl [0, 1, 2, 3, 4, 5, 6] rfl)
      · obtain ⟨f_154, f_155⟩ := (hr_149.resolve_right (fun q => c_151 q.1)).2
        have h_156 : rg a1 0 2147483647 := rg_le2 f_154 (rg_k (0 : Int32) 0 rfl) (rg_full _) (by decide)
        have h_157 : rg a1 0 2000 := rg_le1 f_155 h_156 (rg_k (2000 : Int32) 2000 rfl) (by decide)
        have h_158 : rg x_145 1 1 := rg_ne c_151 h_150 0 rfl (by decide)
        refine lv_iload_n hx hb dX11_table_21 rfl (lv_at hl 3 rfl) ?_
        refine lv_iload_n hx hb dX11_table_22 rfl (lv_at hl 2 rfl) ?_
        refine lv_sipush (v := 2000) hx hb dX11_table_23 (by decide) ?_
        refine pk_i (va_runS (As := [.int a2, .int a1, .int 2000]) (rest := []) ⟨hx, hb, hml, hown, hts⟩ (s_X11_between l D t σ I J ri rj rq H.size tg hSH hG.1 a2 a1 (2000 : Int32)) (va_cwS 3 hts (tw_S tw_215 tw_216 tw_2 tw_217) rfl rfl rfl (by decide +kernel) ⟨Nat.le_of_ble_eq_true rfl, Nat.le_of_ble_eq_true rfl⟩) ⟨pq_blind, pq_pre hK hN hP hD⟩ rfl rfl hl.1 rfl (lv_room (Nat.le_of_ble_eq_true rfl)) dX11_table_26 ⟨Nat.le_of_ble_eq_true rfl, Nat.le_of_ble_eq_true rfl⟩) hD hS hA (fun x_159 σ1 μ1 H locs hw_160 hP hD hS => ?_)
        obtain ⟨hu_161, hr_163⟩ := hw_160
        obtain ⟨hu_161a, hu_161b⟩ := Prod.mk.inj hu_161
        rw [hu_161a, hu_161b] at hP hD
        have h_164 : rg x_159 0 1 := by rcases hr_163 with ⟨q, -⟩ | ⟨q, -⟩ <;> rw [q] <;> exact ⟨by decide, by decide⟩
        refine lv_if_eq (tgt := 69) hx hb dX11_table_29 (by decide) (fun c_165 => ?_) (fun c_165 => ?_)
        · have f_166 := (hr_163.resolve_left (fun q => absurd (q.1.symm.trans c_165) (by decide))).2
          have h_167 : rg x_159 0 0 := rg_and h_164 (rg_of_eq c_165 (rg_k (0 : Int32) 0 rfl)) (by decide)
          exact K_136 _ _ _ hG hP hD hS (lv_sub hl [0, 1, 2, 3, 4, 5, 6] rfl)
        · obtain ⟨f_168, f_169⟩ := (hr_163.resolve_right (fun q => c_165 q.1)).2
          have h_170 : rg a2 0 2147483647 := rg_le2 f_168 h_157 (rg_full _) (by decide)
          have h_171 : rg a2 0 2000 := rg_le1 f_169 h_170 (rg_k (2000 : Int32) 2000 rfl) (by decide)
          have h_172 : rg x_159 1 1 := rg_ne c_165 h_164 0 rfl (by decide)
          refine lv_iload hx hb dX11_table_32 (lv_at hl 4 rfl) ?_
          refine lv_iconst (v := 0) hx hb dX11_table_34 (by decide) ?_
          refine lv_bipush (v := 40) hx hb dX11_table_35 (by decide) ?_
          refine pk_i (va_runS (As := [.int a3, .int 0, .int 40]) (rest := []) ⟨hx, hb, hml, hown, hts⟩ (s_X11_between l D t σ I J ri rj rq H.size tg hSH hG.1 a3 (0 : Int32) (40 : Int32)) (va_cwS 3 hts (tw_S tw_215 tw_216 tw_2 tw_217) rfl rfl rfl (by decide +kernel) ⟨Nat.le_of_ble_eq_true rfl, Nat.le_of_ble_eq_true rfl⟩) ⟨pq_blind, pq_pre hK hN hP hD⟩ rfl rfl hl.1 rfl (lv_room (Nat.le_of_ble_eq_true rfl)) dX11_table_37 ⟨Nat.le_of_ble_eq_true rfl, Nat.le_of_ble_eq_true rfl⟩) hD hS hA (fun x_173 σ1 μ1 H locs hw_174 hP hD hS => ?_)
          obtain ⟨hu_175, hr_177⟩ := hw_174
          obtain ⟨hu_175a, hu_175b⟩ := Prod.mk.inj hu_175
          rw [hu_175a, hu_175b] at hP hD
          have h_178 : rg x_173 0 1 := by rcases hr_177 with ⟨q, -⟩ | ⟨q, -⟩ <;> rw [q] <;> exact ⟨by decide, by decide⟩
          refine lv_if_eq (tgt := 69) hx hb dX11_table_40 (by decide) (fun c_179 => ?_) (fun c_179 => ?_)
          · have f_180 := (hr_177.resolve_left (fun q => absurd (q.1.symm.trans c_179) (by decide))).2
            have h_181 : rg x_173 0 0 := rg_and h_178 (rg_of_eq c_179 (rg_k (0 : Int32) 0 rfl)) (by decide)
            exact K_136 _ _ _ hG hP hD hS (lv_sub hl [0, 1, 2, 3, 4, 5, 6] rfl)
          · obtain ⟨f_182, f_183⟩ := (hr_177.resolve_right (fun q => c_179 q.1)).2
            have h_184 : rg a3 0 2147483647 := rg_le2 f_182 (rg_k (0 : Int32) 0 rfl) (rg_full _) (by decide)
            have h_185 : rg a3 0 40 := rg_le1 f_183 h_184 (rg_k (40 : Int32) 40 rfl) (by decide)
            have h_186 : rg x_173 1 1 := rg_ne c_179 h_178 0 rfl (by decide)
            refine lv_iload hx hb dX11_table_43 (lv_at hl 5 rfl) ?_
            refine lv_iconst (v := 0) hx hb dX11_table_45 (by decide) ?_
            refine lv_bipush (v := 50) hx hb dX11_table_46 (by decide) ?_
            refine pk_i (va_runS (As := [.int a4, .int 0, .int 50]) (rest := []) ⟨hx, hb, hml, hown, hts⟩ (s_X11_between l D t σ I J ri rj rq H.size tg hSH hG.1 a4 (0 : Int32) (50 : Int32)) (va_cwS 3 hts (tw_S tw_215 tw_216 tw_2 tw_217) rfl rfl rfl (by decide +kernel) ⟨Nat.le_of_ble_eq_true rfl, Nat.le_of_ble_eq_true rfl⟩) ⟨pq_blind, pq_pre hK hN hP hD⟩ rfl rfl hl.1 rfl (lv_room (Nat.le_of_ble_eq_true rfl)) dX11_table_48 ⟨Nat.le_of_ble_eq_true rfl, Nat.le_of_ble_eq_true rfl⟩) hD hS hA (fun x_187 σ1 μ1 H locs hw_188 hP hD hS => ?_)
            obtain ⟨hu_189, hr_191⟩ := hw_188
            obtain ⟨hu_189a, hu_189b⟩ := Prod.mk.inj hu_189
            rw [hu_189a, hu_189b] at hP hD
            have h_192 : rg x_187 0 1 := by rcases hr_191 with ⟨q, -⟩ | ⟨q, -⟩ <;> rw [q] <;> exact ⟨by decide, by decide⟩
            refine lv_if_eq (tgt := 69) hx hb dX11_table_51 (by decide) (fun c_193 => ?_) (fun c_193 => ?_)
            · have f_194 := (hr_191.resolve_left (fun q => absurd (q.1.symm.trans c_193) (by decide))).2
              have h_195 : rg x_187 0 0 := rg_and h_192 (rg_of_eq c_193 (rg_k (0 : Int32) 0 rfl)) (by decide)
              exact K_136 _ _ _ hG hP hD hS (lv_sub hl [0, 1, 2, 3, 4, 5, 6] rfl)
            · obtain ⟨f_196, f_197⟩ := (hr_191.resolve_right (fun q => c_193 q.1)).2
              have h_198 : rg a4 0 2147483647 := rg_le2 f_196 (rg_k (0 : Int32) 0 rfl) (rg_full _) (by decide)
              have h_199 : rg a4 0 50 := rg_le1 f_197 h_198 (rg_k (50 : Int32) 50 rfl) (by decide)
              have h_200 : rg x_187 1 1 := rg_ne c_193 h_192 0 rfl (by decide)
              refine lv_iload hx hb dX11_table_54 (lv_at hl 6 rfl) ?_
              refine lv_iconst (v := 0) hx hb dX11_table_56 (by decide) ?_
              refine lv_bipush (v := 100) hx hb dX11_table_57 (by decide) ?_
              refine pk_i (va_runS (As := [.int a5, .int 0, .int 100]) (rest := []) ⟨hx, hb, hml, hown, hts⟩ (s_X11_between l D t σ I J ri rj rq H.size tg hSH hG.1 a5 (0 : Int32) (100 : Int32)) (va_cwS 3 hts (tw_S tw_215 tw_216 tw_2 tw_217) rfl rfl rfl (by decide +kernel) ⟨Nat.le_of_ble_eq_true rfl, Nat.le_of_ble_eq_true rfl⟩) ⟨pq_blind, pq_pre hK hN hP hD⟩ rfl rfl hl.1 rfl (lv_room (Nat.le_of_ble_eq_true rfl)) dX11_table_59 ⟨Nat.le_of_ble_eq_true rfl, Nat.le_of_ble_eq_true rfl⟩) hD hS hA (fun x_201 σ1 μ1 H locs hw_202 hP hD hS => ?_)
              obtain ⟨hu_203, hr_205⟩ := hw_202
              obtain ⟨hu_203a, hu_203b⟩ := Prod.mk.inj hu_203
              rw [hu_203a, hu_203b] at hP hD
              have h_206 : rg x_201 0 1 := by rcases hr_205 with ⟨q, -⟩ | ⟨q, -⟩ <;> rw [q] <;> exact ⟨by decide, by decide⟩
              refine lv_if_eq (tgt := 69) hx hb dX11_table_62 (by decide) (fun c_207 => ?_) (fun c_207 => ?_)
              · have f_208 := (hr_205.resolve_left (fun q => absurd (q.1.symm.trans c_207) (by decide))).2
                have h_209 : rg x_201 0 0 := rg_and h_206 (rg_of_eq c_207 (rg_k (0 : Int32) 0 rfl)) (by decide)
                exact K_136 _ _ _ hG hP hD hS (lv_sub hl [0, 1, 2, 3, 4, 5, 6] rfl)
              · obtain ⟨f_210, f_211⟩ := (hr_205.resolve_right (fun q => c_207 q.1)).2
                have h_212 : rg a5 0 2147483647 := rg_le2 f_210 (rg_k (0 : Int32) 0 rfl) (rg_full _) (by decide)
                have h_213 : rg a5 0 100 := rg_le1 f_211 h_212 (rg_k (100 : Int32) 100 rfl) (by decide)
                have h_214 : rg x_201 1 1 := rg_ne c_207 h_206 0 rfl (by decide)
                refine lv_iconst (v := 1) hx hb dX11_table_65 (by decide) ?_
                refine lv_goto (tgt := 70) hx hb dX11_table_66 (by decide) ?_
                exact K_106 _ _ _ (rg_w h_143 (by decide)) (rg_w h_157 (by decide)) (rg_w h_171 (by decide)) (rg_w h_185 (by decide)) (rg_w h_199 (by decide)) (rg_w h_213 (by decide)) (rg_w h_144 (by decide)) hG hP hD hS (lv_sub hl [0, 1, 2, 3, 4, 5, 6] rfl)
  exact go _ _ _ hP hD hS hl

set_option maxHeartbeats 4000000 in
set_option maxRecDepth 100000 in
theorem s_X11_rules (l : Launch) (D : va_G) (t : pq_T) (σ : pq_S) (I : Nat → Nat → Int32) (J : Nat → Nat → Int64) (ri : Nat → Nat → Int32) (rj : Nat → Nat → Int64) (rq : Nat → Nat → Option Nat) (sz : Nat) (tg : Nat → Nat) (hSH : SH σ tg) (hG0 : GS tg σ I ri rq) (this : Nat) (a0 : Int32) (a1 : Int32) (a2 : Int32) (a3 : Int32) (a4 : Int32) (hL_this : this ∈ σ.1) (hK_this : σ.2.1 this = 11) : MetI l yX11_rules (wa yX11_rules cX11_rules 8 (some .boolean)) ({ frames := 1, cells := 0, slots := 0, locals := 22 }) [.ref this, .int a0, .int a1, .int a2, .int a3, .int a4] D t σ (I, J, ri, rj, rq) sz 0 0 (fun (r : Int32) (u : pq_S × pq_M) => ∃ I' : Nat → Nat → Int32, u = (σ, I', J, ri, rj, rq) ∧ GX [234, 235, 236] tg σ I ri rj I' ri rj rq ∧ ((r = 1 ∧ rg a0 0 40 ∧ rg a1 0 5 ∧ rg a2 0 50 ∧ rg a3 1 20 ∧ rg a4 0 100) ∨ (r = 0 ∧ True))) := by
  refine Met.ofW (cc := cX11_rules) (maxL := 8) (ret := (some .boolean)) (by decide) rfl ?_
  intro p e s m args below meth c s₁ B hml hv
  obtain ⟨rfl, hsz, hP, hK, hD0, hN⟩ := hv
  have hx := B.exec
  have hb := B.bytes
  have hr := B.returns
  have hts := atoms_spec (ws := (wa yX11_rules cX11_rules 8 (some .boolean))) B.pre
  have hown : s.vm.findClass RX11 = some m.cls := findClass_of_methodNamed B.named
  have hlocks := B.notSynchronized
  subst hsz
  have hD : va_D (pq_B t σ (I, J, ri, rj, rq) s.heap.size) (pq_P t σ (I, J, ri, rj, rq)) := hD0.self
  generalize hAe : pq_B t σ (I, J, ri, rj, rq) s.heap.size = A at hD ⊢
  have hA : ∀ q : Nat, s.heap.size ≤ q → A q := fun q h => by rw [← hAe]; exact Or.inr h
  have hS : va_S A s.heap s.heap [] := va_S.rf
  have hG : GX [234, 235, 236] tg σ I ri rj I ri rj rq := ⟨hG0, fun _ _ _ => rfl, fun _ _ _ _ _ => rfl, fun _ _ _ _ _ => rfl⟩
  have hl := lv_entry ([.ref this, .int a0, .int a1, .int a2, .int a3, .int a4]) (n := 8) (Nat.le_of_ble_eq_true rfl)
  rw [lg_entry_eq]
  generalize (lg_sl ([.ref this, .int a0, .int a1, .int a2, .int a3, .int a4]) ++ List.replicate (8 - (lg_sl ([.ref this, .int a0, .int a1, .int a2, .int a3, .int a4])).length) Slot.unset).toArray = ls at hl ⊢
  have hl : lv_has ls 8 [(0, .ref this), (1, .int a0), (2, .int a1), (3, .int a2), (4, .int a3), (5, .int a4)] := hl
  refine q_gen (fun Q hQ => ?_)
  have go : ∀ (H : Heap) (locs : List Loc) (ls : Array Slot), va_P D vwCl (pq_P t σ (I, J, ri, rj, rq)) H → va_D A (pq_P t σ (I, J, ri, rj, rq)) → va_S A s.heap H locs → lv_has ls 8 [(0, .ref this), (1, .int a0), (2, .int a1), (3, .int a2), (4, .int a3), (5, .int a4)] → W p l e ({ frames := 1, cells := 0, slots := 0, locals := 22 } : Room) s m (List.toArray ([.ref this, .int a0, .int a1, .int a2, .int a3, .int a4] : List Value)) below meth c H locs 0 0 Q (F0 m 0 ls []) := by
    intro H locs ls hP hD hS hl
    refine lv_iload_n hx hb dX11_rules_0 rfl (lv_at hl 1 rfl) ?_
    refine lv_iconst (v := 0) hx hb dX11_rules_1 (by decide) ?_
    refine lv_bipush (v := 40) hx hb dX11_rules_2 (by decide) ?_
    refine pk_i (va_runS (As := [.int a0, .int 0, .int 40]) (rest := []) ⟨hx, hb, hml, hown, hts⟩ (s_X11_between l D t σ I J ri rj rq H.size tg hSH hG.1 a0 (0 : Int32) (40 : Int32)) (va_cwS 3 hts (tw_S tw_215 tw_216 tw_2 tw_217) rfl rfl rfl (by decide +kernel) ⟨Nat.le_of_ble_eq_true rfl, Nat.le_of_ble_eq_true rfl⟩) ⟨pq_blind, pq_pre hK hN hP hD⟩ rfl rfl hl.1 rfl (lv_room (Nat.le_of_ble_eq_true rfl)) dX11_rules_4 ⟨Nat.le_of_ble_eq_true rfl, Nat.le_of_ble_eq_true rfl⟩) hD hS hA (fun x_1 σ1 μ1 H locs hw_2 hP hD hS => ?_)
    obtain ⟨hu_3, hr_5⟩ := hw_2
    obtain ⟨hu_3a, hu_3b⟩ := Prod.mk.inj hu_3
    rw [hu_3a, hu_3b] at hP hD
    have h_6 : rg x_1 0 1 := by rcases hr_5 with ⟨q, -⟩ | ⟨q, -⟩ <;> rw [q] <;> exact ⟨by decide, by decide⟩
    have K_86 : ∀  (H : Heap) (locs : List Loc) (ls : Array Slot), rg (a0) 0 40 → rg (a1) 0 5 → rg (a2) 0 50 → rg (a3) 1 20 → rg (a4) 0 100 → rg (x_1) 1 1 → GX [234, 235, 236] tg σ I ri rj I ri rj rq → va_P D vwCl (pq_P t σ (I, J, ri, rj, rq)) H → va_D A (pq_P t σ (I, J, ri, rj, rq)) → va_S A s.heap H locs → lv_has ls 8 [(0, .ref this), (1, .int a0), (2, .int a1), (3, .int a2), (4, .int a3), (5, .int a4)] → W p l e ({ frames := 1, cells := 0, slots := 0, locals := 22 } : Room) s m (List.toArray ([.ref this, .int a0, .int a1, .int a2, .int a3, .int a4] : List Value)) below meth c H locs 0 0 Q (F0 m 56 ls [.int 1]) := by
      intro H locs ls h_93 h_94 h_95 h_96 h_97 h_98 hG hP hD hS hl
      refine lv_istore (lv' := [(6, .int 1), (0, .ref this), (1, .int a0), (2, .int a1), (3, .int a2), (4, .int a3), (5, .int a4)]) hx hb dX11_rules_56 hl (by decide) rfl (fun ls hl => ?_)
      refine lv_iload hx hb dX11_rules_58 (lv_at hl 0 rfl) ?_
      refine lv_if_ne (tgt := 65) hx hb dX11_rules_60 (by decide) (fun c_99 => ?_) (fun c_99 => absurd c_99 (by decide))
      refine lv_aload_n hx hb dX11_rules_65 rfl (lv_at hl 1 rfl) ?_
      obtain ⟨w_100, hR_w_100, hL_w_100, hK_w_100⟩ := sh_o hSH 352 (ci := 11) (kd := 10) rfl hL_this hK_this
      refine pg_f (v := .ref w_100) (C := RX11) (T := TX11) (N := 5) hx hb hts (tw_i inlX11) hown hK hP hL_this hK_this (by decide) rfl 0 (by decide) (hts _ (tw_c tw_16)) (pq_hv rfl hR_w_100) dX11_rules_66 ?_
      obtain ⟨w_101, hR_w_101, hL_w_101, hK_w_101⟩ := sh_o hSH 326 (ci := 10) (kd := 7) rfl hL_w_100 hK_w_100
      refine pg_f (v := .ref w_101) (C := RX10) (T := TX10) (N := 13) hx hb hts (tw_i inlX10) hown hK hP hL_w_100 hK_w_100 (by decide) rfl 6 (by decide) (hts _ (tw_c tw_242)) (pq_hv rfl hR_w_101) dX11_rules_69 ?_
      refine lv_astore (lv' := [(7, .ref w_101), (6, .int 1), (0, .ref this), (1, .int a0), (2, .int a1), (3, .int a2), (4, .int a3), (5, .int a4)]) hx hb dX11_rules_72 hl (by decide) rfl (fun ls hl => ?_)
      refine lv_aload hx hb dX11_rules_74 (lv_at hl 0 rfl) ?_
      refine lv_iload_n hx hb dX11_rules_76 rfl (lv_at hl 3 rfl) ?_
      refine pp_i (v := a0) (ty := .int) (C := RX7) (T := TX7) (N := 15) hx hb hts (tw_i inlX7) tyX7 tyX7_ok nmX7 hown hK hP hD hS hL_w_101 hK_w_101 (by decide) rfl 10 234 (by decide) (hts _ (tw_c tw_318)) rfl (by decide +kernel) rfl rfl (Nat.le_of_ble_eq_true rfl) (ps_234 _ _ _ _ _) dX11_rules_77 (fun I_102 H locs eI_102 hP hD hS => ?_)
      have hG := GX.wI hG 234 rfl eI_102 (rg_w h_93 (by decide)) (by decide)
      refine lv_aload hx hb dX11_rules_80 (lv_at hl 0 rfl) ?_
      refine lv_iload_n hx hb dX11_rules_82 rfl (lv_at hl 4 rfl) ?_
      refine pp_i (v := a1) (ty := .int) (C := RX7) (T := TX7) (N := 15) hx hb hts (tw_i inlX7) tyX7 tyX7_ok nmX7 hown hK hP hD hS hL_w_101 hK_w_101 (by decide) rfl 11 235 (by decide) (hts _ (tw_c tw_319)) rfl (by decide +kernel) rfl rfl (Nat.le_of_ble_eq_true rfl) (ps_235 _ _ _ _ _) dX11_rules_83 (fun I_103 H locs eI_103 hP hD hS => ?_)
      have hG := GX.wI hG 235 rfl eI_103 (rg_w h_94 (by decide)) (by decide)
      refine lv_aload hx hb dX11_rules_86 (lv_at hl 0 rfl) ?_
      refine lv_iload_n hx hb dX11_rules_88 rfl (lv_at hl 5 rfl) ?_
      refine pp_i (v := a2) (ty := .int) (C := RX7) (T := TX7) (N := 15) hx hb hts (tw_i inlX7) tyX7 tyX7_ok nmX7 hown hK hP hD hS hL_w_101 hK_w_101 (by decide) rfl 12 236 (by decide) (hts _ (tw_c tw_320)) rfl (by decide +kernel) rfl rfl (Nat.le_of_ble_eq_true rfl) (ps_236 _ _ _ _ _) dX11_rules_89 (fun I_104 H locs eI_104 hP hD hS => ?_)
      have hG := GX.wI hG 236 rfl eI_104 (rg_w h_95 (by decide)) (by decide)
      refine lv_aload hx hb dX11_rules_92 (lv_at hl 0 rfl) ?_
      refine lv_iload hx hb dX11_rules_94 (lv_at hl 6 rfl) ?_
      refine pp_i (v := a3) (ty := .int) (C := RX7) (T := TX7) (N := 15) hx hb hts (tw_i inlX7) tyX7 tyX7_ok nmX7 hown hK hP hD hS hL_w_101 hK_w_101 (by decide) rfl 13 237 (by decide) (hts _ (tw_c tw_321)) rfl (by decide +kernel) rfl rfl (Nat.le_of_ble_eq_true rfl) (ps_237 _ _ _ _ _) dX11_rules_96 (fun I_105 H locs eI_105 hP hD hS => ?_)
      have hG := GX.wI hG 237 rfl eI_105 (rg_w h_96 (by decide)) (by decide)
      refine lv_aload hx hb dX11_rules_99 (lv_at hl 0 rfl) ?_
      refine lv_iload hx hb dX11_rules_101 (lv_at hl 7 rfl) ?_
      refine pp_i (v := a4) (ty := .int) (C := RX7) (T := TX7) (N := 15) hx hb hts (tw_i inlX7) tyX7 tyX7_ok nmX7 hown hK hP hD hS hL_w_101 hK_w_101 (by decide) rfl 14 238 (by decide) (hts _ (tw_c tw_322)) rfl (by decide +kernel) rfl rfl (Nat.le_of_ble_eq_true rfl) (ps_238 _ _ _ _ _) dX11_rules_103 (fun I_106 H locs eI_106 hP hD hS => ?_)
      have hG := GX.wI hG 238 rfl eI_106 (rg_w h_97 (by decide)) (by decide)
      refine lv_iconst (v := 1) hx hb dX11_rules_106 (by decide) ?_
      subst hQ
      exact W.zret (v := 1) hx hb hr (by decide) (fun t1 ht hW => ⟨⟨1, (σ, I_106, J, ri, rj, rq), rfl, ⟨I_106, rfl, hG, (Or.inl ⟨rfl, (rg_w h_93 (by decide)), (rg_w h_94 (by decide)), (rg_w h_95 (by decide)), (rg_w h_96 (by decide)), (rg_w h_97 (by decide))⟩)⟩, by rw [ht]; exact hP, va_K.moved hW.alike hK, hD⟩, hS.F ht⟩) hS.2.2 dX11_rules_107
    have K_107 : ∀  (H : Heap) (locs : List Loc) (ls : Array Slot), GX [234, 235, 236] tg σ I ri rj I ri rj rq → va_P D vwCl (pq_P t σ (I, J, ri, rj, rq)) H → va_D A (pq_P t σ (I, J, ri, rj, rq)) → va_S A s.heap H locs → lv_has ls 8 [(0, .ref this), (1, .int a0), (2, .int a1), (3, .int a2), (4, .int a3), (5, .int a4)] → W p l e ({ frames := 1, cells := 0, slots := 0, locals := 22 } : Room) s m (List.toArray ([.ref this, .int a0, .int a1, .int a2, .int a3, .int a4] : List Value)) below meth c H locs 0 0 Q (F0 m 56 ls [.int 0]) := by
      intro H locs ls hG hP hD hS hl
      refine lv_istore (lv' := [(6, .int 0), (0, .ref this), (1, .int a0), (2, .int a1), (3, .int a2), (4, .int a3), (5, .int a4)]) hx hb dX11_rules_56 hl (by decide) rfl (fun ls hl => ?_)
      refine lv_iload hx hb dX11_rules_58 (lv_at hl 0 rfl) ?_
      refine lv_if_ne (tgt := 65) hx hb dX11_rules_60 (by decide) (fun c_108 => absurd c_108 (by decide)) (fun c_108 => ?_)
      refine lv_iconst (v := 0) hx hb dX11_rules_63 (by decide) ?_
      subst hQ
      exact W.zret (v := 0) hx hb hr (by decide) (fun t1 ht hW => ⟨⟨0, (σ, I, J, ri, rj, rq), rfl, ⟨I, rfl, hG, (Or.inr ⟨rfl, trivial⟩)⟩, by rw [ht]; exact hP, va_K.moved hW.alike hK, hD⟩, hS.F ht⟩) hS.2.2 dX11_rules_64
    have K_109 : ∀  (H : Heap) (locs : List Loc) (ls : Array Slot), GX [234, 235, 236] tg σ I ri rj I ri rj rq → va_P D vwCl (pq_P t σ (I, J, ri, rj, rq)) H → va_D A (pq_P t σ (I, J, ri, rj, rq)) → va_S A s.heap H locs → lv_has ls 8 [(0, .ref this), (1, .int a0), (2, .int a1), (3, .int a2), (4, .int a3), (5, .int a4)] → W p l e ({ frames := 1, cells := 0, slots := 0, locals := 22 } : Room) s m (List.toArray ([.ref this, .int a0, .int a1, .int a2, .int a3, .int a4] : List Value)) below meth c H locs 0 0 Q (F0 m 55 ls []) := by
      intro H locs ls hG hP hD hS hl
      refine lv_iconst (v := 0) hx hb dX11_rules_55 (by decide) ?_
      exact K_107 _ _ _ hG hP hD hS (lv_sub hl [0, 1, 2, 3, 4, 5] rfl)
    refine lv_if_eq (tgt := 55) hx hb dX11_rules_7 (by decide) (fun c_110 => ?_) (fun c_110 => ?_)
    · have f_111 := (hr_5.resolve_left (fun q => absurd (q.1.symm.trans c_110) (by decide))).2
      have h_112 : rg x_1 0 0 := rg_and h_6 (rg_of_eq c_110 (rg_k (0 : Int32) 0 rfl)) (by decide)
      exact K_109 _ _ _ hG hP hD hS (lv_sub hl [0, 1, 2, 3, 4, 5] rfl)
    · obtain ⟨f_113, f_114⟩ := (hr_5.resolve_right (fun q => c_110 q.1)).2
      have h_115 : rg a0 0 2147483647 := rg_le2 f_113 (rg_k (0 : Int32) 0 rfl) (rg_full _) (by decide)
      have h_116 : rg a0 0 40 := rg_le1 f_114 h_115 (rg_k (40 : Int32) 40 rfl) (by decide)
      have h_117 : rg x_1 1 1 := rg_ne c_110 h_6 0 rfl (by decide)
      refine lv_iload_n hx hb dX11_rules_10 rfl (lv_at hl 2 rfl) ?_
      refine lv_iconst (v := 0) hx hb dX11_rules_11 (by decide) ?_
      refine lv_iconst (v := 5) hx hb dX11_rules_12 (by decide) ?_
      refine pk_i (va_runS (As := [.int a1, .int 0, .int 5]) (rest := []) ⟨hx, hb, hml, hown, hts⟩ (s_X11_between l D t σ I J ri rj rq H.size tg hSH hG.1 a1 (0 : Int32) (5 : Int32)) (va_cwS 3 hts (tw_S tw_215 tw_216 tw_2 tw_217) rfl rfl rfl (by decide +kernel) ⟨Nat.le_of_ble_eq_true rfl, Nat.le_of_ble_eq_true rfl⟩) ⟨pq_blind, pq_pre hK hN hP hD⟩ rfl rfl hl.1 rfl (lv_room (Nat.le_of_ble_eq_true rfl)) dX11_rules_13 ⟨Nat.le_of_ble_eq_true rfl, Nat.le_of_ble_eq_true rfl⟩) hD hS hA (fun x_118 σ1 μ1 H locs hw_119 hP hD hS => ?_)
      obtain ⟨hu_120, hr_122⟩ := hw_119
      obtain ⟨hu_120a, hu_120b⟩ := Prod.mk.inj hu_120
      rw [hu_120a, hu_120b] at hP hD
      have h_123 : rg x_118 0 1 := by rcases hr_122 with ⟨q, -⟩ | ⟨q, -⟩ <;> rw [q] <;> exact ⟨by decide, by decide⟩
      refine lv_if_eq (tgt := 55) hx hb dX11_rules_16 (by decide) (fun c_124 => ?_) (fun c_124 => ?_)
      · have f_125 := (hr_122.resolve_left (fun q => absurd (q.1.symm.trans c_124) (by decide))).2
        have h_126 : rg x_118 0 0 := rg_and h_123 (rg_of_eq c_124 (rg_k (0 : Int32) 0 rfl)) (by decide)
        exact K_109 _ _ _ hG hP hD hS (lv_sub hl [0, 1, 2, 3, 4, 5] rfl)
      · obtain ⟨f_127, f_128⟩ := (hr_122.resolve_right (fun q => c_124 q.1)).2
        have h_129 : rg a1 0 2147483647 := rg_le2 f_127 (rg_k (0 : Int32) 0 rfl) (rg_full _) (by decide)
        have h_130 : rg a1 0 5 := rg_le1 f_128 h_129 (rg_k (5 : Int32) 5 rfl) (by decide)
        have h_131 : rg x_118 1 1 := rg_ne c_124 h_123 0 rfl (by decide)
        refine lv_iload_n hx hb dX11_rules_19 rfl (lv_at hl 3 rfl) ?_
        refine lv_iconst (v := 0) hx hb dX11_rules_20 (by decide) ?_
        refine lv_bipush (v := 50) hx hb dX11_rules_21 (by decide) ?_
        refine pk_i (va_runS (As := [.int a2, .int 0, .int 50]) (rest := []) ⟨hx, hb, hml, hown, hts⟩ (s_X11_between l D t σ I J ri rj rq H.size tg hSH hG.1 a2 (0 : Int32) (50 : Int32)) (va_cwS 3 hts (tw_S tw_215 tw_216 tw_2 tw_217) rfl rfl rfl (by decide +kernel) ⟨Nat.le_of_ble_eq_true rfl, Nat.le_of_ble_eq_true rfl⟩) ⟨pq_blind, pq_pre hK hN hP hD⟩ rfl rfl hl.1 rfl (lv_room (Nat.le_of_ble_eq_true rfl)) dX11_rules_23 ⟨Nat.le_of_ble_eq_true rfl, Nat.le_of_ble_eq_true rfl⟩) hD hS hA (fun x_132 σ1 μ1 H locs hw_133 hP hD hS => ?_)
        obtain ⟨hu_134, hr_136⟩ := hw_133
        obtain ⟨hu_134a, hu_134b⟩ := Prod.mk.inj hu_134
        rw [hu_134a, hu_134b] at hP hD
        have h_137 : rg x_132 0 1 := by rcases hr_136 with ⟨q, -⟩ | ⟨q, -⟩ <;> rw [q] <;> exact ⟨by decide, by decide⟩
        refine lv_if_eq (tgt := 55) hx hb dX11_rules_26 (by decide) (fun c_138 => ?_) (fun c_138 => ?_)
        · have f_139 := (hr_136.resolve_left (fun q => absurd (q.1.symm.trans c_138) (by decide))).2
          have h_140 : rg x_132 0 0 := rg_and h_137 (rg_of_eq c_138 (rg_k (0 : Int32) 0 rfl)) (by decide)
          exact K_109 _ _ _ hG hP hD hS (lv_sub hl [0, 1, 2, 3, 4, 5] rfl)
        · obtain ⟨f_141, f_142⟩ := (hr_136.resolve_right (fun q => c_138 q.1)).2
          have h_143 : rg a2 0 2147483647 := rg_le2 f_141 (rg_k (0 : Int32) 0 rfl) (rg_full _) (by decide)
          have h_144 : rg a2 0 50 := rg_le1 f_142 h_143 (rg_k (50 : Int32) 50 rfl) (by decide)
          have h_145 : rg x_132 1 1 := rg_ne c_138 h_137 0 rfl (by decide)
          refine lv_iload hx hb dX11_rules_29 (lv_at hl 4 rfl) ?_
          refine lv_iconst (v := 1) hx hb dX11_rules_31 (by decide) ?_
          refine lv_bipush (v := 20) hx hb dX11_rules_32 (by decide) ?_
          refine pk_i (va_runS (As := [.int a3, .int 1, .int 20]) (rest := []) ⟨hx, hb, hml, hown, hts⟩ (s_X11_between l D t σ I J ri rj rq H.size tg hSH hG.1 a3 (1 : Int32) (20 : Int32)) (va_cwS 3 hts (tw_S tw_215 tw_216 tw_2 tw_217) rfl rfl rfl (by decide +kernel) ⟨Nat.le_of_ble_eq_true rfl, Nat.le_of_ble_eq_true rfl⟩) ⟨pq_blind, pq_pre hK hN hP hD⟩ rfl rfl hl.1 rfl (lv_room (Nat.le_of_ble_eq_true rfl)) dX11_rules_34 ⟨Nat.le_of_ble_eq_true rfl, Nat.le_of_ble_eq_true rfl⟩) hD hS hA (fun x_146 σ1 μ1 H locs hw_147 hP hD hS => ?_)
          obtain ⟨hu_148, hr_150⟩ := hw_147
          obtain ⟨hu_148a, hu_148b⟩ := Prod.mk.inj hu_148
          rw [hu_148a, hu_148b] at hP hD
          have h_151 : rg x_146 0 1 := by rcases hr_150 with ⟨q, -⟩ | ⟨q, -⟩ <;> rw [q] <;> exact ⟨by decide, by decide⟩
          refine lv_if_eq (tgt := 55) hx hb dX11_rules_37 (by decide) (fun c_152 => ?_) (fun c_152 => ?_)
          · have f_153 := (hr_150.resolve_left (fun q => absurd (q.1.symm.trans c_152) (by decide))).2
            have h_154 : rg x_146 0 0 := rg_and h_151 (rg_of_eq c_152 (rg_k (0 : Int32) 0 rfl)) (by decide)
            exact K_109 _ _ _ hG hP hD hS (lv_sub hl [0, 1, 2, 3, 4, 5] rfl)
          · obtain ⟨f_155, f_156⟩ := (hr_150.resolve_right (fun q => c_152 q.1)).2
            have h_157 : rg a3 1 2147483647 := rg_le2 f_155 (rg_k (1 : Int32) 1 rfl) (rg_full _) (by decide)
            have h_158 : rg a3 1 20 := rg_le1 f_156 h_157 (rg_k (20 : Int32) 20 rfl) (by decide)
            have h_159 : rg x_146 1 1 := rg_ne c_152 h_151 0 rfl (by decide)
            refine lv_iload hx hb dX11_rules_40 (lv_at hl 5 rfl) ?_
            refine lv_iconst (v := 0) hx hb dX11_rules_42 (by decide) ?_
            refine lv_bipush (v := 100) hx hb dX11_rules_43 (by decide) ?_
            refine pk_i (va_runS (As := [.int a4, .int 0, .int 100]) (rest := []) ⟨hx, hb, hml, hown, hts⟩ (s_X11_between l D t σ I J ri rj rq H.size tg hSH hG.1 a4 (0 : Int32) (100 : Int32)) (va_cwS 3 hts (tw_S tw_215 tw_216 tw_2 tw_217) rfl rfl rfl (by decide +kernel) ⟨Nat.le_of_ble_eq_true rfl, Nat.le_of_ble_eq_true rfl⟩) ⟨pq_blind, pq_pre hK hN hP hD⟩ rfl rfl hl.1 rfl (lv_room (Nat.le_of_ble_eq_true rfl)) dX11_rules_45 ⟨Nat.le_of_ble_eq_true rfl, Nat.le_of_ble_eq_true rfl⟩) hD hS hA (fun x_160 σ1 μ1 H locs hw_161 hP hD hS => ?_)
            obtain ⟨hu_162, hr_164⟩ := hw_161
            obtain ⟨hu_162a, hu_162b⟩ := Prod.mk.inj hu_162
            rw [hu_162a, hu_162b] at hP hD
            have h_165 : rg x_160 0 1 := by rcases hr_164 with ⟨q, -⟩ | ⟨q, -⟩ <;> rw [q] <;> exact ⟨by decide, by decide⟩
            refine lv_if_eq (tgt := 55) hx hb dX11_rules_48 (by decide) (fun c_166 => ?_) (fun c_166 => ?_)
            · have f_167 := (hr_164.resolve_left (fun q => absurd (q.1.symm.trans c_166) (by decide))).2
              have h_168 : rg x_160 0 0 := rg_and h_165 (rg_of_eq c_166 (rg_k (0 : Int32) 0 rfl)) (by decide)
              exact K_109 _ _ _ hG hP hD hS (lv_sub hl [0, 1, 2, 3, 4, 5] rfl)
            · obtain ⟨f_169, f_170⟩ := (hr_164.resolve_right (fun q => c_166 q.1)).2
              have h_171 : rg a4 0 2147483647 := rg_le2 f_169 (rg_k (0 : Int32) 0 rfl) (rg_full _) (by decide)
              have h_172 : rg a4 0 100 := rg_le1 f_170 h_171 (rg_k (100 : Int32) 100 rfl) (by decide)
              have h_173 : rg x_160 1 1 := rg_ne c_166 h_165 0 rfl (by decide)
              refine lv_iconst (v := 1) hx hb dX11_rules_51 (by decide) ?_
              refine lv_goto (tgt := 56) hx hb dX11_rules_52 (by decide) ?_
              exact K_86 _ _ _ (rg_w h_116 (by decide)) (rg_w h_130 (by decide)) (rg_w h_144 (by decide)) (rg_w h_158 (by decide)) (rg_w h_172 (by decide)) (rg_w h_117 (by decide)) hG hP hD hS (lv_sub hl [0, 1, 2, 3, 4, 5] rfl)
  exact go _ _ _ hP hD hS hl

set_option maxHeartbeats 4000000 in
set_option maxRecDepth 100000 in
theorem s_X11_isCell (l : Launch) (D : va_G) (t : pq_T) (σ : pq_S) (I : Nat → Nat → Int32) (J : Nat → Nat → Int64) (ri : Nat → Nat → Int32) (rj : Nat → Nat → Int64) (rq : Nat → Nat → Option Nat) (sz : Nat) (tg : Nat → Nat) (hSH : SH σ tg) (hG0 : GS tg σ I ri rq) (this : Nat) (a0 : Int32) (hL_this : this ∈ σ.1) (hK_this : σ.2.1 this = 11) : MetI l yX11_isCell (wa yX11_isCell cX11_isCell 2 (some .boolean)) ({ frames := 1, cells := 0, slots := 0, locals := 22 }) [.ref this, .int a0] D t σ (I, J, ri, rj, rq) sz 0 0 (fun (r : Int32) (u : pq_S × pq_M) => u = (σ, I, J, ri, rj, rq) ∧ ((r = 1 ∧ rg a0 0 39) ∨ (r = 0 ∧ True))) := by
  refine Met.ofW (cc := cX11_isCell) (maxL := 2) (ret := (some .boolean)) (by decide) rfl ?_
  intro p e s m args below meth c s₁ B hml hv
  obtain ⟨rfl, hsz, hP, hK, hD0, hN⟩ := hv
  have hx := B.exec
  have hb := B.bytes
  have hr := B.returns
  have hts := atoms_spec (ws := (wa yX11_isCell cX11_isCell 2 (some .boolean))) B.pre
  have hown : s.vm.findClass RX11 = some m.cls := findClass_of_methodNamed B.named
  have hlocks := B.notSynchronized
  subst hsz
  have hD : va_D (pq_B t σ (I, J, ri, rj, rq) s.heap.size) (pq_P t σ (I, J, ri, rj, rq)) := hD0.self
  generalize hAe : pq_B t σ (I, J, ri, rj, rq) s.heap.size = A at hD ⊢
  have hA : ∀ q : Nat, s.heap.size ≤ q → A q := fun q h => by rw [← hAe]; exact Or.inr h
  have hS : va_S A s.heap s.heap [] := va_S.rf
  have hG : GX [] tg σ I ri rj I ri rj rq := ⟨hG0, fun _ _ _ => rfl, fun _ _ _ _ _ => rfl, fun _ _ _ _ _ => rfl⟩
  have hl := lv_entry ([.ref this, .int a0]) (n := 2) (Nat.le_of_ble_eq_true rfl)
  rw [lg_entry_eq]
  generalize (lg_sl ([.ref this, .int a0]) ++ List.replicate (2 - (lg_sl ([.ref this, .int a0])).length) Slot.unset).toArray = ls at hl ⊢
  have hl : lv_has ls 2 [(0, .ref this), (1, .int a0)] := hl
  refine q_gen (fun Q hQ => ?_)
  have go : ∀ (H : Heap) (locs : List Loc) (ls : Array Slot), va_P D vwCl (pq_P t σ (I, J, ri, rj, rq)) H → va_D A (pq_P t σ (I, J, ri, rj, rq)) → va_S A s.heap H locs → lv_has ls 2 [(0, .ref this), (1, .int a0)] → W p l e ({ frames := 1, cells := 0, slots := 0, locals := 22 } : Room) s m (List.toArray ([.ref this, .int a0] : List Value)) below meth c H locs 0 0 Q (F0 m 0 ls []) := by
    intro H locs ls hP hD hS hl
    refine lv_iload_n hx hb dX11_isCell_0 rfl (lv_at hl 1 rfl) ?_
    refine lv_iconst (v := 0) hx hb dX11_isCell_1 (by decide) ?_
    refine lv_aload_n hx hb dX11_isCell_2 rfl (lv_at hl 0 rfl) ?_
    obtain ⟨w_1, hR_w_1, hL_w_1, hK_w_1⟩ := sh_o hSH 352 (ci := 11) (kd := 10) rfl hL_this hK_this
    refine pg_f (v := .ref w_1) (C := RX11) (T := TX11) (N := 5) hx hb hts (tw_i inlX11) hown hK hP hL_this hK_this (by decide) rfl 0 (by decide) (hts _ (tw_c tw_16)) (pq_hv rfl hR_w_1) dX11_isCell_3 ?_
    obtain ⟨w_2, hR_w_2, hL_w_2, hK_w_2⟩ := sh_o hSH 327 (ci := 10) (kd := 2) rfl hL_w_1 hK_w_1
    refine pg_f (v := .ref w_2) (C := RX10) (T := TX10) (N := 13) hx hb hts (tw_i inlX10) hown hK hP hL_w_1 hK_w_1 (by decide) rfl 7 (by decide) (hts _ (tw_c tw_199)) (pq_hv rfl hR_w_2) dX11_isCell_6 ?_
    refine pg_f (v := .int (I 65 w_2)) (C := RX2) (T := TX2) (N := 20) hx hb hts (tw_i inlX2) hown hK hP hL_w_2 hK_w_2 (by decide) rfl 1 (by decide) (hts _ (tw_c tw_210)) rfl dX11_isCell_9 ?_
    have h_3 : rg (I 65 w_2) 0 40 := GX.rI hG 65 rfl
    refine lv_iconst (v := 1) hx hb dX11_isCell_12 (by decide) ?_
    refine lv_isub hx hb dX11_isCell_13 ?_
    refine lv_topi (fun x_4 ex_4 => ?_)
    have h_5 : rg x_4 (-1) 39 := rg_of_eq ex_4 (rg_sub h_3 (rg_k (1 : Int32) 1 rfl) (by decide))
    refine pk_i (va_runS (As := [.int a0, .int 0, .int x_4]) (rest := []) ⟨hx, hb, hml, hown, hts⟩ (s_X11_between l D t σ I J ri rj rq H.size tg hSH hG.1 a0 (0 : Int32) x_4) (va_cwS 3 hts (tw_S tw_215 tw_216 tw_2 tw_217) rfl rfl rfl (by decide +kernel) ⟨Nat.le_of_ble_eq_true rfl, Nat.le_of_ble_eq_true rfl⟩) ⟨pq_blind, pq_pre hK hN hP hD⟩ rfl rfl hl.1 rfl (lv_room (Nat.le_of_ble_eq_true rfl)) dX11_isCell_14 ⟨Nat.le_of_ble_eq_true rfl, Nat.le_of_ble_eq_true rfl⟩) hD hS hA (fun x_6 σ1 μ1 H locs hw_7 hP hD hS => ?_)
    obtain ⟨hu_8, hr_10⟩ := hw_7
    obtain ⟨hu_8a, hu_8b⟩ := Prod.mk.inj hu_8
    rw [hu_8a, hu_8b] at hP hD
    have h_11 : rg x_6 0 1 := by rcases hr_10 with ⟨q, -⟩ | ⟨q, -⟩ <;> rw [q] <;> exact ⟨by decide, by decide⟩
    rcases hr_10 with ⟨e_15, f_12, f_13⟩ | ⟨e_15, f_14⟩
    · refine lv_tov 1 e_15 ?_
      have h_16 : rg a0 0 2147483647 := rg_le2 f_12 (rg_k (0 : Int32) 0 rfl) (rg_full _) (by decide)
      have h_17 : rg a0 0 39 := rg_le1 f_13 h_16 h_5 (by decide)
      have h_18 : rg x_4 0 39 := rg_le2 f_13 h_16 h_5 (by decide)
      subst hQ
      exact W.zret (v := 1) hx hb hr (by decide) (fun t1 ht hW => ⟨⟨1, (σ, I, J, ri, rj, rq), rfl, ⟨rfl, (Or.inl ⟨rfl, (rg_w h_17 (by decide))⟩)⟩, by rw [ht]; exact hP, va_K.moved hW.alike hK, hD⟩, hS.F ht⟩) hS.2.2 dX11_isCell_17
    · refine lv_tov 0 e_15 ?_
      subst hQ
      exact W.zret (v := 0) hx hb hr (by decide) (fun t1 ht hW => ⟨⟨0, (σ, I, J, ri, rj, rq), rfl, ⟨rfl, (Or.inr ⟨rfl, trivial⟩)⟩, by rw [ht]; exact hP, va_K.moved hW.alike hK, hD⟩, hS.F ht⟩) hS.2.2 dX11_isCell_17
  exact go _ _ _ hP hD hS hl

set_option maxHeartbeats 4000000 in
set_option maxRecDepth 100000 in
theorem s_X11_wall (l : Launch) (D : va_G) (t : pq_T) (σ : pq_S) (I : Nat → Nat → Int32) (J : Nat → Nat → Int64) (ri : Nat → Nat → Int32) (rj : Nat → Nat → Int64) (rq : Nat → Nat → Option Nat) (sz : Nat) (tg : Nat → Nat) (hSH : SH σ tg) (hG0 : GS tg σ I ri rq) (this : Nat) (a0 : Int32) (a1 : Int32) (hL_this : this ∈ σ.1) (hK_this : σ.2.1 this = 11) : MetI l yX11_wall (wa yX11_wall cX11_wall 3 (some .boolean)) ({ frames := 2, cells := 0, slots := 0, locals := 43 }) [.ref this, .int a0, .int a1] D t σ (I, J, ri, rj, rq) sz 0 0 (fun (r : Int32) (u : pq_S × pq_M) => ∃ ri' : Nat → Nat → Int32, u = (σ, I, J, ri', rj, rq) ∧ GX [1075] tg σ I ri rj I ri' rj rq ∧ ((r = 1 ∧ rg a0 0 39 ∧ rg a1 0 1000) ∨ (r = 0 ∧ True))) := by
  refine Met.ofW (cc := cX11_wall) (maxL := 3) (ret := (some .boolean)) (by decide) rfl ?_
  intro p e s m args below meth c s₁ B hml hv
  obtain ⟨rfl, hsz, hP, hK, hD0, hN⟩ := hv
  have hx := B.exec
  have hb := B.bytes
  have hr := B.returns
  have hts := atoms_spec (ws := (wa yX11_wall cX11_wall 3 (some .boolean))) B.pre
  have hown : s.vm.findClass RX11 = some m.cls := findClass_of_methodNamed B.named
  have hlocks := B.notSynchronized
  subst hsz
  have hD : va_D (pq_B t σ (I, J, ri, rj, rq) s.heap.size) (pq_P t σ (I, J, ri, rj, rq)) := hD0.self
  generalize hAe : pq_B t σ (I, J, ri, rj, rq) s.heap.size = A at hD ⊢
  have hA : ∀ q : Nat, s.heap.size ≤ q → A q := fun q h => by rw [← hAe]; exact Or.inr h
  have hS : va_S A s.heap s.heap [] := va_S.rf
  have hG : GX [1075] tg σ I ri rj I ri rj rq := ⟨hG0, fun _ _ _ => rfl, fun _ _ _ _ _ => rfl, fun _ _ _ _ _ => rfl⟩
  have hl := lv_entry ([.ref this, .int a0, .int a1]) (n := 3) (Nat.le_of_ble_eq_true rfl)
  rw [lg_entry_eq]
  generalize (lg_sl ([.ref this, .int a0, .int a1]) ++ List.replicate (3 - (lg_sl ([.ref this, .int a0, .int a1])).length) Slot.unset).toArray = ls at hl ⊢
  have hl : lv_has ls 3 [(0, .ref this), (1, .int a0), (2, .int a1)] := hl
  refine q_gen (fun Q hQ => ?_)
  have go : ∀ (H : Heap) (locs : List Loc) (ls : Array Slot), va_P D vwCl (pq_P t σ (I, J, ri, rj, rq)) H → va_D A (pq_P t σ (I, J, ri, rj, rq)) → va_S A s.heap H locs → lv_has ls 3 [(0, .ref this), (1, .int a0), (2, .int a1)] → W p l e ({ frames := 2, cells := 0, slots := 0, locals := 43 } : Room) s m (List.toArray ([.ref this, .int a0, .int a1] : List Value)) below meth c H locs 0 0 Q (F0 m 0 ls []) := by
    intro H locs ls hP hD hS hl
    refine lv_aload_n hx hb dX11_wall_0 rfl (lv_at hl 0 rfl) ?_
    refine lv_iload_n hx hb dX11_wall_1 rfl (lv_at hl 1 rfl) ?_
    refine pk_i (va_runV (As := [.int a0]) (rest := []) ⟨hx, hb, hml, hown, hts⟩ (s_X11_isCell l D t σ I J ri rj rq H.size tg hSH hG.1 this a0 hL_this hK_this) (cwV 1 hts (tw_V tw_332 tw_333 tw_334 tw_2 tw_335) rfl rfl rfl (by decide +kernel) ⟨Nat.le_of_ble_eq_true rfl, Nat.le_of_ble_eq_true rfl⟩) ⟨pq_blind, pq_recv hK hP hL_this hK_this (by decide) rfl, pq_pre hK hN hP hD⟩ rfl rfl hl.1 rfl (lv_room (Nat.le_of_ble_eq_true rfl)) dX11_wall_2 ⟨Nat.le_of_ble_eq_true rfl, Nat.le_of_ble_eq_true rfl⟩) hD hS hA (fun x_1 σ1 μ1 H locs hw_2 hP hD hS => ?_)
    obtain ⟨hu_3, hr_5⟩ := hw_2
    obtain ⟨hu_3a, hu_3b⟩ := Prod.mk.inj hu_3
    rw [hu_3a, hu_3b] at hP hD
    have h_6 : rg x_1 0 1 := by rcases hr_5 with ⟨q, -⟩ | ⟨q, -⟩ <;> rw [q] <;> exact ⟨by decide, by decide⟩
    have K_30 : ∀  (H : Heap) (locs : List Loc) (ls : Array Slot), GX [1075] tg σ I ri rj I ri rj rq → va_P D vwCl (pq_P t σ (I, J, ri, rj, rq)) H → va_D A (pq_P t σ (I, J, ri, rj, rq)) → va_S A s.heap H locs → lv_has ls 3 [] → W p l e ({ frames := 2, cells := 0, slots := 0, locals := 43 } : Room) s m (List.toArray ([.ref this, .int a0, .int a1] : List Value)) below meth c H locs 0 0 Q (F0 m 19 ls []) := by
      intro H locs ls hG hP hD hS hl
      refine lv_iconst (v := 0) hx hb dX11_wall_19 (by decide) ?_
      subst hQ
      exact W.zret (v := 0) hx hb hr (by decide) (fun t1 ht hW => ⟨⟨0, (σ, I, J, ri, rj, rq), rfl, ⟨ri, rfl, hG, (Or.inr ⟨rfl, trivial⟩)⟩, by rw [ht]; exact hP, va_K.moved hW.alike hK, hD⟩, hS.F ht⟩) hS.2.2 dX11_wall_20
    refine lv_if_eq (tgt := 19) hx hb dX11_wall_5 (by decide) (fun c_31 => ?_) (fun c_31 => ?_)
    · have f_32 := (hr_5.resolve_left (fun q => absurd (q.1.symm.trans c_31) (by decide))).2
      have h_33 : rg x_1 0 0 := rg_and h_6 (rg_of_eq c_31 (rg_k (0 : Int32) 0 rfl)) (by decide)
      exact K_30 _ _ _ hG hP hD hS (lv_sub hl [] rfl)
    · have f_34 := (hr_5.resolve_right (fun q => c_31 q.1)).2
      have h_35 : rg x_1 1 1 := rg_ne c_31 h_6 0 rfl (by decide)
      refine lv_iload_n hx hb dX11_wall_8 rfl (lv_at hl 2 rfl) ?_
      refine lv_iconst (v := 0) hx hb dX11_wall_9 (by decide) ?_
      refine lv_sipush (v := 1000) hx hb dX11_wall_10 (by decide) ?_
      refine pk_i (va_runS (As := [.int a1, .int 0, .int 1000]) (rest := []) ⟨hx, hb, hml, hown, hts⟩ (s_X11_between l D t σ I J ri rj rq H.size tg hSH hG.1 a1 (0 : Int32) (1000 : Int32)) (va_cwS 3 hts (tw_S tw_215 tw_216 tw_2 tw_217) rfl rfl rfl (by decide +kernel) ⟨Nat.le_of_ble_eq_true rfl, Nat.le_of_ble_eq_true rfl⟩) ⟨pq_blind, pq_pre hK hN hP hD⟩ rfl rfl hl.1 rfl (lv_room (Nat.le_of_ble_eq_true rfl)) dX11_wall_13 ⟨Nat.le_of_ble_eq_true rfl, Nat.le_of_ble_eq_true rfl⟩) hD hS hA (fun x_36 σ1 μ1 H locs hw_37 hP hD hS => ?_)
      obtain ⟨hu_38, hr_40⟩ := hw_37
      obtain ⟨hu_38a, hu_38b⟩ := Prod.mk.inj hu_38
      rw [hu_38a, hu_38b] at hP hD
      have h_41 : rg x_36 0 1 := by rcases hr_40 with ⟨q, -⟩ | ⟨q, -⟩ <;> rw [q] <;> exact ⟨by decide, by decide⟩
      refine lv_if_ne (tgt := 21) hx hb dX11_wall_16 (by decide) (fun c_42 => ?_) (fun c_42 => ?_)
      · obtain ⟨f_43, f_44⟩ := (hr_40.resolve_right (fun q => c_42 q.1)).2
        have h_45 : rg a1 0 2147483647 := rg_le2 f_43 (rg_k (0 : Int32) 0 rfl) (rg_full _) (by decide)
        have h_46 : rg a1 0 1000 := rg_le1 f_44 h_45 (rg_k (1000 : Int32) 1000 rfl) (by decide)
        have h_47 : rg x_36 1 1 := rg_ne c_42 h_41 0 rfl (by decide)
        refine lv_aload_n hx hb dX11_wall_21 rfl (lv_at hl 0 rfl) ?_
        obtain ⟨w_48, hR_w_48, hL_w_48, hK_w_48⟩ := sh_o hSH 352 (ci := 11) (kd := 10) rfl hL_this hK_this
        refine pg_f (v := .ref w_48) (C := RX11) (T := TX11) (N := 5) hx hb hts (tw_i inlX11) hown hK hP hL_this hK_this (by decide) rfl 0 (by decide) (hts _ (tw_c tw_16)) (pq_hv rfl hR_w_48) dX11_wall_22 ?_
        obtain ⟨w_49, hR_w_49, hL_w_49, hK_w_49⟩ := sh_o hSH 327 (ci := 10) (kd := 2) rfl hL_w_48 hK_w_48
        refine pg_f (v := .ref w_49) (C := RX10) (T := TX10) (N := 13) hx hb hts (tw_i inlX10) hown hK hP hL_w_48 hK_w_48 (by decide) rfl 7 (by decide) (hts _ (tw_c tw_199)) (pq_hv rfl hR_w_49) dX11_wall_25 ?_
        obtain ⟨w_50, hR_w_50, hL_w_50, hK_w_50, hN_w_50, hT_w_50⟩ := sh_a hSH 75 (ci := 2) (kd := 13) (len := 40) rfl (by decide) hL_w_49 hK_w_49
        refine pg_f (v := .ref w_50) (C := RX2) (T := TX2) (N := 20) hx hb hts (tw_i inlX2) hown hK hP hL_w_49 hK_w_49 (by decide) rfl 11 (by decide) (hts _ (tw_c tw_331)) (pq_hv rfl hR_w_50) dX11_wall_28 ?_
        refine lv_iload_n hx hb dX11_wall_31 rfl (lv_at hl 1 rfl) ?_
        refine lv_iload_n hx hb dX11_wall_32 rfl (lv_at hl 2 rfl) ?_
        refine pt_i hx hb hK hP hD hS hL_w_50 hK_w_50 hN_w_50 (rg_in f_34 (by decide)) dX11_wall_33 (fun r_51 H locs er_51 hP hD hS => ?_)
        have hG := GX.wR hG hSH hT_w_50 rfl er_51 (rg_w h_46 (by decide)) (by decide)
        refine lv_iconst (v := 1) hx hb dX11_wall_34 (by decide) ?_
        subst hQ
        exact W.zret (v := 1) hx hb hr (by decide) (fun t1 ht hW => ⟨⟨1, (σ, I, J, r_51, rj, rq), rfl, ⟨r_51, rfl, hG, (Or.inl ⟨rfl, (rg_w f_34 (by decide)), (rg_w h_46 (by decide))⟩)⟩, by rw [ht]; exact hP, va_K.moved hW.alike hK, hD⟩, hS.F ht⟩) hS.2.2 dX11_wall_35
      · have f_52 := (hr_40.resolve_left (fun q => absurd (q.1.symm.trans c_42) (by decide))).2
        have h_53 : rg x_36 0 0 := rg_and h_41 (rg_of_eq c_42 (rg_k (0 : Int32) 0 rfl)) (by decide)
        exact K_30 _ _ _ hG hP hD hS (lv_sub hl [] rfl)
  exact go _ _ _ hP hD hS hl

set_option maxHeartbeats 4000000 in
set_option maxRecDepth 100000 in
theorem s_X11_well (l : Launch) (D : va_G) (t : pq_T) (σ : pq_S) (I : Nat → Nat → Int32) (J : Nat → Nat → Int64) (ri : Nat → Nat → Int32) (rj : Nat → Nat → Int64) (rq : Nat → Nat → Option Nat) (sz : Nat) (tg : Nat → Nat) (hSH : SH σ tg) (hG0 : GS tg σ I ri rq) (this : Nat) (a0 : Int32) (a1 : Int32) (a2 : Int32) (a3 : Int32) (hL_this : this ∈ σ.1) (hK_this : σ.2.1 this = 11) : MetI l yX11_well (wa yX11_well cX11_well 6 (some .boolean)) ({ frames := 2, cells := 0, slots := 0, locals := 43 }) [.ref this, .int a0, .int a1, .int a2, .int a3] D t σ (I, J, ri, rj, rq) sz 0 0 (fun (r : Int32) (u : pq_S × pq_M) => ∃ ri' : Nat → Nat → Int32, u = (σ, I, J, ri', rj, rq) ∧ GX [1288] tg σ I ri rj I ri' rj rq ∧ ((r = 1 ∧ rg a0 0 39 ∧ rg a1 1 20 ∧ rg a2 0 10000 ∧ rg a3 0 100) ∨ (r = 0 ∧ True))) := by
  refine Met.ofW (cc := cX11_well) (maxL := 6) (ret := (some .boolean)) (by decide) rfl ?_
  intro p e s m args below meth c s₁ B hml hv
  obtain ⟨rfl, hsz, hP, hK, hD0, hN⟩ := hv
  have hx := B.exec
  have hb := B.bytes
  have hr := B.returns
  have hts := atoms_spec (ws := (wa yX11_well cX11_well 6 (some .boolean))) B.pre
  have hown : s.vm.findClass RX11 = some m.cls := findClass_of_methodNamed B.named
  have hlocks := B.notSynchronized
  subst hsz
  have hD : va_D (pq_B t σ (I, J, ri, rj, rq) s.heap.size) (pq_P t σ (I, J, ri, rj, rq)) := hD0.self
  generalize hAe : pq_B t σ (I, J, ri, rj, rq) s.heap.size = A at hD ⊢
  have hA : ∀ q : Nat, s.heap.size ≤ q → A q := fun q h => by rw [← hAe]; exact Or.inr h
  have hS : va_S A s.heap s.heap [] := va_S.rf
  have hG : GX [1288] tg σ I ri rj I ri rj rq := ⟨hG0, fun _ _ _ => rfl, fun _ _ _ _ _ => rfl, fun _ _ _ _ _ => rfl⟩
  have hl := lv_entry ([.ref this, .int a0, .int a1, .int a2, .int a3]) (n := 6) (Nat.le_of_ble_eq_true rfl)
  rw [lg_entry_eq]
  generalize (lg_sl ([.ref this, .int a0, .int a1, .int a2, .int a3]) ++ List.replicate (6 - (lg_sl ([.ref this, .int a0, .int a1, .int a2, .int a3])).length) Slot.unset).toArray = ls at hl ⊢
  have hl : lv_has ls 6 [(0, .ref this), (1, .int a0), (2, .int a1), (3, .int a2), (4, .int a3)] := hl
  refine q_gen (fun Q hQ => ?_)
  have go : ∀ (H : Heap) (locs : List Loc) (ls : Array Slot), va_P D vwCl (pq_P t σ (I, J, ri, rj, rq)) H → va_D A (pq_P t σ (I, J, ri, rj, rq)) → va_S A s.heap H locs → lv_has ls 6 [(0, .ref this), (1, .int a0), (2, .int a1), (3, .int a2), (4, .int a3)] → W p l e ({ frames := 2, cells := 0, slots := 0, locals := 43 } : Room) s m (List.toArray ([.ref this, .int a0, .int a1, .int a2, .int a3] : List Value)) below meth c H locs 0 0 Q (F0 m 0 ls []) := by
    intro H locs ls hP hD hS hl
    refine lv_aload_n hx hb dX11_well_0 rfl (lv_at hl 0 rfl) ?_
    refine lv_iload_n hx hb dX11_well_1 rfl (lv_at hl 1 rfl) ?_
    refine pk_i (va_runV (As := [.int a0]) (rest := []) ⟨hx, hb, hml, hown, hts⟩ (s_X11_isCell l D t σ I J ri rj rq H.size tg hSH hG.1 this a0 hL_this hK_this) (cwV 1 hts (tw_V tw_332 tw_333 tw_334 tw_2 tw_335) rfl rfl rfl (by decide +kernel) ⟨Nat.le_of_ble_eq_true rfl, Nat.le_of_ble_eq_true rfl⟩) ⟨pq_blind, pq_recv hK hP hL_this hK_this (by decide) rfl, pq_pre hK hN hP hD⟩ rfl rfl hl.1 rfl (lv_room (Nat.le_of_ble_eq_true rfl)) dX11_well_2 ⟨Nat.le_of_ble_eq_true rfl, Nat.le_of_ble_eq_true rfl⟩) hD hS hA (fun x_1 σ1 μ1 H locs hw_2 hP hD hS => ?_)
    obtain ⟨hu_3, hr_5⟩ := hw_2
    obtain ⟨hu_3a, hu_3b⟩ := Prod.mk.inj hu_3
    rw [hu_3a, hu_3b] at hP hD
    have h_6 : rg x_1 0 1 := by rcases hr_5 with ⟨q, -⟩ | ⟨q, -⟩ <;> rw [q] <;> exact ⟨by decide, by decide⟩
    have K_79 : ∀  (H : Heap) (locs : List Loc) (ls : Array Slot), rg (a0) 0 39 → rg (a1) 1 20 → rg (a2) 0 10000 → rg (a3) 0 100 → rg (x_1) 1 1 → GX [1288] tg σ I ri rj I ri rj rq → va_P D vwCl (pq_P t σ (I, J, ri, rj, rq)) H → va_D A (pq_P t σ (I, J, ri, rj, rq)) → va_S A s.heap H locs → lv_has ls 6 [(0, .ref this), (1, .int a0), (2, .int a1), (3, .int a2), (4, .int a3)] → W p l e ({ frames := 2, cells := 0, slots := 0, locals := 43 } : Room) s m (List.toArray ([.ref this, .int a0, .int a1, .int a2, .int a3] : List Value)) below meth c H locs 0 0 Q (F0 m 45 ls [.int 1]) := by
      intro H locs ls h_85 h_86 h_87 h_88 h_89 hG hP hD hS hl
      refine lv_istore (lv' := [(5, .int 1), (0, .ref this), (1, .int a0), (2, .int a1), (3, .int a2), (4, .int a3)]) hx hb dX11_well_45 hl (by decide) rfl (fun ls hl => ?_)
      refine lv_iload hx hb dX11_well_47 (lv_at hl 0 rfl) ?_
      have K_109 : ∀  (H : Heap) (locs : List Loc) (ls : Array Slot), GX [1288] tg σ I ri rj I ri rj rq → va_P D vwCl (pq_P t σ (I, J, ri, rj, rq)) H → va_D A (pq_P t σ (I, J, ri, rj, rq)) → va_S A s.heap H locs → lv_has ls 6 [] → W p l e ({ frames := 2, cells := 0, slots := 0, locals := 43 } : Room) s m (List.toArray ([.ref this, .int a0, .int a1, .int a2, .int a3] : List Value)) below meth c H locs 0 0 Q (F0 m 69 ls []) := by
        intro H locs ls hG hP hD hS hl
        refine lv_iconst (v := 0) hx hb dX11_well_69 (by decide) ?_
        subst hQ
        exact W.zret (v := 0) hx hb hr (by decide) (fun t1 ht hW => ⟨⟨0, (σ, I, J, ri, rj, rq), rfl, ⟨ri, rfl, hG, (Or.inr ⟨rfl, trivial⟩)⟩, by rw [ht]; exact hP, va_K.moved hW.alike hK, hD⟩, hS.F ht⟩) hS.2.2 dX11_well_70
      refine lv_if_eq (tgt := 69) hx hb dX11_well_49 (by decide) (fun c_110 => absurd c_110 (by decide)) (fun c_110 => ?_)
      refine lv_aload_n hx hb dX11_well_52 rfl (lv_at hl 1 rfl) ?_
      obtain ⟨w_111, hR_w_111, hL_w_111, hK_w_111⟩ := sh_o hSH 352 (ci := 11) (kd := 10) rfl hL_this hK_this
      refine pg_f (v := .ref w_111) (C := RX11) (T := TX11) (N := 5) hx hb hts (tw_i inlX11) hown hK hP hL_this hK_this (by decide) rfl 0 (by decide) (hts _ (tw_c tw_16)) (pq_hv rfl hR_w_111) dX11_well_53 ?_
      obtain ⟨w_112, hR_w_112, hL_w_112, hK_w_112⟩ := sh_o hSH 327 (ci := 10) (kd := 2) rfl hL_w_111 hK_w_111
      refine pg_f (v := .ref w_112) (C := RX10) (T := TX10) (N := 13) hx hb hts (tw_i inlX10) hown hK hP hL_w_111 hK_w_111 (by decide) rfl 7 (by decide) (hts _ (tw_c tw_199)) (pq_hv rfl hR_w_112) dX11_well_56 ?_
      obtain ⟨w_113, hR_w_113, hL_w_113, hK_w_113⟩ := sh_o hSH 78 (ci := 2) (kd := 9) rfl hL_w_112 hK_w_112
      refine pg_f (v := .ref w_113) (C := RX2) (T := TX2) (N := 20) hx hb hts (tw_i inlX2) hown hK hP hL_w_112 hK_w_112 (by decide) rfl 14 (by decide) (hts _ (tw_c tw_348)) (pq_hv rfl hR_w_113) dX11_well_59 ?_
      refine lv_iload_n hx hb dX11_well_62 rfl (lv_at hl 2 rfl) ?_
      refine pk_i (va_runV (As := [.int a0]) (rest := []) ⟨hx, hb, hml, hown, hts⟩ (s_X9_isAt l D t σ I J ri rj rq H.size tg hSH hG.1 w_113 a0 hL_w_113 hK_w_113 (rg_w h_85 (by decide))) (cwV 1 hts (tw_V tw_349 tw_350 tw_351 tw_94 tw_352) rfl rfl rfl (by decide +kernel) ⟨Nat.le_of_ble_eq_true rfl, Nat.le_of_ble_eq_true rfl⟩) ⟨pq_blind, pq_recv hK hP hL_w_113 hK_w_113 (by decide) rfl, pq_pre hK hN hP hD⟩ rfl rfl hl.1 rfl (lv_room (Nat.le_of_ble_eq_true rfl)) dX11_well_63 ⟨Nat.le_of_ble_eq_true rfl, Nat.le_of_ble_eq_true rfl⟩) hD hS hA (fun x_114 σ1 μ1 H locs hw_115 hP hD hS => ?_)
      obtain ⟨hu_116, hr_118⟩ := hw_115
      obtain ⟨hu_116a, hu_116b⟩ := Prod.mk.inj hu_116
      rw [hu_116a, hu_116b] at hP hD
      have h_119 : rg x_114 0 1 := by rcases hr_118 with ⟨q, -⟩ | ⟨q, -⟩ <;> rw [q] <;> exact ⟨by decide, by decide⟩
      refine lv_if_eq (tgt := 71) hx hb dX11_well_66 (by decide) (fun c_120 => ?_) (fun c_120 => ?_)
      · have h_121 : rg x_114 0 0 := rg_and h_119 (rg_of_eq c_120 (rg_k (0 : Int32) 0 rfl)) (by decide)
        refine lv_aload_n hx hb dX11_well_71 rfl (lv_at hl 1 rfl) ?_
        refine pg_f (v := .ref w_111) (C := RX11) (T := TX11) (N := 5) hx hb hts (tw_i inlX11) hown hK hP hL_this hK_this (by decide) rfl 0 (by decide) (hts _ (tw_c tw_16)) (pq_hv rfl hR_w_111) dX11_well_72 ?_
        refine pg_f (v := .ref w_112) (C := RX10) (T := TX10) (N := 13) hx hb hts (tw_i inlX10) hown hK hP hL_w_111 hK_w_111 (by decide) rfl 7 (by decide) (hts _ (tw_c tw_199)) (pq_hv rfl hR_w_112) dX11_well_75 ?_
        refine pg_f (v := .ref w_113) (C := RX2) (T := TX2) (N := 20) hx hb hts (tw_i inlX2) hown hK hP hL_w_112 hK_w_112 (by decide) rfl 14 (by decide) (hts _ (tw_c tw_348)) (pq_hv rfl hR_w_113) dX11_well_78 ?_
        refine lv_iload_n hx hb dX11_well_81 rfl (lv_at hl 2 rfl) ?_
        refine lv_iload_n hx hb dX11_well_82 rfl (lv_at hl 3 rfl) ?_
        refine lv_iload_n hx hb dX11_well_83 rfl (lv_at hl 4 rfl) ?_
        refine lv_iload hx hb dX11_well_84 (lv_at hl 5 rfl) ?_
        refine pk_v (va_runV (As := [.int a0, .int a1, .int a2, .int a3]) (rest := []) ⟨hx, hb, hml, hown, hts⟩ (s_X9_dig l D t σ I J ri rj rq H.size tg hSH hG.1 w_113 a0 a1 a2 a3 hL_w_113 hK_w_113 (rg_w h_85 (by decide))) (cwV 4 hts (tw_V tw_353 tw_354 tw_355 tw_94 tw_356) rfl rfl rfl (by decide +kernel) ⟨Nat.le_of_ble_eq_true rfl, Nat.le_of_ble_eq_true rfl⟩) ⟨pq_blind, pq_recv hK hP hL_w_113 hK_w_113 (by decide) rfl, pq_pre hK hN hP hD⟩ rfl rfl hl.1 rfl (lv_room (Nat.le_of_ble_eq_true rfl)) dX11_well_86 ⟨Nat.le_of_ble_eq_true rfl, Nat.le_of_ble_eq_true rfl⟩) hD hS hA (fun σ1 μ1 H locs hw_123 hP hD hS => ?_)
        obtain ⟨ri_124, hu_125, hg_126⟩ := hw_123
        obtain ⟨hu_125a, hu_125b⟩ := Prod.mk.inj hu_125
        rw [hu_125a, hu_125b] at hP hD
        have hG := GX.tr hG hg_126 (by decide)
        refine lv_iconst (v := 1) hx hb dX11_well_89 (by decide) ?_
        subst hQ
        exact W.zret (v := 1) hx hb hr (by decide) (fun t1 ht hW => ⟨⟨1, (σ, I, J, ri_124, rj, rq), rfl, ⟨ri_124, rfl, hG, (Or.inl ⟨rfl, (rg_w h_85 (by decide)), (rg_w h_86 (by decide)), (rg_w h_87 (by decide)), (rg_w h_88 (by decide))⟩)⟩, by rw [ht]; exact hP, va_K.moved hW.alike hK, hD⟩, hS.F ht⟩) hS.2.2 dX11_well_90
      · have h_128 : rg x_114 1 1 := rg_ne c_120 h_119 0 rfl (by decide)
        exact K_109 _ _ _ hG hP hD hS (lv_sub hl [] rfl)
    have K_129 : ∀  (H : Heap) (locs : List Loc) (ls : Array Slot), GX [1288] tg σ I ri rj I ri rj rq → va_P D vwCl (pq_P t σ (I, J, ri, rj, rq)) H → va_D A (pq_P t σ (I, J, ri, rj, rq)) → va_S A s.heap H locs → lv_has ls 6 [(0, .ref this), (1, .int a0), (2, .int a1), (3, .int a2), (4, .int a3)] → W p l e ({ frames := 2, cells := 0, slots := 0, locals := 43 } : Room) s m (List.toArray ([.ref this, .int a0, .int a1, .int a2, .int a3] : List Value)) below meth c H locs 0 0 Q (F0 m 45 ls [.int 0]) := by
      intro H locs ls hG hP hD hS hl
      refine lv_istore (lv' := [(5, .int 0), (0, .ref this), (1, .int a0), (2, .int a1), (3, .int a2), (4, .int a3)]) hx hb dX11_well_45 hl (by decide) rfl (fun ls hl => ?_)
      refine lv_iload hx hb dX11_well_47 (lv_at hl 0 rfl) ?_
      have K_131 : ∀  (H : Heap) (locs : List Loc) (ls : Array Slot), GX [1288] tg σ I ri rj I ri rj rq → va_P D vwCl (pq_P t σ (I, J, ri, rj, rq)) H → va_D A (pq_P t σ (I, J, ri, rj, rq)) → va_S A s.heap H locs → lv_has ls 6 [] → W p l e ({ frames := 2, cells := 0, slots := 0, locals := 43 } : Room) s m (List.toArray ([.ref this, .int a0, .int a1, .int a2, .int a3] : List Value)) below meth c H locs 0 0 Q (F0 m 69 ls []) := by
        intro H locs ls hG hP hD hS hl
        refine lv_iconst (v := 0) hx hb dX11_well_69 (by decide) ?_
        subst hQ
        exact W.zret (v := 0) hx hb hr (by decide) (fun t1 ht hW => ⟨⟨0, (σ, I, J, ri, rj, rq), rfl, ⟨ri, rfl, hG, (Or.inr ⟨rfl, trivial⟩)⟩, by rw [ht]; exact hP, va_K.moved hW.alike hK, hD⟩, hS.F ht⟩) hS.2.2 dX11_well_70
      refine lv_if_eq (tgt := 69) hx hb dX11_well_49 (by decide) (fun c_132 => ?_) (fun c_132 => absurd c_132 (by decide))
      exact K_131 _ _ _ hG hP hD hS (lv_sub hl [] rfl)
    have K_133 : ∀  (H : Heap) (locs : List Loc) (ls : Array Slot), GX [1288] tg σ I ri rj I ri rj rq → va_P D vwCl (pq_P t σ (I, J, ri, rj, rq)) H → va_D A (pq_P t σ (I, J, ri, rj, rq)) → va_S A s.heap H locs → lv_has ls 6 [(0, .ref this), (1, .int a0), (2, .int a1), (3, .int a2), (4, .int a3)] → W p l e ({ frames := 2, cells := 0, slots := 0, locals := 43 } : Room) s m (List.toArray ([.ref this, .int a0, .int a1, .int a2, .int a3] : List Value)) below meth c H locs 0 0 Q (F0 m 44 ls []) := by
      intro H locs ls hG hP hD hS hl
      refine lv_iconst (v := 0) hx hb dX11_well_44 (by decide) ?_
      exact K_129 _ _ _ hG hP hD hS (lv_sub hl [0, 1, 2, 3, 4] rfl)
    refine lv_if_eq (tgt := 44) hx hb dX11_well_5 (by decide) (fun c_134 => ?_) (fun c_134 => ?_)
    · have f_135 := (hr_5.resolve_left (fun q => absurd (q.1.symm.trans c_134) (by decide))).2
      have h_136 : rg x_1 0 0 := rg_and h_6 (rg_of_eq c_134 (rg_k (0 : Int32) 0 rfl)) (by decide)
      exact K_133 _ _ _ hG hP hD hS (lv_sub hl [0, 1, 2, 3, 4] rfl)
    · have f_137 := (hr_5.resolve_right (fun q => c_134 q.1)).2
      have h_138 : rg x_1 1 1 := rg_ne c_134 h_6 0 rfl (by decide)
      refine lv_iload_n hx hb dX11_well_8 rfl (lv_at hl 2 rfl) ?_
      refine lv_iconst (v := 1) hx hb dX11_well_9 (by decide) ?_
      refine lv_bipush (v := 20) hx hb dX11_well_10 (by decide) ?_
      refine pk_i (va_runS (As := [.int a1, .int 1, .int 20]) (rest := []) ⟨hx, hb, hml, hown, hts⟩ (s_X11_between l D t σ I J ri rj rq H.size tg hSH hG.1 a1 (1 : Int32) (20 : Int32)) (va_cwS 3 hts (tw_S tw_215 tw_216 tw_2 tw_217) rfl rfl rfl (by decide +kernel) ⟨Nat.le_of_ble_eq_true rfl, Nat.le_of_ble_eq_true rfl⟩) ⟨pq_blind, pq_pre hK hN hP hD⟩ rfl rfl hl.1 rfl (lv_room (Nat.le_of_ble_eq_true rfl)) dX11_well_12 ⟨Nat.le_of_ble_eq_true rfl, Nat.le_of_ble_eq_true rfl⟩) hD hS hA (fun x_139 σ1 μ1 H locs hw_140 hP hD hS => ?_)
      obtain ⟨hu_141, hr_143⟩ := hw_140
      obtain ⟨hu_141a, hu_141b⟩ := Prod.mk.inj hu_141
      rw [hu_141a, hu_141b] at hP hD
      have h_144 : rg x_139 0 1 := by rcases hr_143 with ⟨q, -⟩ | ⟨q, -⟩ <;> rw [q] <;> exact ⟨by decide, by decide⟩
      refine lv_if_eq (tgt := 44) hx hb dX11_well_15 (by decide) (fun c_145 => ?_) (fun c_145 => ?_)
      · have f_146 := (hr_143.resolve_left (fun q => absurd (q.1.symm.trans c_145) (by decide))).2
        have h_147 : rg x_139 0 0 := rg_and h_144 (rg_of_eq c_145 (rg_k (0 : Int32) 0 rfl)) (by decide)
        exact K_133 _ _ _ hG hP hD hS (lv_sub hl [0, 1, 2, 3, 4] rfl)
      · obtain ⟨f_148, f_149⟩ := (hr_143.resolve_right (fun q => c_145 q.1)).2
        have h_150 : rg a1 1 2147483647 := rg_le2 f_148 (rg_k (1 : Int32) 1 rfl) (rg_full _) (by decide)
        have h_151 : rg a1 1 20 := rg_le1 f_149 h_150 (rg_k (20 : Int32) 20 rfl) (by decide)
        have h_152 : rg x_139 1 1 := rg_ne c_145 h_144 0 rfl (by decide)
        refine lv_iload_n hx hb dX11_well_18 rfl (lv_at hl 3 rfl) ?_
        refine lv_iconst (v := 0) hx hb dX11_well_19 (by decide) ?_
        refine lv_sipush (v := 10000) hx hb dX11_well_20 (by decide) ?_
        refine pk_i (va_runS (As := [.int a2, .int 0, .int 10000]) (rest := []) ⟨hx, hb, hml, hown, hts⟩ (s_X11_between l D t σ I J ri rj rq H.size tg hSH hG.1 a2 (0 : Int32) (10000 : Int32)) (va_cwS 3 hts (tw_S tw_215 tw_216 tw_2 tw_217) rfl rfl rfl (by decide +kernel) ⟨Nat.le_of_ble_eq_true rfl, Nat.le_of_ble_eq_true rfl⟩) ⟨pq_blind, pq_pre hK hN hP hD⟩ rfl rfl hl.1 rfl (lv_room (Nat.le_of_ble_eq_true rfl)) dX11_well_23 ⟨Nat.le_of_ble_eq_true rfl, Nat.le_of_ble_eq_true rfl⟩) hD hS hA (fun x_153 σ1 μ1 H locs hw_154 hP hD hS => ?_)
        obtain ⟨hu_155, hr_157⟩ := hw_154
        obtain ⟨hu_155a, hu_155b⟩ := Prod.mk.inj hu_155
        rw [hu_155a, hu_155b] at hP hD
        have h_158 : rg x_153 0 1 := by rcases hr_157 with ⟨q, -⟩ | ⟨q, -⟩ <;> rw [q] <;> exact ⟨by decide, by decide⟩
        refine lv_if_eq (tgt := 44) hx hb dX11_well_26 (by decide) (fun c_159 => ?_) (fun c_159 => ?_)
        · have f_160 := (hr_157.resolve_left (fun q => absurd (q.1.symm.trans c_159) (by decide))).2
          have h_161 : rg x_153 0 0 := rg_and h_158 (rg_of_eq c_159 (rg_k (0 : Int32) 0 rfl)) (by decide)
          exact K_133 _ _ _ hG hP hD hS (lv_sub hl [0, 1, 2, 3, 4] rfl)
        · obtain ⟨f_162, f_163⟩ := (hr_157.resolve_right (fun q => c_159 q.1)).2
          have h_164 : rg a2 0 2147483647 := rg_le2 f_162 (rg_k (0 : Int32) 0 rfl) (rg_full _) (by decide)
          have h_165 : rg a2 0 10000 := rg_le1 f_163 h_164 (rg_k (10000 : Int32) 10000 rfl) (by decide)
          have h_166 : rg x_153 1 1 := rg_ne c_159 h_158 0 rfl (by decide)
          refine lv_iload hx hb dX11_well_29 (lv_at hl 4 rfl) ?_
          refine lv_iconst (v := 0) hx hb dX11_well_31 (by decide) ?_
          refine lv_bipush (v := 100) hx hb dX11_well_32 (by decide) ?_
          refine pk_i (va_runS (As := [.int a3, .int 0, .int 100]) (rest := []) ⟨hx, hb, hml, hown, hts⟩ (s_X11_between l D t σ I J ri rj rq H.size tg hSH hG.1 a3 (0 : Int32) (100 : Int32)) (va_cwS 3 hts (tw_S tw_215 tw_216 tw_2 tw_217) rfl rfl rfl (by decide +kernel) ⟨Nat.le_of_ble_eq_true rfl, Nat.le_of_ble_eq_true rfl⟩) ⟨pq_blind, pq_pre hK hN hP hD⟩ rfl rfl hl.1 rfl (lv_room (Nat.le_of_ble_eq_true rfl)) dX11_well_34 ⟨Nat.le_of_ble_eq_true rfl, Nat.le_of_ble_eq_true rfl⟩) hD hS hA (fun x_167 σ1 μ1 H locs hw_168 hP hD hS => ?_)
          obtain ⟨hu_169, hr_171⟩ := hw_168
          obtain ⟨hu_169a, hu_169b⟩ := Prod.mk.inj hu_169
          rw [hu_169a, hu_169b] at hP hD
          have h_172 : rg x_167 0 1 := by rcases hr_171 with ⟨q, -⟩ | ⟨q, -⟩ <;> rw [q] <;> exact ⟨by decide, by decide⟩
          refine lv_if_eq (tgt := 44) hx hb dX11_well_37 (by decide) (fun c_173 => ?_) (fun c_173 => ?_)
          · have f_174 := (hr_171.resolve_left (fun q => absurd (q.1.symm.trans c_173) (by decide))).2
            have h_175 : rg x_167 0 0 := rg_and h_172 (rg_of_eq c_173 (rg_k (0 : Int32) 0 rfl)) (by decide)
            exact K_133 _ _ _ hG hP hD hS (lv_sub hl [0, 1, 2, 3, 4] rfl)
          · obtain ⟨f_176, f_177⟩ := (hr_171.resolve_right (fun q => c_173 q.1)).2
            have h_178 : rg a3 0 2147483647 := rg_le2 f_176 (rg_k (0 : Int32) 0 rfl) (rg_full _) (by decide)
            have h_179 : rg a3 0 100 := rg_le1 f_177 h_178 (rg_k (100 : Int32) 100 rfl) (by decide)
            have h_180 : rg x_167 1 1 := rg_ne c_173 h_172 0 rfl (by decide)
            refine lv_iconst (v := 1) hx hb dX11_well_40 (by decide) ?_
            refine lv_goto (tgt := 45) hx hb dX11_well_41 (by decide) ?_
            exact K_79 _ _ _ (rg_w f_137 (by decide)) (rg_w h_151 (by decide)) (rg_w h_165 (by decide)) (rg_w h_179 (by decide)) (rg_w h_138 (by decide)) hG hP hD hS (lv_sub hl [0, 1, 2, 3, 4] rfl)
  exact go _ _ _ hP hD hS hl
