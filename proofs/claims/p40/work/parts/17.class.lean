theorem dX11_ring_0 : decode cX11_ring 0 = .ok (.aload_n 0, 1) := oc_42 (by decide +kernel)
theorem tw_16 : Cond.fieldLink RX11 10 "RingsUnder" "now" "LRingsUnder$World;" ∈ wsL_law := sg_1 _ (List.mem_of_getElem? (i := 16) rfl)
theorem dX11_ring_1 : decode cX11_ring 1 = .ok (.getfield 10, 3) := oc_180 (a := 0) (b := 10) (by decide +kernel)
theorem tw_199 : Cond.fieldLink RX11 36 "RingsUnder$World" "land" "LRingsUnder$Land;" ∈ wsL_law := sg_9 _ (List.mem_of_getElem? (i := 7) rfl)
theorem dX11_ring_4 : decode cX11_ring 4 = .ok (.getfield 36, 3) := oc_180 (a := 0) (b := 36) (by decide +kernel)
theorem dX11_ring_7 : decode cX11_ring 7 = .ok (.astore_n 1, 1) := oc_76 (by decide +kernel)
theorem dX11_ring_8 : decode cX11_ring 8 = .ok (.aload_n 1, 1) := oc_43 (by decide +kernel)
theorem tw_200 : Cond.fieldLink RX11 40 "RingsUnder$Land" "rings" "I" ∈ wsL_law := sg_9 _ (List.mem_of_getElem? (i := 8) rfl)
theorem dX11_ring_9 : decode cX11_ring 9 = .ok (.getfield 40, 3) := oc_180 (a := 0) (b := 40) (by decide +kernel)
theorem dX11_ring_12 : decode cX11_ring 12 = .ok (.iconst 5, 1) := oc_8 (by decide +kernel)
theorem dX11_ring_13 : decode cX11_ring 13 = .ok (.if_icmp .lt 5, 3) := oc_161 (a := 0) (b := 5) (by decide +kernel)
theorem dX11_ring_18 : decode cX11_ring 18 = .ok (.aload_n 1, 1) := oc_43 (by decide +kernel)
theorem dX11_ring_19 : decode cX11_ring 19 = .ok (.dup, 1) := oc_89 (by decide +kernel)
theorem dX11_ring_20 : decode cX11_ring 20 = .ok (.getfield 40, 3) := oc_180 (a := 0) (b := 40) (by decide +kernel)
theorem dX11_ring_23 : decode cX11_ring 23 = .ok (.iconst 1, 1) := oc_4 (by decide +kernel)
theorem dX11_ring_24 : decode cX11_ring 24 = .ok (.iadd, 1) := oc_96 (by decide +kernel)
theorem dX11_ring_25 : decode cX11_ring 25 = .ok (.putfield 40, 3) := oc_181 (a := 0) (b := 40) (by decide +kernel)
theorem dX11_ring_28 : decode cX11_ring 28 = .ok (.aload_n 1, 1) := oc_43 (by decide +kernel)
theorem dX11_ring_29 : decode cX11_ring 29 = .ok (.getfield 40, 3) := oc_180 (a := 0) (b := 40) (by decide +kernel)
theorem dX11_ring_32 : decode cX11_ring 32 = .ok (.iconst 1, 1) := oc_4 (by decide +kernel)
theorem dX11_ring_33 : decode cX11_ring 33 = .ok (.isub, 1) := oc_100 (by decide +kernel)
theorem dX11_ring_34 : decode cX11_ring 34 = .ok (.ireturn, 1) := oc_172 (by decide +kernel)
theorem dX11_ring_16 : decode cX11_ring 16 = .ok (.iconst (-1), 1) := oc_2 (by decide +kernel)
theorem dX11_ring_17 : decode cX11_ring 17 = .ok (.ireturn, 1) := oc_172 (by decide +kernel)
theorem dX11_between_0 : decode cX11_between 0 = .ok (.iload_n 0, 1) := oc_26 (by decide +kernel)
theorem dX11_between_1 : decode cX11_between 1 = .ok (.iload_n 1, 1) := oc_27 (by decide +kernel)
theorem dX11_between_14 : decode cX11_between 14 = .ok (.iconst 0, 1) := oc_3 (by decide +kernel)
theorem dX11_between_15 : decode cX11_between 15 = .ok (.ireturn, 1) := oc_172 (by decide +kernel)
theorem dX11_between_2 : decode cX11_between 2 = .ok (.if_icmp .lt 12, 3) := oc_161 (a := 0) (b := 12) (by decide +kernel)
theorem dX11_between_5 : decode cX11_between 5 = .ok (.iload_n 0, 1) := oc_26 (by decide +kernel)
theorem dX11_between_6 : decode cX11_between 6 = .ok (.iload_n 2, 1) := oc_28 (by decide +kernel)
theorem dX11_between_7 : decode cX11_between 7 = .ok (.if_icmp .gt 7, 3) := oc_163 (a := 0) (b := 7) (by decide +kernel)
theorem dX11_between_10 : decode cX11_between 10 = .ok (.iconst 1, 1) := oc_4 (by decide +kernel)
theorem dX11_between_11 : decode cX11_between 11 = .ok (.goto 4, 3) := oc_167 (a := 0) (b := 4) (by decide +kernel)
theorem dX11_isRing_0 : decode cX11_isRing 0 = .ok (.iload_n 1, 1) := oc_27 (by decide +kernel)
theorem dX11_isRing_1 : decode cX11_isRing 1 = .ok (.iconst 0, 1) := oc_3 (by decide +kernel)
theorem dX11_isRing_2 : decode cX11_isRing 2 = .ok (.aload_n 0, 1) := oc_42 (by decide +kernel)
theorem dX11_isRing_3 : decode cX11_isRing 3 = .ok (.getfield 10, 3) := oc_180 (a := 0) (b := 10) (by decide +kernel)
theorem dX11_isRing_6 : decode cX11_isRing 6 = .ok (.getfield 36, 3) := oc_180 (a := 0) (b := 36) (by decide +kernel)
theorem dX11_isRing_9 : decode cX11_isRing 9 = .ok (.getfield 40, 3) := oc_180 (a := 0) (b := 40) (by decide +kernel)
theorem dX11_isRing_12 : decode cX11_isRing 12 = .ok (.iconst 1, 1) := oc_4 (by decide +kernel)
theorem dX11_isRing_13 : decode cX11_isRing 13 = .ok (.isub, 1) := oc_100 (by decide +kernel)
theorem tw_215 : Cond.methodLink RX11 50 yX11_between ∈ wsL_law := sg_9 _ (List.mem_of_getElem? (i := 23) rfl)
theorem tw_216 : Cond.static yX11_between ∈ wsL_law := sg_10 _ (List.mem_of_getElem? (i := 0) rfl)
theorem tw_217 : Cond.code yX11_between cX11_between 3 (some .boolean) ∈ wsL_law := sg_10 _ (List.mem_of_getElem? (i := 1) rfl)
theorem dX11_isRing_14 : decode cX11_isRing 14 = .ok (.invokestatic 50, 3) := oc_184 (a := 0) (b := 50) (by decide +kernel)
theorem dX11_isRing_17 : decode cX11_isRing 17 = .ok (.ireturn, 1) := oc_172 (by decide +kernel)
theorem dX11_cell_0 : decode cX11_cell 0 = .ok (.aload_n 0, 1) := oc_42 (by decide +kernel)
theorem dX11_cell_1 : decode cX11_cell 1 = .ok (.iload_n 1, 1) := oc_27 (by decide +kernel)
theorem tw_211 : Cond.methodLink RX11 46 yX11_isRing ∈ wsL_law := sg_9 _ (List.mem_of_getElem? (i := 19) rfl)
theorem tw_212 : Cond.instanceMethod yX11_isRing ∈ wsL_law := sg_9 _ (List.mem_of_getElem? (i := 20) rfl)
theorem tw_213 : Cond.selects RX11 yX11_isRing yX11_isRing ∈ wsL_law := sg_9 _ (List.mem_of_getElem? (i := 21) rfl)
theorem tw_214 : Cond.code yX11_isRing cX11_isRing 2 (some .boolean) ∈ wsL_law := sg_9 _ (List.mem_of_getElem? (i := 22) rfl)
theorem dX11_cell_2 : decode cX11_cell 2 = .ok (.invokevirtual 46, 3) := oc_182 (a := 0) (b := 46) (by decide +kernel)
theorem dX11_cell_71 : decode cX11_cell 71 = .ok (.istore 7, 2) := oc_54 (by decide +kernel)
theorem dX11_cell_73 : decode cX11_cell 73 = .ok (.iload 7, 2) := oc_21 (by decide +kernel)
theorem dX11_cell_103 : decode cX11_cell 103 = .ok (.iconst (-1), 1) := oc_2 (by decide +kernel)
theorem dX11_cell_104 : decode cX11_cell 104 = .ok (.ireturn, 1) := oc_172 (by decide +kernel)
theorem dX11_cell_75 : decode cX11_cell 75 = .ok (.ifCond .eq 28, 3) := oc_153 (a := 0) (b := 28) (by decide +kernel)
theorem dX11_cell_78 : decode cX11_cell 78 = .ok (.aload_n 0, 1) := oc_42 (by decide +kernel)
theorem dX11_cell_79 : decode cX11_cell 79 = .ok (.getfield 10, 3) := oc_180 (a := 0) (b := 10) (by decide +kernel)
theorem tw_209 : Cond.fieldLink RX11 54 "RingsUnder$World" "clock" "I" ∈ wsL_law := sg_9 _ (List.mem_of_getElem? (i := 17) rfl)
theorem dX11_cell_82 : decode cX11_cell 82 = .ok (.getfield 54, 3) := oc_180 (a := 0) (b := 54) (by decide +kernel)
theorem dX11_cell_85 : decode cX11_cell 85 = .ok (.ifCond .gt 18, 3) := oc_157 (a := 0) (b := 18) (by decide +kernel)
theorem dX11_cell_88 : decode cX11_cell 88 = .ok (.aload_n 0, 1) := oc_42 (by decide +kernel)
theorem dX11_cell_89 : decode cX11_cell 89 = .ok (.getfield 10, 3) := oc_180 (a := 0) (b := 10) (by decide +kernel)
theorem dX11_cell_92 : decode cX11_cell 92 = .ok (.getfield 36, 3) := oc_180 (a := 0) (b := 36) (by decide +kernel)
theorem tw_210 : Cond.fieldLink RX11 57 "RingsUnder$Land" "cells" "I" ∈ wsL_law := sg_9 _ (List.mem_of_getElem? (i := 18) rfl)
theorem dX11_cell_95 : decode cX11_cell 95 = .ok (.getfield 57, 3) := oc_180 (a := 0) (b := 57) (by decide +kernel)
theorem dX11_cell_98 : decode cX11_cell 98 = .ok (.bipush 40, 2) := oc_16 (a := 40) (by decide +kernel)
theorem dX11_cell_100 : decode cX11_cell 100 = .ok (.if_icmp .lt 5, 3) := oc_161 (a := 0) (b := 5) (by decide +kernel)
theorem dX11_cell_105 : decode cX11_cell 105 = .ok (.aload_n 0, 1) := oc_42 (by decide +kernel)
theorem dX11_cell_106 : decode cX11_cell 106 = .ok (.getfield 10, 3) := oc_180 (a := 0) (b := 10) (by decide +kernel)
theorem dX11_cell_109 : decode cX11_cell 109 = .ok (.getfield 36, 3) := oc_180 (a := 0) (b := 36) (by decide +kernel)
theorem dX11_cell_112 : decode cX11_cell 112 = .ok (.iload_n 1, 1) := oc_27 (by decide +kernel)
theorem dX11_cell_113 : decode cX11_cell 113 = .ok (.iload_n 2, 1) := oc_28 (by decide +kernel)
theorem dX11_cell_114 : decode cX11_cell 114 = .ok (.iload_n 3, 1) := oc_29 (by decide +kernel)
theorem dX11_cell_115 : decode cX11_cell 115 = .ok (.iload 4, 2) := oc_21 (by decide +kernel)
theorem dX11_cell_117 : decode cX11_cell 117 = .ok (.iload 5, 2) := oc_21 (by decide +kernel)
theorem dX11_cell_119 : decode cX11_cell 119 = .ok (.iload 6, 2) := oc_21 (by decide +kernel)
theorem tw_218 : Cond.methodLink RX11 60 yX2_addCell ∈ wsL_law := sg_10 _ (List.mem_of_getElem? (i := 2) rfl)
theorem tw_219 : Cond.instanceMethod yX2_addCell ∈ wsL_law := sg_10 _ (List.mem_of_getElem? (i := 3) rfl)
theorem tw_220 : Cond.selects RX2 yX2_addCell yX2_addCell ∈ wsL_law := sg_10 _ (List.mem_of_getElem? (i := 4) rfl)
theorem tw_221 : Cond.code yX2_addCell cX2_addCell 8 (some .int) ∈ wsL_law := sg_10 _ (List.mem_of_getElem? (i := 5) rfl)
theorem dX11_cell_121 : decode cX11_cell 121 = .ok (.invokevirtual 60, 3) := oc_182 (a := 0) (b := 60) (by decide +kernel)
theorem dX11_cell_124 : decode cX11_cell 124 = .ok (.ireturn, 1) := oc_172 (by decide +kernel)
theorem dX11_cell_70 : decode cX11_cell 70 = .ok (.iconst 0, 1) := oc_3 (by decide +kernel)
theorem dX11_cell_5 : decode cX11_cell 5 = .ok (.ifCond .eq 65, 3) := oc_153 (a := 0) (b := 65) (by decide +kernel)
theorem dX11_cell_8 : decode cX11_cell 8 = .ok (.iload_n 2, 1) := oc_28 (by decide +kernel)
theorem dX11_cell_9 : decode cX11_cell 9 = .ok (.sipush (-500), 3) := oc_17 (a := 254) (b := 12) (by decide +kernel)
theorem dX11_cell_12 : decode cX11_cell 12 = .ok (.sipush 3000, 3) := oc_17 (a := 11) (b := 184) (by decide +kernel)
theorem dX11_cell_15 : decode cX11_cell 15 = .ok (.invokestatic 50, 3) := oc_184 (a := 0) (b := 50) (by decide +kernel)
theorem dX11_cell_18 : decode cX11_cell 18 = .ok (.ifCond .eq 52, 3) := oc_153 (a := 0) (b := 52) (by decide +kernel)
theorem dX11_cell_21 : decode cX11_cell 21 = .ok (.iload_n 3, 1) := oc_29 (by decide +kernel)
theorem dX11_cell_22 : decode cX11_cell 22 = .ok (.iconst 0, 1) := oc_3 (by decide +kernel)
theorem dX11_cell_23 : decode cX11_cell 23 = .ok (.bipush 31, 2) := oc_16 (a := 31) (by decide +kernel)
theorem dX11_cell_25 : decode cX11_cell 25 = .ok (.invokestatic 50, 3) := oc_184 (a := 0) (b := 50) (by decide +kernel)
theorem dX11_cell_28 : decode cX11_cell 28 = .ok (.ifCond .eq 42, 3) := oc_153 (a := 0) (b := 42) (by decide +kernel)
theorem dX11_cell_31 : decode cX11_cell 31 = .ok (.iload 4, 2) := oc_21 (by decide +kernel)
theorem dX11_cell_33 : decode cX11_cell 33 = .ok (.iconst 0, 1) := oc_3 (by decide +kernel)
theorem dX11_cell_34 : decode cX11_cell 34 = .ok (.bipush 31, 2) := oc_16 (a := 31) (by decide +kernel)
theorem dX11_cell_36 : decode cX11_cell 36 = .ok (.invokestatic 50, 3) := oc_184 (a := 0) (b := 50) (by decide +kernel)
theorem dX11_cell_39 : decode cX11_cell 39 = .ok (.ifCond .eq 31, 3) := oc_153 (a := 0) (b := 31) (by decide +kernel)
theorem dX11_cell_42 : decode cX11_cell 42 = .ok (.iload 5, 2) := oc_21 (by decide +kernel)
theorem dX11_cell_44 : decode cX11_cell 44 = .ok (.iconst 0, 1) := oc_3 (by decide +kernel)
theorem dX11_cell_45 : decode cX11_cell 45 = .ok (.sipush 500, 3) := oc_17 (a := 1) (b := 244) (by decide +kernel)
theorem dX11_cell_48 : decode cX11_cell 48 = .ok (.invokestatic 50, 3) := oc_184 (a := 0) (b := 50) (by decide +kernel)
theorem dX11_cell_51 : decode cX11_cell 51 = .ok (.ifCond .eq 19, 3) := oc_153 (a := 0) (b := 19) (by decide +kernel)
theorem dX11_cell_54 : decode cX11_cell 54 = .ok (.iload 6, 2) := oc_21 (by decide +kernel)
theorem dX11_cell_56 : decode cX11_cell 56 = .ok (.iconst 0, 1) := oc_3 (by decide +kernel)
theorem dX11_cell_57 : decode cX11_cell 57 = .ok (.sipush 400, 3) := oc_17 (a := 1) (b := 144) (by decide +kernel)
theorem dX11_cell_60 : decode cX11_cell 60 = .ok (.invokestatic 50, 3) := oc_184 (a := 0) (b := 50) (by decide +kernel)
theorem dX11_cell_63 : decode cX11_cell 63 = .ok (.ifCond .eq 7, 3) := oc_153 (a := 0) (b := 7) (by decide +kernel)
theorem dX11_cell_66 : decode cX11_cell 66 = .ok (.iconst 1, 1) := oc_4 (by decide +kernel)
theorem dX11_cell_67 : decode cX11_cell 67 = .ok (.goto 4, 3) := oc_167 (a := 0) (b := 4) (by decide +kernel)
theorem dX11_isRise_0 : decode cX11_isRise 0 = .ok (.iload_n 0, 1) := oc_26 (by decide +kernel)
theorem dX11_isRise_1 : decode cX11_isRise 1 = .ok (.iconst 0, 1) := oc_3 (by decide +kernel)
theorem dX11_isRise_2 : decode cX11_isRise 2 = .ok (.iconst 2, 1) := oc_5 (by decide +kernel)
theorem dX11_isRise_3 : decode cX11_isRise 3 = .ok (.invokestatic 50, 3) := oc_184 (a := 0) (b := 50) (by decide +kernel)
theorem dX11_isRise_6 : decode cX11_isRise 6 = .ok (.ireturn, 1) := oc_172 (by decide +kernel)
theorem dX11_isMonth_0 : decode cX11_isMonth 0 = .ok (.iload_n 0, 1) := oc_26 (by decide +kernel)
theorem dX11_isMonth_1 : decode cX11_isMonth 1 = .ok (.iconst 0, 1) := oc_3 (by decide +kernel)
theorem dX11_isMonth_2 : decode cX11_isMonth 2 = .ok (.sipush 599, 3) := oc_17 (a := 2) (b := 87) (by decide +kernel)
theorem dX11_isMonth_5 : decode cX11_isMonth 5 = .ok (.invokestatic 50, 3) := oc_184 (a := 0) (b := 50) (by decide +kernel)
theorem dX11_isMonth_8 : decode cX11_isMonth 8 = .ok (.ireturn, 1) := oc_172 (by decide +kernel)
theorem dX11_level_0 : decode cX11_level 0 = .ok (.iload_n 1, 1) := oc_27 (by decide +kernel)
theorem tw_244 : Cond.methodLink RX11 64 yX11_isRise ∈ wsL_law := sg_11 _ (List.mem_of_getElem? (i := 4) rfl)
theorem tw_245 : Cond.static yX11_isRise ∈ wsL_law := sg_11 _ (List.mem_of_getElem? (i := 5) rfl)
theorem tw_246 : Cond.code yX11_isRise cX11_isRise 1 (some .boolean) ∈ wsL_law := sg_11 _ (List.mem_of_getElem? (i := 6) rfl)
theorem dX11_level_1 : decode cX11_level 1 = .ok (.invokestatic 64, 3) := oc_184 (a := 0) (b := 64) (by decide +kernel)
theorem dX11_level_32 : decode cX11_level 32 = .ok (.iconst (-1), 1) := oc_2 (by decide +kernel)
theorem dX11_level_33 : decode cX11_level 33 = .ok (.ireturn, 1) := oc_172 (by decide +kernel)
theorem dX11_level_4 : decode cX11_level 4 = .ok (.ifCond .eq 28, 3) := oc_153 (a := 0) (b := 28) (by decide +kernel)
theorem dX11_level_7 : decode cX11_level 7 = .ok (.iload_n 2, 1) := oc_28 (by decide +kernel)
theorem tw_247 : Cond.methodLink RX11 67 yX11_isMonth ∈ wsL_law := sg_11 _ (List.mem_of_getElem? (i := 7) rfl)
theorem tw_248 : Cond.static yX11_isMonth ∈ wsL_law := sg_11 _ (List.mem_of_getElem? (i := 8) rfl)
theorem tw_249 : Cond.code yX11_isMonth cX11_isMonth 1 (some .boolean) ∈ wsL_law := sg_11 _ (List.mem_of_getElem? (i := 9) rfl)
theorem dX11_level_8 : decode cX11_level 8 = .ok (.invokestatic 67, 3) := oc_184 (a := 0) (b := 67) (by decide +kernel)
theorem dX11_level_11 : decode cX11_level 11 = .ok (.ifCond .eq 21, 3) := oc_153 (a := 0) (b := 21) (by decide +kernel)
theorem dX11_level_14 : decode cX11_level 14 = .ok (.iload_n 3, 1) := oc_29 (by decide +kernel)
theorem dX11_level_34 : decode cX11_level 34 = .ok (.aload_n 0, 1) := oc_42 (by decide +kernel)
theorem dX11_level_35 : decode cX11_level 35 = .ok (.getfield 10, 3) := oc_180 (a := 0) (b := 10) (by decide +kernel)
theorem tw_242 : Cond.fieldLink RX11 70 "RingsUnder$World" "seas" "LRingsUnder$Seas;" ∈ wsL_law := sg_11 _ (List.mem_of_getElem? (i := 2) rfl)
theorem dX11_level_38 : decode cX11_level 38 = .ok (.getfield 70, 3) := oc_180 (a := 0) (b := 70) (by decide +kernel)
theorem tw_243 : Cond.fieldLink RX11 74 "RingsUnder$Seas" "levels" "I" ∈ wsL_law := sg_11 _ (List.mem_of_getElem? (i := 3) rfl)
theorem dX11_level_41 : decode cX11_level 41 = .ok (.getfield 74, 3) := oc_180 (a := 0) (b := 74) (by decide +kernel)
theorem dX11_level_44 : decode cX11_level 44 = .ok (.sipush 200, 3) := oc_17 (a := 0) (b := 200) (by decide +kernel)
theorem dX11_level_47 : decode cX11_level 47 = .ok (.if_icmp .lt 5, 3) := oc_161 (a := 0) (b := 5) (by decide +kernel)
theorem dX11_level_52 : decode cX11_level 52 = .ok (.aload_n 0, 1) := oc_42 (by decide +kernel)
theorem dX11_level_53 : decode cX11_level 53 = .ok (.getfield 10, 3) := oc_180 (a := 0) (b := 10) (by decide +kernel)
theorem dX11_level_56 : decode cX11_level 56 = .ok (.getfield 70, 3) := oc_180 (a := 0) (b := 70) (by decide +kernel)
theorem dX11_level_59 : decode cX11_level 59 = .ok (.iload_n 1, 1) := oc_27 (by decide +kernel)
theorem dX11_level_60 : decode cX11_level 60 = .ok (.iload_n 2, 1) := oc_28 (by decide +kernel)
theorem dX11_level_61 : decode cX11_level 61 = .ok (.iload_n 3, 1) := oc_29 (by decide +kernel)
theorem dX11_level_73 : decode cX11_level 73 = .ok (.aload_n 0, 1) := oc_42 (by decide +kernel)
theorem dX11_level_74 : decode cX11_level 74 = .ok (.getfield 10, 3) := oc_180 (a := 0) (b := 10) (by decide +kernel)
theorem dX11_level_77 : decode cX11_level 77 = .ok (.getfield 54, 3) := oc_180 (a := 0) (b := 54) (by decide +kernel)
theorem tw_250 : Cond.methodLink RX11 79 yX7_tell ∈ wsL_law := sg_11 _ (List.mem_of_getElem? (i := 10) rfl)
theorem tw_251 : Cond.instanceMethod yX7_tell ∈ wsL_law := sg_11 _ (List.mem_of_getElem? (i := 11) rfl)
theorem tw_252 : Cond.selects RX7 yX7_tell yX7_tell ∈ wsL_law := sg_11 _ (List.mem_of_getElem? (i := 12) rfl)
theorem tw_253 : Cond.code yX7_tell cX7_tell 5 (some .int) ∈ wsL_law := sg_11 _ (List.mem_of_getElem? (i := 13) rfl)
theorem dX11_level_80 : decode cX11_level 80 = .ok (.invokevirtual 79, 3) := oc_182 (a := 0) (b := 79) (by decide +kernel)
theorem dX11_level_83 : decode cX11_level 83 = .ok (.ireturn, 1) := oc_172 (by decide +kernel)
theorem dX11_level_62 : decode cX11_level 62 = .ok (.ifCond .eq 8, 3) := oc_153 (a := 0) (b := 8) (by decide +kernel)
theorem dX11_level_70 : decode cX11_level 70 = .ok (.sipush (-5000), 3) := oc_17 (a := 236) (b := 120) (by decide +kernel)
theorem dX11_level_65 : decode cX11_level 65 = .ok (.iload 4, 2) := oc_21 (by decide +kernel)
theorem dX11_level_67 : decode cX11_level 67 = .ok (.goto 6, 3) := oc_167 (a := 0) (b := 6) (by decide +kernel)
theorem dX11_level_50 : decode cX11_level 50 = .ok (.iconst (-1), 1) := oc_2 (by decide +kernel)
theorem dX11_level_51 : decode cX11_level 51 = .ok (.ireturn, 1) := oc_172 (by decide +kernel)
theorem dX11_level_15 : decode cX11_level 15 = .ok (.ifCond .eq 19, 3) := oc_153 (a := 0) (b := 19) (by decide +kernel)
theorem dX11_level_18 : decode cX11_level 18 = .ok (.iload 4, 2) := oc_21 (by decide +kernel)
theorem dX11_level_20 : decode cX11_level 20 = .ok (.sipush (-1000), 3) := oc_17 (a := 252) (b := 24) (by decide +kernel)
theorem dX11_level_23 : decode cX11_level 23 = .ok (.sipush 5000, 3) := oc_17 (a := 19) (b := 136) (by decide +kernel)
theorem dX11_level_26 : decode cX11_level 26 = .ok (.invokestatic 50, 3) := oc_184 (a := 0) (b := 50) (by decide +kernel)
theorem dX11_level_29 : decode cX11_level 29 = .ok (.ifCond .ne 5, 3) := oc_154 (a := 0) (b := 5) (by decide +kernel)
theorem dX11_levelOf_0 : decode cX11_levelOf 0 = .ok (.iload_n 1, 1) := oc_27 (by decide +kernel)
theorem dX11_levelOf_1 : decode cX11_levelOf 1 = .ok (.invokestatic 64, 3) := oc_184 (a := 0) (b := 64) (by decide +kernel)
theorem tw_269 : Cond.constant RX11 83 (-1000000) ∈ wsL_law := sg_12 _ (List.mem_of_getElem? (i := 5) rfl)
theorem dX11_levelOf_25 : decode cX11_levelOf 25 = .ok (.ldc 83, 2) := oc_18 (by decide +kernel)
theorem dX11_levelOf_27 : decode cX11_levelOf 27 = .ok (.ireturn, 1) := oc_172 (by decide +kernel)
theorem dX11_levelOf_4 : decode cX11_levelOf 4 = .ok (.ifCond .eq 21, 3) := oc_153 (a := 0) (b := 21) (by decide +kernel)
theorem dX11_levelOf_7 : decode cX11_levelOf 7 = .ok (.iload_n 2, 1) := oc_28 (by decide +kernel)
theorem dX11_levelOf_8 : decode cX11_levelOf 8 = .ok (.invokestatic 67, 3) := oc_184 (a := 0) (b := 67) (by decide +kernel)
theorem dX11_levelOf_11 : decode cX11_levelOf 11 = .ok (.ifCond .eq 14, 3) := oc_153 (a := 0) (b := 14) (by decide +kernel)
theorem dX11_levelOf_14 : decode cX11_levelOf 14 = .ok (.iload_n 3, 1) := oc_29 (by decide +kernel)
theorem dX11_levelOf_15 : decode cX11_levelOf 15 = .ok (.iconst 0, 1) := oc_3 (by decide +kernel)
theorem dX11_levelOf_16 : decode cX11_levelOf 16 = .ok (.sipush 600, 3) := oc_17 (a := 2) (b := 88) (by decide +kernel)
theorem dX11_levelOf_19 : decode cX11_levelOf 19 = .ok (.invokestatic 50, 3) := oc_184 (a := 0) (b := 50) (by decide +kernel)
theorem dX11_levelOf_22 : decode cX11_levelOf 22 = .ok (.ifCond .ne 6, 3) := oc_154 (a := 0) (b := 6) (by decide +kernel)
theorem dX11_levelOf_28 : decode cX11_levelOf 28 = .ok (.aload_n 0, 1) := oc_42 (by decide +kernel)
theorem dX11_levelOf_29 : decode cX11_levelOf 29 = .ok (.getfield 10, 3) := oc_180 (a := 0) (b := 10) (by decide +kernel)
theorem dX11_levelOf_32 : decode cX11_levelOf 32 = .ok (.getfield 70, 3) := oc_180 (a := 0) (b := 70) (by decide +kernel)
theorem dX11_levelOf_35 : decode cX11_levelOf 35 = .ok (.iload_n 1, 1) := oc_27 (by decide +kernel)
theorem dX11_levelOf_36 : decode cX11_levelOf 36 = .ok (.iload_n 2, 1) := oc_28 (by decide +kernel)
theorem dX11_levelOf_37 : decode cX11_levelOf 37 = .ok (.iload_n 3, 1) := oc_29 (by decide +kernel)
theorem tw_270 : Cond.methodLink RX11 84 yX7_known ∈ wsL_law := sg_12 _ (List.mem_of_getElem? (i := 6) rfl)
theorem dX11_levelOf_38 : decode cX11_levelOf 38 = .ok (.invokevirtual 84, 3) := oc_182 (a := 0) (b := 84) (by decide +kernel)
theorem dX11_levelOf_41 : decode cX11_levelOf 41 = .ok (.ireturn, 1) := oc_172 (by decide +kernel)
theorem dX11_table_0 : decode cX11_table 0 = .ok (.iload_n 1, 1) := oc_27 (by decide +kernel)
theorem dX11_table_1 : decode cX11_table 1 = .ok (.iconst 0, 1) := oc_3 (by decide +kernel)
theorem dX11_table_2 : decode cX11_table 2 = .ok (.bipush 11, 2) := oc_16 (a := 11) (by decide +kernel)
theorem dX11_table_4 : decode cX11_table 4 = .ok (.invokestatic 50, 3) := oc_184 (a := 0) (b := 50) (by decide +kernel)
theorem dX11_table_70 : decode cX11_table 70 = .ok (.istore 7, 2) := oc_54 (by decide +kernel)
theorem dX11_table_72 : decode cX11_table 72 = .ok (.iload 7, 2) := oc_21 (by decide +kernel)
theorem dX11_table_74 : decode cX11_table 74 = .ok (.ifCond .ne 5, 3) := oc_154 (a := 0) (b := 5) (by decide +kernel)
theorem dX11_table_79 : decode cX11_table 79 = .ok (.aload_n 0, 1) := oc_42 (by decide +kernel)
theorem dX11_table_80 : decode cX11_table 80 = .ok (.getfield 10, 3) := oc_180 (a := 0) (b := 10) (by decide +kernel)
theorem dX11_table_83 : decode cX11_table 83 = .ok (.getfield 70, 3) := oc_180 (a := 0) (b := 70) (by decide +kernel)
theorem dX11_table_86 : decode cX11_table 86 = .ok (.astore 8, 2) := oc_58 (by decide +kernel)
theorem dX11_table_88 : decode cX11_table 88 = .ok (.aload 8, 2) := oc_25 (by decide +kernel)
theorem tw_305 : Cond.fieldLink RX11 88 "RingsUnder$Seas" "low" "[I" ∈ wsL_law := sg_13 _ (List.mem_of_getElem? (i := 17) rfl)
theorem dX11_table_90 : decode cX11_table 90 = .ok (.getfield 88, 3) := oc_180 (a := 0) (b := 88) (by decide +kernel)
theorem dX11_table_93 : decode cX11_table 93 = .ok (.iload_n 1, 1) := oc_27 (by decide +kernel)
theorem dX11_table_94 : decode cX11_table 94 = .ok (.iload_n 2, 1) := oc_28 (by decide +kernel)
theorem dX11_table_95 : decode cX11_table 95 = .ok (.iastore, 1) := oc_79 (by decide +kernel)
theorem dX11_table_96 : decode cX11_table 96 = .ok (.aload 8, 2) := oc_25 (by decide +kernel)
theorem tw_306 : Cond.fieldLink RX11 92 "RingsUnder$Seas" "high" "[I" ∈ wsL_law := sg_13 _ (List.mem_of_getElem? (i := 18) rfl)
theorem dX11_table_98 : decode cX11_table 98 = .ok (.getfield 92, 3) := oc_180 (a := 0) (b := 92) (by decide +kernel)
theorem dX11_table_101 : decode cX11_table 101 = .ok (.iload_n 1, 1) := oc_27 (by decide +kernel)
theorem dX11_table_102 : decode cX11_table 102 = .ok (.iload_n 3, 1) := oc_29 (by decide +kernel)
theorem dX11_table_103 : decode cX11_table 103 = .ok (.iastore, 1) := oc_79 (by decide +kernel)
theorem dX11_table_104 : decode cX11_table 104 = .ok (.aload 8, 2) := oc_25 (by decide +kernel)
theorem tw_307 : Cond.fieldLink RX11 95 "RingsUnder$Seas" "warm" "[I" ∈ wsL_law := sg_13 _ (List.mem_of_getElem? (i := 19) rfl)
theorem dX11_table_106 : decode cX11_table 106 = .ok (.getfield 95, 3) := oc_180 (a := 0) (b := 95) (by decide +kernel)
theorem dX11_table_109 : decode cX11_table 109 = .ok (.iload_n 1, 1) := oc_27 (by decide +kernel)
theorem dX11_table_110 : decode cX11_table 110 = .ok (.iload 4, 2) := oc_21 (by decide +kernel)
theorem dX11_table_112 : decode cX11_table 112 = .ok (.iastore, 1) := oc_79 (by decide +kernel)
theorem dX11_table_113 : decode cX11_table 113 = .ok (.aload 8, 2) := oc_25 (by decide +kernel)
theorem tw_308 : Cond.fieldLink RX11 98 "RingsUnder$Seas" "drift" "[I" ∈ wsL_law := sg_13 _ (List.mem_of_getElem? (i := 20) rfl)
theorem dX11_table_115 : decode cX11_table 115 = .ok (.getfield 98, 3) := oc_180 (a := 0) (b := 98) (by decide +kernel)
theorem dX11_table_118 : decode cX11_table 118 = .ok (.iload_n 1, 1) := oc_27 (by decide +kernel)
theorem dX11_table_119 : decode cX11_table 119 = .ok (.iload 5, 2) := oc_21 (by decide +kernel)
theorem dX11_table_121 : decode cX11_table 121 = .ok (.iastore, 1) := oc_79 (by decide +kernel)
theorem dX11_table_122 : decode cX11_table 122 = .ok (.aload 8, 2) := oc_25 (by decide +kernel)
theorem tw_309 : Cond.fieldLink RX11 101 "RingsUnder$Seas" "rain" "[I" ∈ wsL_law := sg_13 _ (List.mem_of_getElem? (i := 21) rfl)
theorem dX11_table_124 : decode cX11_table 124 = .ok (.getfield 101, 3) := oc_180 (a := 0) (b := 101) (by decide +kernel)
theorem dX11_table_127 : decode cX11_table 127 = .ok (.iload_n 1, 1) := oc_27 (by decide +kernel)
theorem dX11_table_128 : decode cX11_table 128 = .ok (.iload 6, 2) := oc_21 (by decide +kernel)
theorem dX11_table_130 : decode cX11_table 130 = .ok (.iastore, 1) := oc_79 (by decide +kernel)
theorem dX11_table_131 : decode cX11_table 131 = .ok (.iconst 1, 1) := oc_4 (by decide +kernel)
theorem dX11_table_132 : decode cX11_table 132 = .ok (.ireturn, 1) := oc_172 (by decide +kernel)
theorem dX11_table_77 : decode cX11_table 77 = .ok (.iconst 0, 1) := oc_3 (by decide +kernel)
theorem dX11_table_78 : decode cX11_table 78 = .ok (.ireturn, 1) := oc_172 (by decide +kernel)
theorem dX11_table_69 : decode cX11_table 69 = .ok (.iconst 0, 1) := oc_3 (by decide +kernel)
theorem dX11_table_7 : decode cX11_table 7 = .ok (.ifCond .eq 62, 3) := oc_153 (a := 0) (b := 62) (by decide +kernel)
theorem dX11_table_10 : decode cX11_table 10 = .ok (.iload_n 2, 1) := oc_28 (by decide +kernel)
theorem dX11_table_11 : decode cX11_table 11 = .ok (.iconst 0, 1) := oc_3 (by decide +kernel)
theorem dX11_table_12 : decode cX11_table 12 = .ok (.sipush 2000, 3) := oc_17 (a := 7) (b := 208) (by decide +kernel)
theorem dX11_table_15 : decode cX11_table 15 = .ok (.invokestatic 50, 3) := oc_184 (a := 0) (b := 50) (by decide +kernel)
theorem dX11_table_18 : decode cX11_table 18 = .ok (.ifCond .eq 51, 3) := oc_153 (a := 0) (b := 51) (by decide +kernel)
theorem dX11_table_21 : decode cX11_table 21 = .ok (.iload_n 3, 1) := oc_29 (by decide +kernel)
theorem dX11_table_22 : decode cX11_table 22 = .ok (.iload_n 2, 1) := oc_28 (by decide +kernel)
theorem dX11_table_23 : decode cX11_table 23 = .ok (.sipush 2000, 3) := oc_17 (a := 7) (b := 208) (by decide +kernel)
theorem dX11_table_26 : decode cX11_table 26 = .ok (.invokestatic 50, 3) := oc_184 (a := 0) (b := 50) (by decide +kernel)
theorem dX11_table_29 : decode cX11_table 29 = .ok (.ifCond .eq 40, 3) := oc_153 (a := 0) (b := 40) (by decide +kernel)
theorem dX11_table_32 : decode cX11_table 32 = .ok (.iload 4, 2) := oc_21 (by decide +kernel)
theorem dX11_table_34 : decode cX11_table 34 = .ok (.iconst 0, 1) := oc_3 (by decide +kernel)
theorem dX11_table_35 : decode cX11_table 35 = .ok (.bipush 40, 2) := oc_16 (a := 40) (by decide +kernel)
theorem dX11_table_37 : decode cX11_table 37 = .ok (.invokestatic 50, 3) := oc_184 (a := 0) (b := 50) (by decide +kernel)
theorem dX11_table_40 : decode cX11_table 40 = .ok (.ifCond .eq 29, 3) := oc_153 (a := 0) (b := 29) (by decide +kernel)
theorem dX11_table_43 : decode cX11_table 43 = .ok (.iload 5, 2) := oc_21 (by decide +kernel)
theorem dX11_table_45 : decode cX11_table 45 = .ok (.iconst 0, 1) := oc_3 (by decide +kernel)
theorem dX11_table_46 : decode cX11_table 46 = .ok (.bipush 50, 2) := oc_16 (a := 50) (by decide +kernel)
theorem dX11_table_48 : decode cX11_table 48 = .ok (.invokestatic 50, 3) := oc_184 (a := 0) (b := 50) (by decide +kernel)
theorem dX11_table_51 : decode cX11_table 51 = .ok (.ifCond .eq 18, 3) := oc_153 (a := 0) (b := 18) (by decide +kernel)
theorem dX11_table_54 : decode cX11_table 54 = .ok (.iload 6, 2) := oc_21 (by decide +kernel)
theorem dX11_table_56 : decode cX11_table 56 = .ok (.iconst 0, 1) := oc_3 (by decide +kernel)
theorem dX11_table_57 : decode cX11_table 57 = .ok (.bipush 100, 2) := oc_16 (a := 100) (by decide +kernel)
theorem dX11_table_59 : decode cX11_table 59 = .ok (.invokestatic 50, 3) := oc_184 (a := 0) (b := 50) (by decide +kernel)
theorem dX11_table_62 : decode cX11_table 62 = .ok (.ifCond .eq 7, 3) := oc_153 (a := 0) (b := 7) (by decide +kernel)
theorem dX11_table_65 : decode cX11_table 65 = .ok (.iconst 1, 1) := oc_4 (by decide +kernel)
theorem dX11_table_66 : decode cX11_table 66 = .ok (.goto 4, 3) := oc_167 (a := 0) (b := 4) (by decide +kernel)
theorem dX11_rules_0 : decode cX11_rules 0 = .ok (.iload_n 1, 1) := oc_27 (by decide +kernel)
theorem dX11_rules_1 : decode cX11_rules 1 = .ok (.iconst 0, 1) := oc_3 (by decide +kernel)
theorem dX11_rules_2 : decode cX11_rules 2 = .ok (.bipush 40, 2) := oc_16 (a := 40) (by decide +kernel)
theorem dX11_rules_4 : decode cX11_rules 4 = .ok (.invokestatic 50, 3) := oc_184 (a := 0) (b := 50) (by decide +kernel)
theorem dX11_rules_56 : decode cX11_rules 56 = .ok (.istore 6, 2) := oc_54 (by decide +kernel)
theorem dX11_rules_58 : decode cX11_rules 58 = .ok (.iload 6, 2) := oc_21 (by decide +kernel)
theorem dX11_rules_60 : decode cX11_rules 60 = .ok (.ifCond .ne 5, 3) := oc_154 (a := 0) (b := 5) (by decide +kernel)
theorem dX11_rules_65 : decode cX11_rules 65 = .ok (.aload_n 0, 1) := oc_42 (by decide +kernel)
theorem dX11_rules_66 : decode cX11_rules 66 = .ok (.getfield 10, 3) := oc_180 (a := 0) (b := 10) (by decide +kernel)
theorem dX11_rules_69 : decode cX11_rules 69 = .ok (.getfield 70, 3) := oc_180 (a := 0) (b := 70) (by decide +kernel)
theorem dX11_rules_72 : decode cX11_rules 72 = .ok (.astore 7, 2) := oc_58 (by decide +kernel)
theorem dX11_rules_74 : decode cX11_rules 74 = .ok (.aload 7, 2) := oc_25 (by decide +kernel)
theorem dX11_rules_76 : decode cX11_rules 76 = .ok (.iload_n 1, 1) := oc_27 (by decide +kernel)
theorem tw_318 : Cond.fieldLink RX11 104 "RingsUnder$Seas" "bear" "I" ∈ wsL_law := sg_14 _ (List.mem_of_getElem? (i := 6) rfl)
theorem dX11_rules_77 : decode cX11_rules 77 = .ok (.putfield 104, 3) := oc_181 (a := 0) (b := 104) (by decide +kernel)
theorem dX11_rules_80 : decode cX11_rules 80 = .ok (.aload 7, 2) := oc_25 (by decide +kernel)
theorem dX11_rules_82 : decode cX11_rules 82 = .ok (.iload_n 2, 1) := oc_28 (by decide +kernel)
theorem tw_319 : Cond.fieldLink RX11 107 "RingsUnder$Seas" "grow" "I" ∈ wsL_law := sg_14 _ (List.mem_of_getElem? (i := 7) rfl)
theorem dX11_rules_83 : decode cX11_rules 83 = .ok (.putfield 107, 3) := oc_181 (a := 0) (b := 107) (by decide +kernel)
theorem dX11_rules_86 : decode cX11_rules 86 = .ok (.aload 7, 2) := oc_25 (by decide +kernel)
theorem dX11_rules_88 : decode cX11_rules 88 = .ok (.iload_n 3, 1) := oc_29 (by decide +kernel)
theorem tw_320 : Cond.fieldLink RX11 110 "RingsUnder$Seas" "die" "I" ∈ wsL_law := sg_14 _ (List.mem_of_getElem? (i := 8) rfl)
theorem dX11_rules_89 : decode cX11_rules 89 = .ok (.putfield 110, 3) := oc_181 (a := 0) (b := 110) (by decide +kernel)
theorem dX11_rules_92 : decode cX11_rules 92 = .ok (.aload 7, 2) := oc_25 (by decide +kernel)
theorem dX11_rules_94 : decode cX11_rules 94 = .ok (.iload 4, 2) := oc_21 (by decide +kernel)
theorem tw_321 : Cond.fieldLink RX11 113 "RingsUnder$Seas" "reach" "I" ∈ wsL_law := sg_14 _ (List.mem_of_getElem? (i := 9) rfl)
theorem dX11_rules_96 : decode cX11_rules 96 = .ok (.putfield 113, 3) := oc_181 (a := 0) (b := 113) (by decide +kernel)
theorem dX11_rules_99 : decode cX11_rules 99 = .ok (.aload 7, 2) := oc_25 (by decide +kernel)
theorem dX11_rules_101 : decode cX11_rules 101 = .ok (.iload 5, 2) := oc_21 (by decide +kernel)
theorem tw_322 : Cond.fieldLink RX11 116 "RingsUnder$Seas" "cost" "I" ∈ wsL_law := sg_14 _ (List.mem_of_getElem? (i := 10) rfl)
theorem dX11_rules_103 : decode cX11_rules 103 = .ok (.putfield 116, 3) := oc_181 (a := 0) (b := 116) (by decide +kernel)
theorem dX11_rules_106 : decode cX11_rules 106 = .ok (.iconst 1, 1) := oc_4 (by decide +kernel)
theorem dX11_rules_107 : decode cX11_rules 107 = .ok (.ireturn, 1) := oc_172 (by decide +kernel)
theorem dX11_rules_63 : decode cX11_rules 63 = .ok (.iconst 0, 1) := oc_3 (by decide +kernel)
theorem dX11_rules_64 : decode cX11_rules 64 = .ok (.ireturn, 1) := oc_172 (by decide +kernel)
theorem dX11_rules_55 : decode cX11_rules 55 = .ok (.iconst 0, 1) := oc_3 (by decide +kernel)
theorem dX11_rules_7 : decode cX11_rules 7 = .ok (.ifCond .eq 48, 3) := oc_153 (a := 0) (b := 48) (by decide +kernel)
theorem dX11_rules_10 : decode cX11_rules 10 = .ok (.iload_n 2, 1) := oc_28 (by decide +kernel)
theorem dX11_rules_11 : decode cX11_rules 11 = .ok (.iconst 0, 1) := oc_3 (by decide +kernel)
theorem dX11_rules_12 : decode cX11_rules 12 = .ok (.iconst 5, 1) := oc_8 (by decide +kernel)
theorem dX11_rules_13 : decode cX11_rules 13 = .ok (.invokestatic 50, 3) := oc_184 (a := 0) (b := 50) (by decide +kernel)
theorem dX11_rules_16 : decode cX11_rules 16 = .ok (.ifCond .eq 39, 3) := oc_153 (a := 0) (b := 39) (by decide +kernel)
theorem dX11_rules_19 : decode cX11_rules 19 = .ok (.iload_n 3, 1) := oc_29 (by decide +kernel)
theorem dX11_rules_20 : decode cX11_rules 20 = .ok (.iconst 0, 1) := oc_3 (by decide +kernel)
theorem dX11_rules_21 : decode cX11_rules 21 = .ok (.bipush 50, 2) := oc_16 (a := 50) (by decide +kernel)
theorem dX11_rules_23 : decode cX11_rules 23 = .ok (.invokestatic 50, 3) := oc_184 (a := 0) (b := 50) (by decide +kernel)
theorem dX11_rules_26 : decode cX11_rules 26 = .ok (.ifCond .eq 29, 3) := oc_153 (a := 0) (b := 29) (by decide +kernel)
theorem dX11_rules_29 : decode cX11_rules 29 = .ok (.iload 4, 2) := oc_21 (by decide +kernel)
theorem dX11_rules_31 : decode cX11_rules 31 = .ok (.iconst 1, 1) := oc_4 (by decide +kernel)
theorem dX11_rules_32 : decode cX11_rules 32 = .ok (.bipush 20, 2) := oc_16 (a := 20) (by decide +kernel)
theorem dX11_rules_34 : decode cX11_rules 34 = .ok (.invokestatic 50, 3) := oc_184 (a := 0) (b := 50) (by decide +kernel)
theorem dX11_rules_37 : decode cX11_rules 37 = .ok (.ifCond .eq 18, 3) := oc_153 (a := 0) (b := 18) (by decide +kernel)
theorem dX11_rules_40 : decode cX11_rules 40 = .ok (.iload 5, 2) := oc_21 (by decide +kernel)
theorem dX11_rules_42 : decode cX11_rules 42 = .ok (.iconst 0, 1) := oc_3 (by decide +kernel)
theorem dX11_rules_43 : decode cX11_rules 43 = .ok (.bipush 100, 2) := oc_16 (a := 100) (by decide +kernel)
theorem dX11_rules_45 : decode cX11_rules 45 = .ok (.invokestatic 50, 3) := oc_184 (a := 0) (b := 50) (by decide +kernel)
theorem dX11_rules_48 : decode cX11_rules 48 = .ok (.ifCond .eq 7, 3) := oc_153 (a := 0) (b := 7) (by decide +kernel)
theorem dX11_rules_51 : decode cX11_rules 51 = .ok (.iconst 1, 1) := oc_4 (by decide +kernel)
theorem dX11_rules_52 : decode cX11_rules 52 = .ok (.goto 4, 3) := oc_167 (a := 0) (b := 4) (by decide +kernel)
theorem dX11_isCell_0 : decode cX11_isCell 0 = .ok (.iload_n 1, 1) := oc_27 (by decide +kernel)
theorem dX11_isCell_1 : decode cX11_isCell 1 = .ok (.iconst 0, 1) := oc_3 (by decide +kernel)
theorem dX11_isCell_2 : decode cX11_isCell 2 = .ok (.aload_n 0, 1) := oc_42 (by decide +kernel)
theorem dX11_isCell_3 : decode cX11_isCell 3 = .ok (.getfield 10, 3) := oc_180 (a := 0) (b := 10) (by decide +kernel)
theorem dX11_isCell_6 : decode cX11_isCell 6 = .ok (.getfield 36, 3) := oc_180 (a := 0) (b := 36) (by decide +kernel)
theorem dX11_isCell_9 : decode cX11_isCell 9 = .ok (.getfield 57, 3) := oc_180 (a := 0) (b := 57) (by decide +kernel)
theorem dX11_isCell_12 : decode cX11_isCell 12 = .ok (.iconst 1, 1) := oc_4 (by decide +kernel)
theorem dX11_isCell_13 : decode cX11_isCell 13 = .ok (.isub, 1) := oc_100 (by decide +kernel)
theorem dX11_isCell_14 : decode cX11_isCell 14 = .ok (.invokestatic 50, 3) := oc_184 (a := 0) (b := 50) (by decide +kernel)
theorem dX11_isCell_17 : decode cX11_isCell 17 = .ok (.ireturn, 1) := oc_172 (by decide +kernel)
theorem dX11_wall_0 : decode cX11_wall 0 = .ok (.aload_n 0, 1) := oc_42 (by decide +kernel)
theorem dX11_wall_1 : decode cX11_wall 1 = .ok (.iload_n 1, 1) := oc_27 (by decide +kernel)
theorem tw_332 : Cond.methodLink RX11 119 yX11_isCell ∈ wsL_law := sg_14 _ (List.mem_of_getElem? (i := 20) rfl)
theorem tw_333 : Cond.instanceMethod yX11_isCell ∈ wsL_law := sg_14 _ (List.mem_of_getElem? (i := 21) rfl)
theorem tw_334 : Cond.selects RX11 yX11_isCell yX11_isCell ∈ wsL_law := sg_14 _ (List.mem_of_getElem? (i := 22) rfl)
theorem tw_335 : Cond.code yX11_isCell cX11_isCell 2 (some .boolean) ∈ wsL_law := sg_14 _ (List.mem_of_getElem? (i := 23) rfl)
theorem dX11_wall_2 : decode cX11_wall 2 = .ok (.invokevirtual 119, 3) := oc_182 (a := 0) (b := 119) (by decide +kernel)
theorem dX11_wall_19 : decode cX11_wall 19 = .ok (.iconst 0, 1) := oc_3 (by decide +kernel)
theorem dX11_wall_20 : decode cX11_wall 20 = .ok (.ireturn, 1) := oc_172 (by decide +kernel)
theorem dX11_wall_5 : decode cX11_wall 5 = .ok (.ifCond .eq 14, 3) := oc_153 (a := 0) (b := 14) (by decide +kernel)
theorem dX11_wall_8 : decode cX11_wall 8 = .ok (.iload_n 2, 1) := oc_28 (by decide +kernel)
theorem dX11_wall_9 : decode cX11_wall 9 = .ok (.iconst 0, 1) := oc_3 (by decide +kernel)
theorem dX11_wall_10 : decode cX11_wall 10 = .ok (.sipush 1000, 3) := oc_17 (a := 3) (b := 232) (by decide +kernel)
theorem dX11_wall_13 : decode cX11_wall 13 = .ok (.invokestatic 50, 3) := oc_184 (a := 0) (b := 50) (by decide +kernel)
theorem dX11_wall_16 : decode cX11_wall 16 = .ok (.ifCond .ne 5, 3) := oc_154 (a := 0) (b := 5) (by decide +kernel)
theorem dX11_wall_21 : decode cX11_wall 21 = .ok (.aload_n 0, 1) := oc_42 (by decide +kernel)
theorem dX11_wall_22 : decode cX11_wall 22 = .ok (.getfield 10, 3) := oc_180 (a := 0) (b := 10) (by decide +kernel)
theorem dX11_wall_25 : decode cX11_wall 25 = .ok (.getfield 36, 3) := oc_180 (a := 0) (b := 36) (by decide +kernel)
theorem tw_331 : Cond.fieldLink RX11 122 "RingsUnder$Land" "wall" "[I" ∈ wsL_law := sg_14 _ (List.mem_of_getElem? (i := 19) rfl)
theorem dX11_wall_28 : decode cX11_wall 28 = .ok (.getfield 122, 3) := oc_180 (a := 0) (b := 122) (by decide +kernel)
theorem dX11_wall_31 : decode cX11_wall 31 = .ok (.iload_n 1, 1) := oc_27 (by decide +kernel)
theorem dX11_wall_32 : decode cX11_wall 32 = .ok (.iload_n 2, 1) := oc_28 (by decide +kernel)
theorem dX11_wall_33 : decode cX11_wall 33 = .ok (.iastore, 1) := oc_79 (by decide +kernel)
theorem dX11_wall_34 : decode cX11_wall 34 = .ok (.iconst 1, 1) := oc_4 (by decide +kernel)
theorem dX11_wall_35 : decode cX11_wall 35 = .ok (.ireturn, 1) := oc_172 (by decide +kernel)
theorem dX11_well_0 : decode cX11_well 0 = .ok (.aload_n 0, 1) := oc_42 (by decide +kernel)
theorem dX11_well_1 : decode cX11_well 1 = .ok (.iload_n 1, 1) := oc_27 (by decide +kernel)
theorem dX11_well_2 : decode cX11_well 2 = .ok (.invokevirtual 119, 3) := oc_182 (a := 0) (b := 119) (by decide +kernel)
theorem dX11_well_45 : decode cX11_well 45 = .ok (.istore 5, 2) := oc_54 (by decide +kernel)
theorem dX11_well_47 : decode cX11_well 47 = .ok (.iload 5, 2) := oc_21 (by decide +kernel)
theorem dX11_well_69 : decode cX11_well 69 = .ok (.iconst 0, 1) := oc_3 (by decide +kernel)
theorem dX11_well_70 : decode cX11_well 70 = .ok (.ireturn, 1) := oc_172 (by decide +kernel)
theorem dX11_well_49 : decode cX11_well 49 = .ok (.ifCond .eq 20, 3) := oc_153 (a := 0) (b := 20) (by decide +kernel)
theorem dX11_well_52 : decode cX11_well 52 = .ok (.aload_n 0, 1) := oc_42 (by decide +kernel)
theorem dX11_well_53 : decode cX11_well 53 = .ok (.getfield 10, 3) := oc_180 (a := 0) (b := 10) (by decide +kernel)
theorem dX11_well_56 : decode cX11_well 56 = .ok (.getfield 36, 3) := oc_180 (a := 0) (b := 36) (by decide +kernel)
theorem tw_348 : Cond.fieldLink RX11 125 "RingsUnder$Land" "wells" "LRingsUnder$Wells;" ∈ wsL_law := sg_15 _ (List.mem_of_getElem? (i := 12) rfl)
theorem dX11_well_59 : decode cX11_well 59 = .ok (.getfield 125, 3) := oc_180 (a := 0) (b := 125) (by decide +kernel)
theorem dX11_well_62 : decode cX11_well 62 = .ok (.iload_n 1, 1) := oc_27 (by decide +kernel)
theorem tw_349 : Cond.methodLink RX11 129 yX9_isAt ∈ wsL_law := sg_15 _ (List.mem_of_getElem? (i := 13) rfl)
theorem dX11_well_63 : decode cX11_well 63 = .ok (.invokevirtual 129, 3) := oc_182 (a := 0) (b := 129) (by decide +kernel)
theorem dX11_well_66 : decode cX11_well 66 = .ok (.ifCond .eq 5, 3) := oc_153 (a := 0) (b := 5) (by decide +kernel)
theorem dX11_well_71 : decode cX11_well 71 = .ok (.aload_n 0, 1) := oc_42 (by decide +kernel)
theorem dX11_well_72 : decode cX11_well 72 = .ok (.getfield 10, 3) := oc_180 (a := 0) (b := 10) (by decide +kernel)
theorem dX11_well_75 : decode cX11_well 75 = .ok (.getfield 36, 3) := oc_180 (a := 0) (b := 36) (by decide +kernel)
theorem dX11_well_78 : decode cX11_well 78 = .ok (.getfield 125, 3) := oc_180 (a := 0) (b := 125) (by decide +kernel)
theorem dX11_well_81 : decode cX11_well 81 = .ok (.iload_n 1, 1) := oc_27 (by decide +kernel)
theorem dX11_well_82 : decode cX11_well 82 = .ok (.iload_n 2, 1) := oc_28 (by decide +kernel)
theorem dX11_well_83 : decode cX11_well 83 = .ok (.iload_n 3, 1) := oc_29 (by decide +kernel)
theorem dX11_well_84 : decode cX11_well 84 = .ok (.iload 4, 2) := oc_21 (by decide +kernel)
theorem tw_353 : Cond.methodLink RX11 134 yX9_dig ∈ wsL_law := sg_15 _ (List.mem_of_getElem? (i := 17) rfl)
theorem tw_354 : Cond.instanceMethod yX9_dig ∈ wsL_law := sg_15 _ (List.mem_of_getElem? (i := 18) rfl)
theorem tw_355 : Cond.selects RX9 yX9_dig yX9_dig ∈ wsL_law := sg_15 _ (List.mem_of_getElem? (i := 19) rfl)
theorem tw_356 : Cond.code yX9_dig cX9_dig 5 none ∈ wsL_law := sg_15 _ (List.mem_of_getElem? (i := 20) rfl)
theorem dX11_well_86 : decode cX11_well 86 = .ok (.invokevirtual 134, 3) := oc_182 (a := 0) (b := 134) (by decide +kernel)
theorem dX11_well_89 : decode cX11_well 89 = .ok (.iconst 1, 1) := oc_4 (by decide +kernel)
theorem dX11_well_90 : decode cX11_well 90 = .ok (.ireturn, 1) := oc_172 (by decide +kernel)
theorem dX11_well_44 : decode cX11_well 44 = .ok (.iconst 0, 1) := oc_3 (by decide +kernel)
theorem dX11_well_5 : decode cX11_well 5 = .ok (.ifCond .eq 39, 3) := oc_153 (a := 0) (b := 39) (by decide +kernel)
theorem dX11_well_8 : decode cX11_well 8 = .ok (.iload_n 2, 1) := oc_28 (by decide +kernel)
theorem dX11_well_9 : decode cX11_well 9 = .ok (.iconst 1, 1) := oc_4 (by decide +kernel)
theorem dX11_well_10 : decode cX11_well 10 = .ok (.bipush 20, 2) := oc_16 (a := 20) (by decide +kernel)
theorem dX11_well_12 : decode cX11_well 12 = .ok (.invokestatic 50, 3) := oc_184 (a := 0) (b := 50) (by decide +kernel)
theorem dX11_well_15 : decode cX11_well 15 = .ok (.ifCond .eq 29, 3) := oc_153 (a := 0) (b := 29) (by decide +kernel)
theorem dX11_well_18 : decode cX11_well 18 = .ok (.iload_n 3, 1) := oc_29 (by decide +kernel)
theorem dX11_well_19 : decode cX11_well 19 = .ok (.iconst 0, 1) := oc_3 (by decide +kernel)
theorem dX11_well_20 : decode cX11_well 20 = .ok (.sipush 10000, 3) := oc_17 (a := 39) (b := 16) (by decide +kernel)
theorem dX11_well_23 : decode cX11_well 23 = .ok (.invokestatic 50, 3) := oc_184 (a := 0) (b := 50) (by decide +kernel)
theorem dX11_well_26 : decode cX11_well 26 = .ok (.ifCond .eq 18, 3) := oc_153 (a := 0) (b := 18) (by decide +kernel)
theorem dX11_well_29 : decode cX11_well 29 = .ok (.iload 4, 2) := oc_21 (by decide +kernel)
theorem dX11_well_31 : decode cX11_well 31 = .ok (.iconst 0, 1) := oc_3 (by decide +kernel)
theorem dX11_well_32 : decode cX11_well 32 = .ok (.bipush 100, 2) := oc_16 (a := 100) (by decide +kernel)
theorem dX11_well_34 : decode cX11_well 34 = .ok (.invokestatic 50, 3) := oc_184 (a := 0) (b := 50) (by decide +kernel)
theorem dX11_well_37 : decode cX11_well 37 = .ok (.ifCond .eq 7, 3) := oc_153 (a := 0) (b := 7) (by decide +kernel)
theorem dX11_well_40 : decode cX11_well 40 = .ok (.iconst 1, 1) := oc_4 (by decide +kernel)
theorem dX11_well_41 : decode cX11_well 41 = .ok (.goto 4, 3) := oc_167 (a := 0) (b := 4) (by decide +kernel)
set_option maxHeartbeats 4000000 in
set_option maxRecDepth 100000 in
theorem s_X11_between (l : Launch) (D : va_G) (t : pq_T) (σ : pq_S) (I : Nat → Nat → Int32) (J : Nat → Nat → Int64) (ri : Nat → Nat → Int32) (rj : Nat → Nat → Int64) (rq : Nat → Nat → Option Nat) (sz : Nat) (tg : Nat → Nat) (hSH : SH σ tg) (hG0 : GS tg σ I ri rq) (a0 : Int32) (a1 : Int32) (a2 : Int32) : MetI l yX11_between (wa yX11_between cX11_between 3 (some .boolean)) ({ frames := 0, cells := 0, slots := 0, locals := 0 }) [.int a0, .int a1, .int a2] D t σ (I, J, ri, rj, rq) sz 0 0 (fun (r : Int32) (u : pq_S × pq_M) => u = (σ, I, J, ri, rj, rq) ∧ ((r = 1 ∧ a1 ≤ a0 ∧ a0 ≤ a2) ∨ (r = 0 ∧ True))) := by
  refine Met.ofW (cc := cX11_between) (maxL := 3) (ret := (some .boolean)) (by decide) rfl ?_
  intro p e s m args below meth c s₁ B hml hv
  obtain ⟨rfl, hsz, hP, hK, hD0, hN⟩ := hv
  have hx := B.exec
  have hb := B.bytes
  have hr := B.returns
  have hts := atoms_spec (ws := (wa yX11_between cX11_between 3 (some .boolean))) B.pre
  have hown : s.vm.findClass RX11 = some m.cls := findClass_of_methodNamed B.named
  have hlocks := B.notSynchronized
  subst hsz
  have hD : va_D (pq_B t σ (I, J, ri, rj, rq) s.heap.size) (pq_P t σ (I, J, ri, rj, rq)) := hD0.self
  generalize hAe : pq_B t σ (I, J, ri, rj, rq) s.heap.size = A at hD ⊢
  have hA : ∀ q : Nat, s.heap.size ≤ q → A q := fun q h => by rw [← hAe]; exact Or.inr h
  have hS : va_S A s.heap s.heap [] := va_S.rf
  have hG : GX [] tg σ I ri rj I ri rj rq := ⟨hG0, fun _ _ _ => rfl, fun _ _ _ _ _ => rfl, fun _ _ _ _ _ => rfl⟩
  have hl := lv_entry ([.int a0, .int a1, .int a2]) (n := 3) (Nat.le_of_ble_eq_true rfl)
  rw [lg_entry_eq]
  generalize (lg_sl ([.int a0, .int a1, .int a2]) ++ List.replicate (3 - (lg_sl ([.int a0, .int a1, .int a2])).length) Slot.unset).toArray = ls at hl ⊢
  have hl : lv_has ls 3 [(0, .int a0), (1, .int a1), (2, .int a2)] := hl
  refine q_gen (fun Q hQ => ?_)
  have go : ∀ (H : Heap) (locs : List Loc) (ls : Array Slot), va_P D vwCl (pq_P t σ (I, J, ri, rj, rq)) H → va_D A (pq_P t σ (I, J, ri, rj, rq)) → va_S A s.heap H locs → lv_has ls 3 [(0, .int a0), (1, .int a1), (2, .int a2)] → W p l e ({ frames := 0, cells := 0, slots := 0, locals := 0 } : Room) s m (List.toArray ([.int a0, .int a1, .int a2] : List Value)) below meth c H locs 0 0 Q (F0 m 0 ls []) := by
    intro H locs ls hP hD hS hl
    refine lv_iload_n hx hb dX11_between_0 rfl (lv_at hl 0 rfl) ?_
    refine lv_iload_n hx hb dX11_between_1 rfl (lv_at hl 1 rfl) ?_
    have K_7 : ∀  (H : Heap) (locs : List Loc) (ls : Array Slot), GX [] tg σ I ri rj I ri rj rq → va_P D vwCl (pq_P t σ (I, J, ri, rj, rq)) H → va_D A (pq_P t σ (I, J, ri, rj, rq)) → va_S A s.heap H locs → lv_has ls 3 [] → W p l e ({ frames := 0, cells := 0, slots := 0, locals := 0 } : Room) s m (List.toArray ([.int a0, .int a1, .int a2] : List Value)) below meth c H locs 0 0 Q (F0 m 14 ls []) := by
      intro H locs ls hG hP hD hS hl
      refine lv_iconst (v := 0) hx hb dX11_between_14 (by decide) ?_
      subst hQ
      exact W.zret (v := 0) hx hb hr (by decide) (fun t1 ht hW => ⟨⟨0, (σ, I, J, ri, rj, rq), rfl, ⟨rfl, (Or.inr ⟨rfl, trivial⟩)⟩, by rw [ht]; exact hP, va_K.moved hW.alike hK, hD⟩, hS.F ht⟩) hS.2.2 dX11_between_15
    refine lv_icmp_lt (tgt := 14) hx hb dX11_between_2 (by decide) (fun c_8 => ?_) (fun c_8 => ?_)
    · have h_9 : rg a0 (-2147483648) 2147483646 := rg_lt1 c_8 (rg_full _) (rg_full _) (by decide)
      have h_10 : rg a1 (-2147483647) 2147483647 := rg_lt2 c_8 (rg_full _) (rg_full _) (by decide)
      exact K_7 _ _ _ hG hP hD hS (lv_sub hl [] rfl)
    · refine lv_iload_n hx hb dX11_between_5 rfl (lv_at hl 0 rfl) ?_
      refine lv_iload_n hx hb dX11_between_6 rfl (lv_at hl 2 rfl) ?_
      refine lv_icmp_gt (tgt := 14) hx hb dX11_between_7 (by decide) (fun c_11 => ?_) (fun c_11 => ?_)
      · have h_12 : rg a2 (-2147483648) 2147483646 := rg_lt1 c_11 (rg_full _) (rg_full _) (by decide)
        have h_13 : rg a0 (-2147483647) 2147483647 := rg_lt2 c_11 (rg_full _) (rg_full _) (by decide)
        exact K_7 _ _ _ hG hP hD hS (lv_sub hl [] rfl)
      · refine lv_iconst (v := 1) hx hb dX11_between_10 (by decide) ?_
        refine lv_goto (tgt := 15) hx hb dX11_between_11 (by decide) ?_
        subst hQ
        exact W.zret (v := 1) hx hb hr (by decide) (fun t1 ht hW => ⟨⟨1, (σ, I, J, ri, rj, rq), rfl, ⟨rfl, (Or.inl ⟨rfl, (nlt c_8), (nlt c_11)⟩)⟩, by rw [ht]; exact hP, va_K.moved hW.alike hK, hD⟩, hS.F ht⟩) hS.2.2 dX11_between_15
  exact go _ _ _ hP hD hS hl

set_option maxHeartbeats 4000000 in
set_option maxRecDepth 100000 in
theorem s_X11_isRing (l : Launch) (D : va_G) (t : pq_T) (σ : pq_S) (I : Nat → Nat → Int32) (J : Nat → Nat → Int64) (ri : Nat → Nat → Int32) (rj : Nat → Nat → Int64) (rq : Nat → Nat → Option Nat) (sz : Nat) (tg : Nat → Nat) (hSH : SH σ tg) (hG0 : GS tg σ I ri rq) (this : Nat) (a0 : Int32) (hL_this : this ∈ σ.1) (hK_this : σ.2.1 this = 11) : MetI l yX11_isRing (wa yX11_isRing cX11_isRing 2 (some .boolean)) ({ frames := 1, cells := 0, slots := 0, locals := 22 }) [.ref this, .int a0] D t σ (I, J, ri, rj, rq) sz 0 0 (fun (r : Int32) (u : pq_S × pq_M) => u = (σ, I, J, ri, rj, rq) ∧ ((r = 1 ∧ rg a0 0 4) ∨ (r = 0 ∧ True))) := by
  refine Met.ofW (cc := cX11_isRing) (maxL := 2) (ret := (some .boolean)) (by decide) rfl ?_
  intro p e s m args below meth c s₁ B hml hv
  obtain ⟨rfl, hsz, hP, hK, hD0, hN⟩ := hv
  have hx := B.exec
  have hb := B.bytes
  have hr := B.returns
  have hts := atoms_spec (ws := (wa yX11_isRing cX11_isRing 2 (some .boolean))) B.pre
  have hown : s.vm.findClass RX11 = some m.cls := findClass_of_methodNamed B.named
  have hlocks := B.notSynchronized
  subst hsz
  have hD : va_D (pq_B t σ (I, J, ri, rj, rq) s.heap.size) (pq_P t σ (I, J, ri, rj, rq)) := hD0.self
  generalize hAe : pq_B t σ (I, J, ri, rj, rq) s.heap.size = A at hD ⊢
  have hA : ∀ q : Nat, s.heap.size ≤ q → A q := fun q h => by rw [← hAe]; exact Or.inr h
  have hS : va_S A s.heap s.heap [] := va_S.rf
  have hG : GX [] tg σ I ri rj I ri rj rq := ⟨hG0, fun _ _ _ => rfl, fun _ _ _ _ _ => rfl, fun _ _ _ _ _ => rfl⟩
  have hl := lv_entry ([.ref this, .int a0]) (n := 2) (Nat.le_of_ble_eq_true rfl)
  rw [lg_entry_eq]
  generalize (lg_sl ([.ref this, .int a0]) ++ List.replicate (2 - (lg_sl ([.ref this, .int a0])).length) Slot.unset).toArray = ls at hl ⊢
  have hl : lv_has ls 2 [(0, .ref this), (1, .int a0)] := hl
  refine q_gen (fun Q hQ => ?_)
  have go : ∀ (H : Heap) (locs : List Loc) (ls : Array Slot), va_P D vwCl (pq_P t σ (I, J, ri, rj, rq)) H → va_D A (pq_P t σ (I, J, ri, rj, rq)) → va_S A s.heap H locs → lv_has ls 2 [(0, .ref this), (1, .int a0)] → W p l e ({ frames := 1, cells := 0, slots := 0, locals := 22 } : Room) s m (List.toArray ([.ref this, .int a0] : List Value)) below meth c H locs 0 0 Q (F0 m 0 ls []) := by
    intro H locs ls hP hD hS hl
    refine lv_iload_n hx hb dX11_isRing_0 rfl (lv_at hl 1 rfl) ?_
    refine lv_iconst (v := 0) hx hb dX11_isRing_1 (by decide) ?_
    refine lv_aload_n hx hb dX11_isRing_2 rfl (lv_at hl 0 rfl) ?_
    obtain ⟨w_1, hR_w_1, hL_w_1, hK_w_1⟩ := sh_o hSH 352 (ci := 11) (kd := 10) rfl hL_this hK_this
    refine pg_f (v := .ref w_1) (C := RX11) (T := TX11) (N := 5) hx hb hts (tw_i inlX11) hown hK hP hL_this hK_this (by decide) rfl 0 (by decide) (hts _ (tw_c tw_16)) (pq_hv rfl hR_w_1) dX11_isRing_3 ?_
    obtain ⟨w_2, hR_w_2, hL_w_2, hK_w_2⟩ := sh_o hSH 327 (ci := 10) (kd := 2) rfl hL_w_1 hK_w_1
    refine pg_f (v := .ref w_2) (C := RX10) (T := TX10) (N := 13) hx hb hts (tw_i inlX10) hown hK hP hL_w_1 hK_w_1 (by decide) rfl 7 (by decide) (hts _ (tw_c tw_199)) (pq_hv rfl hR_w_2) dX11_isRing_6 ?_
    refine pg_f (v := .int (I 64 w_2)) (C := RX2) (T := TX2) (N := 20) hx hb hts (tw_i inlX2) hown hK hP hL_w_2 hK_w_2 (by decide) rfl 0 (by decide) (hts _ (tw_c tw_200)) rfl dX11_isRing_9 ?_
    have h_3 : rg (I 64 w_2) 0 5 := GX.rI hG 64 rfl
    refine lv_iconst (v := 1) hx hb dX11_isRing_12 (by decide) ?_
    refine lv_isub hx hb dX11_isRing_13 ?_
    refine lv_topi (fun x_4 ex_4 => ?_)
    have h_5 : rg x_4 (-1) 4 := rg_of_eq ex_4 (rg_sub h_3 (rg_k (1 : Int32) 1 rfl) (by decide))
    refine pk_i (va_runS (As := [.int a0, .int 0, .int x_4]) (rest := []) ⟨hx, hb, hml, hown, hts⟩ (s_X11_between l D t σ I J ri rj rq H.size tg hSH hG.1 a0 (0 : Int32) x_4) (va_cwS 3 hts (tw_S tw_215 tw_216 tw_2 tw_217) rfl rfl rfl cd_yX11_between_3 ⟨Nat.le_of_ble_eq_true rfl, Nat.le_of_ble_eq_true rfl⟩) ⟨pq_blind, pq_pre hK hN hP hD⟩ rfl rfl hl.1 rfl (lv_room (Nat.le_of_ble_eq_true rfl)) dX11_isRing_14 ⟨Nat.le_of_ble_eq_true rfl, Nat.le_of_ble_eq_true rfl⟩) hD hS hA (fun x_6 σ1 μ1 H locs hw_7 hP hD hS => ?_)
    obtain ⟨hu_8, hr_10⟩ := hw_7
    obtain ⟨hu_8a, hu_8b⟩ := Prod.mk.inj hu_8
    rw [hu_8a, hu_8b] at hP hD
    have h_11 : rg x_6 0 1 := by rcases hr_10 with ⟨q, -⟩ | ⟨q, -⟩ <;> rw [q] <;> exact ⟨by decide, by decide⟩
    rcases hr_10 with ⟨e_15, f_12, f_13⟩ | ⟨e_15, f_14⟩
    · refine lv_tov 1 e_15 ?_
      have h_16 : rg a0 0 2147483647 := rg_le2 f_12 (rg_k (0 : Int32) 0 rfl) (rg_full _) (by decide)
      have h_17 : rg a0 0 4 := rg_le1 f_13 h_16 h_5 (by decide)
      have h_18 : rg x_4 0 4 := rg_le2 f_13 h_16 h_5 (by decide)
      subst hQ
      exact W.zret (v := 1) hx hb hr (by decide) (fun t1 ht hW => ⟨⟨1, (σ, I, J, ri, rj, rq), rfl, ⟨rfl, (Or.inl ⟨rfl, (rg_w h_17 (by decide))⟩)⟩, by rw [ht]; exact hP, va_K.moved hW.alike hK, hD⟩, hS.F ht⟩) hS.2.2 dX11_isRing_17
    · refine lv_tov 0 e_15 ?_
      subst hQ
      exact W.zret (v := 0) hx hb hr (by decide) (fun t1 ht hW => ⟨⟨0, (σ, I, J, ri, rj, rq), rfl, ⟨rfl, (Or.inr ⟨rfl, trivial⟩)⟩, by rw [ht]; exact hP, va_K.moved hW.alike hK, hD⟩, hS.F ht⟩) hS.2.2 dX11_isRing_17
  exact go _ _ _ hP hD hS hl

set_option maxHeartbeats 4000000 in
set_option maxRecDepth 100000 in
theorem s_X11_isRise (l : Launch) (D : va_G) (t : pq_T) (σ : pq_S) (I : Nat → Nat → Int32) (J : Nat → Nat → Int64) (ri : Nat → Nat → Int32) (rj : Nat → Nat → Int64) (rq : Nat → Nat → Option Nat) (sz : Nat) (tg : Nat → Nat) (hSH : SH σ tg) (hG0 : GS tg σ I ri rq) (a0 : Int32) : MetI l yX11_isRise (wa yX11_isRise cX11_isRise 1 (some .boolean)) ({ frames := 1, cells := 0, slots := 0, locals := 22 }) [.int a0] D t σ (I, J, ri, rj, rq) sz 0 0 (fun (r : Int32) (u : pq_S × pq_M) => u = (σ, I, J, ri, rj, rq) ∧ ((r = 1 ∧ rg a0 0 2) ∨ (r = 0 ∧ True))) := by
  refine Met.ofW (cc := cX11_isRise) (maxL := 1) (ret := (some .boolean)) (by decide) rfl ?_
  intro p e s m args below meth c s₁ B hml hv
  obtain ⟨rfl, hsz, hP, hK, hD0, hN⟩ := hv
  have hx := B.exec
  have hb := B.bytes
  have hr := B.returns
  have hts := atoms_spec (ws := (wa yX11_isRise cX11_isRise 1 (some .boolean))) B.pre
  have hown : s.vm.findClass RX11 = some m.cls := findClass_of_methodNamed B.named
  have hlocks := B.notSynchronized
  subst hsz
  have hD : va_D (pq_B t σ (I, J, ri, rj, rq) s.heap.size) (pq_P t σ (I, J, ri, rj, rq)) := hD0.self
  generalize hAe : pq_B t σ (I, J, ri, rj, rq) s.heap.size = A at hD ⊢
  have hA : ∀ q : Nat, s.heap.size ≤ q → A q := fun q h => by rw [← hAe]; exact Or.inr h
  have hS : va_S A s.heap s.heap [] := va_S.rf
  have hG : GX [] tg σ I ri rj I ri rj rq := ⟨hG0, fun _ _ _ => rfl, fun _ _ _ _ _ => rfl, fun _ _ _ _ _ => rfl⟩
  have hl := lv_entry ([.int a0]) (n := 1) (Nat.le_of_ble_eq_true rfl)
  rw [lg_entry_eq]
  generalize (lg_sl ([.int a0]) ++ List.replicate (1 - (lg_sl ([.int a0])).length) Slot.unset).toArray = ls at hl ⊢
  have hl : lv_has ls 1 [(0, .int a0)] := hl
  refine q_gen (fun Q hQ => ?_)
  have go : ∀ (H : Heap) (locs : List Loc) (ls : Array Slot), va_P D vwCl (pq_P t σ (I, J, ri, rj, rq)) H → va_D A (pq_P t σ (I, J, ri, rj, rq)) → va_S A s.heap H locs → lv_has ls 1 [(0, .int a0)] → W p l e ({ frames := 1, cells := 0, slots := 0, locals := 22 } : Room) s m (List.toArray ([.int a0] : List Value)) below meth c H locs 0 0 Q (F0 m 0 ls []) := by
    intro H locs ls hP hD hS hl
    refine lv_iload_n hx hb dX11_isRise_0 rfl (lv_at hl 0 rfl) ?_
    refine lv_iconst (v := 0) hx hb dX11_isRise_1 (by decide) ?_
    refine lv_iconst (v := 2) hx hb dX11_isRise_2 (by decide) ?_
    refine pk_i (va_runS (As := [.int a0, .int 0, .int 2]) (rest := []) ⟨hx, hb, hml, hown, hts⟩ (s_X11_between l D t σ I J ri rj rq H.size tg hSH hG.1 a0 (0 : Int32) (2 : Int32)) (va_cwS 3 hts (tw_S tw_215 tw_216 tw_2 tw_217) rfl rfl rfl cd_yX11_between_3 ⟨Nat.le_of_ble_eq_true rfl, Nat.le_of_ble_eq_true rfl⟩) ⟨pq_blind, pq_pre hK hN hP hD⟩ rfl rfl hl.1 rfl (lv_room (Nat.le_of_ble_eq_true rfl)) dX11_isRise_3 ⟨Nat.le_of_ble_eq_true rfl, Nat.le_of_ble_eq_true rfl⟩) hD hS hA (fun x_1 σ1 μ1 H locs hw_2 hP hD hS => ?_)
    obtain ⟨hu_3, hr_5⟩ := hw_2
    obtain ⟨hu_3a, hu_3b⟩ := Prod.mk.inj hu_3
    rw [hu_3a, hu_3b] at hP hD
    have h_6 : rg x_1 0 1 := by rcases hr_5 with ⟨q, -⟩ | ⟨q, -⟩ <;> rw [q] <;> exact ⟨by decide, by decide⟩
    rcases hr_5 with ⟨e_10, f_7, f_8⟩ | ⟨e_10, f_9⟩
    · refine lv_tov 1 e_10 ?_
      have h_11 : rg a0 0 2147483647 := rg_le2 f_7 (rg_k (0 : Int32) 0 rfl) (rg_full _) (by decide)
      have h_12 : rg a0 0 2 := rg_le1 f_8 h_11 (rg_k (2 : Int32) 2 rfl) (by decide)
      subst hQ
      exact W.zret (v := 1) hx hb hr (by decide) (fun t1 ht hW => ⟨⟨1, (σ, I, J, ri, rj, rq), rfl, ⟨rfl, (Or.inl ⟨rfl, (rg_w h_12 (by decide))⟩)⟩, by rw [ht]; exact hP, va_K.moved hW.alike hK, hD⟩, hS.F ht⟩) hS.2.2 dX11_isRise_6
    · refine lv_tov 0 e_10 ?_
      subst hQ
      exact W.zret (v := 0) hx hb hr (by decide) (fun t1 ht hW => ⟨⟨0, (σ, I, J, ri, rj, rq), rfl, ⟨rfl, (Or.inr ⟨rfl, trivial⟩)⟩, by rw [ht]; exact hP, va_K.moved hW.alike hK, hD⟩, hS.F ht⟩) hS.2.2 dX11_isRise_6
  exact go _ _ _ hP hD hS hl

set_option maxHeartbeats 4000000 in
set_option maxRecDepth 100000 in
theorem s_X11_isMonth (l : Launch) (D : va_G) (t : pq_T) (σ : pq_S) (I : Nat → Nat → Int32) (J : Nat → Nat → Int64) (ri : Nat → Nat → Int32) (rj : Nat → Nat → Int64) (rq : Nat → Nat → Option Nat) (sz : Nat) (tg : Nat → Nat) (hSH : SH σ tg) (hG0 : GS tg σ I ri rq) (a0 : Int32) : MetI l yX11_isMonth (wa yX11_isMonth cX11_isMonth 1 (some .boolean)) ({ frames := 1, cells := 0, slots := 0, locals := 22 }) [.int a0] D t σ (I, J, ri, rj, rq) sz 0 0 (fun (r : Int32) (u : pq_S × pq_M) => u = (σ, I, J, ri, rj, rq) ∧ ((r = 1 ∧ rg a0 0 599) ∨ (r = 0 ∧ True))) := by
  refine Met.ofW (cc := cX11_isMonth) (maxL := 1) (ret := (some .boolean)) (by decide) rfl ?_
  intro p e s m args below meth c s₁ B hml hv
  obtain ⟨rfl, hsz, hP, hK, hD0, hN⟩ := hv
  have hx := B.exec
  have hb := B.bytes
  have hr := B.returns
  have hts := atoms_spec (ws := (wa yX11_isMonth cX11_isMonth 1 (some .boolean))) B.pre
  have hown : s.vm.findClass RX11 = some m.cls := findClass_of_methodNamed B.named
  have hlocks := B.notSynchronized
  subst hsz
  have hD : va_D (pq_B t σ (I, J, ri, rj, rq) s.heap.size) (pq_P t σ (I, J, ri, rj, rq)) := hD0.self
  generalize hAe : pq_B t σ (I, J, ri, rj, rq) s.heap.size = A at hD ⊢
  have hA : ∀ q : Nat, s.heap.size ≤ q → A q := fun q h => by rw [← hAe]; exact Or.inr h
  have hS : va_S A s.heap s.heap [] := va_S.rf
  have hG : GX [] tg σ I ri rj I ri rj rq := ⟨hG0, fun _ _ _ => rfl, fun _ _ _ _ _ => rfl, fun _ _ _ _ _ => rfl⟩
  have hl := lv_entry ([.int a0]) (n := 1) (Nat.le_of_ble_eq_true rfl)
  rw [lg_entry_eq]
  generalize (lg_sl ([.int a0]) ++ List.replicate (1 - (lg_sl ([.int a0])).length) Slot.unset).toArray = ls at hl ⊢
  have hl : lv_has ls 1 [(0, .int a0)] := hl
  refine q_gen (fun Q hQ => ?_)
  have go : ∀ (H : Heap) (locs : List Loc) (ls : Array Slot), va_P D vwCl (pq_P t σ (I, J, ri, rj, rq)) H → va_D A (pq_P t σ (I, J, ri, rj, rq)) → va_S A s.heap H locs → lv_has ls 1 [(0, .int a0)] → W p l e ({ frames := 1, cells := 0, slots := 0, locals := 22 } : Room) s m (List.toArray ([.int a0] : List Value)) below meth c H locs 0 0 Q (F0 m 0 ls []) := by
    intro H locs ls hP hD hS hl
    refine lv_iload_n hx hb dX11_isMonth_0 rfl (lv_at hl 0 rfl) ?_
    refine lv_iconst (v := 0) hx hb dX11_isMonth_1 (by decide) ?_
    refine lv_sipush (v := 599) hx hb dX11_isMonth_2 (by decide) ?_
    refine pk_i (va_runS (As := [.int a0, .int 0, .int 599]) (rest := []) ⟨hx, hb, hml, hown, hts⟩ (s_X11_between l D t σ I J ri rj rq H.size tg hSH hG.1 a0 (0 : Int32) (599 : Int32)) (va_cwS 3 hts (tw_S tw_215 tw_216 tw_2 tw_217) rfl rfl rfl cd_yX11_between_3 ⟨Nat.le_of_ble_eq_true rfl, Nat.le_of_ble_eq_true rfl⟩) ⟨pq_blind, pq_pre hK hN hP hD⟩ rfl rfl hl.1 rfl (lv_room (Nat.le_of_ble_eq_true rfl)) dX11_isMonth_5 ⟨Nat.le_of_ble_eq_true rfl, Nat.le_of_ble_eq_true rfl⟩) hD hS hA (fun x_1 σ1 μ1 H locs hw_2 hP hD hS => ?_)
    obtain ⟨hu_3, hr_5⟩ := hw_2
    obtain ⟨hu_3a, hu_3b⟩ := Prod.mk.inj hu_3
    rw [hu_3a, hu_3b] at hP hD
    have h_6 : rg x_1 0 1 := by rcases hr_5 with ⟨q, -⟩ | ⟨q, -⟩ <;> rw [q] <;> exact ⟨by decide, by decide⟩
    rcases hr_5 with ⟨e_10, f_7, f_8⟩ | ⟨e_10, f_9⟩
    · refine lv_tov 1 e_10 ?_
      have h_11 : rg a0 0 2147483647 := rg_le2 f_7 (rg_k (0 : Int32) 0 rfl) (rg_full _) (by decide)
      have h_12 : rg a0 0 599 := rg_le1 f_8 h_11 (rg_k (599 : Int32) 599 rfl) (by decide)
      subst hQ
      exact W.zret (v := 1) hx hb hr (by decide) (fun t1 ht hW => ⟨⟨1, (σ, I, J, ri, rj, rq), rfl, ⟨rfl, (Or.inl ⟨rfl, (rg_w h_12 (by decide))⟩)⟩, by rw [ht]; exact hP, va_K.moved hW.alike hK, hD⟩, hS.F ht⟩) hS.2.2 dX11_isMonth_8
    · refine lv_tov 0 e_10 ?_
      subst hQ
      exact W.zret (v := 0) hx hb hr (by decide) (fun t1 ht hW => ⟨⟨0, (σ, I, J, ri, rj, rq), rfl, ⟨rfl, (Or.inr ⟨rfl, trivial⟩)⟩, by rw [ht]; exact hP, va_K.moved hW.alike hK, hD⟩, hS.F ht⟩) hS.2.2 dX11_isMonth_8
  exact go _ _ _ hP hD hS hl

set_option maxHeartbeats 4000000 in
set_option maxRecDepth 100000 in
theorem s_X11_levelOf (l : Launch) (D : va_G) (t : pq_T) (σ : pq_S) (I : Nat → Nat → Int32) (J : Nat → Nat → Int64) (ri : Nat → Nat → Int32) (rj : Nat → Nat → Int64) (rq : Nat → Nat → Option Nat) (sz : Nat) (tg : Nat → Nat) (hSH : SH σ tg) (hG0 : GS tg σ I ri rq) (this : Nat) (a0 : Int32) (a1 : Int32) (a2 : Int32) (hL_this : this ∈ σ.1) (hK_this : σ.2.1 this = 11) : MetI l yX11_levelOf (wa yX11_levelOf cX11_levelOf 4 (some .int)) ({ frames := 3, cells := 0, slots := 0, locals := 69 }) [.ref this, .int a0, .int a1, .int a2] D t σ (I, J, ri, rj, rq) sz 0 0 (fun (r : Int32) (u : pq_S × pq_M) => u = (σ, I, J, ri, rj, rq)) := by
  refine Met.ofW (cc := cX11_levelOf) (maxL := 4) (ret := (some .int)) (by decide) rfl ?_
  intro p e s m args below meth c s₁ B hml hv
  obtain ⟨rfl, hsz, hP, hK, hD0, hN⟩ := hv
  have hx := B.exec
  have hb := B.bytes
  have hr := B.returns
  have hts := atoms_spec (ws := (wa yX11_levelOf cX11_levelOf 4 (some .int))) B.pre
  have hown : s.vm.findClass RX11 = some m.cls := findClass_of_methodNamed B.named
  have hlocks := B.notSynchronized
  subst hsz
  have hD : va_D (pq_B t σ (I, J, ri, rj, rq) s.heap.size) (pq_P t σ (I, J, ri, rj, rq)) := hD0.self
  generalize hAe : pq_B t σ (I, J, ri, rj, rq) s.heap.size = A at hD ⊢
  have hA : ∀ q : Nat, s.heap.size ≤ q → A q := fun q h => by rw [← hAe]; exact Or.inr h
  have hS : va_S A s.heap s.heap [] := va_S.rf
  have hG : GX [] tg σ I ri rj I ri rj rq := ⟨hG0, fun _ _ _ => rfl, fun _ _ _ _ _ => rfl, fun _ _ _ _ _ => rfl⟩
  have hl := lv_entry ([.ref this, .int a0, .int a1, .int a2]) (n := 4) (Nat.le_of_ble_eq_true rfl)
  rw [lg_entry_eq]
  generalize (lg_sl ([.ref this, .int a0, .int a1, .int a2]) ++ List.replicate (4 - (lg_sl ([.ref this, .int a0, .int a1, .int a2])).length) Slot.unset).toArray = ls at hl ⊢
  have hl : lv_has ls 4 [(0, .ref this), (1, .int a0), (2, .int a1), (3, .int a2)] := hl
  refine q_gen (fun Q hQ => ?_)
  have go : ∀ (H : Heap) (locs : List Loc) (ls : Array Slot), va_P D vwCl (pq_P t σ (I, J, ri, rj, rq)) H → va_D A (pq_P t σ (I, J, ri, rj, rq)) → va_S A s.heap H locs → lv_has ls 4 [(0, .ref this), (1, .int a0), (2, .int a1), (3, .int a2)] → W p l e ({ frames := 3, cells := 0, slots := 0, locals := 69 } : Room) s m (List.toArray ([.ref this, .int a0, .int a1, .int a2] : List Value)) below meth c H locs 0 0 Q (F0 m 0 ls []) := by
    intro H locs ls hP hD hS hl
    refine lv_iload_n hx hb dX11_levelOf_0 rfl (lv_at hl 1 rfl) ?_
    refine pk_i (va_runS (As := [.int a0]) (rest := []) ⟨hx, hb, hml, hown, hts⟩ (s_X11_isRise l D t σ I J ri rj rq H.size tg hSH hG.1 a0) (va_cwS 1 hts (tw_S tw_244 tw_245 tw_2 tw_246) rfl rfl rfl cd_yX11_isRise_1 ⟨Nat.le_of_ble_eq_true rfl, Nat.le_of_ble_eq_true rfl⟩) ⟨pq_blind, pq_pre hK hN hP hD⟩ rfl rfl hl.1 rfl (lv_room (Nat.le_of_ble_eq_true rfl)) dX11_levelOf_1 ⟨Nat.le_of_ble_eq_true rfl, Nat.le_of_ble_eq_true rfl⟩) hD hS hA (fun x_1 σ1 μ1 H locs hw_2 hP hD hS => ?_)
    obtain ⟨hu_3, hr_5⟩ := hw_2
    obtain ⟨hu_3a, hu_3b⟩ := Prod.mk.inj hu_3
    rw [hu_3a, hu_3b] at hP hD
    have h_6 : rg x_1 0 1 := by rcases hr_5 with ⟨q, -⟩ | ⟨q, -⟩ <;> rw [q] <;> exact ⟨by decide, by decide⟩
    have K_44 : ∀  (H : Heap) (locs : List Loc) (ls : Array Slot), GX [] tg σ I ri rj I ri rj rq → va_P D vwCl (pq_P t σ (I, J, ri, rj, rq)) H → va_D A (pq_P t σ (I, J, ri, rj, rq)) → va_S A s.heap H locs → lv_has ls 4 [] → W p l e ({ frames := 3, cells := 0, slots := 0, locals := 69 } : Room) s m (List.toArray ([.ref this, .int a0, .int a1, .int a2] : List Value)) below meth c H locs 0 0 Q (F0 m 25 ls []) := by
      intro H locs ls hG hP hD hS hl
      refine lv_ldc hx hb hown (hts _ (tw_c tw_269)) dX11_levelOf_25 ?_
      subst hQ
      exact W.iret (v := (-1000000)) hx hb hr (fun t1 ht hW => ⟨⟨(-1000000), (σ, I, J, ri, rj, rq), rfl, rfl, by rw [ht]; exact hP, va_K.moved hW.alike hK, hD⟩, hS.F ht⟩) hS.2.2 dX11_levelOf_27
    refine lv_if_eq (tgt := 25) hx hb dX11_levelOf_4 (by decide) (fun c_45 => ?_) (fun c_45 => ?_)
    · have f_46 := (hr_5.resolve_left (fun q => absurd (q.1.symm.trans c_45) (by decide))).2
      have h_47 : rg x_1 0 0 := rg_and h_6 (rg_of_eq c_45 (rg_k (0 : Int32) 0 rfl)) (by decide)
      exact K_44 _ _ _ hG hP hD hS (lv_sub hl [] rfl)
    · have f_48 := (hr_5.resolve_right (fun q => c_45 q.1)).2
      have h_49 : rg x_1 1 1 := rg_ne c_45 h_6 0 rfl (by decide)
      refine lv_iload_n hx hb dX11_levelOf_7 rfl (lv_at hl 2 rfl) ?_
      refine pk_i (va_runS (As := [.int a1]) (rest := []) ⟨hx, hb, hml, hown, hts⟩ (s_X11_isMonth l D t σ I J ri rj rq H.size tg hSH hG.1 a1) (va_cwS 1 hts (tw_S tw_247 tw_248 tw_2 tw_249) rfl rfl rfl cd_yX11_isMonth_1 ⟨Nat.le_of_ble_eq_true rfl, Nat.le_of_ble_eq_true rfl⟩) ⟨pq_blind, pq_pre hK hN hP hD⟩ rfl rfl hl.1 rfl (lv_room (Nat.le_of_ble_eq_true rfl)) dX11_levelOf_8 ⟨Nat.le_of_ble_eq_true rfl, Nat.le_of_ble_eq_true rfl⟩) hD hS hA (fun x_50 σ1 μ1 H locs hw_51 hP hD hS => ?_)
      obtain ⟨hu_52, hr_54⟩ := hw_51
      obtain ⟨hu_52a, hu_52b⟩ := Prod.mk.inj hu_52
      rw [hu_52a, hu_52b] at hP hD
      have h_55 : rg x_50 0 1 := by rcases hr_54 with ⟨q, -⟩ | ⟨q, -⟩ <;> rw [q] <;> exact ⟨by decide, by decide⟩
      refine lv_if_eq (tgt := 25) hx hb dX11_levelOf_11 (by decide) (fun c_56 => ?_) (fun c_56 => ?_)
      · have f_57 := (hr_54.resolve_left (fun q => absurd (q.1.symm.trans c_56) (by decide))).2
        have h_58 : rg x_50 0 0 := rg_and h_55 (rg_of_eq c_56 (rg_k (0 : Int32) 0 rfl)) (by decide)
        exact K_44 _ _ _ hG hP hD hS (lv_sub hl [] rfl)
      · have f_59 := (hr_54.resolve_right (fun q => c_56 q.1)).2
        have h_60 : rg x_50 1 1 := rg_ne c_56 h_55 0 rfl (by decide)
        refine lv_iload_n hx hb dX11_levelOf_14 rfl (lv_at hl 3 rfl) ?_
        refine lv_iconst (v := 0) hx hb dX11_levelOf_15 (by decide) ?_
        refine lv_sipush (v := 600) hx hb dX11_levelOf_16 (by decide) ?_
        refine pk_i (va_runS (As := [.int a2, .int 0, .int 600]) (rest := []) ⟨hx, hb, hml, hown, hts⟩ (s_X11_between l D t σ I J ri rj rq H.size tg hSH hG.1 a2 (0 : Int32) (600 : Int32)) (va_cwS 3 hts (tw_S tw_215 tw_216 tw_2 tw_217) rfl rfl rfl cd_yX11_between_3 ⟨Nat.le_of_ble_eq_true rfl, Nat.le_of_ble_eq_true rfl⟩) ⟨pq_blind, pq_pre hK hN hP hD⟩ rfl rfl hl.1 rfl (lv_room (Nat.le_of_ble_eq_true rfl)) dX11_levelOf_19 ⟨Nat.le_of_ble_eq_true rfl, Nat.le_of_ble_eq_true rfl⟩) hD hS hA (fun x_61 σ1 μ1 H locs hw_62 hP hD hS => ?_)
        obtain ⟨hu_63, hr_65⟩ := hw_62
        obtain ⟨hu_63a, hu_63b⟩ := Prod.mk.inj hu_63
        rw [hu_63a, hu_63b] at hP hD
        have h_66 : rg x_61 0 1 := by rcases hr_65 with ⟨q, -⟩ | ⟨q, -⟩ <;> rw [q] <;> exact ⟨by decide, by decide⟩
        refine lv_if_ne (tgt := 28) hx hb dX11_levelOf_22 (by decide) (fun c_67 => ?_) (fun c_67 => ?_)
        · obtain ⟨f_68, f_69⟩ := (hr_65.resolve_right (fun q => c_67 q.1)).2
          have h_70 : rg a2 0 2147483647 := rg_le2 f_68 (rg_k (0 : Int32) 0 rfl) (rg_full _) (by decide)
          have h_71 : rg a2 0 600 := rg_le1 f_69 h_70 (rg_k (600 : Int32) 600 rfl) (by decide)
          have h_72 : rg x_61 1 1 := rg_ne c_67 h_66 0 rfl (by decide)
          refine lv_aload_n hx hb dX11_levelOf_28 rfl (lv_at hl 0 rfl) ?_
          obtain ⟨w_73, hR_w_73, hL_w_73, hK_w_73⟩ := sh_o hSH 352 (ci := 11) (kd := 10) rfl hL_this hK_this
          refine pg_f (v := .ref w_73) (C := RX11) (T := TX11) (N := 5) hx hb hts (tw_i inlX11) hown hK hP hL_this hK_this (by decide) rfl 0 (by decide) (hts _ (tw_c tw_16)) (pq_hv rfl hR_w_73) dX11_levelOf_29 ?_
          obtain ⟨w_74, hR_w_74, hL_w_74, hK_w_74⟩ := sh_o hSH 326 (ci := 10) (kd := 7) rfl hL_w_73 hK_w_73
          refine pg_f (v := .ref w_74) (C := RX10) (T := TX10) (N := 13) hx hb hts (tw_i inlX10) hown hK hP hL_w_73 hK_w_73 (by decide) rfl 6 (by decide) (hts _ (tw_c tw_242)) (pq_hv rfl hR_w_74) dX11_levelOf_32 ?_
          refine lv_iload_n hx hb dX11_levelOf_35 rfl (lv_at hl 1 rfl) ?_
          refine lv_iload_n hx hb dX11_levelOf_36 rfl (lv_at hl 2 rfl) ?_
          refine lv_iload_n hx hb dX11_levelOf_37 rfl (lv_at hl 3 rfl) ?_
          refine pk_i (va_runV (As := [.int a0, .int a1, .int a2]) (rest := []) ⟨hx, hb, hml, hown, hts⟩ (s_X7_known l D t σ I J ri rj rq H.size tg hSH hG.1 w_74 a0 a1 a2 hL_w_74 hK_w_74) (cwV 3 hts (tw_V tw_270 tw_271 tw_272 tw_37 tw_273) rfl rfl rfl cv_yX7_known_3 ⟨Nat.le_of_ble_eq_true rfl, Nat.le_of_ble_eq_true rfl⟩) ⟨pq_blind, pq_recv hK hP hL_w_74 hK_w_74 (by decide) rfl, pq_pre hK hN hP hD⟩ rfl rfl hl.1 rfl (lv_room (Nat.le_of_ble_eq_true rfl)) dX11_levelOf_38 ⟨Nat.le_of_ble_eq_true rfl, Nat.le_of_ble_eq_true rfl⟩) hD hS hA (fun x_75 σ1 μ1 H locs hw_76 hP hD hS => ?_)
          have hu_77 := hw_76
          obtain ⟨hu_77a, hu_77b⟩ := Prod.mk.inj hu_77
          rw [hu_77a, hu_77b] at hP hD
          subst hQ
          exact W.iret (v := x_75) hx hb hr (fun t1 ht hW => ⟨⟨x_75, (σ, I, J, ri, rj, rq), rfl, rfl, by rw [ht]; exact hP, va_K.moved hW.alike hK, hD⟩, hS.F ht⟩) hS.2.2 dX11_levelOf_41
        · have f_80 := (hr_65.resolve_left (fun q => absurd (q.1.symm.trans c_67) (by decide))).2
          have h_81 : rg x_61 0 0 := rg_and h_66 (rg_of_eq c_67 (rg_k (0 : Int32) 0 rfl)) (by decide)
          exact K_44 _ _ _ hG hP hD hS (lv_sub hl [] rfl)
  exact go _ _ _ hP hD hS hl

set_option maxHeartbeats 4000000 in
set_option maxRecDepth 100000 in
theorem s_X11_table (l : Launch) (D : va_G) (t : pq_T) (σ : pq_S) (I : Nat → Nat → Int32) (J : Nat → Nat → Int64) (ri : Nat → Nat → Int32) (rj : Nat → Nat → Int64) (rq : Nat → Nat → Option Nat) (sz : Nat) (tg : Nat → Nat) (hSH : SH σ tg) (hG0 : GS tg σ I ri rq) (this : Nat) (a0 : Int32) (a1 : Int32) (a2 : Int32) (a3 : Int32) (a4 : Int32) (a5 : Int32) (hL_this : this ∈ σ.1) (hK_this : σ.2.1 this = 11) : MetI l yX11_table (wa yX11_table cX11_table 9 (some .boolean)) ({ frames := 1, cells := 0, slots := 0, locals := 22 }) [.ref this, .int a0, .int a1, .int a2, .int a3, .int a4, .int a5] D t σ (I, J, ri, rj, rq) sz 0 0 (fun (r : Int32) (u : pq_S × pq_M) => ∃ ri' : Nat → Nat → Int32, u = (σ, I, J, ri', rj, rq) ∧ GX [1229, 1230, 1231, 1232, 1233] tg σ I ri rj I ri' rj rq ∧ ((r = 1 ∧ rg a0 0 11 ∧ rg a1 0 2000 ∧ rg a2 0 2000 ∧ rg a3 0 40 ∧ rg a4 0 50 ∧ rg a5 0 100) ∨ (r = 0 ∧ True))) := by
  refine Met.ofW (cc := cX11_table) (maxL := 9) (ret := (some .boolean)) (by decide) rfl ?_
  intro p e s m args below meth c s₁ B hml hv
  obtain ⟨rfl, hsz, hP, hK, hD0, hN⟩ := hv
  have hx := B.exec
  have hb := B.bytes
  have hr := B.returns
  have hts := atoms_spec (ws := (wa yX11_table cX11_table 9 (some .boolean))) B.pre
  have hown : s.vm.findClass RX11 = some m.cls := findClass_of_methodNamed B.named
  have hlocks := B.notSynchronized
  subst hsz
  have hD : va_D (pq_B t σ (I, J, ri, rj, rq) s.heap.size) (pq_P t σ (I, J, ri, rj, rq)) := hD0.self
  generalize hAe : pq_B t σ (I, J, ri, rj, rq) s.heap.size = A at hD ⊢
  have hA : ∀ q : Nat, s.heap.size ≤ q → A q := fun q h => by rw [← hAe]; exact Or.inr h
  have hS : va_S A s.heap s.heap [] := va_S.rf
  have hG : GX [1229, 1230, 1231, 1232, 1233] tg σ I ri rj I ri rj rq := ⟨hG0, fun _ _ _ => rfl, fun _ _ _ _ _ => rfl, fun _ _ _ _ _ => rfl⟩
  have hl := lv_entry ([.ref this, .int a0, .int a1, .int a2, .int a3, .int a4, .int a5]) (n := 9) (Nat.le_of_ble_eq_true rfl)
  rw [lg_entry_eq]
  generalize (lg_sl ([.ref this, .int a0, .int a1, .int a2, .int a3, .int a4, .int a5]) ++ List.replicate (9 - (lg_sl ([.ref this, .int a0, .int a1, .int a2, .int a3, .int a4, .int a5])).length) Slot.unset).toArray = ls at hl ⊢
  have hl : lv_has ls 9 [(0, .ref this), (1, .int a0), (2, .int a1), (3, .int a2), (4, .int a3), (5, .int a4), (6, .int a5)] := hl
  refine q_gen (fun Q hQ => ?_)
  have go : ∀ (H : Heap) (locs : List Loc) (ls : Array Slot), va_P D vwCl (pq_P t σ (I, J, ri, rj, rq)) H → va_D A (pq_P t σ (I, J, ri, rj, rq)) → va_S A s.heap H locs → lv_has ls 9 [(0, .ref this), (1, .int a0), (2, .int a1), (3, .int a2), (4, .int a3), (5, .int a4), (6, .int a5)] → W p l e ({ frames := 1, cells := 0, slots := 0, locals := 22 } : Room) s m (List.toArray ([.ref this, .int a0, .int a1, .int a2, .int a3, .int a4, .int a5] : List Value)) below meth c H locs 0 0 Q (F0 m 0 ls []) := by
    intro H locs ls hP hD hS hl
    refine lv_iload_n hx hb dX11_table_0 rfl (lv_at hl 1 rfl) ?_
    refine lv_iconst (v := 0) hx hb dX11_table_1 (by decide) ?_
    refine lv_bipush (v := 11) hx hb dX11_table_2 (by decide) ?_
    refine pk_i (va_runS (As := [.int a0, .int 0, .int 11]) (rest := []) ⟨hx, hb, hml, hown, hts⟩ (s_X11_between l D t σ I J ri rj rq H.size tg hSH hG.1 a0 (0 : Int32) (11 : Int32)) (va_cwS 3 hts (tw_S tw_215 tw_216 tw_2 tw_217) rfl rfl rfl cd_yX11_between_3 ⟨Nat.le_of_ble_eq_true rfl, Nat.le_of_ble_eq_true rfl⟩) ⟨pq_blind, pq_pre hK hN hP hD⟩ rfl rfl hl.1 rfl (lv_room (Nat.le_of_ble_eq_true rfl)) dX11_table_4 ⟨Nat.le_of_ble_eq_true rfl, Nat.le_of_ble_eq_true rfl⟩) hD hS hA (fun x_1 σ1 μ1 H locs hw_2 hP hD hS => ?_)
    obtain ⟨hu_3, hr_5⟩ := hw_2
    obtain ⟨hu_3a, hu_3b⟩ := Prod.mk.inj hu_3
    rw [hu_3a, hu_3b] at hP hD
    have h_6 : rg x_1 0 1 := by rcases hr_5 with ⟨q, -⟩ | ⟨q, -⟩ <;> rw [q] <;> exact ⟨by decide, by decide⟩
    have K_106 : ∀  (H : Heap) (locs : List Loc) (ls : Array Slot), rg (a0) 0 11 → rg (a1) 0 2000 → rg (a2) 0 2000 → rg (a3) 0 40 → rg (a4) 0 50 → rg (a5) 0 100 → rg (x_1) 1 1 → GX [1229, 1230, 1231, 1232, 1233] tg σ I ri rj I ri rj rq → va_P D vwCl (pq_P t σ (I, J, ri, rj, rq)) H → va_D A (pq_P t σ (I, J, ri, rj, rq)) → va_S A s.heap H locs → lv_has ls 9 [(0, .ref this), (1, .int a0), (2, .int a1), (3, .int a2), (4, .int a3), (5, .int a4), (6, .int a5)] → W p l e ({ frames := 1, cells := 0, slots := 0, locals := 22 } : Room) s m (List.toArray ([.ref this, .int a0, .int a1, .int a2, .int a3, .int a4, .int a5] : List Value)) below meth c H locs 0 0 Q (F0 m 70 ls [.int 1]) := by
      intro H locs ls h_114 h_115 h_116 h_117 h_118 h_119 h_120 hG hP hD hS hl
      refine lv_istore (lv' := [(7, .int 1), (0, .ref this), (1, .int a0), (2, .int a1), (3, .int a2), (4, .int a3), (5, .int a4), (6, .int a5)]) hx hb dX11_table_70 hl (by decide) rfl (fun ls hl => ?_)
      refine lv_iload hx hb dX11_table_72 (lv_at hl 0 rfl) ?_
      refine lv_if_ne (tgt := 79) hx hb dX11_table_74 (by decide) (fun c_121 => ?_) (fun c_121 => absurd c_121 (by decide))
      refine lv_aload_n hx hb dX11_table_79 rfl (lv_at hl 1 rfl) ?_
      obtain ⟨w_122, hR_w_122, hL_w_122, hK_w_122⟩ := sh_o hSH 352 (ci := 11) (kd := 10) rfl hL_this hK_this
      refine pg_f (v := .ref w_122) (C := RX11) (T := TX11) (N := 5) hx hb hts (tw_i inlX11) hown hK hP hL_this hK_this (by decide) rfl 0 (by decide) (hts _ (tw_c tw_16)) (pq_hv rfl hR_w_122) dX11_table_80 ?_
      obtain ⟨w_123, hR_w_123, hL_w_123, hK_w_123⟩ := sh_o hSH 326 (ci := 10) (kd := 7) rfl hL_w_122 hK_w_122
      refine pg_f (v := .ref w_123) (C := RX10) (T := TX10) (N := 13) hx hb hts (tw_i inlX10) hown hK hP hL_w_122 hK_w_122 (by decide) rfl 6 (by decide) (hts _ (tw_c tw_242)) (pq_hv rfl hR_w_123) dX11_table_83 ?_
      refine lv_astore (lv' := [(8, .ref w_123), (7, .int 1), (0, .ref this), (1, .int a0), (2, .int a1), (3, .int a2), (4, .int a3), (5, .int a4), (6, .int a5)]) hx hb dX11_table_86 hl (by decide) rfl (fun ls hl => ?_)
      refine lv_aload hx hb dX11_table_88 (lv_at hl 0 rfl) ?_
      obtain ⟨w_124, hR_w_124, hL_w_124, hK_w_124, hN_w_124, hT_w_124⟩ := sh_a hSH 229 (ci := 7) (kd := 13) (len := 12) rfl (by decide) hL_w_123 hK_w_123
      refine pg_f (v := .ref w_124) (C := RX7) (T := TX7) (N := 15) hx hb hts (tw_i inlX7) hown hK hP hL_w_123 hK_w_123 (by decide) rfl 5 (by decide) (hts _ (tw_c tw_305)) (pq_hv rfl hR_w_124) dX11_table_90 ?_
      refine lv_iload_n hx hb dX11_table_93 rfl (lv_at hl 3 rfl) ?_
      refine lv_iload_n hx hb dX11_table_94 rfl (lv_at hl 4 rfl) ?_
      refine pt_i hx hb hK hP hD hS hL_w_124 hK_w_124 hN_w_124 (rg_in h_114 (by decide)) dX11_table_95 (fun r_125 H locs er_125 hP hD hS => ?_)
      have hG := GX.wR hG hSH hT_w_124 rfl er_125 (rg_w h_115 (by decide)) (by decide)
      refine lv_aload hx hb dX11_table_96 (lv_at hl 0 rfl) ?_
      obtain ⟨w_126, hR_w_126, hL_w_126, hK_w_126, hN_w_126, hT_w_126⟩ := sh_a hSH 230 (ci := 7) (kd := 13) (len := 12) rfl (by decide) hL_w_123 hK_w_123
      refine pg_f (v := .ref w_126) (C := RX7) (T := TX7) (N := 15) hx hb hts (tw_i inlX7) hown hK hP hL_w_123 hK_w_123 (by decide) rfl 6 (by decide) (hts _ (tw_c tw_306)) (pq_hv rfl hR_w_126) dX11_table_98 ?_
      refine lv_iload_n hx hb dX11_table_101 rfl (lv_at hl 3 rfl) ?_
      refine lv_iload_n hx hb dX11_table_102 rfl (lv_at hl 5 rfl) ?_
      refine pt_i hx hb hK hP hD hS hL_w_126 hK_w_126 hN_w_126 (rg_in h_114 (by decide)) dX11_table_103 (fun r_127 H locs er_127 hP hD hS => ?_)
      have hG := GX.wR hG hSH hT_w_126 rfl er_127 (rg_w h_116 (by decide)) (by decide)
      refine lv_aload hx hb dX11_table_104 (lv_at hl 0 rfl) ?_
      obtain ⟨w_128, hR_w_128, hL_w_128, hK_w_128, hN_w_128, hT_w_128⟩ := sh_a hSH 231 (ci := 7) (kd := 13) (len := 12) rfl (by decide) hL_w_123 hK_w_123
      refine pg_f (v := .ref w_128) (C := RX7) (T := TX7) (N := 15) hx hb hts (tw_i inlX7) hown hK hP hL_w_123 hK_w_123 (by decide) rfl 7 (by decide) (hts _ (tw_c tw_307)) (pq_hv rfl hR_w_128) dX11_table_106 ?_
      refine lv_iload_n hx hb dX11_table_109 rfl (lv_at hl 3 rfl) ?_
      refine lv_iload hx hb dX11_table_110 (lv_at hl 6 rfl) ?_
      refine pt_i hx hb hK hP hD hS hL_w_128 hK_w_128 hN_w_128 (rg_in h_114 (by decide)) dX11_table_112 (fun r_129 H locs er_129 hP hD hS => ?_)
      have hG := GX.wR hG hSH hT_w_128 rfl er_129 (rg_w h_117 (by decide)) (by decide)
      refine lv_aload hx hb dX11_table_113 (lv_at hl 0 rfl) ?_
      obtain ⟨w_130, hR_w_130, hL_w_130, hK_w_130, hN_w_130, hT_w_130⟩ := sh_a hSH 232 (ci := 7) (kd := 13) (len := 12) rfl (by decide) hL_w_123 hK_w_123
      refine pg_f (v := .ref w_130) (C := RX7) (T := TX7) (N := 15) hx hb hts (tw_i inlX7) hown hK hP hL_w_123 hK_w_123 (by decide) rfl 8 (by decide) (hts _ (tw_c tw_308)) (pq_hv rfl hR_w_130) dX11_table_115 ?_
      refine lv_iload_n hx hb dX11_table_118 rfl (lv_at hl 3 rfl) ?_
      refine lv_iload hx hb dX11_table_119 (lv_at hl 7 rfl) ?_
      refine pt_i hx hb hK hP hD hS hL_w_130 hK_w_130 hN_w_130 (rg_in h_114 (by decide)) dX11_table_121 (fun r_131 H locs er_131 hP hD hS => ?_)
      have hG := GX.wR hG hSH hT_w_130 rfl er_131 (rg_w h_118 (by decide)) (by decide)
      refine lv_aload hx hb dX11_table_122 (lv_at hl 0 rfl) ?_
      obtain ⟨w_132, hR_w_132, hL_w_132, hK_w_132, hN_w_132, hT_w_132⟩ := sh_a hSH 233 (ci := 7) (kd := 13) (len := 12) rfl (by decide) hL_w_123 hK_w_123
      refine pg_f (v := .ref w_132) (C := RX7) (T := TX7) (N := 15) hx hb hts (tw_i inlX7) hown hK hP hL_w_123 hK_w_123 (by decide) rfl 9 (by decide) (hts _ (tw_c tw_309)) (pq_hv rfl hR_w_132) dX11_table_124 ?_
      refine lv_iload_n hx hb dX11_table_127 rfl (lv_at hl 3 rfl) ?_
      refine lv_iload hx hb dX11_table_128 (lv_at hl 8 rfl) ?_
      refine pt_i hx hb hK hP hD hS hL_w_132 hK_w_132 hN_w_132 (rg_in h_114 (by decide)) dX11_table_130 (fun r_133 H locs er_133 hP hD hS => ?_)
      have hG := GX.wR hG hSH hT_w_132 rfl er_133 (rg_w h_119 (by decide)) (by decide)
      refine lv_iconst (v := 1) hx hb dX11_table_131 (by decide) ?_
      subst hQ
      exact W.zret (v := 1) hx hb hr (by decide) (fun t1 ht hW => ⟨⟨1, (σ, I, J, r_133, rj, rq), rfl, ⟨r_133, rfl, hG, (Or.inl ⟨rfl, (rg_w h_114 (by decide)), (rg_w h_115 (by decide)), (rg_w h_116 (by decide)), (rg_w h_117 (by decide)), (rg_w h_118 (by decide)), (rg_w h_119 (by decide))⟩)⟩, by rw [ht]; exact hP, va_K.moved hW.alike hK, hD⟩, hS.F ht⟩) hS.2.2 dX11_table_132
    have K_134 : ∀  (H : Heap) (locs : List Loc) (ls : Array Slot), GX [1229, 1230, 1231, 1232, 1233] tg σ I ri rj I ri rj rq → va_P D vwCl (pq_P t σ (I, J, ri, rj, rq)) H → va_D A (pq_P t σ (I, J, ri, rj, rq)) → va_S A s.heap H locs → lv_has ls 9 [(0, .ref this), (1, .int a0), (2, .int a1), (3, .int a2), (4, .int a3), (5, .int a4), (6, .int a5)] → W p l e ({ frames := 1, cells := 0, slots := 0, locals := 22 } : Room) s m (List.toArray ([.ref this, .int a0, .int a1, .int a2, .int a3, .int a4, .int a5] : List Value)) below meth c H locs 0 0 Q (F0 m 70 ls [.int 0]) := by
      intro H locs ls hG hP hD hS hl
      refine lv_istore (lv' := [(7, .int 0), (0, .ref this), (1, .int a0), (2, .int a1), (3, .int a2), (4, .int a3), (5, .int a4), (6, .int a5)]) hx hb dX11_table_70 hl (by decide) rfl (fun ls hl => ?_)
      refine lv_iload hx hb dX11_table_72 (lv_at hl 0 rfl) ?_
      refine lv_if_ne (tgt := 79) hx hb dX11_table_74 (by decide) (fun c_135 => absurd c_135 (by decide)) (fun c_135 => ?_)
      refine lv_iconst (v := 0) hx hb dX11_table_77 (by decide) ?_
      subst hQ
      exact W.zret (v := 0) hx hb hr (by decide) (fun t1 ht hW => ⟨⟨0, (σ, I, J, ri, rj, rq), rfl, ⟨ri, rfl, hG, (Or.inr ⟨rfl, trivial⟩)⟩, by rw [ht]; exact hP, va_K.moved hW.alike hK, hD⟩, hS.F ht⟩) hS.2.2 dX11_table_78
    have K_136 : ∀  (H : Heap) (locs : List Loc) (ls : Array Slot), GX [1229, 1230, 1231, 1232, 1233] tg σ I ri rj I ri rj rq → va_P D vwCl (pq_P t σ (I, J, ri, rj, rq)) H → va_D A (pq_P t σ (I, J, ri, rj, rq)) → va_S A s.heap H locs → lv_has ls 9 [(0, .ref this), (1, .int a0), (2, .int a1), (3, .int a2), (4, .int a3), (5, .int a4), (6, .int a5)] → W p l e ({ frames := 1, cells := 0, slots := 0, locals := 22 } : Room) s m (List.toArray ([.ref this, .int a0, .int a1, .int a2, .int a3, .int a4, .int a5] : List Value)) below meth c H locs 0 0 Q (F0 m 69 ls []) := by
      intro H locs ls hG hP hD hS hl
      refine lv_iconst (v := 0) hx hb dX11_table_69 (by decide) ?_
      exact K_134 _ _ _ hG hP hD hS (lv_sub hl [0, 1, 2, 3, 4, 5, 6] rfl)
    refine lv_if_eq (tgt := 69) hx hb dX11_table_7 (by decide) (fun c_137 => ?_) (fun c_137 => ?_)
    · have f_138 := (hr_5.resolve_left (fun q => absurd (q.1.symm.trans c_137) (by decide))).2
      have h_139 : rg x_1 0 0 := rg_and h_6 (rg_of_eq c_137 (rg_k (0 : Int32) 0 rfl)) (by decide)
      exact K_136 _ _ _ hG hP hD hS (lv_sub hl [0, 1, 2, 3, 4, 5, 6] rfl)
    · obtain ⟨f_140, f_141⟩ := (hr_5.resolve_right (fun q => c_137 q.1)).2
      have h_142 : rg a0 0 2147483647 := rg_le2 f_140 (rg_k (0 : Int32) 0 rfl) (rg_full _) (by decide)
      have h_143 : rg a0 0 11 := rg_le1 f_141 h_142 (rg_k (11 : Int32) 11 rfl) (by decide)
      have h_144 : rg x_1 1 1 := rg_ne c_137 h_6 0 rfl (by decide)
      refine lv_iload_n hx hb dX11_table_10 rfl (lv_at hl 2 rfl) ?_
      refine lv_iconst (v := 0) hx hb dX11_table_11 (by decide) ?_
      refine lv_sipush (v := 2000) hx hb dX11_table_12 (by decide) ?_
      refine pk_i (va_runS (As := [.int a1, .int 0, .int 2000]) (rest := []) ⟨hx, hb, hml, hown, hts⟩ (s_X11_between l D t σ I J ri rj rq H.size tg hSH hG.1 a1 (0 : Int32) (2000 : Int32)) (va_cwS 3 hts (tw_S tw_215 tw_216 tw_2 tw_217) rfl rfl rfl cd_yX11_between_3 ⟨Nat.le_of_ble_eq_true rfl, Nat.le_of_ble_eq_true rfl⟩) ⟨pq_blind, pq_pre hK hN hP hD⟩ rfl rfl hl.1 rfl (lv_room (Nat.le_of_ble_eq_true rfl)) dX11_table_15 ⟨Nat.le_of_ble_eq_true rfl, Nat.le_of_ble_eq_true rfl⟩) hD hS hA (fun x_145 σ1 μ1 H locs hw_146 hP hD hS => ?_)
      obtain ⟨hu_147, hr_149⟩ := hw_146
      obtain ⟨hu_147a, hu_147b⟩ := Prod.mk.inj hu_147
      rw [hu_147a, hu_147b] at hP hD
      have h_150 : rg x_145 0 1 := by rcases hr_149 with ⟨q, -⟩ | ⟨q, -⟩ <;> rw [q] <;> exact ⟨by decide, by decide⟩
      refine lv_if_eq (tgt := 69) hx hb dX11_table_18 (by decide) (fun c_151 => ?_) (fun c_151 => ?_)
      · have f_152 := (hr_149.resolve_left (fun q => absurd (q.1.symm.trans c_151) (by decide))).2
        have h_153 : rg x_145 0 0 := rg_and h_150 (rg_of_eq c_151 (rg_k (0 : Int32) 0 rfl)) (by decide)
        exact K_136 _ _ _ hG hP hD hS (lv_sub hl [0, 1, 2, 3, 4, 5, 6] rfl)
      · obtain ⟨f_154, f_155⟩ := (hr_149.resolve_right (fun q => c_151 q.1)).2
        have h_156 : rg a1 0 2147483647 := rg_le2 f_154 (rg_k (0 : Int32) 0 rfl) (rg_full _) (by decide)
        have h_157 : rg a1 0 2000 := rg_le1 f_155 h_156 (rg_k (2000 : Int32) 2000 rfl) (by decide)
        have h_158 : rg x_145 1 1 := rg_ne c_151 h_150 0 rfl (by decide)
        refine lv_iload_n hx hb dX11_table_21 rfl (lv_at hl 3 rfl) ?_
        refine lv_iload_n hx hb dX11_table_22 rfl (lv_at hl 2 rfl) ?_
        refine lv_sipush (v := 2000) hx hb dX11_table_23 (by decide) ?_
        refine pk_i (va_runS (As := [.int a2, .int a1, .int 2000]) (rest := []) ⟨hx, hb, hml, hown, hts⟩ (s_X11_between l D t σ I J ri rj rq H.size tg hSH hG.1 a2 a1 (2000 : Int32)) (va_cwS 3 hts (tw_S tw_215 tw_216 tw_2 tw_217) rfl rfl rfl cd_yX11_between_3 ⟨Nat.le_of_ble_eq_true rfl, Nat.le_of_ble_eq_true rfl⟩) ⟨pq_blind, pq_pre hK hN hP hD⟩ rfl rfl hl.1 rfl (lv_room (Nat.le_of_ble_eq_true rfl)) dX11_table_26 ⟨Nat.le_of_ble_eq_true rfl, Nat.le_of_ble_eq_true rfl⟩) hD hS hA (fun x_159 σ1 μ1 H locs hw_160 hP hD hS => ?_)
        obtain ⟨hu_161, hr_163⟩ := hw_160
        obtain ⟨hu_161a, hu_161b⟩ := Prod.mk.inj hu_161
        rw [hu_161a, hu_161b] at hP hD
        have h_164 : rg x_159 0 1 := by rcases hr_163 with ⟨q, -⟩ | ⟨q, -⟩ <;> rw [q] <;> exact ⟨by decide, by decide⟩
        refine lv_if_eq (tgt := 69) hx hb dX11_table_29 (by decide) (fun c_165 => ?_) (fun c_165 => ?_)
        · have f_166 := (hr_163.resolve_left (fun q => absurd (q.1.symm.trans c_165) (by decide))).2
          have h_167 : rg x_159 0 0 := rg_and h_164 (rg_of_eq c_165 (rg_k (0 : Int32) 0 rfl)) (by decide)
          exact K_136 _ _ _ hG hP hD hS (lv_sub hl [0, 1, 2, 3, 4, 5, 6] rfl)
        · obtain ⟨f_168, f_169⟩ := (hr_163.resolve_right (fun q => c_165 q.1)).2
          have h_170 : rg a2 0 2147483647 := rg_le2 f_168 h_157 (rg_full _) (by decide)
          have h_171 : rg a2 0 2000 := rg_le1 f_169 h_170 (rg_k (2000 : Int32) 2000 rfl) (by decide)
          have h_172 : rg x_159 1 1 := rg_ne c_165 h_164 0 rfl (by decide)
          refine lv_iload hx hb dX11_table_32 (lv_at hl 4 rfl) ?_
          refine lv_iconst (v := 0) hx hb dX11_table_34 (by decide) ?_
          refine lv_bipush (v := 40) hx hb dX11_table_35 (by decide) ?_
          refine pk_i (va_runS (As := [.int a3, .int 0, .int 40]) (rest := []) ⟨hx, hb, hml, hown, hts⟩ (s_X11_between l D t σ I J ri rj rq H.size tg hSH hG.1 a3 (0 : Int32) (40 : Int32)) (va_cwS 3 hts (tw_S tw_215 tw_216 tw_2 tw_217) rfl rfl rfl cd_yX11_between_3 ⟨Nat.le_of_ble_eq_true rfl, Nat.le_of_ble_eq_true rfl⟩) ⟨pq_blind, pq_pre hK hN hP hD⟩ rfl rfl hl.1 rfl (lv_room (Nat.le_of_ble_eq_true rfl)) dX11_table_37 ⟨Nat.le_of_ble_eq_true rfl, Nat.le_of_ble_eq_true rfl⟩) hD hS hA (fun x_173 σ1 μ1 H locs hw_174 hP hD hS => ?_)
          obtain ⟨hu_175, hr_177⟩ := hw_174
          obtain ⟨hu_175a, hu_175b⟩ := Prod.mk.inj hu_175
          rw [hu_175a, hu_175b] at hP hD
          have h_178 : rg x_173 0 1 := by rcases hr_177 with ⟨q, -⟩ | ⟨q, -⟩ <;> rw [q] <;> exact ⟨by decide, by decide⟩
          refine lv_if_eq (tgt := 69) hx hb dX11_table_40 (by decide) (fun c_179 => ?_) (fun c_179 => ?_)
          · have f_180 := (hr_177.resolve_left (fun q => absurd (q.1.symm.trans c_179) (by decide))).2
            have h_181 : rg x_173 0 0 := rg_and h_178 (rg_of_eq c_179 (rg_k (0 : Int32) 0 rfl)) (by decide)
            exact K_136 _ _ _ hG hP hD hS (lv_sub hl [0, 1, 2, 3, 4, 5, 6] rfl)
          · obtain ⟨f_182, f_183⟩ := (hr_177.resolve_right (fun q => c_179 q.1)).2
            have h_184 : rg a3 0 2147483647 := rg_le2 f_182 (rg_k (0 : Int32) 0 rfl) (rg_full _) (by decide)
            have h_185 : rg a3 0 40 := rg_le1 f_183 h_184 (rg_k (40 : Int32) 40 rfl) (by decide)
            have h_186 : rg x_173 1 1 := rg_ne c_179 h_178 0 rfl (by decide)
            refine lv_iload hx hb dX11_table_43 (lv_at hl 5 rfl) ?_
            refine lv_iconst (v := 0) hx hb dX11_table_45 (by decide) ?_
            refine lv_bipush (v := 50) hx hb dX11_table_46 (by decide) ?_
            refine pk_i (va_runS (As := [.int a4, .int 0, .int 50]) (rest := []) ⟨hx, hb, hml, hown, hts⟩ (s_X11_between l D t σ I J ri rj rq H.size tg hSH hG.1 a4 (0 : Int32) (50 : Int32)) (va_cwS 3 hts (tw_S tw_215 tw_216 tw_2 tw_217) rfl rfl rfl cd_yX11_between_3 ⟨Nat.le_of_ble_eq_true rfl, Nat.le_of_ble_eq_true rfl⟩) ⟨pq_blind, pq_pre hK hN hP hD⟩ rfl rfl hl.1 rfl (lv_room (Nat.le_of_ble_eq_true rfl)) dX11_table_48 ⟨Nat.le_of_ble_eq_true rfl, Nat.le_of_ble_eq_true rfl⟩) hD hS hA (fun x_187 σ1 μ1 H locs hw_188 hP hD hS => ?_)
            obtain ⟨hu_189, hr_191⟩ := hw_188
            obtain ⟨hu_189a, hu_189b⟩ := Prod.mk.inj hu_189
            rw [hu_189a, hu_189b] at hP hD
            have h_192 : rg x_187 0 1 := by rcases hr_191 with ⟨q, -⟩ | ⟨q, -⟩ <;> rw [q] <;> exact ⟨by decide, by decide⟩
            refine lv_if_eq (tgt := 69) hx hb dX11_table_51 (by decide) (fun c_193 => ?_) (fun c_193 => ?_)
            · have f_194 := (hr_191.resolve_left (fun q => absurd (q.1.symm.trans c_193) (by decide))).2
              have h_195 : rg x_187 0 0 := rg_and h_192 (rg_of_eq c_193 (rg_k (0 : Int32) 0 rfl)) (by decide)
              exact K_136 _ _ _ hG hP hD hS (lv_sub hl [0, 1, 2, 3, 4, 5, 6] rfl)
            · obtain ⟨f_196, f_197⟩ := (hr_191.resolve_right (fun q => c_193 q.1)).2
              have h_198 : rg a4 0 2147483647 := rg_le2 f_196 (rg_k (0 : Int32) 0 rfl) (rg_full _) (by decide)
              have h_199 : rg a4 0 50 := rg_le1 f_197 h_198 (rg_k (50 : Int32) 50 rfl) (by decide)
              have h_200 : rg x_187 1 1 := rg_ne c_193 h_192 0 rfl (by decide)
              refine lv_iload hx hb dX11_table_54 (lv_at hl 6 rfl) ?_
              refine lv_iconst (v := 0) hx hb dX11_table_56 (by decide) ?_
              refine lv_bipush (v := 100) hx hb dX11_table_57 (by decide) ?_
              refine pk_i (va_runS (As := [.int a5, .int 0, .int 100]) (rest := []) ⟨hx, hb, hml, hown, hts⟩ (s_X11_between l D t σ I J ri rj rq H.size tg hSH hG.1 a5 (0 : Int32) (100 : Int32)) (va_cwS 3 hts (tw_S tw_215 tw_216 tw_2 tw_217) rfl rfl rfl cd_yX11_between_3 ⟨Nat.le_of_ble_eq_true rfl, Nat.le_of_ble_eq_true rfl⟩) ⟨pq_blind, pq_pre hK hN hP hD⟩ rfl rfl hl.1 rfl (lv_room (Nat.le_of_ble_eq_true rfl)) dX11_table_59 ⟨Nat.le_of_ble_eq_true rfl, Nat.le_of_ble_eq_true rfl⟩) hD hS hA (fun x_201 σ1 μ1 H locs hw_202 hP hD hS => ?_)
              obtain ⟨hu_203, hr_205⟩ := hw_202
              obtain ⟨hu_203a, hu_203b⟩ := Prod.mk.inj hu_203
              rw [hu_203a, hu_203b] at hP hD
              have h_206 : rg x_201 0 1 := by rcases hr_205 with ⟨q, -⟩ | ⟨q, -⟩ <;> rw [q] <;> exact ⟨by decide, by decide⟩
              refine lv_if_eq (tgt := 69) hx hb dX11_table_62 (by decide) (fun c_207 => ?_) (fun c_207 => ?_)
              · have f_208 := (hr_205.resolve_left (fun q => absurd (q.1.symm.trans c_207) (by decide))).2
                have h_209 : rg x_201 0 0 := rg_and h_206 (rg_of_eq c_207 (rg_k (0 : Int32) 0 rfl)) (by decide)
                exact K_136 _ _ _ hG hP hD hS (lv_sub hl [0, 1, 2, 3, 4, 5, 6] rfl)
              · obtain ⟨f_210, f_211⟩ := (hr_205.resolve_right (fun q => c_207 q.1)).2
                have h_212 : rg a5 0 2147483647 := rg_le2 f_210 (rg_k (0 : Int32) 0 rfl) (rg_full _) (by decide)
                have h_213 : rg a5 0 100 := rg_le1 f_211 h_212 (rg_k (100 : Int32) 100 rfl) (by decide)
                have h_214 : rg x_201 1 1 := rg_ne c_207 h_206 0 rfl (by decide)
                refine lv_iconst (v := 1) hx hb dX11_table_65 (by decide) ?_
                refine lv_goto (tgt := 70) hx hb dX11_table_66 (by decide) ?_
                exact K_106 _ _ _ (rg_w h_143 (by decide)) (rg_w h_157 (by decide)) (rg_w h_171 (by decide)) (rg_w h_185 (by decide)) (rg_w h_199 (by decide)) (rg_w h_213 (by decide)) (rg_w h_144 (by decide)) hG hP hD hS (lv_sub hl [0, 1, 2, 3, 4, 5, 6] rfl)
  exact go _ _ _ hP hD hS hl

set_option maxHeartbeats 4000000 in
set_option maxRecDepth 100000 in
theorem s_X11_rules (l : Launch) (D : va_G) (t : pq_T) (σ : pq_S) (I : Nat → Nat → Int32) (J : Nat → Nat → Int64) (ri : Nat → Nat → Int32) (rj : Nat → Nat → Int64) (rq : Nat → Nat → Option Nat) (sz : Nat) (tg : Nat → Nat) (hSH : SH σ tg) (hG0 : GS tg σ I ri rq) (this : Nat) (a0 : Int32) (a1 : Int32) (a2 : Int32) (a3 : Int32) (a4 : Int32) (hL_this : this ∈ σ.1) (hK_this : σ.2.1 this = 11) : MetI l yX11_rules (wa yX11_rules cX11_rules 8 (some .boolean)) ({ frames := 1, cells := 0, slots := 0, locals := 22 }) [.ref this, .int a0, .int a1, .int a2, .int a3, .int a4] D t σ (I, J, ri, rj, rq) sz 0 0 (fun (r : Int32) (u : pq_S × pq_M) => ∃ I' : Nat → Nat → Int32, u = (σ, I', J, ri, rj, rq) ∧ GX [234, 235, 236] tg σ I ri rj I' ri rj rq ∧ ((r = 1 ∧ rg a0 0 40 ∧ rg a1 0 5 ∧ rg a2 0 50 ∧ rg a3 1 20 ∧ rg a4 0 100) ∨ (r = 0 ∧ True))) := by
  refine Met.ofW (cc := cX11_rules) (maxL := 8) (ret := (some .boolean)) (by decide) rfl ?_
  intro p e s m args below meth c s₁ B hml hv
  obtain ⟨rfl, hsz, hP, hK, hD0, hN⟩ := hv
  have hx := B.exec
  have hb := B.bytes
  have hr := B.returns
  have hts := atoms_spec (ws := (wa yX11_rules cX11_rules 8 (some .boolean))) B.pre
  have hown : s.vm.findClass RX11 = some m.cls := findClass_of_methodNamed B.named
  have hlocks := B.notSynchronized
  subst hsz
  have hD : va_D (pq_B t σ (I, J, ri, rj, rq) s.heap.size) (pq_P t σ (I, J, ri, rj, rq)) := hD0.self
  generalize hAe : pq_B t σ (I, J, ri, rj, rq) s.heap.size = A at hD ⊢
  have hA : ∀ q : Nat, s.heap.size ≤ q → A q := fun q h => by rw [← hAe]; exact Or.inr h
  have hS : va_S A s.heap s.heap [] := va_S.rf
  have hG : GX [234, 235, 236] tg σ I ri rj I ri rj rq := ⟨hG0, fun _ _ _ => rfl, fun _ _ _ _ _ => rfl, fun _ _ _ _ _ => rfl⟩
  have hl := lv_entry ([.ref this, .int a0, .int a1, .int a2, .int a3, .int a4]) (n := 8) (Nat.le_of_ble_eq_true rfl)
  rw [lg_entry_eq]
  generalize (lg_sl ([.ref this, .int a0, .int a1, .int a2, .int a3, .int a4]) ++ List.replicate (8 - (lg_sl ([.ref this, .int a0, .int a1, .int a2, .int a3, .int a4])).length) Slot.unset).toArray = ls at hl ⊢
  have hl : lv_has ls 8 [(0, .ref this), (1, .int a0), (2, .int a1), (3, .int a2), (4, .int a3), (5, .int a4)] := hl
  refine q_gen (fun Q hQ => ?_)
  have go : ∀ (H : Heap) (locs : List Loc) (ls : Array Slot), va_P D vwCl (pq_P t σ (I, J, ri, rj, rq)) H → va_D A (pq_P t σ (I, J, ri, rj, rq)) → va_S A s.heap H locs → lv_has ls 8 [(0, .ref this), (1, .int a0), (2, .int a1), (3, .int a2), (4, .int a3), (5, .int a4)] → W p l e ({ frames := 1, cells := 0, slots := 0, locals := 22 } : Room) s m (List.toArray ([.ref this, .int a0, .int a1, .int a2, .int a3, .int a4] : List Value)) below meth c H locs 0 0 Q (F0 m 0 ls []) := by
    intro H locs ls hP hD hS hl
    refine lv_iload_n hx hb dX11_rules_0 rfl (lv_at hl 1 rfl) ?_
    refine lv_iconst (v := 0) hx hb dX11_rules_1 (by decide) ?_
    refine lv_bipush (v := 40) hx hb dX11_rules_2 (by decide) ?_
    refine pk_i (va_runS (As := [.int a0, .int 0, .int 40]) (rest := []) ⟨hx, hb, hml, hown, hts⟩ (s_X11_between l D t σ I J ri rj rq H.size tg hSH hG.1 a0 (0 : Int32) (40 : Int32)) (va_cwS 3 hts (tw_S tw_215 tw_216 tw_2 tw_217) rfl rfl rfl cd_yX11_between_3 ⟨Nat.le_of_ble_eq_true rfl, Nat.le_of_ble_eq_true rfl⟩) ⟨pq_blind, pq_pre hK hN hP hD⟩ rfl rfl hl.1 rfl (lv_room (Nat.le_of_ble_eq_true rfl)) dX11_rules_4 ⟨Nat.le_of_ble_eq_true rfl, Nat.le_of_ble_eq_true rfl⟩) hD hS hA (fun x_1 σ1 μ1 H locs hw_2 hP hD hS => ?_)
    obtain ⟨hu_3, hr_5⟩ := hw_2
    obtain ⟨hu_3a, hu_3b⟩ := Prod.mk.inj hu_3
    rw [hu_3a, hu_3b] at hP hD
    have h_6 : rg x_1 0 1 := by rcases hr_5 with ⟨q, -⟩ | ⟨q, -⟩ <;> rw [q] <;> exact ⟨by decide, by decide⟩
    have K_86 : ∀  (H : Heap) (locs : List Loc) (ls : Array Slot), rg (a0) 0 40 → rg (a1) 0 5 → rg (a2) 0 50 → rg (a3) 1 20 → rg (a4) 0 100 → rg (x_1) 1 1 → GX [234, 235, 236] tg σ I ri rj I ri rj rq → va_P D vwCl (pq_P t σ (I, J, ri, rj, rq)) H → va_D A (pq_P t σ (I, J, ri, rj, rq)) → va_S A s.heap H locs → lv_has ls 8 [(0, .ref this), (1, .int a0), (2, .int a1), (3, .int a2), (4, .int a3), (5, .int a4)] → W p l e ({ frames := 1, cells := 0, slots := 0, locals := 22 } : Room) s m (List.toArray ([.ref this, .int a0, .int a1, .int a2, .int a3, .int a4] : List Value)) below meth c H locs 0 0 Q (F0 m 56 ls [.int 1]) := by
      intro H locs ls h_93 h_94 h_95 h_96 h_97 h_98 hG hP hD hS hl
      refine lv_istore (lv' := [(6, .int 1), (0, .ref this), (1, .int a0), (2, .int a1), (3, .int a2), (4, .int a3), (5, .int a4)]) hx hb dX11_rules_56 hl (by decide) rfl (fun ls hl => ?_)
      refine lv_iload hx hb dX11_rules_58 (lv_at hl 0 rfl) ?_
      refine lv_if_ne (tgt := 65) hx hb dX11_rules_60 (by decide) (fun c_99 => ?_) (fun c_99 => absurd c_99 (by decide))
      refine lv_aload_n hx hb dX11_rules_65 rfl (lv_at hl 1 rfl) ?_
      obtain ⟨w_100, hR_w_100, hL_w_100, hK_w_100⟩ := sh_o hSH 352 (ci := 11) (kd := 10) rfl hL_this hK_this
      refine pg_f (v := .ref w_100) (C := RX11) (T := TX11) (N := 5) hx hb hts (tw_i inlX11) hown hK hP hL_this hK_this (by decide) rfl 0 (by decide) (hts _ (tw_c tw_16)) (pq_hv rfl hR_w_100) dX11_rules_66 ?_
      obtain ⟨w_101, hR_w_101, hL_w_101, hK_w_101⟩ := sh_o hSH 326 (ci := 10) (kd := 7) rfl hL_w_100 hK_w_100
      refine pg_f (v := .ref w_101) (C := RX10) (T := TX10) (N := 13) hx hb hts (tw_i inlX10) hown hK hP hL_w_100 hK_w_100 (by decide) rfl 6 (by decide) (hts _ (tw_c tw_242)) (pq_hv rfl hR_w_101) dX11_rules_69 ?_
      refine lv_astore (lv' := [(7, .ref w_101), (6, .int 1), (0, .ref this), (1, .int a0), (2, .int a1), (3, .int a2), (4, .int a3), (5, .int a4)]) hx hb dX11_rules_72 hl (by decide) rfl (fun ls hl => ?_)
      refine lv_aload hx hb dX11_rules_74 (lv_at hl 0 rfl) ?_
      refine lv_iload_n hx hb dX11_rules_76 rfl (lv_at hl 3 rfl) ?_
      refine pp_i (v := a0) (ty := .int) (C := RX7) (T := TX7) (N := 15) hx hb hts (tw_i inlX7) tyX7 tyX7_ok nmX7 hown hK hP hD hS hL_w_101 hK_w_101 (by decide) rfl 10 234 (by decide) (hts _ (tw_c tw_318)) rfl (tyX7_ok 10 (by decide)) rfl rfl (Nat.le_of_ble_eq_true rfl) (ps_234 _ _ _ _ _) dX11_rules_77 (fun I_102 H locs eI_102 hP hD hS => ?_)
      have hG := GX.wI hG 234 rfl eI_102 (rg_w h_93 (by decide)) (by decide)
      refine lv_aload hx hb dX11_rules_80 (lv_at hl 0 rfl) ?_
      refine lv_iload_n hx hb dX11_rules_82 rfl (lv_at hl 4 rfl) ?_
      refine pp_i (v := a1) (ty := .int) (C := RX7) (T := TX7) (N := 15) hx hb hts (tw_i inlX7) tyX7 tyX7_ok nmX7 hown hK hP hD hS hL_w_101 hK_w_101 (by decide) rfl 11 235 (by decide) (hts _ (tw_c tw_319)) rfl (tyX7_ok 11 (by decide)) rfl rfl (Nat.le_of_ble_eq_true rfl) (ps_235 _ _ _ _ _) dX11_rules_83 (fun I_103 H locs eI_103 hP hD hS => ?_)
      have hG := GX.wI hG 235 rfl eI_103 (rg_w h_94 (by decide)) (by decide)
      refine lv_aload hx hb dX11_rules_86 (lv_at hl 0 rfl) ?_
      refine lv_iload_n hx hb dX11_rules_88 rfl (lv_at hl 5 rfl) ?_
      refine pp_i (v := a2) (ty := .int) (C := RX7) (T := TX7) (N := 15) hx hb hts (tw_i inlX7) tyX7 tyX7_ok nmX7 hown hK hP hD hS hL_w_101 hK_w_101 (by decide) rfl 12 236 (by decide) (hts _ (tw_c tw_320)) rfl (tyX7_ok 12 (by decide)) rfl rfl (Nat.le_of_ble_eq_true rfl) (ps_236 _ _ _ _ _) dX11_rules_89 (fun I_104 H locs eI_104 hP hD hS => ?_)
      have hG := GX.wI hG 236 rfl eI_104 (rg_w h_95 (by decide)) (by decide)
      refine lv_aload hx hb dX11_rules_92 (lv_at hl 0 rfl) ?_
      refine lv_iload hx hb dX11_rules_94 (lv_at hl 6 rfl) ?_
      refine pp_i (v := a3) (ty := .int) (C := RX7) (T := TX7) (N := 15) hx hb hts (tw_i inlX7) tyX7 tyX7_ok nmX7 hown hK hP hD hS hL_w_101 hK_w_101 (by decide) rfl 13 237 (by decide) (hts _ (tw_c tw_321)) rfl (tyX7_ok 13 (by decide)) rfl rfl (Nat.le_of_ble_eq_true rfl) (ps_237 _ _ _ _ _) dX11_rules_96 (fun I_105 H locs eI_105 hP hD hS => ?_)
      have hG := GX.wI hG 237 rfl eI_105 (rg_w h_96 (by decide)) (by decide)
      refine lv_aload hx hb dX11_rules_99 (lv_at hl 0 rfl) ?_
      refine lv_iload hx hb dX11_rules_101 (lv_at hl 7 rfl) ?_
      refine pp_i (v := a4) (ty := .int) (C := RX7) (T := TX7) (N := 15) hx hb hts (tw_i inlX7) tyX7 tyX7_ok nmX7 hown hK hP hD hS hL_w_101 hK_w_101 (by decide) rfl 14 238 (by decide) (hts _ (tw_c tw_322)) rfl (tyX7_ok 14 (by decide)) rfl rfl (Nat.le_of_ble_eq_true rfl) (ps_238 _ _ _ _ _) dX11_rules_103 (fun I_106 H locs eI_106 hP hD hS => ?_)
      have hG := GX.wI hG 238 rfl eI_106 (rg_w h_97 (by decide)) (by decide)
      refine lv_iconst (v := 1) hx hb dX11_rules_106 (by decide) ?_
      subst hQ
      exact W.zret (v := 1) hx hb hr (by decide) (fun t1 ht hW => ⟨⟨1, (σ, I_106, J, ri, rj, rq), rfl, ⟨I_106, rfl, hG, (Or.inl ⟨rfl, (rg_w h_93 (by decide)), (rg_w h_94 (by decide)), (rg_w h_95 (by decide)), (rg_w h_96 (by decide)), (rg_w h_97 (by decide))⟩)⟩, by rw [ht]; exact hP, va_K.moved hW.alike hK, hD⟩, hS.F ht⟩) hS.2.2 dX11_rules_107
    have K_107 : ∀  (H : Heap) (locs : List Loc) (ls : Array Slot), GX [234, 235, 236] tg σ I ri rj I ri rj rq → va_P D vwCl (pq_P t σ (I, J, ri, rj, rq)) H → va_D A (pq_P t σ (I, J, ri, rj, rq)) → va_S A s.heap H locs → lv_has ls 8 [(0, .ref this), (1, .int a0), (2, .int a1), (3, .int a2), (4, .int a3), (5, .int a4)] → W p l e ({ frames := 1, cells := 0, slots := 0, locals := 22 } : Room) s m (List.toArray ([.ref this, .int a0, .int a1, .int a2, .int a3, .int a4] : List Value)) below meth c H locs 0 0 Q (F0 m 56 ls [.int 0]) := by
      intro H locs ls hG hP hD hS hl
      refine lv_istore (lv' := [(6, .int 0), (0, .ref this), (1, .int a0), (2, .int a1), (3, .int a2), (4, .int a3), (5, .int a4)]) hx hb dX11_rules_56 hl (by decide) rfl (fun ls hl => ?_)
      refine lv_iload hx hb dX11_rules_58 (lv_at hl 0 rfl) ?_
      refine lv_if_ne (tgt := 65) hx hb dX11_rules_60 (by decide) (fun c_108 => absurd c_108 (by decide)) (fun c_108 => ?_)
      refine lv_iconst (v := 0) hx hb dX11_rules_63 (by decide) ?_
      subst hQ
      exact W.zret (v := 0) hx hb hr (by decide) (fun t1 ht hW => ⟨⟨0, (σ, I, J, ri, rj, rq), rfl, ⟨I, rfl, hG, (Or.inr ⟨rfl, trivial⟩)⟩, by rw [ht]; exact hP, va_K.moved hW.alike hK, hD⟩, hS.F ht⟩) hS.2.2 dX11_rules_64
    have K_109 : ∀  (H : Heap) (locs : List Loc) (ls : Array Slot), GX [234, 235, 236] tg σ I ri rj I ri rj rq → va_P D vwCl (pq_P t σ (I, J, ri, rj, rq)) H → va_D A (pq_P t σ (I, J, ri, rj, rq)) → va_S A s.heap H locs → lv_has ls 8 [(0, .ref this), (1, .int a0), (2, .int a1), (3, .int a2), (4, .int a3), (5, .int a4)] → W p l e ({ frames := 1, cells := 0, slots := 0, locals := 22 } : Room) s m (List.toArray ([.ref this, .int a0, .int a1, .int a2, .int a3, .int a4] : List Value)) below meth c H locs 0 0 Q (F0 m 55 ls []) := by
      intro H locs ls hG hP hD hS hl
      refine lv_iconst (v := 0) hx hb dX11_rules_55 (by decide) ?_
      exact K_107 _ _ _ hG hP hD hS (lv_sub hl [0, 1, 2, 3, 4, 5] rfl)
    refine lv_if_eq (tgt := 55) hx hb dX11_rules_7 (by decide) (fun c_110 => ?_) (fun c_110 => ?_)
    · have f_111 := (hr_5.resolve_left (fun q => absurd (q.1.symm.trans c_110) (by decide))).2
      have h_112 : rg x_1 0 0 := rg_and h_6 (rg_of_eq c_110 (rg_k (0 : Int32) 0 rfl)) (by decide)
      exact K_109 _ _ _ hG hP hD hS (lv_sub hl [0, 1, 2, 3, 4, 5] rfl)
    · obtain ⟨f_113, f_114⟩ := (hr_5.resolve_right (fun q => c_110 q.1)).2
      have h_115 : rg a0 0 2147483647 := rg_le2 f_113 (rg_k (0 : Int32) 0 rfl) (rg_full _) (by decide)
      have h_116 : rg a0 0 40 := rg_le1 f_114 h_115 (rg_k (40 : Int32) 40 rfl) (by decide)
      have h_117 : rg x_1 1 1 := rg_ne c_110 h_6 0 rfl (by decide)
      refine lv_iload_n hx hb dX11_rules_10 rfl (lv_at hl 2 rfl) ?_
      refine lv_iconst (v := 0) hx hb dX11_rules_11 (by decide) ?_
      refine lv_iconst (v := 5) hx hb dX11_rules_12 (by decide) ?_
      refine pk_i (va_runS (As := [.int a1, .int 0, .int 5]) (rest := []) ⟨hx, hb, hml, hown, hts⟩ (s_X11_between l D t σ I J ri rj rq H.size tg hSH hG.1 a1 (0 : Int32) (5 : Int32)) (va_cwS 3 hts (tw_S tw_215 tw_216 tw_2 tw_217) rfl rfl rfl cd_yX11_between_3 ⟨Nat.le_of_ble_eq_true rfl, Nat.le_of_ble_eq_true rfl⟩) ⟨pq_blind, pq_pre hK hN hP hD⟩ rfl rfl hl.1 rfl (lv_room (Nat.le_of_ble_eq_true rfl)) dX11_rules_13 ⟨Nat.le_of_ble_eq_true rfl, Nat.le_of_ble_eq_true rfl⟩) hD hS hA (fun x_118 σ1 μ1 H locs hw_119 hP hD hS => ?_)
      obtain ⟨hu_120, hr_122⟩ := hw_119
      obtain ⟨hu_120a, hu_120b⟩ := Prod.mk.inj hu_120
      rw [hu_120a, hu_120b] at hP hD
      have h_123 : rg x_118 0 1 := by rcases hr_122 with ⟨q, -⟩ | ⟨q, -⟩ <;> rw [q] <;> exact ⟨by decide, by decide⟩
      refine lv_if_eq (tgt := 55) hx hb dX11_rules_16 (by decide) (fun c_124 => ?_) (fun c_124 => ?_)
      · have f_125 := (hr_122.resolve_left (fun q => absurd (q.1.symm.trans c_124) (by decide))).2
        have h_126 : rg x_118 0 0 := rg_and h_123 (rg_of_eq c_124 (rg_k (0 : Int32) 0 rfl)) (by decide)
        exact K_109 _ _ _ hG hP hD hS (lv_sub hl [0, 1, 2, 3, 4, 5] rfl)
      · obtain ⟨f_127, f_128⟩ := (hr_122.resolve_right (fun q => c_124 q.1)).2
        have h_129 : rg a1 0 2147483647 := rg_le2 f_127 (rg_k (0 : Int32) 0 rfl) (rg_full _) (by decide)
        have h_130 : rg a1 0 5 := rg_le1 f_128 h_129 (rg_k (5 : Int32) 5 rfl) (by decide)
        have h_131 : rg x_118 1 1 := rg_ne c_124 h_123 0 rfl (by decide)
        refine lv_iload_n hx hb dX11_rules_19 rfl (lv_at hl 3 rfl) ?_
        refine lv_iconst (v := 0) hx hb dX11_rules_20 (by decide) ?_
        refine lv_bipush (v := 50) hx hb dX11_rules_21 (by decide) ?_
        refine pk_i (va_runS (As := [.int a2, .int 0, .int 50]) (rest := []) ⟨hx, hb, hml, hown, hts⟩ (s_X11_between l D t σ I J ri rj rq H.size tg hSH hG.1 a2 (0 : Int32) (50 : Int32)) (va_cwS 3 hts (tw_S tw_215 tw_216 tw_2 tw_217) rfl rfl rfl cd_yX11_between_3 ⟨Nat.le_of_ble_eq_true rfl, Nat.le_of_ble_eq_true rfl⟩) ⟨pq_blind, pq_pre hK hN hP hD⟩ rfl rfl hl.1 rfl (lv_room (Nat.le_of_ble_eq_true rfl)) dX11_rules_23 ⟨Nat.le_of_ble_eq_true rfl, Nat.le_of_ble_eq_true rfl⟩) hD hS hA (fun x_132 σ1 μ1 H locs hw_133 hP hD hS => ?_)
        obtain ⟨hu_134, hr_136⟩ := hw_133
        obtain ⟨hu_134a, hu_134b⟩ := Prod.mk.inj hu_134
        rw [hu_134a, hu_134b] at hP hD
        have h_137 : rg x_132 0 1 := by rcases hr_136 with ⟨q, -⟩ | ⟨q, -⟩ <;> rw [q] <;> exact ⟨by decide, by decide⟩
        refine lv_if_eq (tgt := 55) hx hb dX11_rules_26 (by decide) (fun c_138 => ?_) (fun c_138 => ?_)
        · have f_139 := (hr_136.resolve_left (fun q => absurd (q.1.symm.trans c_138) (by decide))).2
          have h_140 : rg x_132 0 0 := rg_and h_137 (rg_of_eq c_138 (rg_k (0 : Int32) 0 rfl)) (by decide)
          exact K_109 _ _ _ hG hP hD hS (lv_sub hl [0, 1, 2, 3, 4, 5] rfl)
        · obtain ⟨f_141, f_142⟩ := (hr_136.resolve_right (fun q => c_138 q.1)).2
          have h_143 : rg a2 0 2147483647 := rg_le2 f_141 (rg_k (0 : Int32) 0 rfl) (rg_full _) (by decide)
          have h_144 : rg a2 0 50 := rg_le1 f_142 h_143 (rg_k (50 : Int32) 50 rfl) (by decide)
          have h_145 : rg x_132 1 1 := rg_ne c_138 h_137 0 rfl (by decide)
          refine lv_iload hx hb dX11_rules_29 (lv_at hl 4 rfl) ?_
          refine lv_iconst (v := 1) hx hb dX11_rules_31 (by decide) ?_
          refine lv_bipush (v := 20) hx hb dX11_rules_32 (by decide) ?_
          refine pk_i (va_runS (As := [.int a3, .int 1, .int 20]) (rest := []) ⟨hx, hb, hml, hown, hts⟩ (s_X11_between l D t σ I J ri rj rq H.size tg hSH hG.1 a3 (1 : Int32) (20 : Int32)) (va_cwS 3 hts (tw_S tw_215 tw_216 tw_2 tw_217) rfl rfl rfl cd_yX11_between_3 ⟨Nat.le_of_ble_eq_true rfl, Nat.le_of_ble_eq_true rfl⟩) ⟨pq_blind, pq_pre hK hN hP hD⟩ rfl rfl hl.1 rfl (lv_room (Nat.le_of_ble_eq_true rfl)) dX11_rules_34 ⟨Nat.le_of_ble_eq_true rfl, Nat.le_of_ble_eq_true rfl⟩) hD hS hA (fun x_146 σ1 μ1 H locs hw_147 hP hD hS => ?_)
          obtain ⟨hu_148, hr_150⟩ := hw_147
          obtain ⟨hu_148a, hu_148b⟩ := Prod.mk.inj hu_148
          rw [hu_148a, hu_148b] at hP hD
          have h_151 : rg x_146 0 1 := by rcases hr_150 with ⟨q, -⟩ | ⟨q, -⟩ <;> rw [q] <;> exact ⟨by decide, by decide⟩
          refine lv_if_eq (tgt := 55) hx hb dX11_rules_37 (by decide) (fun c_152 => ?_) (fun c_152 => ?_)
          · have f_153 := (hr_150.resolve_left (fun q => absurd (q.1.symm.trans c_152) (by decide))).2
            have h_154 : rg x_146 0 0 := rg_and h_151 (rg_of_eq c_152 (rg_k (0 : Int32) 0 rfl)) (by decide)
            exact K_109 _ _ _ hG hP hD hS (lv_sub hl [0, 1, 2, 3, 4, 5] rfl)
          · obtain ⟨f_155, f_156⟩ := (hr_150.resolve_right (fun q => c_152 q.1)).2
            have h_157 : rg a3 1 2147483647 := rg_le2 f_155 (rg_k (1 : Int32) 1 rfl) (rg_full _) (by decide)
            have h_158 : rg a3 1 20 := rg_le1 f_156 h_157 (rg_k (20 : Int32) 20 rfl) (by decide)
            have h_159 : rg x_146 1 1 := rg_ne c_152 h_151 0 rfl (by decide)
            refine lv_iload hx hb dX11_rules_40 (lv_at hl 5 rfl) ?_
            refine lv_iconst (v := 0) hx hb dX11_rules_42 (by decide) ?_
            refine lv_bipush (v := 100) hx hb dX11_rules_43 (by decide) ?_
            refine pk_i (va_runS (As := [.int a4, .int 0, .int 100]) (rest := []) ⟨hx, hb, hml, hown, hts⟩ (s_X11_between l D t σ I J ri rj rq H.size tg hSH hG.1 a4 (0 : Int32) (100 : Int32)) (va_cwS 3 hts (tw_S tw_215 tw_216 tw_2 tw_217) rfl rfl rfl cd_yX11_between_3 ⟨Nat.le_of_ble_eq_true rfl, Nat.le_of_ble_eq_true rfl⟩) ⟨pq_blind, pq_pre hK hN hP hD⟩ rfl rfl hl.1 rfl (lv_room (Nat.le_of_ble_eq_true rfl)) dX11_rules_45 ⟨Nat.le_of_ble_eq_true rfl, Nat.le_of_ble_eq_true rfl⟩) hD hS hA (fun x_160 σ1 μ1 H locs hw_161 hP hD hS => ?_)
            obtain ⟨hu_162, hr_164⟩ := hw_161
            obtain ⟨hu_162a, hu_162b⟩ := Prod.mk.inj hu_162
            rw [hu_162a, hu_162b] at hP hD
            have h_165 : rg x_160 0 1 := by rcases hr_164 with ⟨q, -⟩ | ⟨q, -⟩ <;> rw [q] <;> exact ⟨by decide, by decide⟩
            refine lv_if_eq (tgt := 55) hx hb dX11_rules_48 (by decide) (fun c_166 => ?_) (fun c_166 => ?_)
            · have f_167 := (hr_164.resolve_left (fun q => absurd (q.1.symm.trans c_166) (by decide))).2
              have h_168 : rg x_160 0 0 := rg_and h_165 (rg_of_eq c_166 (rg_k (0 : Int32) 0 rfl)) (by decide)
              exact K_109 _ _ _ hG hP hD hS (lv_sub hl [0, 1, 2, 3, 4, 5] rfl)
            · obtain ⟨f_169, f_170⟩ := (hr_164.resolve_right (fun q => c_166 q.1)).2
              have h_171 : rg a4 0 2147483647 := rg_le2 f_169 (rg_k (0 : Int32) 0 rfl) (rg_full _) (by decide)
              have h_172 : rg a4 0 100 := rg_le1 f_170 h_171 (rg_k (100 : Int32) 100 rfl) (by decide)
              have h_173 : rg x_160 1 1 := rg_ne c_166 h_165 0 rfl (by decide)
              refine lv_iconst (v := 1) hx hb dX11_rules_51 (by decide) ?_
              refine lv_goto (tgt := 56) hx hb dX11_rules_52 (by decide) ?_
              exact K_86 _ _ _ (rg_w h_116 (by decide)) (rg_w h_130 (by decide)) (rg_w h_144 (by decide)) (rg_w h_158 (by decide)) (rg_w h_172 (by decide)) (rg_w h_117 (by decide)) hG hP hD hS (lv_sub hl [0, 1, 2, 3, 4, 5] rfl)
  exact go _ _ _ hP hD hS hl

set_option maxHeartbeats 4000000 in
set_option maxRecDepth 100000 in
theorem s_X11_isCell (l : Launch) (D : va_G) (t : pq_T) (σ : pq_S) (I : Nat → Nat → Int32) (J : Nat → Nat → Int64) (ri : Nat → Nat → Int32) (rj : Nat → Nat → Int64) (rq : Nat → Nat → Option Nat) (sz : Nat) (tg : Nat → Nat) (hSH : SH σ tg) (hG0 : GS tg σ I ri rq) (this : Nat) (a0 : Int32) (hL_this : this ∈ σ.1) (hK_this : σ.2.1 this = 11) : MetI l yX11_isCell (wa yX11_isCell cX11_isCell 2 (some .boolean)) ({ frames := 1, cells := 0, slots := 0, locals := 22 }) [.ref this, .int a0] D t σ (I, J, ri, rj, rq) sz 0 0 (fun (r : Int32) (u : pq_S × pq_M) => u = (σ, I, J, ri, rj, rq) ∧ ((r = 1 ∧ rg a0 0 39) ∨ (r = 0 ∧ True))) := by
  refine Met.ofW (cc := cX11_isCell) (maxL := 2) (ret := (some .boolean)) (by decide) rfl ?_
  intro p e s m args below meth c s₁ B hml hv
  obtain ⟨rfl, hsz, hP, hK, hD0, hN⟩ := hv
  have hx := B.exec
  have hb := B.bytes
  have hr := B.returns
  have hts := atoms_spec (ws := (wa yX11_isCell cX11_isCell 2 (some .boolean))) B.pre
  have hown : s.vm.findClass RX11 = some m.cls := findClass_of_methodNamed B.named
  have hlocks := B.notSynchronized
  subst hsz
  have hD : va_D (pq_B t σ (I, J, ri, rj, rq) s.heap.size) (pq_P t σ (I, J, ri, rj, rq)) := hD0.self
  generalize hAe : pq_B t σ (I, J, ri, rj, rq) s.heap.size = A at hD ⊢
  have hA : ∀ q : Nat, s.heap.size ≤ q → A q := fun q h => by rw [← hAe]; exact Or.inr h
  have hS : va_S A s.heap s.heap [] := va_S.rf
  have hG : GX [] tg σ I ri rj I ri rj rq := ⟨hG0, fun _ _ _ => rfl, fun _ _ _ _ _ => rfl, fun _ _ _ _ _ => rfl⟩
  have hl := lv_entry ([.ref this, .int a0]) (n := 2) (Nat.le_of_ble_eq_true rfl)
  rw [lg_entry_eq]
  generalize (lg_sl ([.ref this, .int a0]) ++ List.replicate (2 - (lg_sl ([.ref this, .int a0])).length) Slot.unset).toArray = ls at hl ⊢
  have hl : lv_has ls 2 [(0, .ref this), (1, .int a0)] := hl
  refine q_gen (fun Q hQ => ?_)
  have go : ∀ (H : Heap) (locs : List Loc) (ls : Array Slot), va_P D vwCl (pq_P t σ (I, J, ri, rj, rq)) H → va_D A (pq_P t σ (I, J, ri, rj, rq)) → va_S A s.heap H locs → lv_has ls 2 [(0, .ref this), (1, .int a0)] → W p l e ({ frames := 1, cells := 0, slots := 0, locals := 22 } : Room) s m (List.toArray ([.ref this, .int a0] : List Value)) below meth c H locs 0 0 Q (F0 m 0 ls []) := by
    intro H locs ls hP hD hS hl
    refine lv_iload_n hx hb dX11_isCell_0 rfl (lv_at hl 1 rfl) ?_
    refine lv_iconst (v := 0) hx hb dX11_isCell_1 (by decide) ?_
    refine lv_aload_n hx hb dX11_isCell_2 rfl (lv_at hl 0 rfl) ?_
    obtain ⟨w_1, hR_w_1, hL_w_1, hK_w_1⟩ := sh_o hSH 352 (ci := 11) (kd := 10) rfl hL_this hK_this
    refine pg_f (v := .ref w_1) (C := RX11) (T := TX11) (N := 5) hx hb hts (tw_i inlX11) hown hK hP hL_this hK_this (by decide) rfl 0 (by decide) (hts _ (tw_c tw_16)) (pq_hv rfl hR_w_1) dX11_isCell_3 ?_
    obtain ⟨w_2, hR_w_2, hL_w_2, hK_w_2⟩ := sh_o hSH 327 (ci := 10) (kd := 2) rfl hL_w_1 hK_w_1
    refine pg_f (v := .ref w_2) (C := RX10) (T := TX10) (N := 13) hx hb hts (tw_i inlX10) hown hK hP hL_w_1 hK_w_1 (by decide) rfl 7 (by decide) (hts _ (tw_c tw_199)) (pq_hv rfl hR_w_2) dX11_isCell_6 ?_
    refine pg_f (v := .int (I 65 w_2)) (C := RX2) (T := TX2) (N := 20) hx hb hts (tw_i inlX2) hown hK hP hL_w_2 hK_w_2 (by decide) rfl 1 (by decide) (hts _ (tw_c tw_210)) rfl dX11_isCell_9 ?_
    have h_3 : rg (I 65 w_2) 0 40 := GX.rI hG 65 rfl
    refine lv_iconst (v := 1) hx hb dX11_isCell_12 (by decide) ?_
    refine lv_isub hx hb dX11_isCell_13 ?_
    refine lv_topi (fun x_4 ex_4 => ?_)
    have h_5 : rg x_4 (-1) 39 := rg_of_eq ex_4 (rg_sub h_3 (rg_k (1 : Int32) 1 rfl) (by decide))
    refine pk_i (va_runS (As := [.int a0, .int 0, .int x_4]) (rest := []) ⟨hx, hb, hml, hown, hts⟩ (s_X11_between l D t σ I J ri rj rq H.size tg hSH hG.1 a0 (0 : Int32) x_4) (va_cwS 3 hts (tw_S tw_215 tw_216 tw_2 tw_217) rfl rfl rfl cd_yX11_between_3 ⟨Nat.le_of_ble_eq_true rfl, Nat.le_of_ble_eq_true rfl⟩) ⟨pq_blind, pq_pre hK hN hP hD⟩ rfl rfl hl.1 rfl (lv_room (Nat.le_of_ble_eq_true rfl)) dX11_isCell_14 ⟨Nat.le_of_ble_eq_true rfl, Nat.le_of_ble_eq_true rfl⟩) hD hS hA (fun x_6 σ1 μ1 H locs hw_7 hP hD hS => ?_)
    obtain ⟨hu_8, hr_10⟩ := hw_7
    obtain ⟨hu_8a, hu_8b⟩ := Prod.mk.inj hu_8
    rw [hu_8a, hu_8b] at hP hD
    have h_11 : rg x_6 0 1 := by rcases hr_10 with ⟨q, -⟩ | ⟨q, -⟩ <;> rw [q] <;> exact ⟨by decide, by decide⟩
    rcases hr_10 with ⟨e_15, f_12, f_13⟩ | ⟨e_15, f_14⟩
    · refine lv_tov 1 e_15 ?_
      have h_16 : rg a0 0 2147483647 := rg_le2 f_12 (rg_k (0 : Int32) 0 rfl) (rg_full _) (by decide)
      have h_17 : rg a0 0 39 := rg_le1 f_13 h_16 h_5 (by decide)
      have h_18 : rg x_4 0 39 := rg_le2 f_13 h_16 h_5 (by decide)
      subst hQ
      exact W.zret (v := 1) hx hb hr (by decide) (fun t1 ht hW => ⟨⟨1, (σ, I, J, ri, rj, rq), rfl, ⟨rfl, (Or.inl ⟨rfl, (rg_w h_17 (by decide))⟩)⟩, by rw [ht]; exact hP, va_K.moved hW.alike hK, hD⟩, hS.F ht⟩) hS.2.2 dX11_isCell_17
    · refine lv_tov 0 e_15 ?_
      subst hQ
      exact W.zret (v := 0) hx hb hr (by decide) (fun t1 ht hW => ⟨⟨0, (σ, I, J, ri, rj, rq), rfl, ⟨rfl, (Or.inr ⟨rfl, trivial⟩)⟩, by rw [ht]; exact hP, va_K.moved hW.alike hK, hD⟩, hS.F ht⟩) hS.2.2 dX11_isCell_17
  exact go _ _ _ hP hD hS hl
