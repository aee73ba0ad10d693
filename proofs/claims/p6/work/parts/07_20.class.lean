theorem dX11_isRise_0 : decode cX11_isRise 0 = .ok (.iload_n 0, 1) := oc_26 (by decide +kernel)
theorem dX11_isRise_1 : decode cX11_isRise 1 = .ok (.iconst 0, 1) := oc_3 (by decide +kernel)
theorem dX11_isRise_2 : decode cX11_isRise 2 = .ok (.iconst 2, 1) := oc_5 (by decide +kernel)
theorem dX11_isRise_3 : decode cX11_isRise 3 = .ok (.invokestatic 50, 3) := oc_184 (a := 0) (b := 50) (by decide +kernel)
theorem dX11_isRise_6 : decode cX11_isRise 6 = .ok (.ireturn, 1) := oc_172 (by decide +kernel)
theorem dX11_isMonth_0 : decode cX11_isMonth 0 = .ok (.iload_n 0, 1) := oc_26 (by decide +kernel)
theorem dX11_isMonth_1 : decode cX11_isMonth 1 = .ok (.iconst 0, 1) := oc_3 (by decide +kernel)
theorem dX11_isMonth_2 : decode cX11_isMonth 2 = .ok (.sipush 599, 3) := oc_17 (a := 2) (b := 87) (by decide +kernel)
theorem dX11_isMonth_5 : decode cX11_isMonth 5 = .ok (.invokestatic 50, 3) := oc_184 (a := 0) (b := 50) (by decide +kernel)
theorem dX11_isMonth_8 : decode cX11_isMonth 8 = .ok (.ireturn, 1) := oc_172 (by decide +kernel)
theorem dX11_level_0 : decode cX11_level 0 = .ok (.iload_n 1, 1) := oc_27 (by decide +kernel)
theorem tw_244 : Cond.methodLink RX11 64 yX11_isRise ∈ wsL_law := sg_11 _ (List.mem_of_getElem? (i := 4) rfl)
theorem tw_245 : Cond.static yX11_isRise ∈ wsL_law := sg_11 _ (List.mem_of_getElem? (i := 5) rfl)
theorem tw_246 : Cond.code yX11_isRise cX11_isRise 1 (some .boolean) ∈ wsL_law := sg_11 _ (List.mem_of_getElem? (i := 6) rfl)
theorem dX11_level_1 : decode cX11_level 1 = .ok (.invokestatic 64, 3) := oc_184 (a := 0) (b := 64) (by decide +kernel)
theorem dX11_level_32 : decode cX11_level 32 = .ok (.iconst (-1), 1) := oc_2 (by decide +kernel)
theorem dX11_level_33 : decode cX11_level 33 = .ok (.ireturn, 1) := oc_172 (by decide +kernel)
theorem dX11_level_4 : decode cX11_level 4 = .ok (.ifCond .eq 28, 3) := oc_153 (a := 0) (b := 28) (by decide +kernel)
theorem dX11_level_7 : decode cX11_level 7 = .ok (.iload_n 2, 1) := oc_28 (by decide +kernel)
theorem tw_247 : Cond.methodLink RX11 67 yX11_isMonth ∈ wsL_law := sg_11 _ (List.mem_of_getElem? (i := 7) rfl)
theorem tw_248 : Cond.static yX11_isMonth ∈ wsL_law := sg_11 _ (List.mem_of_getElem? (i := 8) rfl)
theorem tw_249 : Cond.code yX11_isMonth cX11_isMonth 1 (some .boolean) ∈ wsL_law := sg_11 _ (List.mem_of_getElem? (i := 9) rfl)
theorem dX11_level_8 : decode cX11_level 8 = .ok (.invokestatic 67, 3) := oc_184 (a := 0) (b := 67) (by decide +kernel)
theorem dX11_level_11 : decode cX11_level 11 = .ok (.ifCond .eq 21, 3) := oc_153 (a := 0) (b := 21) (by decide +kernel)
theorem dX11_level_14 : decode cX11_level 14 = .ok (.iload_n 3, 1) := oc_29 (by decide +kernel)
theorem dX11_level_34 : decode cX11_level 34 = .ok (.aload_n 0, 1) := oc_42 (by decide +kernel)
theorem dX11_level_35 : decode cX11_level 35 = .ok (.getfield 10, 3) := oc_180 (a := 0) (b := 10) (by decide +kernel)
theorem tw_242 : Cond.fieldLink RX11 70 "RingsUnder$World" "seas" "LRingsUnder$Seas;" ∈ wsL_law := sg_11 _ (List.mem_of_getElem? (i := 2) rfl)
theorem dX11_level_38 : decode cX11_level 38 = .ok (.getfield 70, 3) := oc_180 (a := 0) (b := 70) (by decide +kernel)
theorem tw_243 : Cond.fieldLink RX11 74 "RingsUnder$Seas" "levels" "I" ∈ wsL_law := sg_11 _ (List.mem_of_getElem? (i := 3) rfl)
theorem dX11_level_41 : decode cX11_level 41 = .ok (.getfield 74, 3) := oc_180 (a := 0) (b := 74) (by decide +kernel)
theorem dX11_level_44 : decode cX11_level 44 = .ok (.sipush 200, 3) := oc_17 (a := 0) (b := 200) (by decide +kernel)
theorem dX11_level_47 : decode cX11_level 47 = .ok (.if_icmp .lt 5, 3) := oc_161 (a := 0) (b := 5) (by decide +kernel)
theorem dX11_level_52 : decode cX11_level 52 = .ok (.aload_n 0, 1) := oc_42 (by decide +kernel)
theorem dX11_level_53 : decode cX11_level 53 = .ok (.getfield 10, 3) := oc_180 (a := 0) (b := 10) (by decide +kernel)
theorem dX11_level_56 : decode cX11_level 56 = .ok (.getfield 70, 3) := oc_180 (a := 0) (b := 70) (by decide +kernel)
theorem dX11_level_59 : decode cX11_level 59 = .ok (.iload_n 1, 1) := oc_27 (by decide +kernel)
theorem dX11_level_60 : decode cX11_level 60 = .ok (.iload_n 2, 1) := oc_28 (by decide +kernel)
theorem dX11_level_61 : decode cX11_level 61 = .ok (.iload_n 3, 1) := oc_29 (by decide +kernel)
theorem dX11_level_73 : decode cX11_level 73 = .ok (.aload_n 0, 1) := oc_42 (by decide +kernel)
theorem dX11_level_74 : decode cX11_level 74 = .ok (.getfield 10, 3) := oc_180 (a := 0) (b := 10) (by decide +kernel)
theorem dX11_level_77 : decode cX11_level 77 = .ok (.getfield 54, 3) := oc_180 (a := 0) (b := 54) (by decide +kernel)
theorem tw_250 : Cond.methodLink RX11 79 yX7_tell ∈ wsL_law := sg_11 _ (List.mem_of_getElem? (i := 10) rfl)
theorem tw_251 : Cond.instanceMethod yX7_tell ∈ wsL_law := sg_11 _ (List.mem_of_getElem? (i := 11) rfl)
theorem tw_252 : Cond.selects RX7 yX7_tell yX7_tell ∈ wsL_law := sg_11 _ (List.mem_of_getElem? (i := 12) rfl)
theorem tw_253 : Cond.code yX7_tell cX7_tell 5 (some .int) ∈ wsL_law := sg_11 _ (List.mem_of_getElem? (i := 13) rfl)
theorem dX11_level_80 : decode cX11_level 80 = .ok (.invokevirtual 79, 3) := oc_182 (a := 0) (b := 79) (by decide +kernel)
theorem dX11_level_83 : decode cX11_level 83 = .ok (.ireturn, 1) := oc_172 (by decide +kernel)
theorem dX11_level_62 : decode cX11_level 62 = .ok (.ifCond .eq 8, 3) := oc_153 (a := 0) (b := 8) (by decide +kernel)
theorem dX11_level_70 : decode cX11_level 70 = .ok (.sipush (-5000), 3) := oc_17 (a := 236) (b := 120) (by decide +kernel)
theorem dX11_level_65 : decode cX11_level 65 = .ok (.iload 4, 2) := oc_21 (by decide +kernel)
theorem dX11_level_67 : decode cX11_level 67 = .ok (.goto 6, 3) := oc_167 (a := 0) (b := 6) (by decide +kernel)
theorem dX11_level_50 : decode cX11_level 50 = .ok (.iconst (-1), 1) := oc_2 (by decide +kernel)
theorem dX11_level_51 : decode cX11_level 51 = .ok (.ireturn, 1) := oc_172 (by decide +kernel)
theorem dX11_level_15 : decode cX11_level 15 = .ok (.ifCond .eq 19, 3) := oc_153 (a := 0) (b := 19) (by decide +kernel)
theorem dX11_level_18 : decode cX11_level 18 = .ok (.iload 4, 2) := oc_21 (by decide +kernel)
theorem dX11_level_20 : decode cX11_level 20 = .ok (.sipush (-1000), 3) := oc_17 (a := 252) (b := 24) (by decide +kernel)
theorem dX11_level_23 : decode cX11_level 23 = .ok (.sipush 5000, 3) := oc_17 (a := 19) (b := 136) (by decide +kernel)
theorem dX11_level_26 : decode cX11_level 26 = .ok (.invokestatic 50, 3) := oc_184 (a := 0) (b := 50) (by decide +kernel)
theorem dX11_level_29 : decode cX11_level 29 = .ok (.ifCond .ne 5, 3) := oc_154 (a := 0) (b := 5) (by decide +kernel)
theorem dX11_levelOf_0 : decode cX11_levelOf 0 = .ok (.iload_n 1, 1) := oc_27 (by decide +kernel)
theorem dX11_levelOf_1 : decode cX11_levelOf 1 = .ok (.invokestatic 64, 3) := oc_184 (a := 0) (b := 64) (by decide +kernel)
theorem tw_269 : Cond.constant RX11 83 (-1000000) ∈ wsL_law := sg_12 _ (List.mem_of_getElem? (i := 5) rfl)
theorem dX11_levelOf_25 : decode cX11_levelOf 25 = .ok (.ldc 83, 2) := oc_18 (by decide +kernel)
theorem dX11_levelOf_27 : decode cX11_levelOf 27 = .ok (.ireturn, 1) := oc_172 (by decide +kernel)
theorem dX11_levelOf_4 : decode cX11_levelOf 4 = .ok (.ifCond .eq 21, 3) := oc_153 (a := 0) (b := 21) (by decide +kernel)
theorem dX11_levelOf_7 : decode cX11_levelOf 7 = .ok (.iload_n 2, 1) := oc_28 (by decide +kernel)
theorem dX11_levelOf_8 : decode cX11_levelOf 8 = .ok (.invokestatic 67, 3) := oc_184 (a := 0) (b := 67) (by decide +kernel)
theorem dX11_levelOf_11 : decode cX11_levelOf 11 = .ok (.ifCond .eq 14, 3) := oc_153 (a := 0) (b := 14) (by decide +kernel)
theorem dX11_levelOf_14 : decode cX11_levelOf 14 = .ok (.iload_n 3, 1) := oc_29 (by decide +kernel)
theorem dX11_levelOf_15 : decode cX11_levelOf 15 = .ok (.iconst 0, 1) := oc_3 (by decide +kernel)
theorem dX11_levelOf_16 : decode cX11_levelOf 16 = .ok (.sipush 600, 3) := oc_17 (a := 2) (b := 88) (by decide +kernel)
theorem dX11_levelOf_19 : decode cX11_levelOf 19 = .ok (.invokestatic 50, 3) := oc_184 (a := 0) (b := 50) (by decide +kernel)
theorem dX11_levelOf_22 : decode cX11_levelOf 22 = .ok (.ifCond .ne 6, 3) := oc_154 (a := 0) (b := 6) (by decide +kernel)
theorem dX11_levelOf_28 : decode cX11_levelOf 28 = .ok (.aload_n 0, 1) := oc_42 (by decide +kernel)
theorem dX11_levelOf_29 : decode cX11_levelOf 29 = .ok (.getfield 10, 3) := oc_180 (a := 0) (b := 10) (by decide +kernel)
theorem dX11_levelOf_32 : decode cX11_levelOf 32 = .ok (.getfield 70, 3) := oc_180 (a := 0) (b := 70) (by decide +kernel)
theorem dX11_levelOf_35 : decode cX11_levelOf 35 = .ok (.iload_n 1, 1) := oc_27 (by decide +kernel)
theorem dX11_levelOf_36 : decode cX11_levelOf 36 = .ok (.iload_n 2, 1) := oc_28 (by decide +kernel)
theorem dX11_levelOf_37 : decode cX11_levelOf 37 = .ok (.iload_n 3, 1) := oc_29 (by decide +kernel)
theorem tw_270 : Cond.methodLink RX11 84 yX7_known ∈ wsL_law := sg_12 _ (List.mem_of_getElem? (i := 6) rfl)
theorem dX11_levelOf_38 : decode cX11_levelOf 38 = .ok (.invokevirtual 84, 3) := oc_182 (a := 0) (b := 84) (by decide +kernel)
theorem dX11_levelOf_41 : decode cX11_levelOf 41 = .ok (.ireturn, 1) := oc_172 (by decide +kernel)
theorem dX11_table_0 : decode cX11_table 0 = .ok (.iload_n 1, 1) := oc_27 (by decide +kernel)
theorem dX11_table_1 : decode cX11_table 1 = .ok (.iconst 0, 1) := oc_3 (by decide +kernel)
theorem dX11_table_2 : decode cX11_table 2 = .ok (.bipush 11, 2) := oc_16 (a := 11) (by decide +kernel)
theorem dX11_table_4 : decode cX11_table 4 = .ok (.invokestatic 50, 3) := oc_184 (a := 0) (b := 50) (by decide +kernel)
theorem dX11_table_70 : decode cX11_table 70 = .ok (.istore 7, 2) := oc_54 (by decide +kernel)
theorem dX11_table_72 : decode cX11_table 72 = .ok (.iload 7, 2) := oc_21 (by decide +kernel)
theorem dX11_table_74 : decode cX11_table 74 = .ok (.ifCond .ne 5, 3) := oc_154 (a := 0) (b := 5) (by decide +kernel)
theorem dX11_table_79 : decode cX11_table 79 = .ok (.aload_n 0, 1) := oc_42 (by decide +kernel)
theorem dX11_table_80 : decode cX11_table 80 = .ok (.getfield 10, 3) := oc_180 (a := 0) (b := 10) (by decide +kernel)
theorem dX11_table_83 : decode cX11_table 83 = .ok (.getfield 70, 3) := oc_180 (a := 0) (b := 70) (by decide +kernel)
theorem dX11_table_86 : decode cX11_table 86 = .ok (.astore 8, 2) := oc_58 (by decide +kernel)
theorem dX11_table_88 : decode cX11_table 88 = .ok (.aload 8, 2) := oc_25 (by decide +kernel)
theorem tw_305 : Cond.fieldLink RX11 88 "RingsUnder$Seas" "low" "[I" ∈ wsL_law := sg_13 _ (List.mem_of_getElem? (i := 17) rfl)
theorem dX11_table_90 : decode cX11_table 90 = .ok (.getfield 88, 3) := oc_180 (a := 0) (b := 88) (by decide +kernel)
theorem dX11_table_93 : decode cX11_table 93 = .ok (.iload_n 1, 1) := oc_27 (by decide +kernel)
theorem dX11_table_94 : decode cX11_table 94 = .ok (.iload_n 2, 1) := oc_28 (by decide +kernel)
theorem dX11_table_95 : decode cX11_table 95 = .ok (.iastore, 1) := oc_79 (by decide +kernel)
theorem dX11_table_96 : decode cX11_table 96 = .ok (.aload 8, 2) := oc_25 (by decide +kernel)
theorem tw_306 : Cond.fieldLink RX11 92 "RingsUnder$Seas" "high" "[I" ∈ wsL_law := sg_13 _ (List.mem_of_getElem? (i := 18) rfl)
theorem dX11_table_98 : decode cX11_table 98 = .ok (.getfield 92, 3) := oc_180 (a := 0) (b := 92) (by decide +kernel)
theorem dX11_table_101 : decode cX11_table 101 = .ok (.iload_n 1, 1) := oc_27 (by decide +kernel)
theorem dX11_table_102 : decode cX11_table 102 = .ok (.iload_n 3, 1) := oc_29 (by decide +kernel)
theorem dX11_table_103 : decode cX11_table 103 = .ok (.iastore, 1) := oc_79 (by decide +kernel)
theorem dX11_table_104 : decode cX11_table 104 = .ok (.aload 8, 2) := oc_25 (by decide +kernel)
theorem tw_307 : Cond.fieldLink RX11 95 "RingsUnder$Seas" "warm" "[I" ∈ wsL_law := sg_13 _ (List.mem_of_getElem? (i := 19) rfl)
theorem dX11_table_106 : decode cX11_table 106 = .ok (.getfield 95, 3) := oc_180 (a := 0) (b := 95) (by decide +kernel)
theorem dX11_table_109 : decode cX11_table 109 = .ok (.iload_n 1, 1) := oc_27 (by decide +kernel)
theorem dX11_table_110 : decode cX11_table 110 = .ok (.iload 4, 2) := oc_21 (by decide +kernel)
theorem dX11_table_112 : decode cX11_table 112 = .ok (.iastore, 1) := oc_79 (by decide +kernel)
theorem dX11_table_113 : decode cX11_table 113 = .ok (.aload 8, 2) := oc_25 (by decide +kernel)
theorem tw_308 : Cond.fieldLink RX11 98 "RingsUnder$Seas" "drift" "[I" ∈ wsL_law := sg_13 _ (List.mem_of_getElem? (i := 20) rfl)
theorem dX11_table_115 : decode cX11_table 115 = .ok (.getfield 98, 3) := oc_180 (a := 0) (b := 98) (by decide +kernel)
theorem dX11_table_118 : decode cX11_table 118 = .ok (.iload_n 1, 1) := oc_27 (by decide +kernel)
theorem dX11_table_119 : decode cX11_table 119 = .ok (.iload 5, 2) := oc_21 (by decide +kernel)
theorem dX11_table_121 : decode cX11_table 121 = .ok (.iastore, 1) := oc_79 (by decide +kernel)
theorem dX11_table_122 : decode cX11_table 122 = .ok (.aload 8, 2) := oc_25 (by decide +kernel)
theorem tw_309 : Cond.fieldLink RX11 101 "RingsUnder$Seas" "rain" "[I" ∈ wsL_law := sg_13 _ (List.mem_of_getElem? (i := 21) rfl)
theorem dX11_table_124 : decode cX11_table 124 = .ok (.getfield 101, 3) := oc_180 (a := 0) (b := 101) (by decide +kernel)
theorem dX11_table_127 : decode cX11_table 127 = .ok (.iload_n 1, 1) := oc_27 (by decide +kernel)
theorem dX11_table_128 : decode cX11_table 128 = .ok (.iload 6, 2) := oc_21 (by decide +kernel)
theorem dX11_table_130 : decode cX11_table 130 = .ok (.iastore, 1) := oc_79 (by decide +kernel)
theorem dX11_table_131 : decode cX11_table 131 = .ok (.iconst 1, 1) := oc_4 (by decide +kernel)
theorem dX11_table_132 : decode cX11_table 132 = .ok (.ireturn, 1) := oc_172 (by decide +kernel)
theorem dX11_table_77 : decode cX11_table 77 = .ok (.iconst 0, 1) := oc_3 (by decide +kernel)
theorem dX11_table_78 : decode cX11_table 78 = .ok (.ireturn, 1) := oc_172 (by decide +kernel)
theorem dX11_table_69 : decode cX11_table 69 = .ok (.iconst 0, 1) := oc_3 (by decide +kernel)
theorem dX11_table_7 : decode cX11_table 7 = .ok (.ifCond .eq 62, 3) := oc_153 (a := 0) (b := 62) (by decide +kernel)
theorem dX11_table_10 : decode cX11_table 10 = .ok (.iload_n 2, 1) := oc_28 (by decide +kernel)
theorem dX11_table_11 : decode cX11_table 11 = .ok (.iconst 0, 1) := oc_3 (by decide +kernel)
theorem dX11_table_12 : decode cX11_table 12 = .ok (.sipush 2000, 3) := oc_17 (a := 7) (b := 208) (by decide +kernel)
theorem dX11_table_15 : decode cX11_table 15 = .ok (.invokestatic 50, 3) := oc_184 (a := 0) (b := 50) (by decide +kernel)
theorem dX11_table_18 : decode cX11_table 18 = .ok (.ifCond .eq 51, 3) := oc_153 (a := 0) (b := 51) (by decide +kernel)
theorem dX11_table_21 : decode cX11_table 21 = .ok (.iload_n 3, 1) := oc_29 (by decide +kernel)
theorem dX11_table_22 : decode cX11_table 22 = .ok (.iload_n 2, 1) := oc_28 (by decide +kernel)
theorem dX11_table_23 : decode cX11_table 23 = .ok (.sipush 2000, 3) := oc_17 (a := 7) (b := 208) (by decide +kernel)
theorem dX11_table_26 : decode cX11_table 26 = .ok (.invokestatic 50, 3) := oc_184 (a := 0) (b := 50) (by decide +kernel)
theorem dX11_table_29 : decode cX11_table 29 = .ok (.ifCond .eq 40, 3) := oc_153 (a := 0) (b := 40) (by decide +kernel)
theorem dX11_table_32 : decode cX11_table 32 = .ok (.iload 4, 2) := oc_21 (by decide +kernel)
theorem dX11_table_34 : decode cX11_table 34 = .ok (.iconst 0, 1) := oc_3 (by decide +kernel)
theorem dX11_table_35 : decode cX11_table 35 = .ok (.bipush 40, 2) := oc_16 (a := 40) (by decide +kernel)
theorem dX11_table_37 : decode cX11_table 37 = .ok (.invokestatic 50, 3) := oc_184 (a := 0) (b := 50) (by decide +kernel)
theorem dX11_table_40 : decode cX11_table 40 = .ok (.ifCond .eq 29, 3) := oc_153 (a := 0) (b := 29) (by decide +kernel)
theorem dX11_table_43 : decode cX11_table 43 = .ok (.iload 5, 2) := oc_21 (by decide +kernel)
theorem dX11_table_45 : decode cX11_table 45 = .ok (.iconst 0, 1) := oc_3 (by decide +kernel)
theorem dX11_table_46 : decode cX11_table 46 = .ok (.bipush 50, 2) := oc_16 (a := 50) (by decide +kernel)
theorem dX11_table_48 : decode cX11_table 48 = .ok (.invokestatic 50, 3) := oc_184 (a := 0) (b := 50) (by decide +kernel)
theorem dX11_table_51 : decode cX11_table 51 = .ok (.ifCond .eq 18, 3) := oc_153 (a := 0) (b := 18) (by decide +kernel)
theorem dX11_table_54 : decode cX11_table 54 = .ok (.iload 6, 2) := oc_21 (by decide +kernel)
theorem dX11_table_56 : decode cX11_table 56 = .ok (.iconst 0, 1) := oc_3 (by decide +kernel)
theorem dX11_table_57 : decode cX11_table 57 = .ok (.bipush 100, 2) := oc_16 (a := 100) (by decide +kernel)
theorem dX11_table_59 : decode cX11_table 59 = .ok (.invokestatic 50, 3) := oc_184 (a := 0) (b := 50) (by decide +kernel)
theorem dX11_table_62 : decode cX11_table 62 = .ok (.ifCond .eq 7, 3) := oc_153 (a := 0) (b := 7) (by decide +kernel)
theorem dX11_table_65 : decode cX11_table 65 = .ok (.iconst 1, 1) := oc_4 (by decide +kernel)
theorem dX11_table_66 : decode cX11_table 66 = .ok (.goto 4, 3) := oc_167 (a := 0) (b := 4) (by decide +kernel)
theorem dX11_rules_0 : decode cX11_rules 0 = .ok (.iload_n 1, 1) := oc_27 (by decide +kernel)
theorem dX11_rules_1 : decode cX11_rules 1 = .ok (.iconst 0, 1) := oc_3 (by decide +kernel)
theorem dX11_rules_2 : decode cX11_rules 2 = .ok (.bipush 40, 2) := oc_16 (a := 40) (by decide +kernel)
theorem dX11_rules_4 : decode cX11_rules 4 = .ok (.invokestatic 50, 3) := oc_184 (a := 0) (b := 50) (by decide +kernel)
theorem dX11_rules_56 : decode cX11_rules 56 = .ok (.istore 6, 2) := oc_54 (by decide +kernel)
theorem dX11_rules_58 : decode cX11_rules 58 = .ok (.iload 6, 2) := oc_21 (by decide +kernel)
theorem dX11_rules_60 : decode cX11_rules 60 = .ok (.ifCond .ne 5, 3) := oc_154 (a := 0) (b := 5) (by decide +kernel)
theorem dX11_rules_65 : decode cX11_rules 65 = .ok (.aload_n 0, 1) := oc_42 (by decide +kernel)
theorem dX11_rules_66 : decode cX11_rules 66 = .ok (.getfield 10, 3) := oc_180 (a := 0) (b := 10) (by decide +kernel)
theorem dX11_rules_69 : decode cX11_rules 69 = .ok (.getfield 70, 3) := oc_180 (a := 0) (b := 70) (by decide +kernel)
theorem dX11_rules_72 : decode cX11_rules 72 = .ok (.astore 7, 2) := oc_58 (by decide +kernel)
theorem dX11_rules_74 : decode cX11_rules 74 = .ok (.aload 7, 2) := oc_25 (by decide +kernel)
theorem dX11_rules_76 : decode cX11_rules 76 = .ok (.iload_n 1, 1) := oc_27 (by decide +kernel)
theorem tw_318 : Cond.fieldLink RX11 104 "RingsUnder$Seas" "bear" "I" ∈ wsL_law := sg_14 _ (List.mem_of_getElem? (i := 6) rfl)
theorem dX11_rules_77 : decode cX11_rules 77 = .ok (.putfield 104, 3) := oc_181 (a := 0) (b := 104) (by decide +kernel)
theorem dX11_rules_80 : decode cX11_rules 80 = .ok (.aload 7, 2) := oc_25 (by decide +kernel)
theorem dX11_rules_82 : decode cX11_rules 82 = .ok (.iload_n 2, 1) := oc_28 (by decide +kernel)
theorem tw_319 : Cond.fieldLink RX11 107 "RingsUnder$Seas" "grow" "I" ∈ wsL_law := sg_14 _ (List.mem_of_getElem? (i := 7) rfl)
theorem dX11_rules_83 : decode cX11_rules 83 = .ok (.putfield 107, 3) := oc_181 (a := 0) (b := 107) (by decide +kernel)
theorem dX11_rules_86 : decode cX11_rules 86 = .ok (.aload 7, 2) := oc_25 (by decide +kernel)
theorem dX11_rules_88 : decode cX11_rules 88 = .ok (.iload_n 3, 1) := oc_29 (by decide +kernel)
theorem tw_320 : Cond.fieldLink RX11 110 "RingsUnder$Seas" "die" "I" ∈ wsL_law := sg_14 _ (List.mem_of_getElem? (i := 8) rfl)
theorem dX11_rules_89 : decode cX11_rules 89 = .ok (.putfield 110, 3) := oc_181 (a := 0) (b := 110) (by decide +kernel)
theorem dX11_rules_92 : decode cX11_rules 92 = .ok (.aload 7, 2) := oc_25 (by decide +kernel)
theorem dX11_rules_94 : decode cX11_rules 94 = .ok (.iload 4, 2) := oc_21 (by decide +kernel)
theorem tw_321 : Cond.fieldLink RX11 113 "RingsUnder$Seas" "reach" "I" ∈ wsL_law := sg_14 _ (List.mem_of_getElem? (i := 9) rfl)
theorem dX11_rules_96 : decode cX11_rules 96 = .ok (.putfield 113, 3) := oc_181 (a := 0) (b := 113) (by decide +kernel)
theorem dX11_rules_99 : decode cX11_rules 99 = .ok (.aload 7, 2) := oc_25 (by decide +kernel)
theorem dX11_rules_101 : decode cX11_rules 101 = .ok (.iload 5, 2) := oc_21 (by decide +kernel)
theorem tw_322 : Cond.fieldLink RX11 116 "RingsUnder$Seas" "cost" "I" ∈ wsL_law := sg_14 _ (List.mem_of_getElem? (i := 10) rfl)
theorem dX11_rules_103 : decode cX11_rules 103 = .ok (.putfield 116, 3) := oc_181 (a := 0) (b := 116) (by decide +kernel)
theorem dX11_rules_106 : decode cX11_rules 106 = .ok (.iconst 1, 1) := oc_4 (by decide +kernel)
theorem dX11_rules_107 : decode cX11_rules 107 = .ok (.ireturn, 1) := oc_172 (by decide +kernel)
theorem dX11_rules_63 : decode cX11_rules 63 = .ok (.iconst 0, 1) := oc_3 (by decide +kernel)
theorem dX11_rules_64 : decode cX11_rules 64 = .ok (.ireturn, 1) := oc_172 (by decide +kernel)
theorem dX11_rules_55 : decode cX11_rules 55 = .ok (.iconst 0, 1) := oc_3 (by decide +kernel)
theorem dX11_rules_7 : decode cX11_rules 7 = .ok (.ifCond .eq 48, 3) := oc_153 (a := 0) (b := 48) (by decide +kernel)
theorem dX11_rules_10 : decode cX11_rules 10 = .ok (.iload_n 2, 1) := oc_28 (by decide +kernel)
theorem dX11_rules_11 : decode cX11_rules 11 = .ok (.iconst 0, 1) := oc_3 (by decide +kernel)
theorem dX11_rules_12 : decode cX11_rules 12 = .ok (.iconst 5, 1) := oc_8 (by decide +kernel)
theorem dX11_rules_13 : decode cX11_rules 13 = .ok (.invokestatic 50, 3) := oc_184 (a := 0) (b := 50) (by decide +kernel)
theorem dX11_rules_16 : decode cX11_rules 16 = .ok (.ifCond .eq 39, 3) := oc_153 (a := 0) (b := 39) (by decide +kernel)
theorem dX11_rules_19 : decode cX11_rules 19 = .ok (.iload_n 3, 1) := oc_29 (by decide +kernel)
theorem dX11_rules_20 : decode cX11_rules 20 = .ok (.iconst 0, 1) := oc_3 (by decide +kernel)
theorem dX11_rules_21 : decode cX11_rules 21 = .ok (.bipush 50, 2) := oc_16 (a := 50) (by decide +kernel)
theorem dX11_rules_23 : decode cX11_rules 23 = .ok (.invokestatic 50, 3) := oc_184 (a := 0) (b := 50) (by decide +kernel)
theorem dX11_rules_26 : decode cX11_rules 26 = .ok (.ifCond .eq 29, 3) := oc_153 (a := 0) (b := 29) (by decide +kernel)
theorem dX11_rules_29 : decode cX11_rules 29 = .ok (.iload 4, 2) := oc_21 (by decide +kernel)
theorem dX11_rules_31 : decode cX11_rules 31 = .ok (.iconst 1, 1) := oc_4 (by decide +kernel)
theorem dX11_rules_32 : decode cX11_rules 32 = .ok (.bipush 20, 2) := oc_16 (a := 20) (by decide +kernel)
theorem dX11_rules_34 : decode cX11_rules 34 = .ok (.invokestatic 50, 3) := oc_184 (a := 0) (b := 50) (by decide +kernel)
theorem dX11_rules_37 : decode cX11_rules 37 = .ok (.ifCond .eq 18, 3) := oc_153 (a := 0) (b := 18) (by decide +kernel)
theorem dX11_rules_40 : decode cX11_rules 40 = .ok (.iload 5, 2) := oc_21 (by decide +kernel)
theorem dX11_rules_42 : decode cX11_rules 42 = .ok (.iconst 0, 1) := oc_3 (by decide +kernel)
theorem dX11_rules_43 : decode cX11_rules 43 = .ok (.bipush 100, 2) := oc_16 (a := 100) (by decide +kernel)
theorem dX11_rules_45 : decode cX11_rules 45 = .ok (.invokestatic 50, 3) := oc_184 (a := 0) (b := 50) (by decide +kernel)
theorem dX11_rules_48 : decode cX11_rules 48 = .ok (.ifCond .eq 7, 3) := oc_153 (a := 0) (b := 7) (by decide +kernel)
theorem dX11_rules_51 : decode cX11_rules 51 = .ok (.iconst 1, 1) := oc_4 (by decide +kernel)
theorem dX11_rules_52 : decode cX11_rules 52 = .ok (.goto 4, 3) := oc_167 (a := 0) (b := 4) (by decide +kernel)
theorem dX11_isCell_0 : decode cX11_isCell 0 = .ok (.iload_n 1, 1) := oc_27 (by decide +kernel)
theorem dX11_isCell_1 : decode cX11_isCell 1 = .ok (.iconst 0, 1) := oc_3 (by decide +kernel)
theorem dX11_isCell_2 : decode cX11_isCell 2 = .ok (.aload_n 0, 1) := oc_42 (by decide +kernel)
theorem dX11_isCell_3 : decode cX11_isCell 3 = .ok (.getfield 10, 3) := oc_180 (a := 0) (b := 10) (by decide +kernel)
theorem dX11_isCell_6 : decode cX11_isCell 6 = .ok (.getfield 36, 3) := oc_180 (a := 0) (b := 36) (by decide +kernel)
theorem dX11_isCell_9 : decode cX11_isCell 9 = .ok (.getfield 57, 3) := oc_180 (a := 0) (b := 57) (by decide +kernel)
theorem dX11_isCell_12 : decode cX11_isCell 12 = .ok (.iconst 1, 1) := oc_4 (by decide +kernel)
theorem dX11_isCell_13 : decode cX11_isCell 13 = .ok (.isub, 1) := oc_100 (by decide +kernel)
theorem dX11_isCell_14 : decode cX11_isCell 14 = .ok (.invokestatic 50, 3) := oc_184 (a := 0) (b := 50) (by decide +kernel)
theorem dX11_isCell_17 : decode cX11_isCell 17 = .ok (.ireturn, 1) := oc_172 (by decide +kernel)
theorem dX11_wall_0 : decode cX11_wall 0 = .ok (.aload_n 0, 1) := oc_42 (by decide +kernel)
theorem dX11_wall_1 : decode cX11_wall 1 = .ok (.iload_n 1, 1) := oc_27 (by decide +kernel)
theorem tw_332 : Cond.methodLink RX11 119 yX11_isCell ∈ wsL_law := sg_14 _ (List.mem_of_getElem? (i := 20) rfl)
theorem tw_333 : Cond.instanceMethod yX11_isCell ∈ wsL_law := sg_14 _ (List.mem_of_getElem? (i := 21) rfl)
theorem tw_334 : Cond.selects RX11 yX11_isCell yX11_isCell ∈ wsL_law := sg_14 _ (List.mem_of_getElem? (i := 22) rfl)
theorem tw_335 : Cond.code yX11_isCell cX11_isCell 2 (some .boolean) ∈ wsL_law := sg_14 _ (List.mem_of_getElem? (i := 23) rfl)
theorem dX11_wall_2 : decode cX11_wall 2 = .ok (.invokevirtual 119, 3) := oc_182 (a := 0) (b := 119) (by decide +kernel)
theorem dX11_wall_19 : decode cX11_wall 19 = .ok (.iconst 0, 1) := oc_3 (by decide +kernel)
theorem dX11_wall_20 : decode cX11_wall 20 = .ok (.ireturn, 1) := oc_172 (by decide +kernel)
theorem dX11_wall_5 : decode cX11_wall 5 = .ok (.ifCond .eq 14, 3) := oc_153 (a := 0) (b := 14) (by decide +kernel)
theorem dX11_wall_8 : decode cX11_wall 8 = .ok (.iload_n 2, 1) := oc_28 (by decide +kernel)
theorem dX11_wall_9 : decode cX11_wall 9 = .ok (.iconst 0, 1) := oc_3 (by decide +kernel)
theorem dX11_wall_10 : decode cX11_wall 10 = .ok (.sipush 1000, 3) := oc_17 (a := 3) (b := 232) (by decide +kernel)
theorem dX11_wall_13 : decode cX11_wall 13 = .ok (.invokestatic 50, 3) := oc_184 (a := 0) (b := 50) (by decide +kernel)
theorem dX11_wall_16 : decode cX11_wall 16 = .ok (.ifCond .ne 5, 3) := oc_154 (a := 0) (b := 5) (by decide +kernel)
theorem dX11_wall_21 : decode cX11_wall 21 = .ok (.aload_n 0, 1) := oc_42 (by decide +kernel)
theorem dX11_wall_22 : decode cX11_wall 22 = .ok (.getfield 10, 3) := oc_180 (a := 0) (b := 10) (by decide +kernel)
theorem dX11_wall_25 : decode cX11_wall 25 = .ok (.getfield 36, 3) := oc_180 (a := 0) (b := 36) (by decide +kernel)
theorem tw_331 : Cond.fieldLink RX11 122 "RingsUnder$Land" "wall" "[I" ∈ wsL_law := sg_14 _ (List.mem_of_getElem? (i := 19) rfl)
theorem dX11_wall_28 : decode cX11_wall 28 = .ok (.getfield 122, 3) := oc_180 (a := 0) (b := 122) (by decide +kernel)
theorem dX11_wall_31 : decode cX11_wall 31 = .ok (.iload_n 1, 1) := oc_27 (by decide +kernel)
theorem dX11_wall_32 : decode cX11_wall 32 = .ok (.iload_n 2, 1) := oc_28 (by decide +kernel)
theorem dX11_wall_33 : decode cX11_wall 33 = .ok (.iastore, 1) := oc_79 (by decide +kernel)
theorem dX11_wall_34 : decode cX11_wall 34 = .ok (.iconst 1, 1) := oc_4 (by decide +kernel)
theorem dX11_wall_35 : decode cX11_wall 35 = .ok (.ireturn, 1) := oc_172 (by decide +kernel)
theorem dX11_well_0 : decode cX11_well 0 = .ok (.aload_n 0, 1) := oc_42 (by decide +kernel)
theorem dX11_well_1 : decode cX11_well 1 = .ok (.iload_n 1, 1) := oc_27 (by decide +kernel)
theorem dX11_well_2 : decode cX11_well 2 = .ok (.invokevirtual 119, 3) := oc_182 (a := 0) (b := 119) (by decide +kernel)
theorem dX11_well_45 : decode cX11_well 45 = .ok (.istore 5, 2) := oc_54 (by decide +kernel)
theorem dX11_well_47 : decode cX11_well 47 = .ok (.iload 5, 2) := oc_21 (by decide +kernel)
theorem dX11_well_69 : decode cX11_well 69 = .ok (.iconst 0, 1) := oc_3 (by decide +kernel)
theorem dX11_well_70 : decode cX11_well 70 = .ok (.ireturn, 1) := oc_172 (by decide +kernel)
theorem dX11_well_49 : decode cX11_well 49 = .ok (.ifCond .eq 20, 3) := oc_153 (a := 0) (b := 20) (by decide +kernel)
theorem dX11_well_52 : decode cX11_well 52 = .ok (.aload_n 0, 1) := oc_42 (by decide +kernel)
theorem dX11_well_53 : decode cX11_well 53 = .ok (.getfield 10, 3) := oc_180 (a := 0) (b := 10) (by decide +kernel)
theorem dX11_well_56 : decode cX11_well 56 = .ok (.getfield 36, 3) := oc_180 (a := 0) (b := 36) (by decide +kernel)
theorem tw_348 : Cond.fieldLink RX11 125 "RingsUnder$Land" "wells" "LRingsUnder$Wells;" ∈ wsL_law := sg_15 _ (List.mem_of_getElem? (i := 12) rfl)
theorem dX11_well_59 : decode cX11_well 59 = .ok (.getfield 125, 3) := oc_180 (a := 0) (b := 125) (by decide +kernel)
theorem dX11_well_62 : decode cX11_well 62 = .ok (.iload_n 1, 1) := oc_27 (by decide +kernel)
theorem tw_349 : Cond.methodLink RX11 129 yX9_isAt ∈ wsL_law := sg_15 _ (List.mem_of_getElem? (i := 13) rfl)
theorem dX11_well_63 : decode cX11_well 63 = .ok (.invokevirtual 129, 3) := oc_182 (a := 0) (b := 129) (by decide +kernel)
theorem dX11_well_66 : decode cX11_well 66 = .ok (.ifCond .eq 5, 3) := oc_153 (a := 0) (b := 5) (by decide +kernel)
theorem dX11_well_71 : decode cX11_well 71 = .ok (.aload_n 0, 1) := oc_42 (by decide +kernel)
theorem dX11_well_72 : decode cX11_well 72 = .ok (.getfield 10, 3) := oc_180 (a := 0) (b := 10) (by decide +kernel)
theorem dX11_well_75 : decode cX11_well 75 = .ok (.getfield 36, 3) := oc_180 (a := 0) (b := 36) (by decide +kernel)
theorem dX11_well_78 : decode cX11_well 78 = .ok (.getfield 125, 3) := oc_180 (a := 0) (b := 125) (by decide +kernel)
theorem dX11_well_81 : decode cX11_well 81 = .ok (.iload_n 1, 1) := oc_27 (by decide +kernel)
theorem dX11_well_82 : decode cX11_well 82 = .ok (.iload_n 2, 1) := oc_28 (by decide +kernel)
theorem dX11_well_83 : decode cX11_well 83 = .ok (.iload_n 3, 1) := oc_29 (by decide +kernel)
theorem dX11_well_84 : decode cX11_well 84 = .ok (.iload 4, 2) := oc_21 (by decide +kernel)
theorem tw_353 : Cond.methodLink RX11 134 yX9_dig ∈ wsL_law := sg_15 _ (List.mem_of_getElem? (i := 17) rfl)
theorem tw_354 : Cond.instanceMethod yX9_dig ∈ wsL_law := sg_15 _ (List.mem_of_getElem? (i := 18) rfl)
theorem tw_355 : Cond.selects RX9 yX9_dig yX9_dig ∈ wsL_law := sg_15 _ (List.mem_of_getElem? (i := 19) rfl)
theorem tw_356 : Cond.code yX9_dig cX9_dig 5 none ∈ wsL_law := sg_15 _ (List.mem_of_getElem? (i := 20) rfl)
theorem dX11_well_86 : decode cX11_well 86 = .ok (.invokevirtual 134, 3) := oc_182 (a := 0) (b := 134) (by decide +kernel)
theorem dX11_well_89 : decode cX11_well 89 = .ok (.iconst 1, 1) := oc_4 (by decide +kernel)
theorem dX11_well_90 : decode cX11_well 90 = .ok (.ireturn, 1) := oc_172 (by decide +kernel)
theorem dX11_well_44 : decode cX11_well 44 = .ok (.iconst 0, 1) := oc_3 (by decide +kernel)
theorem dX11_well_5 : decode cX11_well 5 = .ok (.ifCond .eq 39, 3) := oc_153 (a := 0) (b := 39) (by decide +kernel)
theorem dX11_well_8 : decode cX11_well 8 = .ok (.iload_n 2, 1) := oc_28 (by decide +kernel)
theorem dX11_well_9 : decode cX11_well 9 = .ok (.iconst 1, 1) := oc_4 (by decide +kernel)
theorem dX11_well_10 : decode cX11_well 10 = .ok (.bipush 20, 2) := oc_16 (a := 20) (by decide +kernel)
theorem dX11_well_12 : decode cX11_well 12 = .ok (.invokestatic 50, 3) := oc_184 (a := 0) (b := 50) (by decide +kernel)
theorem dX11_well_15 : decode cX11_well 15 = .ok (.ifCond .eq 29, 3) := oc_153 (a := 0) (b := 29) (by decide +kernel)
theorem dX11_well_18 : decode cX11_well 18 = .ok (.iload_n 3, 1) := oc_29 (by decide +kernel)
theorem dX11_well_19 : decode cX11_well 19 = .ok (.iconst 0, 1) := oc_3 (by decide +kernel)
theorem dX11_well_20 : decode cX11_well 20 = .ok (.sipush 10000, 3) := oc_17 (a := 39) (b := 16) (by decide +kernel)
theorem dX11_well_23 : decode cX11_well 23 = .ok (.invokestatic 50, 3) := oc_184 (a := 0) (b := 50) (by decide +kernel)
theorem dX11_well_26 : decode cX11_well 26 = .ok (.ifCond .eq 18, 3) := oc_153 (a := 0) (b := 18) (by decide +kernel)
theorem dX11_well_29 : decode cX11_well 29 = .ok (.iload 4, 2) := oc_21 (by decide +kernel)
theorem dX11_well_31 : decode cX11_well 31 = .ok (.iconst 0, 1) := oc_3 (by decide +kernel)
theorem dX11_well_32 : decode cX11_well 32 = .ok (.bipush 100, 2) := oc_16 (a := 100) (by decide +kernel)
theorem dX11_well_34 : decode cX11_well 34 = .ok (.invokestatic 50, 3) := oc_184 (a := 0) (b := 50) (by decide +kernel)
theorem dX11_well_37 : decode cX11_well 37 = .ok (.ifCond .eq 7, 3) := oc_153 (a := 0) (b := 7) (by decide +kernel)
theorem dX11_well_40 : decode cX11_well 40 = .ok (.iconst 1, 1) := oc_4 (by decide +kernel)
theorem dX11_well_41 : decode cX11_well 41 = .ok (.goto 4, 3) := oc_167 (a := 0) (b := 4) (by decide +kernel)
set_option maxRecDepth 100000 in
def g_X11_isRise (a0 : Int32) : Int32 := (ap1 (g_X11_between a0 (0 : Int32) (2 : Int32)) fun (x_1 : Int32) => x_1)
set_option maxRecDepth 100000 in
theorem g_X11_isRise_e {a0 : Int32} : g_X11_isRise a0 = (ap1 (g_X11_between a0 (0 : Int32) (2 : Int32)) fun (x_1 : Int32) => x_1) := rfl
set_option maxHeartbeats 4000000 in
set_option maxRecDepth 100000 in
theorem s_X11_isRise (l : Launch) (D : va_G) (t : pq_T) (σ : pq_S) (I : Nat → Nat → Int32) (J : Nat → Nat → Int64) (ri : Nat → Nat → Int32) (rj : Nat → Nat → Int64) (rq : Nat → Nat → Option Nat) (sz : Nat) (tg : Nat → Nat) (hSH : SH σ tg) (hG0 : GS tg σ I ri rq) (a0 : Int32) : MetI l yX11_isRise (wa yX11_isRise cX11_isRise 1 (some .boolean)) ({ frames := 1, cells := 0, slots := 0, locals := 22 }) [.int a0] D t σ (I, J, ri, rj, rq) sz 0 0 (fun (r : Int32) (u : pq_S × pq_M) => u = (σ, I, J, ri, rj, rq) ∧ g_X11_isRise a0 = r ∧ ((r = 1 ∧ rg a0 0 2) ∨ (r = 0 ∧ True))) := by
  refine Met.ofW (cc := cX11_isRise) (maxL := 1) (ret := (some .boolean)) (by decide +kernel) rfl ?_
  intro p e s m args below meth c s₁ B hml hv
  obtain ⟨rfl, hsz, hP, hK, hD0, hN⟩ := hv
  have hx := B.exec
  have hb := B.bytes
  have hr := B.returns
  have hts := atoms_spec (ws := (wa yX11_isRise cX11_isRise 1 (some .boolean))) B.pre
  have hown : s.vm.findClass RX11 = some m.cls := findClass_of_methodNamed B.named
  have hlocks := B.notSynchronized
  subst hsz
  have hD : va_D (pq_B t σ (I, J, ri, rj, rq) s.heap.size) (pq_P t σ (I, J, ri, rj, rq)) := hD0.self
  generalize hAe : pq_B t σ (I, J, ri, rj, rq) s.heap.size = A at hD ⊢
  have hA : ∀ q : Nat, s.heap.size ≤ q → A q := fun q h => by rw [← hAe]; exact Or.inr h
  have hS : va_S A s.heap s.heap [] := va_S.rf
  have hG : GX [] tg σ I ri rj I ri rj rq := ⟨hG0, fun _ _ _ => rfl, fun _ _ _ _ _ => rfl, fun _ _ _ _ _ => rfl⟩
  have hl := lv_entry ([.int a0]) (n := 1) (Nat.le_of_ble_eq_true rfl)
  rw [lg_entry_eq]
  generalize (lg_sl ([.int a0]) ++ List.replicate (1 - (lg_sl ([.int a0])).length) Slot.unset).toArray = ls at hl ⊢
  have hl : lv_has ls 1 [(0, .int a0)] := hl
  refine q_gen (fun Q hQ => ?_)
  have go : ∀ (H : Heap) (locs : List Loc) (ls : Array Slot), va_P D vwCl (pq_P t σ (I, J, ri, rj, rq)) H → va_D A (pq_P t σ (I, J, ri, rj, rq)) → va_S A s.heap H locs → lv_has ls 1 [(0, .int a0)] → W p l e ({ frames := 1, cells := 0, slots := 0, locals := 22 } : Room) s m (List.toArray ([.int a0] : List Value)) below meth c H locs 0 0 Q (F0 m 0 ls []) := by
    intro H locs ls hP hD hS hl
    obtain ⟨F, hF0⟩ : ∃ F, F = g_X11_isRise a0 := ⟨_, rfl⟩
    have hF := hF0.trans g_X11_isRise_e
    refine lv_iload_n hx hb dX11_isRise_0 rfl (lv_at hl 0 rfl) ?_
    refine lv_iconst (v := 0) hx hb dX11_isRise_1 (by decide +kernel) ?_
    refine lv_iconst (v := 2) hx hb dX11_isRise_2 (by decide +kernel) ?_
    refine pk_i (va_runS (As := [.int a0, .int 0, .int 2]) (rest := []) ⟨hx, hb, hml, hown, hts⟩ (s_X11_between l D t σ I J ri rj rq H.size tg hSH hG.1 a0 (0 : Int32) (2 : Int32)) (va_cwS 3 hts (tw_S tw_215 tw_216 tw_2 tw_217) rfl rfl rfl cd_yX11_between_3 ⟨Nat.le_of_ble_eq_true rfl, Nat.le_of_ble_eq_true rfl⟩) ⟨pq_blind, pq_pre hK hN hP hD⟩ rfl rfl hl.1 rfl (lv_room (Nat.le_of_ble_eq_true rfl)) dX11_isRise_3 ⟨Nat.le_of_ble_eq_true rfl, Nat.le_of_ble_eq_true rfl⟩) hD hS hA (fun x_1 σ1 μ1 H locs hw_2 hP hD hS => ?_)
    obtain ⟨hu_3, hfn_6, hr_5⟩ := hw_2
    obtain ⟨hu_3a, hu_3b⟩ := Prod.mk.inj hu_3
    rw [hu_3a, hu_3b] at hP hD
    replace hF := hF.trans (ap_n hfn_6.symm)
    have h_8 : rg x_1 0 1 := by rcases hr_5 with ⟨q, -⟩ | ⟨q, -⟩ <;> rw [q] <;> exact ⟨by decide +kernel, by decide +kernel⟩
    rcases hr_5 with ⟨e_12, f_9, f_10⟩ | ⟨e_12, f_11⟩
    · refine lv_tov 1 e_12 ?_
      have h_13 : rg a0 0 2147483647 := rg_le2 f_9 (rg_k (0 : Int32) 0 rfl) (rg_full _) (by decide +kernel)
      have h_14 : rg a0 0 2 := rg_le1 f_10 h_13 (rg_k (2 : Int32) 2 rfl) (by decide +kernel)
      subst hQ
      exact W.zret (v := 1) hx hb hr (by decide +kernel) (fun t1 ht hW => ⟨⟨1, (σ, I, J, ri, rj, rq), rfl, ⟨rfl, (hF0.symm.trans (hF.trans (by rw [e_12]))), (Or.inl ⟨rfl, (rg_w h_14 (by decide +kernel))⟩)⟩, by rw [ht]; exact hP, va_K.moved hW.alike hK, hD⟩, hS.F ht⟩) hS.2.2 dX11_isRise_6
    · refine lv_tov 0 e_12 ?_
      subst hQ
      exact W.zret (v := 0) hx hb hr (by decide +kernel) (fun t1 ht hW => ⟨⟨0, (σ, I, J, ri, rj, rq), rfl, ⟨rfl, (hF0.symm.trans (hF.trans (by rw [e_12]))), (Or.inr ⟨rfl, trivial⟩)⟩, by rw [ht]; exact hP, va_K.moved hW.alike hK, hD⟩, hS.F ht⟩) hS.2.2 dX11_isRise_6
  exact go _ _ _ hP hD hS hl

set_option maxRecDepth 100000 in
def g_X11_isMonth (a0 : Int32) : Int32 := (ap1 (g_X11_between a0 (0 : Int32) (599 : Int32)) fun (x_1 : Int32) => x_1)
set_option maxRecDepth 100000 in
theorem g_X11_isMonth_e {a0 : Int32} : g_X11_isMonth a0 = (ap1 (g_X11_between a0 (0 : Int32) (599 : Int32)) fun (x_1 : Int32) => x_1) := rfl
set_option maxHeartbeats 4000000 in
set_option maxRecDepth 100000 in
theorem s_X11_isMonth (l : Launch) (D : va_G) (t : pq_T) (σ : pq_S) (I : Nat → Nat → Int32) (J : Nat → Nat → Int64) (ri : Nat → Nat → Int32) (rj : Nat → Nat → Int64) (rq : Nat → Nat → Option Nat) (sz : Nat) (tg : Nat → Nat) (hSH : SH σ tg) (hG0 : GS tg σ I ri rq) (a0 : Int32) : MetI l yX11_isMonth (wa yX11_isMonth cX11_isMonth 1 (some .boolean)) ({ frames := 1, cells := 0, slots := 0, locals := 22 }) [.int a0] D t σ (I, J, ri, rj, rq) sz 0 0 (fun (r : Int32) (u : pq_S × pq_M) => u = (σ, I, J, ri, rj, rq) ∧ g_X11_isMonth a0 = r ∧ ((r = 1 ∧ rg a0 0 599) ∨ (r = 0 ∧ True))) := by
  refine Met.ofW (cc := cX11_isMonth) (maxL := 1) (ret := (some .boolean)) (by decide +kernel) rfl ?_
  intro p e s m args below meth c s₁ B hml hv
  obtain ⟨rfl, hsz, hP, hK, hD0, hN⟩ := hv
  have hx := B.exec
  have hb := B.bytes
  have hr := B.returns
  have hts := atoms_spec (ws := (wa yX11_isMonth cX11_isMonth 1 (some .boolean))) B.pre
  have hown : s.vm.findClass RX11 = some m.cls := findClass_of_methodNamed B.named
  have hlocks := B.notSynchronized
  subst hsz
  have hD : va_D (pq_B t σ (I, J, ri, rj, rq) s.heap.size) (pq_P t σ (I, J, ri, rj, rq)) := hD0.self
  generalize hAe : pq_B t σ (I, J, ri, rj, rq) s.heap.size = A at hD ⊢
  have hA : ∀ q : Nat, s.heap.size ≤ q → A q := fun q h => by rw [← hAe]; exact Or.inr h
  have hS : va_S A s.heap s.heap [] := va_S.rf
  have hG : GX [] tg σ I ri rj I ri rj rq := ⟨hG0, fun _ _ _ => rfl, fun _ _ _ _ _ => rfl, fun _ _ _ _ _ => rfl⟩
  have hl := lv_entry ([.int a0]) (n := 1) (Nat.le_of_ble_eq_true rfl)
  rw [lg_entry_eq]
  generalize (lg_sl ([.int a0]) ++ List.replicate (1 - (lg_sl ([.int a0])).length) Slot.unset).toArray = ls at hl ⊢
  have hl : lv_has ls 1 [(0, .int a0)] := hl
  refine q_gen (fun Q hQ => ?_)
  have go : ∀ (H : Heap) (locs : List Loc) (ls : Array Slot), va_P D vwCl (pq_P t σ (I, J, ri, rj, rq)) H → va_D A (pq_P t σ (I, J, ri, rj, rq)) → va_S A s.heap H locs → lv_has ls 1 [(0, .int a0)] → W p l e ({ frames := 1, cells := 0, slots := 0, locals := 22 } : Room) s m (List.toArray ([.int a0] : List Value)) below meth c H locs 0 0 Q (F0 m 0 ls []) := by
    intro H locs ls hP hD hS hl
    obtain ⟨F, hF0⟩ : ∃ F, F = g_X11_isMonth a0 := ⟨_, rfl⟩
    have hF := hF0.trans g_X11_isMonth_e
    refine lv_iload_n hx hb dX11_isMonth_0 rfl (lv_at hl 0 rfl) ?_
    refine lv_iconst (v := 0) hx hb dX11_isMonth_1 (by decide +kernel) ?_
    refine lv_sipush (v := 599) hx hb dX11_isMonth_2 (by decide +kernel) ?_
    refine pk_i (va_runS (As := [.int a0, .int 0, .int 599]) (rest := []) ⟨hx, hb, hml, hown, hts⟩ (s_X11_between l D t σ I J ri rj rq H.size tg hSH hG.1 a0 (0 : Int32) (599 : Int32)) (va_cwS 3 hts (tw_S tw_215 tw_216 tw_2 tw_217) rfl rfl rfl cd_yX11_between_3 ⟨Nat.le_of_ble_eq_true rfl, Nat.le_of_ble_eq_true rfl⟩) ⟨pq_blind, pq_pre hK hN hP hD⟩ rfl rfl hl.1 rfl (lv_room (Nat.le_of_ble_eq_true rfl)) dX11_isMonth_5 ⟨Nat.le_of_ble_eq_true rfl, Nat.le_of_ble_eq_true rfl⟩) hD hS hA (fun x_1 σ1 μ1 H locs hw_2 hP hD hS => ?_)
    obtain ⟨hu_3, hfn_6, hr_5⟩ := hw_2
    obtain ⟨hu_3a, hu_3b⟩ := Prod.mk.inj hu_3
    rw [hu_3a, hu_3b] at hP hD
    replace hF := hF.trans (ap_n hfn_6.symm)
    have h_8 : rg x_1 0 1 := by rcases hr_5 with ⟨q, -⟩ | ⟨q, -⟩ <;> rw [q] <;> exact ⟨by decide +kernel, by decide +kernel⟩
    rcases hr_5 with ⟨e_12, f_9, f_10⟩ | ⟨e_12, f_11⟩
    · refine lv_tov 1 e_12 ?_
      have h_13 : rg a0 0 2147483647 := rg_le2 f_9 (rg_k (0 : Int32) 0 rfl) (rg_full _) (by decide +kernel)
      have h_14 : rg a0 0 599 := rg_le1 f_10 h_13 (rg_k (599 : Int32) 599 rfl) (by decide +kernel)
      subst hQ
      exact W.zret (v := 1) hx hb hr (by decide +kernel) (fun t1 ht hW => ⟨⟨1, (σ, I, J, ri, rj, rq), rfl, ⟨rfl, (hF0.symm.trans (hF.trans (by rw [e_12]))), (Or.inl ⟨rfl, (rg_w h_14 (by decide +kernel))⟩)⟩, by rw [ht]; exact hP, va_K.moved hW.alike hK, hD⟩, hS.F ht⟩) hS.2.2 dX11_isMonth_8
    · refine lv_tov 0 e_12 ?_
      subst hQ
      exact W.zret (v := 0) hx hb hr (by decide +kernel) (fun t1 ht hW => ⟨⟨0, (σ, I, J, ri, rj, rq), rfl, ⟨rfl, (hF0.symm.trans (hF.trans (by rw [e_12]))), (Or.inr ⟨rfl, trivial⟩)⟩, by rw [ht]; exact hP, va_K.moved hW.alike hK, hD⟩, hS.F ht⟩) hS.2.2 dX11_isMonth_8
  exact go _ _ _ hP hD hS hl

set_option maxRecDepth 100000 in
def g_X11_level_K32 (I : Nat → Int32) (J : Nat → Int64) (ri : Nat → Nat → Int32) (rj : Nat → Nat → Int64) (rq : Nat → Nat → Option Nat) : Int32 × vM := ((-1 : Int32), I, J, ri, rj, rq)
set_option maxRecDepth 100000 in
theorem g_X11_level_K32_e {I : Nat → Int32} {J : Nat → Int64} {ri : Nat → Nat → Int32} {rj : Nat → Nat → Int64} {rq : Nat → Nat → Option Nat} : g_X11_level_K32 I J ri rj rq  = ((-1 : Int32), I, J, ri, rj, rq) := rfl
set_option maxRecDepth 100000 in
def g_X11_level_K73 (a0 : Int32) (a1 : Int32) (I : Nat → Int32) (J : Nat → Int64) (ri : Nat → Nat → Int32) (rj : Nat → Nat → Int64) (rq : Nat → Nat → Option Nat) (x_145 : Int32) : Int32 × vM := (ap1 (I 320) fun (y_159 : Int32) => (bnI (g_X7_tell a0 a1 x_145 (y_159) I J ri rj rq) fun (x_160 : Int32) (I_162 : Nat → Int32) (_ : Nat → Int64) (ri_163 : Nat → Nat → Int32) (_ : Nat → Nat → Int64) (_ : Nat → Nat → Option Nat) => (x_160, I_162, J, ri_163, rj, rq)))
set_option maxRecDepth 100000 in
theorem g_X11_level_K73_e {a0 : Int32} {a1 : Int32} {I : Nat → Int32} {J : Nat → Int64} {ri : Nat → Nat → Int32} {rj : Nat → Nat → Int64} {rq : Nat → Nat → Option Nat} {x_145 : Int32} : g_X11_level_K73 a0 a1 I J ri rj rq x_145 = (ap1 (I 320) fun (y_159 : Int32) => (bnI (g_X7_tell a0 a1 x_145 (y_159) I J ri rj rq) fun (x_160 : Int32) (I_162 : Nat → Int32) (_ : Nat → Int64) (ri_163 : Nat → Nat → Int32) (_ : Nat → Nat → Int64) (_ : Nat → Nat → Option Nat) => (x_160, I_162, J, ri_163, rj, rq))) := rfl
set_option maxRecDepth 100000 in
def g_X11_level_K34 (a0 : Int32) (a1 : Int32) (a2 : Int32) (a3 : Int32) (I : Nat → Int32) (J : Nat → Int64) (ri : Nat → Nat → Int32) (rj : Nat → Nat → Int64) (rq : Nat → Nat → Option Nat) : Int32 × vM := (ap1 (I 224) fun (y_137 : Int32) => (if (y_137) < (200 : Int32) then (if a2 = (0 : Int32) then (g_X11_level_K73 a0 a1 I J ri rj rq (-5000 : Int32)) else (g_X11_level_K73 a0 a1 I J ri rj rq a3)) else ((-1 : Int32), I, J, ri, rj, rq)))
set_option maxRecDepth 100000 in
theorem g_X11_level_K34_e {a0 : Int32} {a1 : Int32} {a2 : Int32} {a3 : Int32} {I : Nat → Int32} {J : Nat → Int64} {ri : Nat → Nat → Int32} {rj : Nat → Nat → Int64} {rq : Nat → Nat → Option Nat} : g_X11_level_K34 a0 a1 a2 a3 I J ri rj rq  = (ap1 (I 224) fun (y_137 : Int32) => (if (y_137) < (200 : Int32) then (if a2 = (0 : Int32) then (g_X11_level_K73 a0 a1 I J ri rj rq (-5000 : Int32)) else (g_X11_level_K73 a0 a1 I J ri rj rq a3)) else ((-1 : Int32), I, J, ri, rj, rq))) := rfl
set_option maxRecDepth 100000 in
def g_X11_level (a0 : Int32) (a1 : Int32) (a2 : Int32) (a3 : Int32) (I : Nat → Int32) (J : Nat → Int64) (ri : Nat → Nat → Int32) (rj : Nat → Nat → Int64) (rq : Nat → Nat → Option Nat) : Int32 × vM := (ap1 (g_X11_isRise a0) fun (x_1 : Int32) => (if x_1 = (0 : Int32) then (g_X11_level_K32 I J ri rj rq ) else (ap1 (g_X11_isMonth a1) fun (x_77 : Int32) => (if x_77 = (0 : Int32) then (g_X11_level_K32 I J ri rj rq ) else (if a2 = (0 : Int32) then (g_X11_level_K34 a0 a1 a2 a3 I J ri rj rq ) else (ap1 (g_X11_between a3 (-1000 : Int32) (5000 : Int32)) fun (x_180 : Int32) => (if x_180 = (0 : Int32) then (g_X11_level_K32 I J ri rj rq ) else (g_X11_level_K34 a0 a1 a2 a3 I J ri rj rq ))))))))
set_option maxRecDepth 100000 in
theorem g_X11_level_e {a0 : Int32} {a1 : Int32} {a2 : Int32} {a3 : Int32} {I : Nat → Int32} {J : Nat → Int64} {ri : Nat → Nat → Int32} {rj : Nat → Nat → Int64} {rq : Nat → Nat → Option Nat} : g_X11_level a0 a1 a2 a3 I J ri rj rq = (ap1 (g_X11_isRise a0) fun (x_1 : Int32) => (if x_1 = (0 : Int32) then (g_X11_level_K32 I J ri rj rq ) else (ap1 (g_X11_isMonth a1) fun (x_77 : Int32) => (if x_77 = (0 : Int32) then (g_X11_level_K32 I J ri rj rq ) else (if a2 = (0 : Int32) then (g_X11_level_K34 a0 a1 a2 a3 I J ri rj rq ) else (ap1 (g_X11_between a3 (-1000 : Int32) (5000 : Int32)) fun (x_180 : Int32) => (if x_180 = (0 : Int32) then (g_X11_level_K32 I J ri rj rq ) else (g_X11_level_K34 a0 a1 a2 a3 I J ri rj rq )))))))) := rfl
set_option maxHeartbeats 4000000 in
set_option maxRecDepth 100000 in
theorem s_X11_level (l : Launch) (D : va_G) (t : pq_T) (σ : pq_S) (I : Nat → Nat → Int32) (J : Nat → Nat → Int64) (ri : Nat → Nat → Int32) (rj : Nat → Nat → Int64) (rq : Nat → Nat → Option Nat) (sz : Nat) (tg : Nat → Nat) (hSH : SH σ tg) (hG0 : GS tg σ I ri rq) (this : Nat) (a0 : Int32) (a1 : Int32) (a2 : Int32) (a3 : Int32) (hL_this : this ∈ σ.1) (hK_this : σ.2.1 this = 11) (h_a2 : rg a2 0 1) (this_now : Nat) (hR_this_now : σ.2.2.1 352 this = some this_now) (hL_this_now : this_now ∈ σ.1) (hK_this_now : σ.2.1 this_now = 10) : MetI l yX11_level (wa yX11_level cX11_level 5 (some .int)) ({ frames := 2, cells := 0, slots := 0, locals := 42 }) [.ref this, .int a0, .int a1, .int a2, .int a3] D t σ (I, J, ri, rj, rq) sz 0 0 (fun (r : Int32) (u : pq_S × pq_M) => ∃ I' : Nat → Nat → Int32, ∃ ri' : Nat → Nat → Int32, u = (σ, I', J, ri', rj, rq) ∧ GX [1225, 1226, 1227, 1228, 224] tg σ I ri rj I' ri' rj rq ∧ g_X11_level a0 a1 a2 a3 (vI 10 σ this_now I) (vJ 10 σ this_now J) (vR 10 σ this_now ri) (vL 10 σ this_now rj) (vQ 10 σ this_now rq) = (r, (vI 10 σ this_now I'), (vJ 10 σ this_now J), (vR 10 σ this_now ri'), (vL 10 σ this_now rj), (vQ 10 σ this_now rq)) ∧ FR 10 tg σ this_now (I, J, ri, rj, rq) (I', J, ri', rj, rq) ∧ rg r (-1) 200) := by
  refine Met.ofW (cc := cX11_level) (maxL := 5) (ret := (some .int)) (by decide +kernel) rfl ?_
  intro p e s m args below meth c s₁ B hml hv
  obtain ⟨rfl, hsz, hP, hK, hD0, hN⟩ := hv
  have hx := B.exec
  have hb := B.bytes
  have hr := B.returns
  have hts := atoms_spec (ws := (wa yX11_level cX11_level 5 (some .int))) B.pre
  have hown : s.vm.findClass RX11 = some m.cls := findClass_of_methodNamed B.named
  have hlocks := B.notSynchronized
  subst hsz
  have hD : va_D (pq_B t σ (I, J, ri, rj, rq) s.heap.size) (pq_P t σ (I, J, ri, rj, rq)) := hD0.self
  generalize hAe : pq_B t σ (I, J, ri, rj, rq) s.heap.size = A at hD ⊢
  have hA : ∀ q : Nat, s.heap.size ≤ q → A q := fun q h => by rw [← hAe]; exact Or.inr h
  have hS : va_S A s.heap s.heap [] := va_S.rf
  have hG : GX [1225, 1226, 1227, 1228, 224] tg σ I ri rj I ri rj rq := ⟨hG0, fun _ _ _ => rfl, fun _ _ _ _ _ => rfl, fun _ _ _ _ _ => rfl⟩
  have hl := lv_entry ([.ref this, .int a0, .int a1, .int a2, .int a3]) (n := 5) (Nat.le_of_ble_eq_true rfl)
  rw [lg_entry_eq]
  generalize (lg_sl ([.ref this, .int a0, .int a1, .int a2, .int a3]) ++ List.replicate (5 - (lg_sl ([.ref this, .int a0, .int a1, .int a2, .int a3])).length) Slot.unset).toArray = ls at hl ⊢
  have hl : lv_has ls 5 [(0, .ref this), (1, .int a0), (2, .int a1), (3, .int a2), (4, .int a3)] := hl
  refine q_gen (fun Q hQ => ?_)
  have go : ∀ (H : Heap) (locs : List Loc) (ls : Array Slot), va_P D vwCl (pq_P t σ (I, J, ri, rj, rq)) H → va_D A (pq_P t σ (I, J, ri, rj, rq)) → va_S A s.heap H locs → lv_has ls 5 [(0, .ref this), (1, .int a0), (2, .int a1), (3, .int a2), (4, .int a3)] → W p l e ({ frames := 2, cells := 0, slots := 0, locals := 42 } : Room) s m (List.toArray ([.ref this, .int a0, .int a1, .int a2, .int a3] : List Value)) below meth c H locs 0 0 Q (F0 m 0 ls []) := by
    intro H locs ls hP hD hS hl
    have hVT : VT 10 σ tg this_now := vt_10 hSH hL_this_now hK_this_now
    have hFr : FR 10 tg σ this_now (I, J, ri, rj, rq) (I, J, ri, rj, rq) := fr_rf
    have hO_this_now : this_now = vo σ 10 this_now := rfl
    obtain ⟨F, hF0⟩ : ∃ F, F = g_X11_level a0 a1 a2 a3 (vI 10 σ this_now I) (vJ 10 σ this_now J) (vR 10 σ this_now ri) (vL 10 σ this_now rj) (vQ 10 σ this_now rq) := ⟨_, rfl⟩
    have hF := hF0.trans g_X11_level_e
    refine lv_iload_n hx hb dX11_level_0 rfl (lv_at hl 1 rfl) ?_
    refine pk_i (va_runS (As := [.int a0]) (rest := []) ⟨hx, hb, hml, hown, hts⟩ (s_X11_isRise l D t σ I J ri rj rq H.size tg hSH hG.1 a0) (va_cwS 1 hts (tw_S tw_244 tw_245 tw_2 tw_246) rfl rfl rfl cd_yX11_isRise_1 ⟨Nat.le_of_ble_eq_true rfl, Nat.le_of_ble_eq_true rfl⟩) ⟨pq_blind, pq_pre hK hN hP hD⟩ rfl rfl hl.1 rfl (lv_room (Nat.le_of_ble_eq_true rfl)) dX11_level_1 ⟨Nat.le_of_ble_eq_true rfl, Nat.le_of_ble_eq_true rfl⟩) hD hS hA (fun x_1 σ1 μ1 H locs hw_2 hP hD hS => ?_)
    obtain ⟨hu_3, hfn_6, hr_5⟩ := hw_2
    obtain ⟨hu_3a, hu_3b⟩ := Prod.mk.inj hu_3
    rw [hu_3a, hu_3b] at hP hD
    replace hF := hF.trans (ap_n hfn_6.symm)
    have h_8 : rg x_1 0 1 := by rcases hr_5 with ⟨q, -⟩ | ⟨q, -⟩ <;> rw [q] <;> exact ⟨by decide +kernel, by decide +kernel⟩
    have K_67 : ∀  (H : Heap) (locs : List Loc) (ls : Array Slot), F = g_X11_level_K32 (vI 10 σ this_now I) (vJ 10 σ this_now J) (vR 10 σ this_now ri) (vL 10 σ this_now rj) (vQ 10 σ this_now rq)  → FR 10 tg σ this_now (I, J, ri, rj, rq) (I, J, ri, rj, rq) → GX [1225, 1226, 1227, 1228, 224] tg σ I ri rj I ri rj rq → va_P D vwCl (pq_P t σ (I, J, ri, rj, rq)) H → va_D A (pq_P t σ (I, J, ri, rj, rq)) → va_S A s.heap H locs → lv_has ls 5 [] → W p l e ({ frames := 2, cells := 0, slots := 0, locals := 42 } : Room) s m (List.toArray ([.ref this, .int a0, .int a1, .int a2, .int a3] : List Value)) below meth c H locs 0 0 Q (F0 m 32 ls []) := by
      intro H locs ls hF hFr hG hP hD hS hl
      replace hF := hF.trans g_X11_level_K32_e
      refine lv_iconst (v := (-1)) hx hb dX11_level_32 (by decide +kernel) ?_
      subst hQ
      exact W.iret (v := (-1)) hx hb hr (fun t1 ht hW => ⟨⟨(-1), (σ, I, J, ri, rj, rq), rfl, ⟨I, ri, rfl, hG, (hF0.symm.trans hF), hFr, (rg_w (rg_k (-1 : Int32) (-1) rfl) (by decide +kernel))⟩, by rw [ht]; exact hP, va_K.moved hW.alike hK, hD⟩, hS.F ht⟩) hS.2.2 dX11_level_33
    refine lv_if_eq (tgt := 32) hx hb dX11_level_4 (by decide +kernel) (fun c_68 => ?_) (fun c_68 => ?_)
    · replace hF := hF.trans (if_pos c_68)
      have f_73 := (hr_5.resolve_left (fun q => absurd (q.1.symm.trans c_68) (by decide +kernel))).2
      have h_74 : rg x_1 0 0 := rg_and h_8 (rg_of_eq c_68 (rg_k (0 : Int32) 0 rfl)) (by decide +kernel)
      exact K_67 _ _ _ hF hFr hG hP hD hS (lv_sub hl [] rfl)
    · replace hF := hF.trans (if_neg c_68)
      have f_75 := (hr_5.resolve_right (fun q => c_68 q.1)).2
      have h_76 : rg x_1 1 1 := rg_ne c_68 h_8 0 rfl (by decide +kernel)
      refine lv_iload_n hx hb dX11_level_7 rfl (lv_at hl 2 rfl) ?_
      refine pk_i (va_runS (As := [.int a1]) (rest := []) ⟨hx, hb, hml, hown, hts⟩ (s_X11_isMonth l D t σ I J ri rj rq H.size tg hSH hG.1 a1) (va_cwS 1 hts (tw_S tw_247 tw_248 tw_2 tw_249) rfl rfl rfl cd_yX11_isMonth_1 ⟨Nat.le_of_ble_eq_true rfl, Nat.le_of_ble_eq_true rfl⟩) ⟨pq_blind, pq_pre hK hN hP hD⟩ rfl rfl hl.1 rfl (lv_room (Nat.le_of_ble_eq_true rfl)) dX11_level_8 ⟨Nat.le_of_ble_eq_true rfl, Nat.le_of_ble_eq_true rfl⟩) hD hS hA (fun x_77 σ1 μ1 H locs hw_78 hP hD hS => ?_)
      obtain ⟨hu_79, hfn_82, hr_81⟩ := hw_78
      obtain ⟨hu_79a, hu_79b⟩ := Prod.mk.inj hu_79
      rw [hu_79a, hu_79b] at hP hD
      replace hF := hF.trans (ap_n hfn_82.symm)
      have h_84 : rg x_77 0 1 := by rcases hr_81 with ⟨q, -⟩ | ⟨q, -⟩ <;> rw [q] <;> exact ⟨by decide +kernel, by decide +kernel⟩
      refine lv_if_eq (tgt := 32) hx hb dX11_level_11 (by decide +kernel) (fun c_85 => ?_) (fun c_85 => ?_)
      · replace hF := hF.trans (if_pos c_85)
        have f_90 := (hr_81.resolve_left (fun q => absurd (q.1.symm.trans c_85) (by decide +kernel))).2
        have h_91 : rg x_77 0 0 := rg_and h_84 (rg_of_eq c_85 (rg_k (0 : Int32) 0 rfl)) (by decide +kernel)
        exact K_67 _ _ _ hF hFr hG hP hD hS (lv_sub hl [] rfl)
      · replace hF := hF.trans (if_neg c_85)
        have f_92 := (hr_81.resolve_right (fun q => c_85 q.1)).2
        have h_93 : rg x_77 1 1 := rg_ne c_85 h_84 0 rfl (by decide +kernel)
        refine lv_iload_n hx hb dX11_level_14 rfl (lv_at hl 3 rfl) ?_
        have K_134 : ∀  (H : Heap) (locs : List Loc) (ls : Array Slot), F = g_X11_level_K34 a0 a1 a2 a3 (vI 10 σ this_now I) (vJ 10 σ this_now J) (vR 10 σ this_now ri) (vL 10 σ this_now rj) (vQ 10 σ this_now rq)  → FR 10 tg σ this_now (I, J, ri, rj, rq) (I, J, ri, rj, rq) → GX [1225, 1226, 1227, 1228, 224] tg σ I ri rj I ri rj rq → va_P D vwCl (pq_P t σ (I, J, ri, rj, rq)) H → va_D A (pq_P t σ (I, J, ri, rj, rq)) → va_S A s.heap H locs → lv_has ls 5 [(0, .ref this), (1, .int a0), (2, .int a1), (3, .int a2), (4, .int a3)] → W p l e ({ frames := 2, cells := 0, slots := 0, locals := 42 } : Room) s m (List.toArray ([.ref this, .int a0, .int a1, .int a2, .int a3] : List Value)) below meth c H locs 0 0 Q (F0 m 34 ls []) := by
          intro H locs ls hF hFr hG hP hD hS hl
          replace hF := hF.trans g_X11_level_K34_e
          refine lv_aload_n hx hb dX11_level_34 rfl (lv_at hl 0 rfl) ?_
          refine pg_f (v := .ref this_now) (C := RX11) (T := TX11) (N := 5) hx hb hts (tw_i inlX11) hown hK hP hL_this hK_this (by decide +kernel) rfl 0 (by decide +kernel) (hts _ (tw_c tw_16)) (pq_hv rfl hR_this_now) dX11_level_35 ?_
          obtain ⟨w_135, hR_w_135, hL_w_135, hK_w_135⟩ := sh_o hSH 326 (ci := 10) (kd := 7) rfl hL_this_now hK_this_now
          have hO_w_135 : w_135 = vo σ 7 this_now := vo_k (c := 10) hO_this_now hR_w_135
          refine pg_f (v := .ref w_135) (C := RX10) (T := TX10) (N := 13) hx hb hts (tw_i inlX10) hown hK hP hL_this_now hK_this_now (by decide +kernel) rfl 6 (by decide +kernel) (hts _ (tw_c tw_242)) (pq_hv rfl hR_w_135) dX11_level_38 ?_
          refine pg_f (v := .int (I 224 w_135)) (C := RX7) (T := TX7) (N := 15) hx hb hts (tw_i inlX7) hown hK hP hL_w_135 hK_w_135 (by decide +kernel) rfl 0 (by decide +kernel) (hts _ (tw_c tw_243)) rfl dX11_level_41 ?_
          have h_136 : rg (I 224 w_135) 0 200 := GX.rI hG 224 rfl
          replace hF := hF.trans (ap_n (vI_e (f := 224) hO_w_135 (by decide +kernel)))
          refine lv_sipush (v := 200) hx hb dX11_level_44 (by decide +kernel) ?_
          refine lv_icmp_lt (tgt := 52) hx hb dX11_level_47 (by decide +kernel) (fun c_138 => ?_) (fun c_138 => ?_)
          · replace hF := hF.trans (if_pos c_138)
            have h_141 : rg (I 224 w_135) 0 199 := rg_lt1 c_138 h_136 (rg_k (200 : Int32) 200 rfl) (by decide +kernel)
            refine lv_aload_n hx hb dX11_level_52 rfl (lv_at hl 0 rfl) ?_
            refine pg_f (v := .ref this_now) (C := RX11) (T := TX11) (N := 5) hx hb hts (tw_i inlX11) hown hK hP hL_this hK_this (by decide +kernel) rfl 0 (by decide +kernel) (hts _ (tw_c tw_16)) (pq_hv rfl hR_this_now) dX11_level_53 ?_
            refine pg_f (v := .ref w_135) (C := RX10) (T := TX10) (N := 13) hx hb hts (tw_i inlX10) hown hK hP hL_this_now hK_this_now (by decide +kernel) rfl 6 (by decide +kernel) (hts _ (tw_c tw_242)) (pq_hv rfl hR_w_135) dX11_level_56 ?_
            refine lv_iload_n hx hb dX11_level_59 rfl (lv_at hl 1 rfl) ?_
            refine lv_iload_n hx hb dX11_level_60 rfl (lv_at hl 2 rfl) ?_
            refine lv_iload_n hx hb dX11_level_61 rfl (lv_at hl 3 rfl) ?_
            have K_157 : ∀  (x_145 : Int32) (H : Heap) (locs : List Loc) (ls : Array Slot), F = g_X11_level_K73 a0 a1 (vI 10 σ this_now I) (vJ 10 σ this_now J) (vR 10 σ this_now ri) (vL 10 σ this_now rj) (vQ 10 σ this_now rq) x_145 → FR 10 tg σ this_now (I, J, ri, rj, rq) (I, J, ri, rj, rq) → GX [1225, 1226, 1227, 1228, 224] tg σ I ri rj I ri rj rq → va_P D vwCl (pq_P t σ (I, J, ri, rj, rq)) H → va_D A (pq_P t σ (I, J, ri, rj, rq)) → va_S A s.heap H locs → lv_has ls 5 [(0, .ref this)] → W p l e ({ frames := 2, cells := 0, slots := 0, locals := 42 } : Room) s m (List.toArray ([.ref this, .int a0, .int a1, .int a2, .int a3] : List Value)) below meth c H locs 0 0 Q (F0 m 73 ls [.int x_145, .int a1, .int a0, .ref w_135]) := by
              intro x_145 H locs ls hF hFr hG hP hD hS hl
              replace hF := hF.trans g_X11_level_K73_e
              refine lv_aload_n hx hb dX11_level_73 rfl (lv_at hl 0 rfl) ?_
              refine pg_f (v := .ref this_now) (C := RX11) (T := TX11) (N := 5) hx hb hts (tw_i inlX11) hown hK hP hL_this hK_this (by decide +kernel) rfl 0 (by decide +kernel) (hts _ (tw_c tw_16)) (pq_hv rfl hR_this_now) dX11_level_74 ?_
              refine pg_f (v := .int (I 320 this_now)) (C := RX10) (T := TX10) (N := 13) hx hb hts (tw_i inlX10) hown hK hP hL_this_now hK_this_now (by decide +kernel) rfl 0 (by decide +kernel) (hts _ (tw_c tw_209)) rfl dX11_level_77 ?_
              have h_158 : rg (I 320 this_now) 0 600 := GX.rI hG 320 rfl
              replace hF := hF.trans (ap_n (vI_e (f := 320) hO_this_now (by decide +kernel)))
              refine pk_i (va_runV (As := [.int a0, .int a1, .int x_145, .int (I 320 this_now)]) (rest := []) ⟨hx, hb, hml, hown, hts⟩ (s_X7_tell l D t σ I J ri rj rq H.size tg hSH hG.1 w_135 a0 a1 x_145 (I 320 this_now) hL_w_135 hK_w_135 this_now hL_this_now hK_this_now hO_w_135) (cwV 4 hts (tw_V tw_250 tw_251 tw_252 tw_37 tw_253) rfl rfl rfl cv_yX7_tell_4 ⟨Nat.le_of_ble_eq_true rfl, Nat.le_of_ble_eq_true rfl⟩) ⟨pq_blind, pq_recv hK hP hL_w_135 hK_w_135 (by decide +kernel) rfl, pq_pre hK hN hP hD⟩ rfl rfl hl.1 rfl (lv_room (Nat.le_of_ble_eq_true rfl)) dX11_level_80 ⟨Nat.le_of_ble_eq_true rfl, Nat.le_of_ble_eq_true rfl⟩) hD hS hA (fun x_160 σ1 μ1 H locs hw_161 hP hD hS => ?_)
              obtain ⟨I_162, ri_163, hu_164, hg_165, hfn_167, hfr_168, hr_166⟩ := hw_161
              obtain ⟨hu_164a, hu_164b⟩ := Prod.mk.inj hu_164
              rw [hu_164a, hu_164b] at hP hD
              replace hF := hF.trans (bn_n hfn_167)
              replace hFr := fr_tr hFr hfr_168
              have hG := GX.tr hG hg_165 (by decide +kernel)
              subst hQ
              exact W.iret (v := x_160) hx hb hr (fun t1 ht hW => ⟨⟨x_160, (σ, I_162, J, ri_163, rj, rq), rfl, ⟨I_162, ri_163, rfl, hG, (hF0.symm.trans hF), hFr, (rg_w hr_166 (by decide +kernel))⟩, by rw [ht]; exact hP, va_K.moved hW.alike hK, hD⟩, hS.F ht⟩) hS.2.2 dX11_level_83
            refine lv_if_eq (tgt := 70) hx hb dX11_level_62 (by decide +kernel) (fun c_169 => ?_) (fun c_169 => ?_)
            · replace hF := hF.trans (if_pos c_169)
              have h_172 : rg a2 0 0 := rg_and h_a2 (rg_of_eq c_169 (rg_k (0 : Int32) 0 rfl)) (by decide +kernel)
              refine lv_sipush (v := (-5000)) hx hb dX11_level_70 (by decide +kernel) ?_
              exact K_157 (-5000 : Int32) _ _ _ hF hFr hG hP hD hS (lv_sub hl [0] rfl)
            · replace hF := hF.trans (if_neg c_169)
              have h_173 : rg a2 1 1 := rg_ne c_169 h_a2 0 rfl (by decide +kernel)
              refine lv_iload hx hb dX11_level_65 (lv_at hl 4 rfl) ?_
              refine lv_goto (tgt := 73) hx hb dX11_level_67 (by decide +kernel) ?_
              exact K_157 a3 _ _ _ hF hFr hG hP hD hS (lv_sub hl [0] rfl)
          · replace hF := hF.trans (if_neg c_138)
            have h_174 : rg (I 224 w_135) 200 200 := rg_le2 (nlt c_138) (rg_k (200 : Int32) 200 rfl) h_136 (by decide +kernel)
            refine lv_iconst (v := (-1)) hx hb dX11_level_50 (by decide +kernel) ?_
            subst hQ
            exact W.iret (v := (-1)) hx hb hr (fun t1 ht hW => ⟨⟨(-1), (σ, I, J, ri, rj, rq), rfl, ⟨I, ri, rfl, hG, (hF0.symm.trans hF), hFr, (rg_w (rg_k (-1 : Int32) (-1) rfl) (by decide +kernel))⟩, by rw [ht]; exact hP, va_K.moved hW.alike hK, hD⟩, hS.F ht⟩) hS.2.2 dX11_level_51
        refine lv_if_eq (tgt := 34) hx hb dX11_level_15 (by decide +kernel) (fun c_175 => ?_) (fun c_175 => ?_)
        · replace hF := hF.trans (if_pos c_175)
          have h_178 : rg a2 0 0 := rg_and h_a2 (rg_of_eq c_175 (rg_k (0 : Int32) 0 rfl)) (by decide +kernel)
          exact K_134 _ _ _ hF hFr hG hP hD hS (lv_sub hl [0, 1, 2, 3, 4] rfl)
        · replace hF := hF.trans (if_neg c_175)
          have h_179 : rg a2 1 1 := rg_ne c_175 h_a2 0 rfl (by decide +kernel)
          refine lv_iload hx hb dX11_level_18 (lv_at hl 4 rfl) ?_
          refine lv_sipush (v := (-1000)) hx hb dX11_level_20 (by decide +kernel) ?_
          refine lv_sipush (v := 5000) hx hb dX11_level_23 (by decide +kernel) ?_
          refine pk_i (va_runS (As := [.int a3, .int (-1000), .int 5000]) (rest := []) ⟨hx, hb, hml, hown, hts⟩ (s_X11_between l D t σ I J ri rj rq H.size tg hSH hG.1 a3 (-1000 : Int32) (5000 : Int32)) (va_cwS 3 hts (tw_S tw_215 tw_216 tw_2 tw_217) rfl rfl rfl cd_yX11_between_3 ⟨Nat.le_of_ble_eq_true rfl, Nat.le_of_ble_eq_true rfl⟩) ⟨pq_blind, pq_pre hK hN hP hD⟩ rfl rfl hl.1 rfl (lv_room (Nat.le_of_ble_eq_true rfl)) dX11_level_26 ⟨Nat.le_of_ble_eq_true rfl, Nat.le_of_ble_eq_true rfl⟩) hD hS hA (fun x_180 σ1 μ1 H locs hw_181 hP hD hS => ?_)
          obtain ⟨hu_182, hfn_185, hr_184⟩ := hw_181
          obtain ⟨hu_182a, hu_182b⟩ := Prod.mk.inj hu_182
          rw [hu_182a, hu_182b] at hP hD
          replace hF := hF.trans (ap_n hfn_185.symm)
          have h_187 : rg x_180 0 1 := by rcases hr_184 with ⟨q, -⟩ | ⟨q, -⟩ <;> rw [q] <;> exact ⟨by decide +kernel, by decide +kernel⟩
          refine lv_if_ne (tgt := 34) hx hb dX11_level_29 (by decide +kernel) (fun c_188 => ?_) (fun c_188 => ?_)
          · replace hF := hF.trans (if_neg c_188)
            obtain ⟨f_196, f_197⟩ := (hr_184.resolve_right (fun q => c_188 q.1)).2
            have h_198 : rg a3 (-1000) 2147483647 := rg_le2 f_196 (rg_k (-1000 : Int32) (-1000) rfl) (rg_full _) (by decide +kernel)
            have h_199 : rg a3 (-1000) 5000 := rg_le1 f_197 h_198 (rg_k (5000 : Int32) 5000 rfl) (by decide +kernel)
            have h_200 : rg x_180 1 1 := rg_ne c_188 h_187 0 rfl (by decide +kernel)
            exact K_134 _ _ _ hF hFr hG hP hD hS (lv_sub hl [0, 1, 2, 3, 4] rfl)
          · replace hF := hF.trans (if_pos c_188)
            have f_201 := (hr_184.resolve_left (fun q => absurd (q.1.symm.trans c_188) (by decide +kernel))).2
            have h_202 : rg x_180 0 0 := rg_and h_187 (rg_of_eq c_188 (rg_k (0 : Int32) 0 rfl)) (by decide +kernel)
            exact K_67 _ _ _ hF hFr hG hP hD hS (lv_sub hl [] rfl)
  exact go _ _ _ hP hD hS hl

set_option maxRecDepth 100000 in
def g_X11_levelOf_K25 (I : Nat → Int32) (J : Nat → Int64) (ri : Nat → Nat → Int32) (rj : Nat → Nat → Int64) (rq : Nat → Nat → Option Nat) : Int32 × vM := ((-1000000 : Int32), I, J, ri, rj, rq)
set_option maxRecDepth 100000 in
theorem g_X11_levelOf_K25_e {I : Nat → Int32} {J : Nat → Int64} {ri : Nat → Nat → Int32} {rj : Nat → Nat → Int64} {rq : Nat → Nat → Option Nat} : g_X11_levelOf_K25 I J ri rj rq  = ((-1000000 : Int32), I, J, ri, rj, rq) := rfl
set_option maxRecDepth 100000 in
def g_X11_levelOf (a0 : Int32) (a1 : Int32) (a2 : Int32) (I : Nat → Int32) (J : Nat → Int64) (ri : Nat → Nat → Int32) (rj : Nat → Nat → Int64) (rq : Nat → Nat → Option Nat) : Int32 × vM := (ap1 (g_X11_isRise a0) fun (x_1 : Int32) => (if x_1 = (0 : Int32) then (g_X11_levelOf_K25 I J ri rj rq ) else (ap1 (g_X11_isMonth a1) fun (x_61 : Int32) => (if x_61 = (0 : Int32) then (g_X11_levelOf_K25 I J ri rj rq ) else (ap1 (g_X11_between a2 (0 : Int32) (600 : Int32)) fun (x_78 : Int32) => (if x_78 = (0 : Int32) then (g_X11_levelOf_K25 I J ri rj rq ) else (bnI (g_X7_known a0 a1 a2 I J ri rj rq) fun (x_100 : Int32) (_ : Nat → Int32) (_ : Nat → Int64) (_ : Nat → Nat → Int32) (_ : Nat → Nat → Int64) (_ : Nat → Nat → Option Nat) => (x_100, I, J, ri, rj, rq))))))))
set_option maxRecDepth 100000 in
theorem g_X11_levelOf_e {a0 : Int32} {a1 : Int32} {a2 : Int32} {I : Nat → Int32} {J : Nat → Int64} {ri : Nat → Nat → Int32} {rj : Nat → Nat → Int64} {rq : Nat → Nat → Option Nat} : g_X11_levelOf a0 a1 a2 I J ri rj rq = (ap1 (g_X11_isRise a0) fun (x_1 : Int32) => (if x_1 = (0 : Int32) then (g_X11_levelOf_K25 I J ri rj rq ) else (ap1 (g_X11_isMonth a1) fun (x_61 : Int32) => (if x_61 = (0 : Int32) then (g_X11_levelOf_K25 I J ri rj rq ) else (ap1 (g_X11_between a2 (0 : Int32) (600 : Int32)) fun (x_78 : Int32) => (if x_78 = (0 : Int32) then (g_X11_levelOf_K25 I J ri rj rq ) else (bnI (g_X7_known a0 a1 a2 I J ri rj rq) fun (x_100 : Int32) (_ : Nat → Int32) (_ : Nat → Int64) (_ : Nat → Nat → Int32) (_ : Nat → Nat → Int64) (_ : Nat → Nat → Option Nat) => (x_100, I, J, ri, rj, rq)))))))) := rfl
set_option maxHeartbeats 4000000 in
set_option maxRecDepth 100000 in
theorem s_X11_levelOf (l : Launch) (D : va_G) (t : pq_T) (σ : pq_S) (I : Nat → Nat → Int32) (J : Nat → Nat → Int64) (ri : Nat → Nat → Int32) (rj : Nat → Nat → Int64) (rq : Nat → Nat → Option Nat) (sz : Nat) (tg : Nat → Nat) (hSH : SH σ tg) (hG0 : GS tg σ I ri rq) (this : Nat) (a0 : Int32) (a1 : Int32) (a2 : Int32) (hL_this : this ∈ σ.1) (hK_this : σ.2.1 this = 11) (this_now : Nat) (hR_this_now : σ.2.2.1 352 this = some this_now) (hL_this_now : this_now ∈ σ.1) (hK_this_now : σ.2.1 this_now = 10) : MetI l yX11_levelOf (wa yX11_levelOf cX11_levelOf 4 (some .int)) ({ frames := 3, cells := 0, slots := 0, locals := 69 }) [.ref this, .int a0, .int a1, .int a2] D t σ (I, J, ri, rj, rq) sz 0 0 (fun (r : Int32) (u : pq_S × pq_M) => u = (σ, I, J, ri, rj, rq) ∧ g_X11_levelOf a0 a1 a2 (vI 10 σ this_now I) (vJ 10 σ this_now J) (vR 10 σ this_now ri) (vL 10 σ this_now rj) (vQ 10 σ this_now rq) = (r, (vI 10 σ this_now I), (vJ 10 σ this_now J), (vR 10 σ this_now ri), (vL 10 σ this_now rj), (vQ 10 σ this_now rq))) := by
  refine Met.ofW (cc := cX11_levelOf) (maxL := 4) (ret := (some .int)) (by decide +kernel) rfl ?_
  intro p e s m args below meth c s₁ B hml hv
  obtain ⟨rfl, hsz, hP, hK, hD0, hN⟩ := hv
  have hx := B.exec
  have hb := B.bytes
  have hr := B.returns
  have hts := atoms_spec (ws := (wa yX11_levelOf cX11_levelOf 4 (some .int))) B.pre
  have hown : s.vm.findClass RX11 = some m.cls := findClass_of_methodNamed B.named
  have hlocks := B.notSynchronized
  subst hsz
  have hD : va_D (pq_B t σ (I, J, ri, rj, rq) s.heap.size) (pq_P t σ (I, J, ri, rj, rq)) := hD0.self
  generalize hAe : pq_B t σ (I, J, ri, rj, rq) s.heap.size = A at hD ⊢
  have hA : ∀ q : Nat, s.heap.size ≤ q → A q := fun q h => by rw [← hAe]; exact Or.inr h
  have hS : va_S A s.heap s.heap [] := va_S.rf
  have hG : GX [] tg σ I ri rj I ri rj rq := ⟨hG0, fun _ _ _ => rfl, fun _ _ _ _ _ => rfl, fun _ _ _ _ _ => rfl⟩
  have hl := lv_entry ([.ref this, .int a0, .int a1, .int a2]) (n := 4) (Nat.le_of_ble_eq_true rfl)
  rw [lg_entry_eq]
  generalize (lg_sl ([.ref this, .int a0, .int a1, .int a2]) ++ List.replicate (4 - (lg_sl ([.ref this, .int a0, .int a1, .int a2])).length) Slot.unset).toArray = ls at hl ⊢
  have hl : lv_has ls 4 [(0, .ref this), (1, .int a0), (2, .int a1), (3, .int a2)] := hl
  refine q_gen (fun Q hQ => ?_)
  have go : ∀ (H : Heap) (locs : List Loc) (ls : Array Slot), va_P D vwCl (pq_P t σ (I, J, ri, rj, rq)) H → va_D A (pq_P t σ (I, J, ri, rj, rq)) → va_S A s.heap H locs → lv_has ls 4 [(0, .ref this), (1, .int a0), (2, .int a1), (3, .int a2)] → W p l e ({ frames := 3, cells := 0, slots := 0, locals := 69 } : Room) s m (List.toArray ([.ref this, .int a0, .int a1, .int a2] : List Value)) below meth c H locs 0 0 Q (F0 m 0 ls []) := by
    intro H locs ls hP hD hS hl
    have hVT : VT 10 σ tg this_now := vt_10 hSH hL_this_now hK_this_now
    have hFr : FR 10 tg σ this_now (I, J, ri, rj, rq) (I, J, ri, rj, rq) := fr_rf
    have hO_this_now : this_now = vo σ 10 this_now := rfl
    obtain ⟨F, hF0⟩ : ∃ F, F = g_X11_levelOf a0 a1 a2 (vI 10 σ this_now I) (vJ 10 σ this_now J) (vR 10 σ this_now ri) (vL 10 σ this_now rj) (vQ 10 σ this_now rq) := ⟨_, rfl⟩
    have hF := hF0.trans g_X11_levelOf_e
    refine lv_iload_n hx hb dX11_levelOf_0 rfl (lv_at hl 1 rfl) ?_
    refine pk_i (va_runS (As := [.int a0]) (rest := []) ⟨hx, hb, hml, hown, hts⟩ (s_X11_isRise l D t σ I J ri rj rq H.size tg hSH hG.1 a0) (va_cwS 1 hts (tw_S tw_244 tw_245 tw_2 tw_246) rfl rfl rfl cd_yX11_isRise_1 ⟨Nat.le_of_ble_eq_true rfl, Nat.le_of_ble_eq_true rfl⟩) ⟨pq_blind, pq_pre hK hN hP hD⟩ rfl rfl hl.1 rfl (lv_room (Nat.le_of_ble_eq_true rfl)) dX11_levelOf_1 ⟨Nat.le_of_ble_eq_true rfl, Nat.le_of_ble_eq_true rfl⟩) hD hS hA (fun x_1 σ1 μ1 H locs hw_2 hP hD hS => ?_)
    obtain ⟨hu_3, hfn_6, hr_5⟩ := hw_2
    obtain ⟨hu_3a, hu_3b⟩ := Prod.mk.inj hu_3
    rw [hu_3a, hu_3b] at hP hD
    replace hF := hF.trans (ap_n hfn_6.symm)
    have h_8 : rg x_1 0 1 := by rcases hr_5 with ⟨q, -⟩ | ⟨q, -⟩ <;> rw [q] <;> exact ⟨by decide +kernel, by decide +kernel⟩
    have K_51 : ∀  (H : Heap) (locs : List Loc) (ls : Array Slot), F = g_X11_levelOf_K25 (vI 10 σ this_now I) (vJ 10 σ this_now J) (vR 10 σ this_now ri) (vL 10 σ this_now rj) (vQ 10 σ this_now rq)  → FR 10 tg σ this_now (I, J, ri, rj, rq) (I, J, ri, rj, rq) → GX [] tg σ I ri rj I ri rj rq → va_P D vwCl (pq_P t σ (I, J, ri, rj, rq)) H → va_D A (pq_P t σ (I, J, ri, rj, rq)) → va_S A s.heap H locs → lv_has ls 4 [] → W p l e ({ frames := 3, cells := 0, slots := 0, locals := 69 } : Room) s m (List.toArray ([.ref this, .int a0, .int a1, .int a2] : List Value)) below meth c H locs 0 0 Q (F0 m 25 ls []) := by
      intro H locs ls hF hFr hG hP hD hS hl
      replace hF := hF.trans g_X11_levelOf_K25_e
      refine lv_ldc hx hb hown (hts _ (tw_c tw_269)) dX11_levelOf_25 ?_
      subst hQ
      exact W.iret (v := (-1000000)) hx hb hr (fun t1 ht hW => ⟨⟨(-1000000), (σ, I, J, ri, rj, rq), rfl, ⟨rfl, (hF0.symm.trans hF)⟩, by rw [ht]; exact hP, va_K.moved hW.alike hK, hD⟩, hS.F ht⟩) hS.2.2 dX11_levelOf_27
    refine lv_if_eq (tgt := 25) hx hb dX11_levelOf_4 (by decide +kernel) (fun c_52 => ?_) (fun c_52 => ?_)
    · replace hF := hF.trans (if_pos c_52)
      have f_57 := (hr_5.resolve_left (fun q => absurd (q.1.symm.trans c_52) (by decide +kernel))).2
      have h_58 : rg x_1 0 0 := rg_and h_8 (rg_of_eq c_52 (rg_k (0 : Int32) 0 rfl)) (by decide +kernel)
      exact K_51 _ _ _ hF hFr hG hP hD hS (lv_sub hl [] rfl)
    · replace hF := hF.trans (if_neg c_52)
      have f_59 := (hr_5.resolve_right (fun q => c_52 q.1)).2
      have h_60 : rg x_1 1 1 := rg_ne c_52 h_8 0 rfl (by decide +kernel)
      refine lv_iload_n hx hb dX11_levelOf_7 rfl (lv_at hl 2 rfl) ?_
      refine pk_i (va_runS (As := [.int a1]) (rest := []) ⟨hx, hb, hml, hown, hts⟩ (s_X11_isMonth l D t σ I J ri rj rq H.size tg hSH hG.1 a1) (va_cwS 1 hts (tw_S tw_247 tw_248 tw_2 tw_249) rfl rfl rfl cd_yX11_isMonth_1 ⟨Nat.le_of_ble_eq_true rfl, Nat.le_of_ble_eq_true rfl⟩) ⟨pq_blind, pq_pre hK hN hP hD⟩ rfl rfl hl.1 rfl (lv_room (Nat.le_of_ble_eq_true rfl)) dX11_levelOf_8 ⟨Nat.le_of_ble_eq_true rfl, Nat.le_of_ble_eq_true rfl⟩) hD hS hA (fun x_61 σ1 μ1 H locs hw_62 hP hD hS => ?_)
      obtain ⟨hu_63, hfn_66, hr_65⟩ := hw_62
      obtain ⟨hu_63a, hu_63b⟩ := Prod.mk.inj hu_63
      rw [hu_63a, hu_63b] at hP hD
      replace hF := hF.trans (ap_n hfn_66.symm)
      have h_68 : rg x_61 0 1 := by rcases hr_65 with ⟨q, -⟩ | ⟨q, -⟩ <;> rw [q] <;> exact ⟨by decide +kernel, by decide +kernel⟩
      refine lv_if_eq (tgt := 25) hx hb dX11_levelOf_11 (by decide +kernel) (fun c_69 => ?_) (fun c_69 => ?_)
      · replace hF := hF.trans (if_pos c_69)
        have f_74 := (hr_65.resolve_left (fun q => absurd (q.1.symm.trans c_69) (by decide +kernel))).2
        have h_75 : rg x_61 0 0 := rg_and h_68 (rg_of_eq c_69 (rg_k (0 : Int32) 0 rfl)) (by decide +kernel)
        exact K_51 _ _ _ hF hFr hG hP hD hS (lv_sub hl [] rfl)
      · replace hF := hF.trans (if_neg c_69)
        have f_76 := (hr_65.resolve_right (fun q => c_69 q.1)).2
        have h_77 : rg x_61 1 1 := rg_ne c_69 h_68 0 rfl (by decide +kernel)
        refine lv_iload_n hx hb dX11_levelOf_14 rfl (lv_at hl 3 rfl) ?_
        refine lv_iconst (v := 0) hx hb dX11_levelOf_15 (by decide +kernel) ?_
        refine lv_sipush (v := 600) hx hb dX11_levelOf_16 (by decide +kernel) ?_
        refine pk_i (va_runS (As := [.int a2, .int 0, .int 600]) (rest := []) ⟨hx, hb, hml, hown, hts⟩ (s_X11_between l D t σ I J ri rj rq H.size tg hSH hG.1 a2 (0 : Int32) (600 : Int32)) (va_cwS 3 hts (tw_S tw_215 tw_216 tw_2 tw_217) rfl rfl rfl cd_yX11_between_3 ⟨Nat.le_of_ble_eq_true rfl, Nat.le_of_ble_eq_true rfl⟩) ⟨pq_blind, pq_pre hK hN hP hD⟩ rfl rfl hl.1 rfl (lv_room (Nat.le_of_ble_eq_true rfl)) dX11_levelOf_19 ⟨Nat.le_of_ble_eq_true rfl, Nat.le_of_ble_eq_true rfl⟩) hD hS hA (fun x_78 σ1 μ1 H locs hw_79 hP hD hS => ?_)
        obtain ⟨hu_80, hfn_83, hr_82⟩ := hw_79
        obtain ⟨hu_80a, hu_80b⟩ := Prod.mk.inj hu_80
        rw [hu_80a, hu_80b] at hP hD
        replace hF := hF.trans (ap_n hfn_83.symm)
        have h_85 : rg x_78 0 1 := by rcases hr_82 with ⟨q, -⟩ | ⟨q, -⟩ <;> rw [q] <;> exact ⟨by decide +kernel, by decide +kernel⟩
        refine lv_if_ne (tgt := 28) hx hb dX11_levelOf_22 (by decide +kernel) (fun c_86 => ?_) (fun c_86 => ?_)
        · replace hF := hF.trans (if_neg c_86)
          obtain ⟨f_94, f_95⟩ := (hr_82.resolve_right (fun q => c_86 q.1)).2
          have h_96 : rg a2 0 2147483647 := rg_le2 f_94 (rg_k (0 : Int32) 0 rfl) (rg_full _) (by decide +kernel)
          have h_97 : rg a2 0 600 := rg_le1 f_95 h_96 (rg_k (600 : Int32) 600 rfl) (by decide +kernel)
          have h_98 : rg x_78 1 1 := rg_ne c_86 h_85 0 rfl (by decide +kernel)
          refine lv_aload_n hx hb dX11_levelOf_28 rfl (lv_at hl 0 rfl) ?_
          refine pg_f (v := .ref this_now) (C := RX11) (T := TX11) (N := 5) hx hb hts (tw_i inlX11) hown hK hP hL_this hK_this (by decide +kernel) rfl 0 (by decide +kernel) (hts _ (tw_c tw_16)) (pq_hv rfl hR_this_now) dX11_levelOf_29 ?_
          obtain ⟨w_99, hR_w_99, hL_w_99, hK_w_99⟩ := sh_o hSH 326 (ci := 10) (kd := 7) rfl hL_this_now hK_this_now
          have hO_w_99 : w_99 = vo σ 7 this_now := vo_k (c := 10) hO_this_now hR_w_99
          refine pg_f (v := .ref w_99) (C := RX10) (T := TX10) (N := 13) hx hb hts (tw_i inlX10) hown hK hP hL_this_now hK_this_now (by decide +kernel) rfl 6 (by decide +kernel) (hts _ (tw_c tw_242)) (pq_hv rfl hR_w_99) dX11_levelOf_32 ?_
          refine lv_iload_n hx hb dX11_levelOf_35 rfl (lv_at hl 1 rfl) ?_
          refine lv_iload_n hx hb dX11_levelOf_36 rfl (lv_at hl 2 rfl) ?_
          refine lv_iload_n hx hb dX11_levelOf_37 rfl (lv_at hl 3 rfl) ?_
          refine pk_i (va_runV (As := [.int a0, .int a1, .int a2]) (rest := []) ⟨hx, hb, hml, hown, hts⟩ (s_X7_known l D t σ I J ri rj rq H.size tg hSH hG.1 w_99 a0 a1 a2 hL_w_99 hK_w_99 this_now hL_this_now hK_this_now hO_w_99) (cwV 3 hts (tw_V tw_270 tw_271 tw_272 tw_37 tw_273) rfl rfl rfl cv_yX7_known_3 ⟨Nat.le_of_ble_eq_true rfl, Nat.le_of_ble_eq_true rfl⟩) ⟨pq_blind, pq_recv hK hP hL_w_99 hK_w_99 (by decide +kernel) rfl, pq_pre hK hN hP hD⟩ rfl rfl hl.1 rfl (lv_room (Nat.le_of_ble_eq_true rfl)) dX11_levelOf_38 ⟨Nat.le_of_ble_eq_true rfl, Nat.le_of_ble_eq_true rfl⟩) hD hS hA (fun x_100 σ1 μ1 H locs hw_101 hP hD hS => ?_)
          obtain ⟨hu_102, hfn_105⟩ := hw_101
          obtain ⟨hu_102a, hu_102b⟩ := Prod.mk.inj hu_102
          rw [hu_102a, hu_102b] at hP hD
          replace hF := hF.trans (bn_n hfn_105)
          subst hQ
          exact W.iret (v := x_100) hx hb hr (fun t1 ht hW => ⟨⟨x_100, (σ, I, J, ri, rj, rq), rfl, ⟨rfl, (hF0.symm.trans hF)⟩, by rw [ht]; exact hP, va_K.moved hW.alike hK, hD⟩, hS.F ht⟩) hS.2.2 dX11_levelOf_41
        · replace hF := hF.trans (if_pos c_86)
          have f_107 := (hr_82.resolve_left (fun q => absurd (q.1.symm.trans c_86) (by decide +kernel))).2
          have h_108 : rg x_78 0 0 := rg_and h_85 (rg_of_eq c_86 (rg_k (0 : Int32) 0 rfl)) (by decide +kernel)
          exact K_51 _ _ _ hF hFr hG hP hD hS (lv_sub hl [] rfl)
  exact go _ _ _ hP hD hS hl

set_option maxRecDepth 100000 in
def g_X11_table_K70 (a0 : Int32) (a1 : Int32) (a2 : Int32) (a3 : Int32) (a4 : Int32) (a5 : Int32) (I : Nat → Int32) (J : Nat → Int64) (ri : Nat → Nat → Int32) (rj : Nat → Nat → Int64) (rq : Nat → Nat → Option Nat) : Int32 × vM := (ap1 (va_up ri 229 (upd (ri 229) (a0).toNatClampNeg a1)) fun (r_135 : Nat → Nat → Int32) => (ap1 (va_up r_135 230 (upd (r_135 230) (a0).toNatClampNeg a2)) fun (r_137 : Nat → Nat → Int32) => (ap1 (va_up r_137 231 (upd (r_137 231) (a0).toNatClampNeg a3)) fun (r_139 : Nat → Nat → Int32) => (ap1 (va_up r_139 232 (upd (r_139 232) (a0).toNatClampNeg a4)) fun (r_141 : Nat → Nat → Int32) => (ap1 (va_up r_141 233 (upd (r_141 233) (a0).toNatClampNeg a5)) fun (r_143 : Nat → Nat → Int32) => ((1 : Int32), I, J, r_143, rj, rq))))))
set_option maxRecDepth 100000 in
theorem g_X11_table_K70_e {a0 : Int32} {a1 : Int32} {a2 : Int32} {a3 : Int32} {a4 : Int32} {a5 : Int32} {I : Nat → Int32} {J : Nat → Int64} {ri : Nat → Nat → Int32} {rj : Nat → Nat → Int64} {rq : Nat → Nat → Option Nat} : g_X11_table_K70 a0 a1 a2 a3 a4 a5 I J ri rj rq  = (ap1 (va_up ri 229 (upd (ri 229) (a0).toNatClampNeg a1)) fun (r_135 : Nat → Nat → Int32) => (ap1 (va_up r_135 230 (upd (r_135 230) (a0).toNatClampNeg a2)) fun (r_137 : Nat → Nat → Int32) => (ap1 (va_up r_137 231 (upd (r_137 231) (a0).toNatClampNeg a3)) fun (r_139 : Nat → Nat → Int32) => (ap1 (va_up r_139 232 (upd (r_139 232) (a0).toNatClampNeg a4)) fun (r_141 : Nat → Nat → Int32) => (ap1 (va_up r_141 233 (upd (r_141 233) (a0).toNatClampNeg a5)) fun (r_143 : Nat → Nat → Int32) => ((1 : Int32), I, J, r_143, rj, rq)))))) := rfl
set_option maxRecDepth 100000 in
def g_X11_table_K70_2 (I : Nat → Int32) (J : Nat → Int64) (ri : Nat → Nat → Int32) (rj : Nat → Nat → Int64) (rq : Nat → Nat → Option Nat) : Int32 × vM := ((0 : Int32), I, J, ri, rj, rq)
set_option maxRecDepth 100000 in
theorem g_X11_table_K70_2_e {I : Nat → Int32} {J : Nat → Int64} {ri : Nat → Nat → Int32} {rj : Nat → Nat → Int64} {rq : Nat → Nat → Option Nat} : g_X11_table_K70_2 I J ri rj rq  = ((0 : Int32), I, J, ri, rj, rq) := rfl
set_option maxRecDepth 100000 in
def g_X11_table_K69 (I : Nat → Int32) (J : Nat → Int64) (ri : Nat → Nat → Int32) (rj : Nat → Nat → Int64) (rq : Nat → Nat → Option Nat) : Int32 × vM := (g_X11_table_K70_2 I J ri rj rq )
set_option maxRecDepth 100000 in
theorem g_X11_table_K69_e {I : Nat → Int32} {J : Nat → Int64} {ri : Nat → Nat → Int32} {rj : Nat → Nat → Int64} {rq : Nat → Nat → Option Nat} : g_X11_table_K69 I J ri rj rq  = (g_X11_table_K70_2 I J ri rj rq ) := rfl
set_option maxRecDepth 100000 in
def g_X11_table (a0 : Int32) (a1 : Int32) (a2 : Int32) (a3 : Int32) (a4 : Int32) (a5 : Int32) (I : Nat → Int32) (J : Nat → Int64) (ri : Nat → Nat → Int32) (rj : Nat → Nat → Int64) (rq : Nat → Nat → Option Nat) : Int32 × vM := (ap1 (g_X11_between a0 (0 : Int32) (11 : Int32)) fun (x_1 : Int32) => (if x_1 = (0 : Int32) then (g_X11_table_K69 I J ri rj rq ) else (ap1 (g_X11_between a1 (0 : Int32) (2000 : Int32)) fun (x_162 : Int32) => (if x_162 = (0 : Int32) then (g_X11_table_K69 I J ri rj rq ) else (ap1 (g_X11_between a2 a1 (2000 : Int32)) fun (x_185 : Int32) => (if x_185 = (0 : Int32) then (g_X11_table_K69 I J ri rj rq ) else (ap1 (g_X11_between a3 (0 : Int32) (40 : Int32)) fun (x_208 : Int32) => (if x_208 = (0 : Int32) then (g_X11_table_K69 I J ri rj rq ) else (ap1 (g_X11_between a4 (0 : Int32) (50 : Int32)) fun (x_231 : Int32) => (if x_231 = (0 : Int32) then (g_X11_table_K69 I J ri rj rq ) else (ap1 (g_X11_between a5 (0 : Int32) (100 : Int32)) fun (x_254 : Int32) => (if x_254 = (0 : Int32) then (g_X11_table_K69 I J ri rj rq ) else (g_X11_table_K70 a0 a1 a2 a3 a4 a5 I J ri rj rq )))))))))))))
set_option maxRecDepth 100000 in
theorem g_X11_table_e {a0 : Int32} {a1 : Int32} {a2 : Int32} {a3 : Int32} {a4 : Int32} {a5 : Int32} {I : Nat → Int32} {J : Nat → Int64} {ri : Nat → Nat → Int32} {rj : Nat → Nat → Int64} {rq : Nat → Nat → Option Nat} : g_X11_table a0 a1 a2 a3 a4 a5 I J ri rj rq = (ap1 (g_X11_between a0 (0 : Int32) (11 : Int32)) fun (x_1 : Int32) => (if x_1 = (0 : Int32) then (g_X11_table_K69 I J ri rj rq ) else (ap1 (g_X11_between a1 (0 : Int32) (2000 : Int32)) fun (x_162 : Int32) => (if x_162 = (0 : Int32) then (g_X11_table_K69 I J ri rj rq ) else (ap1 (g_X11_between a2 a1 (2000 : Int32)) fun (x_185 : Int32) => (if x_185 = (0 : Int32) then (g_X11_table_K69 I J ri rj rq ) else (ap1 (g_X11_between a3 (0 : Int32) (40 : Int32)) fun (x_208 : Int32) => (if x_208 = (0 : Int32) then (g_X11_table_K69 I J ri rj rq ) else (ap1 (g_X11_between a4 (0 : Int32) (50 : Int32)) fun (x_231 : Int32) => (if x_231 = (0 : Int32) then (g_X11_table_K69 I J ri rj rq ) else (ap1 (g_X11_between a5 (0 : Int32) (100 : Int32)) fun (x_254 : Int32) => (if x_254 = (0 : Int32) then (g_X11_table_K69 I J ri rj rq ) else (g_X11_table_K70 a0 a1 a2 a3 a4 a5 I J ri rj rq ))))))))))))) := rfl
set_option maxHeartbeats 4000000 in
set_option maxRecDepth 100000 in
theorem s_X11_table (l : Launch) (D : va_G) (t : pq_T) (σ : pq_S) (I : Nat → Nat → Int32) (J : Nat → Nat → Int64) (ri : Nat → Nat → Int32) (rj : Nat → Nat → Int64) (rq : Nat → Nat → Option Nat) (sz : Nat) (tg : Nat → Nat) (hSH : SH σ tg) (hG0 : GS tg σ I ri rq) (this : Nat) (a0 : Int32) (a1 : Int32) (a2 : Int32) (a3 : Int32) (a4 : Int32) (a5 : Int32) (hL_this : this ∈ σ.1) (hK_this : σ.2.1 this = 11) (this_now : Nat) (hR_this_now : σ.2.2.1 352 this = some this_now) (hL_this_now : this_now ∈ σ.1) (hK_this_now : σ.2.1 this_now = 10) : MetI l yX11_table (wa yX11_table cX11_table 9 (some .boolean)) ({ frames := 1, cells := 0, slots := 0, locals := 22 }) [.ref this, .int a0, .int a1, .int a2, .int a3, .int a4, .int a5] D t σ (I, J, ri, rj, rq) sz 0 0 (fun (r : Int32) (u : pq_S × pq_M) => ∃ ri' : Nat → Nat → Int32, u = (σ, I, J, ri', rj, rq) ∧ GX [1229, 1230, 1231, 1232, 1233] tg σ I ri rj I ri' rj rq ∧ g_X11_table a0 a1 a2 a3 a4 a5 (vI 10 σ this_now I) (vJ 10 σ this_now J) (vR 10 σ this_now ri) (vL 10 σ this_now rj) (vQ 10 σ this_now rq) = (r, (vI 10 σ this_now I), (vJ 10 σ this_now J), (vR 10 σ this_now ri'), (vL 10 σ this_now rj), (vQ 10 σ this_now rq)) ∧ FR 10 tg σ this_now (I, J, ri, rj, rq) (I, J, ri', rj, rq) ∧ ((r = 1 ∧ rg a0 0 11 ∧ rg a1 0 2000 ∧ rg a2 0 2000 ∧ rg a3 0 40 ∧ rg a4 0 50 ∧ rg a5 0 100) ∨ (r = 0 ∧ True))) := by
  refine Met.ofW (cc := cX11_table) (maxL := 9) (ret := (some .boolean)) (by decide +kernel) rfl ?_
  intro p e s m args below meth c s₁ B hml hv
  obtain ⟨rfl, hsz, hP, hK, hD0, hN⟩ := hv
  have hx := B.exec
  have hb := B.bytes
  have hr := B.returns
  have hts := atoms_spec (ws := (wa yX11_table cX11_table 9 (some .boolean))) B.pre
  have hown : s.vm.findClass RX11 = some m.cls := findClass_of_methodNamed B.named
  have hlocks := B.notSynchronized
  subst hsz
  have hD : va_D (pq_B t σ (I, J, ri, rj, rq) s.heap.size) (pq_P t σ (I, J, ri, rj, rq)) := hD0.self
  generalize hAe : pq_B t σ (I, J, ri, rj, rq) s.heap.size = A at hD ⊢
  have hA : ∀ q : Nat, s.heap.size ≤ q → A q := fun q h => by rw [← hAe]; exact Or.inr h
  have hS : va_S A s.heap s.heap [] := va_S.rf
  have hG : GX [1229, 1230, 1231, 1232, 1233] tg σ I ri rj I ri rj rq := ⟨hG0, fun _ _ _ => rfl, fun _ _ _ _ _ => rfl, fun _ _ _ _ _ => rfl⟩
  have hl := lv_entry ([.ref this, .int a0, .int a1, .int a2, .int a3, .int a4, .int a5]) (n := 9) (Nat.le_of_ble_eq_true rfl)
  rw [lg_entry_eq]
  generalize (lg_sl ([.ref this, .int a0, .int a1, .int a2, .int a3, .int a4, .int a5]) ++ List.replicate (9 - (lg_sl ([.ref this, .int a0, .int a1, .int a2, .int a3, .int a4, .int a5])).length) Slot.unset).toArray = ls at hl ⊢
  have hl : lv_has ls 9 [(0, .ref this), (1, .int a0), (2, .int a1), (3, .int a2), (4, .int a3), (5, .int a4), (6, .int a5)] := hl
  refine q_gen (fun Q hQ => ?_)
  have go : ∀ (H : Heap) (locs : List Loc) (ls : Array Slot), va_P D vwCl (pq_P t σ (I, J, ri, rj, rq)) H → va_D A (pq_P t σ (I, J, ri, rj, rq)) → va_S A s.heap H locs → lv_has ls 9 [(0, .ref this), (1, .int a0), (2, .int a1), (3, .int a2), (4, .int a3), (5, .int a4), (6, .int a5)] → W p l e ({ frames := 1, cells := 0, slots := 0, locals := 22 } : Room) s m (List.toArray ([.ref this, .int a0, .int a1, .int a2, .int a3, .int a4, .int a5] : List Value)) below meth c H locs 0 0 Q (F0 m 0 ls []) := by
    intro H locs ls hP hD hS hl
    have hVT : VT 10 σ tg this_now := vt_10 hSH hL_this_now hK_this_now
    have hFr : FR 10 tg σ this_now (I, J, ri, rj, rq) (I, J, ri, rj, rq) := fr_rf
    have hO_this_now : this_now = vo σ 10 this_now := rfl
    obtain ⟨F, hF0⟩ : ∃ F, F = g_X11_table a0 a1 a2 a3 a4 a5 (vI 10 σ this_now I) (vJ 10 σ this_now J) (vR 10 σ this_now ri) (vL 10 σ this_now rj) (vQ 10 σ this_now rq) := ⟨_, rfl⟩
    have hF := hF0.trans g_X11_table_e
    refine lv_iload_n hx hb dX11_table_0 rfl (lv_at hl 1 rfl) ?_
    refine lv_iconst (v := 0) hx hb dX11_table_1 (by decide +kernel) ?_
    refine lv_bipush (v := 11) hx hb dX11_table_2 (by decide +kernel) ?_
    refine pk_i (va_runS (As := [.int a0, .int 0, .int 11]) (rest := []) ⟨hx, hb, hml, hown, hts⟩ (s_X11_between l D t σ I J ri rj rq H.size tg hSH hG.1 a0 (0 : Int32) (11 : Int32)) (va_cwS 3 hts (tw_S tw_215 tw_216 tw_2 tw_217) rfl rfl rfl cd_yX11_between_3 ⟨Nat.le_of_ble_eq_true rfl, Nat.le_of_ble_eq_true rfl⟩) ⟨pq_blind, pq_pre hK hN hP hD⟩ rfl rfl hl.1 rfl (lv_room (Nat.le_of_ble_eq_true rfl)) dX11_table_4 ⟨Nat.le_of_ble_eq_true rfl, Nat.le_of_ble_eq_true rfl⟩) hD hS hA (fun x_1 σ1 μ1 H locs hw_2 hP hD hS => ?_)
    obtain ⟨hu_3, hfn_6, hr_5⟩ := hw_2
    obtain ⟨hu_3a, hu_3b⟩ := Prod.mk.inj hu_3
    rw [hu_3a, hu_3b] at hP hD
    replace hF := hF.trans (ap_n hfn_6.symm)
    have h_8 : rg x_1 0 1 := by rcases hr_5 with ⟨q, -⟩ | ⟨q, -⟩ <;> rw [q] <;> exact ⟨by decide +kernel, by decide +kernel⟩
    have K_117 : ∀  (H : Heap) (locs : List Loc) (ls : Array Slot), rg (a0) 0 11 → rg (a1) 0 2000 → rg (a2) 0 2000 → rg (a3) 0 40 → rg (a4) 0 50 → rg (a5) 0 100 → rg (x_1) 1 1 → F = g_X11_table_K70 a0 a1 a2 a3 a4 a5 (vI 10 σ this_now I) (vJ 10 σ this_now J) (vR 10 σ this_now ri) (vL 10 σ this_now rj) (vQ 10 σ this_now rq)  → FR 10 tg σ this_now (I, J, ri, rj, rq) (I, J, ri, rj, rq) → GX [1229, 1230, 1231, 1232, 1233] tg σ I ri rj I ri rj rq → va_P D vwCl (pq_P t σ (I, J, ri, rj, rq)) H → va_D A (pq_P t σ (I, J, ri, rj, rq)) → va_S A s.heap H locs → lv_has ls 9 [(0, .ref this), (1, .int a0), (2, .int a1), (3, .int a2), (4, .int a3), (5, .int a4), (6, .int a5)] → W p l e ({ frames := 1, cells := 0, slots := 0, locals := 22 } : Room) s m (List.toArray ([.ref this, .int a0, .int a1, .int a2, .int a3, .int a4, .int a5] : List Value)) below meth c H locs 0 0 Q (F0 m 70 ls [.int 1]) := by
      intro H locs ls h_125 h_126 h_127 h_128 h_129 h_130 h_131 hF hFr hG hP hD hS hl
      replace hF := hF.trans g_X11_table_K70_e
      refine lv_istore (lv' := [(7, .int 1), (0, .ref this), (1, .int a0), (2, .int a1), (3, .int a2), (4, .int a3), (5, .int a4), (6, .int a5)]) hx hb dX11_table_70 hl (by decide +kernel) rfl (fun ls hl => ?_)
      refine lv_iload hx hb dX11_table_72 (lv_at hl 0 rfl) ?_
      refine lv_if_ne (tgt := 79) hx hb dX11_table_74 (by decide +kernel) (fun c_132 => ?_) (fun c_132 => absurd c_132 (by decide +kernel))
      refine lv_aload_n hx hb dX11_table_79 rfl (lv_at hl 1 rfl) ?_
      refine pg_f (v := .ref this_now) (C := RX11) (T := TX11) (N := 5) hx hb hts (tw_i inlX11) hown hK hP hL_this hK_this (by decide +kernel) rfl 0 (by decide +kernel) (hts _ (tw_c tw_16)) (pq_hv rfl hR_this_now) dX11_table_80 ?_
      obtain ⟨w_133, hR_w_133, hL_w_133, hK_w_133⟩ := sh_o hSH 326 (ci := 10) (kd := 7) rfl hL_this_now hK_this_now
      have hO_w_133 : w_133 = vo σ 7 this_now := vo_k (c := 10) hO_this_now hR_w_133
      refine pg_f (v := .ref w_133) (C := RX10) (T := TX10) (N := 13) hx hb hts (tw_i inlX10) hown hK hP hL_this_now hK_this_now (by decide +kernel) rfl 6 (by decide +kernel) (hts _ (tw_c tw_242)) (pq_hv rfl hR_w_133) dX11_table_83 ?_
      refine lv_astore (lv' := [(8, .ref w_133), (7, .int 1), (0, .ref this), (1, .int a0), (2, .int a1), (3, .int a2), (4, .int a3), (5, .int a4), (6, .int a5)]) hx hb dX11_table_86 hl (by decide +kernel) rfl (fun ls hl => ?_)
      refine lv_aload hx hb dX11_table_88 (lv_at hl 0 rfl) ?_
      obtain ⟨w_134, hR_w_134, hL_w_134, hK_w_134, hN_w_134, hT_w_134⟩ := sh_a hSH 229 (ci := 7) (kd := 13) (len := 12) rfl (by decide +kernel) hL_w_133 hK_w_133
      have hO_w_134 : w_134 = vrow σ 229 this_now := vo_k (c := 7) hO_w_133 hR_w_134
      refine pg_f (v := .ref w_134) (C := RX7) (T := TX7) (N := 15) hx hb hts (tw_i inlX7) hown hK hP hL_w_133 hK_w_133 (by decide +kernel) rfl 5 (by decide +kernel) (hts _ (tw_c tw_305)) (pq_hv rfl hR_w_134) dX11_table_90 ?_
      refine lv_iload_n hx hb dX11_table_93 rfl (lv_at hl 3 rfl) ?_
      refine lv_iload_n hx hb dX11_table_94 rfl (lv_at hl 4 rfl) ?_
      refine pt_i hx hb hK hP hD hS hL_w_134 hK_w_134 hN_w_134 (rg_in h_125 (by decide +kernel)) dX11_table_95 (fun r_135 H locs er_135 hP hD hS => ?_)
      replace hFr := fr_R hFr hO_w_134 (by decide +kernel) er_135
      replace hF := hF.trans (ap_n (vR_st hVT hO_w_134 (by decide +kernel) er_135))
      have hG := GX.wR hG hSH hT_w_134 rfl er_135 (rg_w h_126 (by decide +kernel)) (by decide +kernel)
      refine lv_aload hx hb dX11_table_96 (lv_at hl 0 rfl) ?_
      obtain ⟨w_136, hR_w_136, hL_w_136, hK_w_136, hN_w_136, hT_w_136⟩ := sh_a hSH 230 (ci := 7) (kd := 13) (len := 12) rfl (by decide +kernel) hL_w_133 hK_w_133
      have hO_w_136 : w_136 = vrow σ 230 this_now := vo_k (c := 7) hO_w_133 hR_w_136
      refine pg_f (v := .ref w_136) (C := RX7) (T := TX7) (N := 15) hx hb hts (tw_i inlX7) hown hK hP hL_w_133 hK_w_133 (by decide +kernel) rfl 6 (by decide +kernel) (hts _ (tw_c tw_306)) (pq_hv rfl hR_w_136) dX11_table_98 ?_
      refine lv_iload_n hx hb dX11_table_101 rfl (lv_at hl 3 rfl) ?_
      refine lv_iload_n hx hb dX11_table_102 rfl (lv_at hl 5 rfl) ?_
      refine pt_i hx hb hK hP hD hS hL_w_136 hK_w_136 hN_w_136 (rg_in h_125 (by decide +kernel)) dX11_table_103 (fun r_137 H locs er_137 hP hD hS => ?_)
      replace hFr := fr_R hFr hO_w_136 (by decide +kernel) er_137
      replace hF := hF.trans (ap_n (vR_st hVT hO_w_136 (by decide +kernel) er_137))
      have hG := GX.wR hG hSH hT_w_136 rfl er_137 (rg_w h_127 (by decide +kernel)) (by decide +kernel)
      refine lv_aload hx hb dX11_table_104 (lv_at hl 0 rfl) ?_
      obtain ⟨w_138, hR_w_138, hL_w_138, hK_w_138, hN_w_138, hT_w_138⟩ := sh_a hSH 231 (ci := 7) (kd := 13) (len := 12) rfl (by decide +kernel) hL_w_133 hK_w_133
      have hO_w_138 : w_138 = vrow σ 231 this_now := vo_k (c := 7) hO_w_133 hR_w_138
      refine pg_f (v := .ref w_138) (C := RX7) (T := TX7) (N := 15) hx hb hts (tw_i inlX7) hown hK hP hL_w_133 hK_w_133 (by decide +kernel) rfl 7 (by decide +kernel) (hts _ (tw_c tw_307)) (pq_hv rfl hR_w_138) dX11_table_106 ?_
      refine lv_iload_n hx hb dX11_table_109 rfl (lv_at hl 3 rfl) ?_
      refine lv_iload hx hb dX11_table_110 (lv_at hl 6 rfl) ?_
      refine pt_i hx hb hK hP hD hS hL_w_138 hK_w_138 hN_w_138 (rg_in h_125 (by decide +kernel)) dX11_table_112 (fun r_139 H locs er_139 hP hD hS => ?_)
      replace hFr := fr_R hFr hO_w_138 (by decide +kernel) er_139
      replace hF := hF.trans (ap_n (vR_st hVT hO_w_138 (by decide +kernel) er_139))
      have hG := GX.wR hG hSH hT_w_138 rfl er_139 (rg_w h_128 (by decide +kernel)) (by decide +kernel)
      refine lv_aload hx hb dX11_table_113 (lv_at hl 0 rfl) ?_
      obtain ⟨w_140, hR_w_140, hL_w_140, hK_w_140, hN_w_140, hT_w_140⟩ := sh_a hSH 232 (ci := 7) (kd := 13) (len := 12) rfl (by decide +kernel) hL_w_133 hK_w_133
      have hO_w_140 : w_140 = vrow σ 232 this_now := vo_k (c := 7) hO_w_133 hR_w_140
      refine pg_f (v := .ref w_140) (C := RX7) (T := TX7) (N := 15) hx hb hts (tw_i inlX7) hown hK hP hL_w_133 hK_w_133 (by decide +kernel) rfl 8 (by decide +kernel) (hts _ (tw_c tw_308)) (pq_hv rfl hR_w_140) dX11_table_115 ?_
      refine lv_iload_n hx hb dX11_table_118 rfl (lv_at hl 3 rfl) ?_
      refine lv_iload hx hb dX11_table_119 (lv_at hl 7 rfl) ?_
      refine pt_i hx hb hK hP hD hS hL_w_140 hK_w_140 hN_w_140 (rg_in h_125 (by decide +kernel)) dX11_table_121 (fun r_141 H locs er_141 hP hD hS => ?_)
      replace hFr := fr_R hFr hO_w_140 (by decide +kernel) er_141
      replace hF := hF.trans (ap_n (vR_st hVT hO_w_140 (by decide +kernel) er_141))
      have hG := GX.wR hG hSH hT_w_140 rfl er_141 (rg_w h_129 (by decide +kernel)) (by decide +kernel)
      refine lv_aload hx hb dX11_table_122 (lv_at hl 0 rfl) ?_
      obtain ⟨w_142, hR_w_142, hL_w_142, hK_w_142, hN_w_142, hT_w_142⟩ := sh_a hSH 233 (ci := 7) (kd := 13) (len := 12) rfl (by decide +kernel) hL_w_133 hK_w_133
      have hO_w_142 : w_142 = vrow σ 233 this_now := vo_k (c := 7) hO_w_133 hR_w_142
      refine pg_f (v := .ref w_142) (C := RX7) (T := TX7) (N := 15) hx hb hts (tw_i inlX7) hown hK hP hL_w_133 hK_w_133 (by decide +kernel) rfl 9 (by decide +kernel) (hts _ (tw_c tw_309)) (pq_hv rfl hR_w_142) dX11_table_124 ?_
      refine lv_iload_n hx hb dX11_table_127 rfl (lv_at hl 3 rfl) ?_
      refine lv_iload hx hb dX11_table_128 (lv_at hl 8 rfl) ?_
      refine pt_i hx hb hK hP hD hS hL_w_142 hK_w_142 hN_w_142 (rg_in h_125 (by decide +kernel)) dX11_table_130 (fun r_143 H locs er_143 hP hD hS => ?_)
      replace hFr := fr_R hFr hO_w_142 (by decide +kernel) er_143
      replace hF := hF.trans (ap_n (vR_st hVT hO_w_142 (by decide +kernel) er_143))
      have hG := GX.wR hG hSH hT_w_142 rfl er_143 (rg_w h_130 (by decide +kernel)) (by decide +kernel)
      refine lv_iconst (v := 1) hx hb dX11_table_131 (by decide +kernel) ?_
      subst hQ
      exact W.zret (v := 1) hx hb hr (by decide +kernel) (fun t1 ht hW => ⟨⟨1, (σ, I, J, r_143, rj, rq), rfl, ⟨r_143, rfl, hG, (hF0.symm.trans hF), hFr, (Or.inl ⟨rfl, (rg_w h_125 (by decide +kernel)), (rg_w h_126 (by decide +kernel)), (rg_w h_127 (by decide +kernel)), (rg_w h_128 (by decide +kernel)), (rg_w h_129 (by decide +kernel)), (rg_w h_130 (by decide +kernel))⟩)⟩, by rw [ht]; exact hP, va_K.moved hW.alike hK, hD⟩, hS.F ht⟩) hS.2.2 dX11_table_132
    have K_144 : ∀  (H : Heap) (locs : List Loc) (ls : Array Slot), F = g_X11_table_K70_2 (vI 10 σ this_now I) (vJ 10 σ this_now J) (vR 10 σ this_now ri) (vL 10 σ this_now rj) (vQ 10 σ this_now rq)  → FR 10 tg σ this_now (I, J, ri, rj, rq) (I, J, ri, rj, rq) → GX [1229, 1230, 1231, 1232, 1233] tg σ I ri rj I ri rj rq → va_P D vwCl (pq_P t σ (I, J, ri, rj, rq)) H → va_D A (pq_P t σ (I, J, ri, rj, rq)) → va_S A s.heap H locs → lv_has ls 9 [(0, .ref this), (1, .int a0), (2, .int a1), (3, .int a2), (4, .int a3), (5, .int a4), (6, .int a5)] → W p l e ({ frames := 1, cells := 0, slots := 0, locals := 22 } : Room) s m (List.toArray ([.ref this, .int a0, .int a1, .int a2, .int a3, .int a4, .int a5] : List Value)) below meth c H locs 0 0 Q (F0 m 70 ls [.int 0]) := by
      intro H locs ls hF hFr hG hP hD hS hl
      replace hF := hF.trans g_X11_table_K70_2_e
      refine lv_istore (lv' := [(7, .int 0), (0, .ref this), (1, .int a0), (2, .int a1), (3, .int a2), (4, .int a3), (5, .int a4), (6, .int a5)]) hx hb dX11_table_70 hl (by decide +kernel) rfl (fun ls hl => ?_)
      refine lv_iload hx hb dX11_table_72 (lv_at hl 0 rfl) ?_
      refine lv_if_ne (tgt := 79) hx hb dX11_table_74 (by decide +kernel) (fun c_145 => absurd c_145 (by decide +kernel)) (fun c_145 => ?_)
      refine lv_iconst (v := 0) hx hb dX11_table_77 (by decide +kernel) ?_
      subst hQ
      exact W.zret (v := 0) hx hb hr (by decide +kernel) (fun t1 ht hW => ⟨⟨0, (σ, I, J, ri, rj, rq), rfl, ⟨ri, rfl, hG, (hF0.symm.trans hF), hFr, (Or.inr ⟨rfl, trivial⟩)⟩, by rw [ht]; exact hP, va_K.moved hW.alike hK, hD⟩, hS.F ht⟩) hS.2.2 dX11_table_78
    have K_146 : ∀  (H : Heap) (locs : List Loc) (ls : Array Slot), F = g_X11_table_K69 (vI 10 σ this_now I) (vJ 10 σ this_now J) (vR 10 σ this_now ri) (vL 10 σ this_now rj) (vQ 10 σ this_now rq)  → FR 10 tg σ this_now (I, J, ri, rj, rq) (I, J, ri, rj, rq) → GX [1229, 1230, 1231, 1232, 1233] tg σ I ri rj I ri rj rq → va_P D vwCl (pq_P t σ (I, J, ri, rj, rq)) H → va_D A (pq_P t σ (I, J, ri, rj, rq)) → va_S A s.heap H locs → lv_has ls 9 [(0, .ref this), (1, .int a0), (2, .int a1), (3, .int a2), (4, .int a3), (5, .int a4), (6, .int a5)] → W p l e ({ frames := 1, cells := 0, slots := 0, locals := 22 } : Room) s m (List.toArray ([.ref this, .int a0, .int a1, .int a2, .int a3, .int a4, .int a5] : List Value)) below meth c H locs 0 0 Q (F0 m 69 ls []) := by
      intro H locs ls hF hFr hG hP hD hS hl
      replace hF := hF.trans g_X11_table_K69_e
      refine lv_iconst (v := 0) hx hb dX11_table_69 (by decide +kernel) ?_
      exact K_144 _ _ _ hF hFr hG hP hD hS (lv_sub hl [0, 1, 2, 3, 4, 5, 6] rfl)
    refine lv_if_eq (tgt := 69) hx hb dX11_table_7 (by decide +kernel) (fun c_147 => ?_) (fun c_147 => ?_)
    · replace hF := hF.trans (if_pos c_147)
      have f_155 := (hr_5.resolve_left (fun q => absurd (q.1.symm.trans c_147) (by decide +kernel))).2
      have h_156 : rg x_1 0 0 := rg_and h_8 (rg_of_eq c_147 (rg_k (0 : Int32) 0 rfl)) (by decide +kernel)
      exact K_146 _ _ _ hF hFr hG hP hD hS (lv_sub hl [0, 1, 2, 3, 4, 5, 6] rfl)
    · replace hF := hF.trans (if_neg c_147)
      obtain ⟨f_157, f_158⟩ := (hr_5.resolve_right (fun q => c_147 q.1)).2
      have h_159 : rg a0 0 2147483647 := rg_le2 f_157 (rg_k (0 : Int32) 0 rfl) (rg_full _) (by decide +kernel)
      have h_160 : rg a0 0 11 := rg_le1 f_158 h_159 (rg_k (11 : Int32) 11 rfl) (by decide +kernel)
      have h_161 : rg x_1 1 1 := rg_ne c_147 h_8 0 rfl (by decide +kernel)
      refine lv_iload_n hx hb dX11_table_10 rfl (lv_at hl 2 rfl) ?_
      refine lv_iconst (v := 0) hx hb dX11_table_11 (by decide +kernel) ?_
      refine lv_sipush (v := 2000) hx hb dX11_table_12 (by decide +kernel) ?_
      refine pk_i (va_runS (As := [.int a1, .int 0, .int 2000]) (rest := []) ⟨hx, hb, hml, hown, hts⟩ (s_X11_between l D t σ I J ri rj rq H.size tg hSH hG.1 a1 (0 : Int32) (2000 : Int32)) (va_cwS 3 hts (tw_S tw_215 tw_216 tw_2 tw_217) rfl rfl rfl cd_yX11_between_3 ⟨Nat.le_of_ble_eq_true rfl, Nat.le_of_ble_eq_true rfl⟩) ⟨pq_blind, pq_pre hK hN hP hD⟩ rfl rfl hl.1 rfl (lv_room (Nat.le_of_ble_eq_true rfl)) dX11_table_15 ⟨Nat.le_of_ble_eq_true rfl, Nat.le_of_ble_eq_true rfl⟩) hD hS hA (fun x_162 σ1 μ1 H locs hw_163 hP hD hS => ?_)
      obtain ⟨hu_164, hfn_167, hr_166⟩ := hw_163
      obtain ⟨hu_164a, hu_164b⟩ := Prod.mk.inj hu_164
      rw [hu_164a, hu_164b] at hP hD
      replace hF := hF.trans (ap_n hfn_167.symm)
      have h_169 : rg x_162 0 1 := by rcases hr_166 with ⟨q, -⟩ | ⟨q, -⟩ <;> rw [q] <;> exact ⟨by decide +kernel, by decide +kernel⟩
      refine lv_if_eq (tgt := 69) hx hb dX11_table_18 (by decide +kernel) (fun c_170 => ?_) (fun c_170 => ?_)
      · replace hF := hF.trans (if_pos c_170)
        have f_178 := (hr_166.resolve_left (fun q => absurd (q.1.symm.trans c_170) (by decide +kernel))).2
        have h_179 : rg x_162 0 0 := rg_and h_169 (rg_of_eq c_170 (rg_k (0 : Int32) 0 rfl)) (by decide +kernel)
        exact K_146 _ _ _ hF hFr hG hP hD hS (lv_sub hl [0, 1, 2, 3, 4, 5, 6] rfl)
      · replace hF := hF.trans (if_neg c_170)
        obtain ⟨f_180, f_181⟩ := (hr_166.resolve_right (fun q => c_170 q.1)).2
        have h_182 : rg a1 0 2147483647 := rg_le2 f_180 (rg_k (0 : Int32) 0 rfl) (rg_full _) (by decide +kernel)
        have h_183 : rg a1 0 2000 := rg_le1 f_181 h_182 (rg_k (2000 : Int32) 2000 rfl) (by decide +kernel)
        have h_184 : rg x_162 1 1 := rg_ne c_170 h_169 0 rfl (by decide +kernel)
        refine lv_iload_n hx hb dX11_table_21 rfl (lv_at hl 3 rfl) ?_
        refine lv_iload_n hx hb dX11_table_22 rfl (lv_at hl 2 rfl) ?_
        refine lv_sipush (v := 2000) hx hb dX11_table_23 (by decide +kernel) ?_
        refine pk_i (va_runS (As := [.int a2, .int a1, .int 2000]) (rest := []) ⟨hx, hb, hml, hown, hts⟩ (s_X11_between l D t σ I J ri rj rq H.size tg hSH hG.1 a2 a1 (2000 : Int32)) (va_cwS 3 hts (tw_S tw_215 tw_216 tw_2 tw_217) rfl rfl rfl cd_yX11_between_3 ⟨Nat.le_of_ble_eq_true rfl, Nat.le_of_ble_eq_true rfl⟩) ⟨pq_blind, pq_pre hK hN hP hD⟩ rfl rfl hl.1 rfl (lv_room (Nat.le_of_ble_eq_true rfl)) dX11_table_26 ⟨Nat.le_of_ble_eq_true rfl, Nat.le_of_ble_eq_true rfl⟩) hD hS hA (fun x_185 σ1 μ1 H locs hw_186 hP hD hS => ?_)
        obtain ⟨hu_187, hfn_190, hr_189⟩ := hw_186
        obtain ⟨hu_187a, hu_187b⟩ := Prod.mk.inj hu_187
        rw [hu_187a, hu_187b] at hP hD
        replace hF := hF.trans (ap_n hfn_190.symm)
        have h_192 : rg x_185 0 1 := by rcases hr_189 with ⟨q, -⟩ | ⟨q, -⟩ <;> rw [q] <;> exact ⟨by decide +kernel, by decide +kernel⟩
        refine lv_if_eq (tgt := 69) hx hb dX11_table_29 (by decide +kernel) (fun c_193 => ?_) (fun c_193 => ?_)
        · replace hF := hF.trans (if_pos c_193)
          have f_201 := (hr_189.resolve_left (fun q => absurd (q.1.symm.trans c_193) (by decide +kernel))).2
          have h_202 : rg x_185 0 0 := rg_and h_192 (rg_of_eq c_193 (rg_k (0 : Int32) 0 rfl)) (by decide +kernel)
          exact K_146 _ _ _ hF hFr hG hP hD hS (lv_sub hl [0, 1, 2, 3, 4, 5, 6] rfl)
        · replace hF := hF.trans (if_neg c_193)
          obtain ⟨f_203, f_204⟩ := (hr_189.resolve_right (fun q => c_193 q.1)).2
          have h_205 : rg a2 0 2147483647 := rg_le2 f_203 h_183 (rg_full _) (by decide +kernel)
          have h_206 : rg a2 0 2000 := rg_le1 f_204 h_205 (rg_k (2000 : Int32) 2000 rfl) (by decide +kernel)
          have h_207 : rg x_185 1 1 := rg_ne c_193 h_192 0 rfl (by decide +kernel)
          refine lv_iload hx hb dX11_table_32 (lv_at hl 4 rfl) ?_
          refine lv_iconst (v := 0) hx hb dX11_table_34 (by decide +kernel) ?_
          refine lv_bipush (v := 40) hx hb dX11_table_35 (by decide +kernel) ?_
          refine pk_i (va_runS (As := [.int a3, .int 0, .int 40]) (rest := []) ⟨hx, hb, hml, hown, hts⟩ (s_X11_between l D t σ I J ri rj rq H.size tg hSH hG.1 a3 (0 : Int32) (40 : Int32)) (va_cwS 3 hts (tw_S tw_215 tw_216 tw_2 tw_217) rfl rfl rfl cd_yX11_between_3 ⟨Nat.le_of_ble_eq_true rfl, Nat.le_of_ble_eq_true rfl⟩) ⟨pq_blind, pq_pre hK hN hP hD⟩ rfl rfl hl.1 rfl (lv_room (Nat.le_of_ble_eq_true rfl)) dX11_table_37 ⟨Nat.le_of_ble_eq_true rfl, Nat.le_of_ble_eq_true rfl⟩) hD hS hA (fun x_208 σ1 μ1 H locs hw_209 hP hD hS => ?_)
          obtain ⟨hu_210, hfn_213, hr_212⟩ := hw_209
          obtain ⟨hu_210a, hu_210b⟩ := Prod.mk.inj hu_210
          rw [hu_210a, hu_210b] at hP hD
          replace hF := hF.trans (ap_n hfn_213.symm)
          have h_215 : rg x_208 0 1 := by rcases hr_212 with ⟨q, -⟩ | ⟨q, -⟩ <;> rw [q] <;> exact ⟨by decide +kernel, by decide +kernel⟩
          refine lv_if_eq (tgt := 69) hx hb dX11_table_40 (by decide +kernel) (fun c_216 => ?_) (fun c_216 => ?_)
          · replace hF := hF.trans (if_pos c_216)
            have f_224 := (hr_212.resolve_left (fun q => absurd (q.1.symm.trans c_216) (by decide +kernel))).2
            have h_225 : rg x_208 0 0 := rg_and h_215 (rg_of_eq c_216 (rg_k (0 : Int32) 0 rfl)) (by decide +kernel)
            exact K_146 _ _ _ hF hFr hG hP hD hS (lv_sub hl [0, 1, 2, 3, 4, 5, 6] rfl)
          · replace hF := hF.trans (if_neg c_216)
            obtain ⟨f_226, f_227⟩ := (hr_212.resolve_right (fun q => c_216 q.1)).2
            have h_228 : rg a3 0 2147483647 := rg_le2 f_226 (rg_k (0 : Int32) 0 rfl) (rg_full _) (by decide +kernel)
            have h_229 : rg a3 0 40 := rg_le1 f_227 h_228 (rg_k (40 : Int32) 40 rfl) (by decide +kernel)
            have h_230 : rg x_208 1 1 := rg_ne c_216 h_215 0 rfl (by decide +kernel)
            refine lv_iload hx hb dX11_table_43 (lv_at hl 5 rfl) ?_
            refine lv_iconst (v := 0) hx hb dX11_table_45 (by decide +kernel) ?_
            refine lv_bipush (v := 50) hx hb dX11_table_46 (by decide +kernel) ?_
            refine pk_i (va_runS (As := [.int a4, .int 0, .int 50]) (rest := []) ⟨hx, hb, hml, hown, hts⟩ (s_X11_between l D t σ I J ri rj rq H.size tg hSH hG.1 a4 (0 : Int32) (50 : Int32)) (va_cwS 3 hts (tw_S tw_215 tw_216 tw_2 tw_217) rfl rfl rfl cd_yX11_between_3 ⟨Nat.le_of_ble_eq_true rfl, Nat.le_of_ble_eq_true rfl⟩) ⟨pq_blind, pq_pre hK hN hP hD⟩ rfl rfl hl.1 rfl (lv_room (Nat.le_of_ble_eq_true rfl)) dX11_table_48 ⟨Nat.le_of_ble_eq_true rfl, Nat.le_of_ble_eq_true rfl⟩) hD hS hA (fun x_231 σ1 μ1 H locs hw_232 hP hD hS => ?_)
            obtain ⟨hu_233, hfn_236, hr_235⟩ := hw_232
            obtain ⟨hu_233a, hu_233b⟩ := Prod.mk.inj hu_233
            rw [hu_233a, hu_233b] at hP hD
            replace hF := hF.trans (ap_n hfn_236.symm)
            have h_238 : rg x_231 0 1 := by rcases hr_235 with ⟨q, -⟩ | ⟨q, -⟩ <;> rw [q] <;> exact ⟨by decide +kernel, by decide +kernel⟩
            refine lv_if_eq (tgt := 69) hx hb dX11_table_51 (by decide +kernel) (fun c_239 => ?_) (fun c_239 => ?_)
            · replace hF := hF.trans (if_pos c_239)
              have f_247 := (hr_235.resolve_left (fun q => absurd (q.1.symm.trans c_239) (by decide +kernel))).2
              have h_248 : rg x_231 0 0 := rg_and h_238 (rg_of_eq c_239 (rg_k (0 : Int32) 0 rfl)) (by decide +kernel)
              exact K_146 _ _ _ hF hFr hG hP hD hS (lv_sub hl [0, 1, 2, 3, 4, 5, 6] rfl)
            · replace hF := hF.trans (if_neg c_239)
              obtain ⟨f_249, f_250⟩ := (hr_235.resolve_right (fun q => c_239 q.1)).2
              have h_251 : rg a4 0 2147483647 := rg_le2 f_249 (rg_k (0 : Int32) 0 rfl) (rg_full _) (by decide +kernel)
              have h_252 : rg a4 0 50 := rg_le1 f_250 h_251 (rg_k (50 : Int32) 50 rfl) (by decide +kernel)
              have h_253 : rg x_231 1 1 := rg_ne c_239 h_238 0 rfl (by decide +kernel)
              refine lv_iload hx hb dX11_table_54 (lv_at hl 6 rfl) ?_
              refine lv_iconst (v := 0) hx hb dX11_table_56 (by decide +kernel) ?_
              refine lv_bipush (v := 100) hx hb dX11_table_57 (by decide +kernel) ?_
              refine pk_i (va_runS (As := [.int a5, .int 0, .int 100]) (rest := []) ⟨hx, hb, hml, hown, hts⟩ (s_X11_between l D t σ I J ri rj rq H.size tg hSH hG.1 a5 (0 : Int32) (100 : Int32)) (va_cwS 3 hts (tw_S tw_215 tw_216 tw_2 tw_217) rfl rfl rfl cd_yX11_between_3 ⟨Nat.le_of_ble_eq_true rfl, Nat.le_of_ble_eq_true rfl⟩) ⟨pq_blind, pq_pre hK hN hP hD⟩ rfl rfl hl.1 rfl (lv_room (Nat.le_of_ble_eq_true rfl)) dX11_table_59 ⟨Nat.le_of_ble_eq_true rfl, Nat.le_of_ble_eq_true rfl⟩) hD hS hA (fun x_254 σ1 μ1 H locs hw_255 hP hD hS => ?_)
              obtain ⟨hu_256, hfn_259, hr_258⟩ := hw_255
              obtain ⟨hu_256a, hu_256b⟩ := Prod.mk.inj hu_256
              rw [hu_256a, hu_256b] at hP hD
              replace hF := hF.trans (ap_n hfn_259.symm)
              have h_261 : rg x_254 0 1 := by rcases hr_258 with ⟨q, -⟩ | ⟨q, -⟩ <;> rw [q] <;> exact ⟨by decide +kernel, by decide +kernel⟩
              refine lv_if_eq (tgt := 69) hx hb dX11_table_62 (by decide +kernel) (fun c_262 => ?_) (fun c_262 => ?_)
              · replace hF := hF.trans (if_pos c_262)
                have f_270 := (hr_258.resolve_left (fun q => absurd (q.1.symm.trans c_262) (by decide +kernel))).2
                have h_271 : rg x_254 0 0 := rg_and h_261 (rg_of_eq c_262 (rg_k (0 : Int32) 0 rfl)) (by decide +kernel)
                exact K_146 _ _ _ hF hFr hG hP hD hS (lv_sub hl [0, 1, 2, 3, 4, 5, 6] rfl)
              · replace hF := hF.trans (if_neg c_262)
                obtain ⟨f_272, f_273⟩ := (hr_258.resolve_right (fun q => c_262 q.1)).2
                have h_274 : rg a5 0 2147483647 := rg_le2 f_272 (rg_k (0 : Int32) 0 rfl) (rg_full _) (by decide +kernel)
                have h_275 : rg a5 0 100 := rg_le1 f_273 h_274 (rg_k (100 : Int32) 100 rfl) (by decide +kernel)
                have h_276 : rg x_254 1 1 := rg_ne c_262 h_261 0 rfl (by decide +kernel)
                refine lv_iconst (v := 1) hx hb dX11_table_65 (by decide +kernel) ?_
                refine lv_goto (tgt := 70) hx hb dX11_table_66 (by decide +kernel) ?_
                exact K_117 _ _ _ (rg_w h_160 (by decide +kernel)) (rg_w h_183 (by decide +kernel)) (rg_w h_206 (by decide +kernel)) (rg_w h_229 (by decide +kernel)) (rg_w h_252 (by decide +kernel)) (rg_w h_275 (by decide +kernel)) (rg_w h_161 (by decide +kernel)) hF hFr hG hP hD hS (lv_sub hl [0, 1, 2, 3, 4, 5, 6] rfl)
  exact go _ _ _ hP hD hS hl

set_option maxRecDepth 100000 in
def g_X11_rules_K56 (a0 : Int32) (a1 : Int32) (a2 : Int32) (a3 : Int32) (a4 : Int32) (I : Nat → Int32) (J : Nat → Int64) (ri : Nat → Nat → Int32) (rj : Nat → Nat → Int64) (rq : Nat → Nat → Option Nat) : Int32 × vM := (ap1 (va_up I 234 a0) fun (I_110 : Nat → Int32) => (ap1 (va_up I_110 235 a1) fun (I_111 : Nat → Int32) => (ap1 (va_up I_111 236 a2) fun (I_112 : Nat → Int32) => (ap1 (va_up I_112 237 a3) fun (I_113 : Nat → Int32) => (ap1 (va_up I_113 238 a4) fun (I_114 : Nat → Int32) => ((1 : Int32), I_114, J, ri, rj, rq))))))
set_option maxRecDepth 100000 in
theorem g_X11_rules_K56_e {a0 : Int32} {a1 : Int32} {a2 : Int32} {a3 : Int32} {a4 : Int32} {I : Nat → Int32} {J : Nat → Int64} {ri : Nat → Nat → Int32} {rj : Nat → Nat → Int64} {rq : Nat → Nat → Option Nat} : g_X11_rules_K56 a0 a1 a2 a3 a4 I J ri rj rq  = (ap1 (va_up I 234 a0) fun (I_110 : Nat → Int32) => (ap1 (va_up I_110 235 a1) fun (I_111 : Nat → Int32) => (ap1 (va_up I_111 236 a2) fun (I_112 : Nat → Int32) => (ap1 (va_up I_112 237 a3) fun (I_113 : Nat → Int32) => (ap1 (va_up I_113 238 a4) fun (I_114 : Nat → Int32) => ((1 : Int32), I_114, J, ri, rj, rq)))))) := rfl
set_option maxRecDepth 100000 in
def g_X11_rules_K56_2 (I : Nat → Int32) (J : Nat → Int64) (ri : Nat → Nat → Int32) (rj : Nat → Nat → Int64) (rq : Nat → Nat → Option Nat) : Int32 × vM := ((0 : Int32), I, J, ri, rj, rq)
set_option maxRecDepth 100000 in
theorem g_X11_rules_K56_2_e {I : Nat → Int32} {J : Nat → Int64} {ri : Nat → Nat → Int32} {rj : Nat → Nat → Int64} {rq : Nat → Nat → Option Nat} : g_X11_rules_K56_2 I J ri rj rq  = ((0 : Int32), I, J, ri, rj, rq) := rfl
set_option maxRecDepth 100000 in
def g_X11_rules_K55 (I : Nat → Int32) (J : Nat → Int64) (ri : Nat → Nat → Int32) (rj : Nat → Nat → Int64) (rq : Nat → Nat → Option Nat) : Int32 × vM := (g_X11_rules_K56_2 I J ri rj rq )
set_option maxRecDepth 100000 in
theorem g_X11_rules_K55_e {I : Nat → Int32} {J : Nat → Int64} {ri : Nat → Nat → Int32} {rj : Nat → Nat → Int64} {rq : Nat → Nat → Option Nat} : g_X11_rules_K55 I J ri rj rq  = (g_X11_rules_K56_2 I J ri rj rq ) := rfl
set_option maxRecDepth 100000 in
def g_X11_rules (a0 : Int32) (a1 : Int32) (a2 : Int32) (a3 : Int32) (a4 : Int32) (I : Nat → Int32) (J : Nat → Int64) (ri : Nat → Nat → Int32) (rj : Nat → Nat → Int64) (rq : Nat → Nat → Option Nat) : Int32 × vM := (ap1 (g_X11_between a0 (0 : Int32) (40 : Int32)) fun (x_1 : Int32) => (if x_1 = (0 : Int32) then (g_X11_rules_K55 I J ri rj rq ) else (ap1 (g_X11_between a1 (0 : Int32) (5 : Int32)) fun (x_133 : Int32) => (if x_133 = (0 : Int32) then (g_X11_rules_K55 I J ri rj rq ) else (ap1 (g_X11_between a2 (0 : Int32) (50 : Int32)) fun (x_156 : Int32) => (if x_156 = (0 : Int32) then (g_X11_rules_K55 I J ri rj rq ) else (ap1 (g_X11_between a3 (1 : Int32) (20 : Int32)) fun (x_179 : Int32) => (if x_179 = (0 : Int32) then (g_X11_rules_K55 I J ri rj rq ) else (ap1 (g_X11_between a4 (0 : Int32) (100 : Int32)) fun (x_202 : Int32) => (if x_202 = (0 : Int32) then (g_X11_rules_K55 I J ri rj rq ) else (g_X11_rules_K56 a0 a1 a2 a3 a4 I J ri rj rq )))))))))))
set_option maxRecDepth 100000 in
theorem g_X11_rules_e {a0 : Int32} {a1 : Int32} {a2 : Int32} {a3 : Int32} {a4 : Int32} {I : Nat → Int32} {J : Nat → Int64} {ri : Nat → Nat → Int32} {rj : Nat → Nat → Int64} {rq : Nat → Nat → Option Nat} : g_X11_rules a0 a1 a2 a3 a4 I J ri rj rq = (ap1 (g_X11_between a0 (0 : Int32) (40 : Int32)) fun (x_1 : Int32) => (if x_1 = (0 : Int32) then (g_X11_rules_K55 I J ri rj rq ) else (ap1 (g_X11_between a1 (0 : Int32) (5 : Int32)) fun (x_133 : Int32) => (if x_133 = (0 : Int32) then (g_X11_rules_K55 I J ri rj rq ) else (ap1 (g_X11_between a2 (0 : Int32) (50 : Int32)) fun (x_156 : Int32) => (if x_156 = (0 : Int32) then (g_X11_rules_K55 I J ri rj rq ) else (ap1 (g_X11_between a3 (1 : Int32) (20 : Int32)) fun (x_179 : Int32) => (if x_179 = (0 : Int32) then (g_X11_rules_K55 I J ri rj rq ) else (ap1 (g_X11_between a4 (0 : Int32) (100 : Int32)) fun (x_202 : Int32) => (if x_202 = (0 : Int32) then (g_X11_rules_K55 I J ri rj rq ) else (g_X11_rules_K56 a0 a1 a2 a3 a4 I J ri rj rq ))))))))))) := rfl
set_option maxHeartbeats 4000000 in
set_option maxRecDepth 100000 in
theorem s_X11_rules (l : Launch) (D : va_G) (t : pq_T) (σ : pq_S) (I : Nat → Nat → Int32) (J : Nat → Nat → Int64) (ri : Nat → Nat → Int32) (rj : Nat → Nat → Int64) (rq : Nat → Nat → Option Nat) (sz : Nat) (tg : Nat → Nat) (hSH : SH σ tg) (hG0 : GS tg σ I ri rq) (this : Nat) (a0 : Int32) (a1 : Int32) (a2 : Int32) (a3 : Int32) (a4 : Int32) (hL_this : this ∈ σ.1) (hK_this : σ.2.1 this = 11) (this_now : Nat) (hR_this_now : σ.2.2.1 352 this = some this_now) (hL_this_now : this_now ∈ σ.1) (hK_this_now : σ.2.1 this_now = 10) : MetI l yX11_rules (wa yX11_rules cX11_rules 8 (some .boolean)) ({ frames := 1, cells := 0, slots := 0, locals := 22 }) [.ref this, .int a0, .int a1, .int a2, .int a3, .int a4] D t σ (I, J, ri, rj, rq) sz 0 0 (fun (r : Int32) (u : pq_S × pq_M) => ∃ I' : Nat → Nat → Int32, u = (σ, I', J, ri, rj, rq) ∧ GX [234, 235, 236] tg σ I ri rj I' ri rj rq ∧ g_X11_rules a0 a1 a2 a3 a4 (vI 10 σ this_now I) (vJ 10 σ this_now J) (vR 10 σ this_now ri) (vL 10 σ this_now rj) (vQ 10 σ this_now rq) = (r, (vI 10 σ this_now I'), (vJ 10 σ this_now J), (vR 10 σ this_now ri), (vL 10 σ this_now rj), (vQ 10 σ this_now rq)) ∧ FR 10 tg σ this_now (I, J, ri, rj, rq) (I', J, ri, rj, rq) ∧ ((r = 1 ∧ rg a0 0 40 ∧ rg a1 0 5 ∧ rg a2 0 50 ∧ rg a3 1 20 ∧ rg a4 0 100) ∨ (r = 0 ∧ True))) := by
  refine Met.ofW (cc := cX11_rules) (maxL := 8) (ret := (some .boolean)) (by decide +kernel) rfl ?_
  intro p e s m args below meth c s₁ B hml hv
  obtain ⟨rfl, hsz, hP, hK, hD0, hN⟩ := hv
  have hx := B.exec
  have hb := B.bytes
  have hr := B.returns
  have hts := atoms_spec (ws := (wa yX11_rules cX11_rules 8 (some .boolean))) B.pre
  have hown : s.vm.findClass RX11 = some m.cls := findClass_of_methodNamed B.named
  have hlocks := B.notSynchronized
  subst hsz
  have hD : va_D (pq_B t σ (I, J, ri, rj, rq) s.heap.size) (pq_P t σ (I, J, ri, rj, rq)) := hD0.self
  generalize hAe : pq_B t σ (I, J, ri, rj, rq) s.heap.size = A at hD ⊢
  have hA : ∀ q : Nat, s.heap.size ≤ q → A q := fun q h => by rw [← hAe]; exact Or.inr h
  have hS : va_S A s.heap s.heap [] := va_S.rf
  have hG : GX [234, 235, 236] tg σ I ri rj I ri rj rq := ⟨hG0, fun _ _ _ => rfl, fun _ _ _ _ _ => rfl, fun _ _ _ _ _ => rfl⟩
  have hl := lv_entry ([.ref this, .int a0, .int a1, .int a2, .int a3, .int a4]) (n := 8) (Nat.le_of_ble_eq_true rfl)
  rw [lg_entry_eq]
  generalize (lg_sl ([.ref this, .int a0, .int a1, .int a2, .int a3, .int a4]) ++ List.replicate (8 - (lg_sl ([.ref this, .int a0, .int a1, .int a2, .int a3, .int a4])).length) Slot.unset).toArray = ls at hl ⊢
  have hl : lv_has ls 8 [(0, .ref this), (1, .int a0), (2, .int a1), (3, .int a2), (4, .int a3), (5, .int a4)] := hl
  refine q_gen (fun Q hQ => ?_)
  have go : ∀ (H : Heap) (locs : List Loc) (ls : Array Slot), va_P D vwCl (pq_P t σ (I, J, ri, rj, rq)) H → va_D A (pq_P t σ (I, J, ri, rj, rq)) → va_S A s.heap H locs → lv_has ls 8 [(0, .ref this), (1, .int a0), (2, .int a1), (3, .int a2), (4, .int a3), (5, .int a4)] → W p l e ({ frames := 1, cells := 0, slots := 0, locals := 22 } : Room) s m (List.toArray ([.ref this, .int a0, .int a1, .int a2, .int a3, .int a4] : List Value)) below meth c H locs 0 0 Q (F0 m 0 ls []) := by
    intro H locs ls hP hD hS hl
    have hVT : VT 10 σ tg this_now := vt_10 hSH hL_this_now hK_this_now
    have hFr : FR 10 tg σ this_now (I, J, ri, rj, rq) (I, J, ri, rj, rq) := fr_rf
    have hO_this_now : this_now = vo σ 10 this_now := rfl
    obtain ⟨F, hF0⟩ : ∃ F, F = g_X11_rules a0 a1 a2 a3 a4 (vI 10 σ this_now I) (vJ 10 σ this_now J) (vR 10 σ this_now ri) (vL 10 σ this_now rj) (vQ 10 σ this_now rq) := ⟨_, rfl⟩
    have hF := hF0.trans g_X11_rules_e
    refine lv_iload_n hx hb dX11_rules_0 rfl (lv_at hl 1 rfl) ?_
    refine lv_iconst (v := 0) hx hb dX11_rules_1 (by decide +kernel) ?_
    refine lv_bipush (v := 40) hx hb dX11_rules_2 (by decide +kernel) ?_
    refine pk_i (va_runS (As := [.int a0, .int 0, .int 40]) (rest := []) ⟨hx, hb, hml, hown, hts⟩ (s_X11_between l D t σ I J ri rj rq H.size tg hSH hG.1 a0 (0 : Int32) (40 : Int32)) (va_cwS 3 hts (tw_S tw_215 tw_216 tw_2 tw_217) rfl rfl rfl cd_yX11_between_3 ⟨Nat.le_of_ble_eq_true rfl, Nat.le_of_ble_eq_true rfl⟩) ⟨pq_blind, pq_pre hK hN hP hD⟩ rfl rfl hl.1 rfl (lv_room (Nat.le_of_ble_eq_true rfl)) dX11_rules_4 ⟨Nat.le_of_ble_eq_true rfl, Nat.le_of_ble_eq_true rfl⟩) hD hS hA (fun x_1 σ1 μ1 H locs hw_2 hP hD hS => ?_)
    obtain ⟨hu_3, hfn_6, hr_5⟩ := hw_2
    obtain ⟨hu_3a, hu_3b⟩ := Prod.mk.inj hu_3
    rw [hu_3a, hu_3b] at hP hD
    replace hF := hF.trans (ap_n hfn_6.symm)
    have h_8 : rg x_1 0 1 := by rcases hr_5 with ⟨q, -⟩ | ⟨q, -⟩ <;> rw [q] <;> exact ⟨by decide +kernel, by decide +kernel⟩
    have K_95 : ∀  (H : Heap) (locs : List Loc) (ls : Array Slot), rg (a0) 0 40 → rg (a1) 0 5 → rg (a2) 0 50 → rg (a3) 1 20 → rg (a4) 0 100 → rg (x_1) 1 1 → F = g_X11_rules_K56 a0 a1 a2 a3 a4 (vI 10 σ this_now I) (vJ 10 σ this_now J) (vR 10 σ this_now ri) (vL 10 σ this_now rj) (vQ 10 σ this_now rq)  → FR 10 tg σ this_now (I, J, ri, rj, rq) (I, J, ri, rj, rq) → GX [234, 235, 236] tg σ I ri rj I ri rj rq → va_P D vwCl (pq_P t σ (I, J, ri, rj, rq)) H → va_D A (pq_P t σ (I, J, ri, rj, rq)) → va_S A s.heap H locs → lv_has ls 8 [(0, .ref this), (1, .int a0), (2, .int a1), (3, .int a2), (4, .int a3), (5, .int a4)] → W p l e ({ frames := 1, cells := 0, slots := 0, locals := 22 } : Room) s m (List.toArray ([.ref this, .int a0, .int a1, .int a2, .int a3, .int a4] : List Value)) below meth c H locs 0 0 Q (F0 m 56 ls [.int 1]) := by
      intro H locs ls h_102 h_103 h_104 h_105 h_106 h_107 hF hFr hG hP hD hS hl
      replace hF := hF.trans g_X11_rules_K56_e
      refine lv_istore (lv' := [(6, .int 1), (0, .ref this), (1, .int a0), (2, .int a1), (3, .int a2), (4, .int a3), (5, .int a4)]) hx hb dX11_rules_56 hl (by decide +kernel) rfl (fun ls hl => ?_)
      refine lv_iload hx hb dX11_rules_58 (lv_at hl 0 rfl) ?_
      refine lv_if_ne (tgt := 65) hx hb dX11_rules_60 (by decide +kernel) (fun c_108 => ?_) (fun c_108 => absurd c_108 (by decide +kernel))
      refine lv_aload_n hx hb dX11_rules_65 rfl (lv_at hl 1 rfl) ?_
      refine pg_f (v := .ref this_now) (C := RX11) (T := TX11) (N := 5) hx hb hts (tw_i inlX11) hown hK hP hL_this hK_this (by decide +kernel) rfl 0 (by decide +kernel) (hts _ (tw_c tw_16)) (pq_hv rfl hR_this_now) dX11_rules_66 ?_
      obtain ⟨w_109, hR_w_109, hL_w_109, hK_w_109⟩ := sh_o hSH 326 (ci := 10) (kd := 7) rfl hL_this_now hK_this_now
      have hO_w_109 : w_109 = vo σ 7 this_now := vo_k (c := 10) hO_this_now hR_w_109
      refine pg_f (v := .ref w_109) (C := RX10) (T := TX10) (N := 13) hx hb hts (tw_i inlX10) hown hK hP hL_this_now hK_this_now (by decide +kernel) rfl 6 (by decide +kernel) (hts _ (tw_c tw_242)) (pq_hv rfl hR_w_109) dX11_rules_69 ?_
      refine lv_astore (lv' := [(7, .ref w_109), (6, .int 1), (0, .ref this), (1, .int a0), (2, .int a1), (3, .int a2), (4, .int a3), (5, .int a4)]) hx hb dX11_rules_72 hl (by decide +kernel) rfl (fun ls hl => ?_)
      refine lv_aload hx hb dX11_rules_74 (lv_at hl 0 rfl) ?_
      refine lv_iload_n hx hb dX11_rules_76 rfl (lv_at hl 3 rfl) ?_
      refine pp_i (v := a0) (ty := .int) (C := RX7) (T := TX7) (N := 15) hx hb hts (tw_i inlX7) tyX7 tyX7_ok nmX7 hown hK hP hD hS hL_w_109 hK_w_109 (by decide +kernel) rfl 10 234 (by decide +kernel) (hts _ (tw_c tw_318)) rfl (tyX7_ok 10 (by decide +kernel)) rfl rfl (Nat.le_of_ble_eq_true rfl) (ps_234 _ _ _ _ _) dX11_rules_77 (fun I_110 H locs eI_110 hP hD hS => ?_)
      replace hFr := fr_I (f := 234) hFr hO_w_109 (by decide +kernel) eI_110
      replace hF := hF.trans (ap_n (vI_st (f := 234) hO_w_109 (by decide +kernel) eI_110))
      have hG := GX.wI hG 234 rfl eI_110 (rg_w h_102 (by decide +kernel)) (by decide +kernel)
      refine lv_aload hx hb dX11_rules_80 (lv_at hl 0 rfl) ?_
      refine lv_iload_n hx hb dX11_rules_82 rfl (lv_at hl 4 rfl) ?_
      refine pp_i (v := a1) (ty := .int) (C := RX7) (T := TX7) (N := 15) hx hb hts (tw_i inlX7) tyX7 tyX7_ok nmX7 hown hK hP hD hS hL_w_109 hK_w_109 (by decide +kernel) rfl 11 235 (by decide +kernel) (hts _ (tw_c tw_319)) rfl (tyX7_ok 11 (by decide +kernel)) rfl rfl (Nat.le_of_ble_eq_true rfl) (ps_235 _ _ _ _ _) dX11_rules_83 (fun I_111 H locs eI_111 hP hD hS => ?_)
      replace hFr := fr_I (f := 235) hFr hO_w_109 (by decide +kernel) eI_111
      replace hF := hF.trans (ap_n (vI_st (f := 235) hO_w_109 (by decide +kernel) eI_111))
      have hG := GX.wI hG 235 rfl eI_111 (rg_w h_103 (by decide +kernel)) (by decide +kernel)
      refine lv_aload hx hb dX11_rules_86 (lv_at hl 0 rfl) ?_
      refine lv_iload_n hx hb dX11_rules_88 rfl (lv_at hl 5 rfl) ?_
      refine pp_i (v := a2) (ty := .int) (C := RX7) (T := TX7) (N := 15) hx hb hts (tw_i inlX7) tyX7 tyX7_ok nmX7 hown hK hP hD hS hL_w_109 hK_w_109 (by decide +kernel) rfl 12 236 (by decide +kernel) (hts _ (tw_c tw_320)) rfl (tyX7_ok 12 (by decide +kernel)) rfl rfl (Nat.le_of_ble_eq_true rfl) (ps_236 _ _ _ _ _) dX11_rules_89 (fun I_112 H locs eI_112 hP hD hS => ?_)
      replace hFr := fr_I (f := 236) hFr hO_w_109 (by decide +kernel) eI_112
      replace hF := hF.trans (ap_n (vI_st (f := 236) hO_w_109 (by decide +kernel) eI_112))
      have hG := GX.wI hG 236 rfl eI_112 (rg_w h_104 (by decide +kernel)) (by decide +kernel)
      refine lv_aload hx hb dX11_rules_92 (lv_at hl 0 rfl) ?_
      refine lv_iload hx hb dX11_rules_94 (lv_at hl 6 rfl) ?_
      refine pp_i (v := a3) (ty := .int) (C := RX7) (T := TX7) (N := 15) hx hb hts (tw_i inlX7) tyX7 tyX7_ok nmX7 hown hK hP hD hS hL_w_109 hK_w_109 (by decide +kernel) rfl 13 237 (by decide +kernel) (hts _ (tw_c tw_321)) rfl (tyX7_ok 13 (by decide +kernel)) rfl rfl (Nat.le_of_ble_eq_true rfl) (ps_237 _ _ _ _ _) dX11_rules_96 (fun I_113 H locs eI_113 hP hD hS => ?_)
      replace hFr := fr_I (f := 237) hFr hO_w_109 (by decide +kernel) eI_113
      replace hF := hF.trans (ap_n (vI_st (f := 237) hO_w_109 (by decide +kernel) eI_113))
      have hG := GX.wI hG 237 rfl eI_113 (rg_w h_105 (by decide +kernel)) (by decide +kernel)
      refine lv_aload hx hb dX11_rules_99 (lv_at hl 0 rfl) ?_
      refine lv_iload hx hb dX11_rules_101 (lv_at hl 7 rfl) ?_
      refine pp_i (v := a4) (ty := .int) (C := RX7) (T := TX7) (N := 15) hx hb hts (tw_i inlX7) tyX7 tyX7_ok nmX7 hown hK hP hD hS hL_w_109 hK_w_109 (by decide +kernel) rfl 14 238 (by decide +kernel) (hts _ (tw_c tw_322)) rfl (tyX7_ok 14 (by decide +kernel)) rfl rfl (Nat.le_of_ble_eq_true rfl) (ps_238 _ _ _ _ _) dX11_rules_103 (fun I_114 H locs eI_114 hP hD hS => ?_)
      replace hFr := fr_I (f := 238) hFr hO_w_109 (by decide +kernel) eI_114
      replace hF := hF.trans (ap_n (vI_st (f := 238) hO_w_109 (by decide +kernel) eI_114))
      have hG := GX.wI hG 238 rfl eI_114 (rg_w h_106 (by decide +kernel)) (by decide +kernel)
      refine lv_iconst (v := 1) hx hb dX11_rules_106 (by decide +kernel) ?_
      subst hQ
      exact W.zret (v := 1) hx hb hr (by decide +kernel) (fun t1 ht hW => ⟨⟨1, (σ, I_114, J, ri, rj, rq), rfl, ⟨I_114, rfl, hG, (hF0.symm.trans hF), hFr, (Or.inl ⟨rfl, (rg_w h_102 (by decide +kernel)), (rg_w h_103 (by decide +kernel)), (rg_w h_104 (by decide +kernel)), (rg_w h_105 (by decide +kernel)), (rg_w h_106 (by decide +kernel))⟩)⟩, by rw [ht]; exact hP, va_K.moved hW.alike hK, hD⟩, hS.F ht⟩) hS.2.2 dX11_rules_107
    have K_115 : ∀  (H : Heap) (locs : List Loc) (ls : Array Slot), F = g_X11_rules_K56_2 (vI 10 σ this_now I) (vJ 10 σ this_now J) (vR 10 σ this_now ri) (vL 10 σ this_now rj) (vQ 10 σ this_now rq)  → FR 10 tg σ this_now (I, J, ri, rj, rq) (I, J, ri, rj, rq) → GX [234, 235, 236] tg σ I ri rj I ri rj rq → va_P D vwCl (pq_P t σ (I, J, ri, rj, rq)) H → va_D A (pq_P t σ (I, J, ri, rj, rq)) → va_S A s.heap H locs → lv_has ls 8 [(0, .ref this), (1, .int a0), (2, .int a1), (3, .int a2), (4, .int a3), (5, .int a4)] → W p l e ({ frames := 1, cells := 0, slots := 0, locals := 22 } : Room) s m (List.toArray ([.ref this, .int a0, .int a1, .int a2, .int a3, .int a4] : List Value)) below meth c H locs 0 0 Q (F0 m 56 ls [.int 0]) := by
      intro H locs ls hF hFr hG hP hD hS hl
      replace hF := hF.trans g_X11_rules_K56_2_e
      refine lv_istore (lv' := [(6, .int 0), (0, .ref this), (1, .int a0), (2, .int a1), (3, .int a2), (4, .int a3), (5, .int a4)]) hx hb dX11_rules_56 hl (by decide +kernel) rfl (fun ls hl => ?_)
      refine lv_iload hx hb dX11_rules_58 (lv_at hl 0 rfl) ?_
      refine lv_if_ne (tgt := 65) hx hb dX11_rules_60 (by decide +kernel) (fun c_116 => absurd c_116 (by decide +kernel)) (fun c_116 => ?_)
      refine lv_iconst (v := 0) hx hb dX11_rules_63 (by decide +kernel) ?_
      subst hQ
      exact W.zret (v := 0) hx hb hr (by decide +kernel) (fun t1 ht hW => ⟨⟨0, (σ, I, J, ri, rj, rq), rfl, ⟨I, rfl, hG, (hF0.symm.trans hF), hFr, (Or.inr ⟨rfl, trivial⟩)⟩, by rw [ht]; exact hP, va_K.moved hW.alike hK, hD⟩, hS.F ht⟩) hS.2.2 dX11_rules_64
    have K_117 : ∀  (H : Heap) (locs : List Loc) (ls : Array Slot), F = g_X11_rules_K55 (vI 10 σ this_now I) (vJ 10 σ this_now J) (vR 10 σ this_now ri) (vL 10 σ this_now rj) (vQ 10 σ this_now rq)  → FR 10 tg σ this_now (I, J, ri, rj, rq) (I, J, ri, rj, rq) → GX [234, 235, 236] tg σ I ri rj I ri rj rq → va_P D vwCl (pq_P t σ (I, J, ri, rj, rq)) H → va_D A (pq_P t σ (I, J, ri, rj, rq)) → va_S A s.heap H locs → lv_has ls 8 [(0, .ref this), (1, .int a0), (2, .int a1), (3, .int a2), (4, .int a3), (5, .int a4)] → W p l e ({ frames := 1, cells := 0, slots := 0, locals := 22 } : Room) s m (List.toArray ([.ref this, .int a0, .int a1, .int a2, .int a3, .int a4] : List Value)) below meth c H locs 0 0 Q (F0 m 55 ls []) := by
      intro H locs ls hF hFr hG hP hD hS hl
      replace hF := hF.trans g_X11_rules_K55_e
      refine lv_iconst (v := 0) hx hb dX11_rules_55 (by decide +kernel) ?_
      exact K_115 _ _ _ hF hFr hG hP hD hS (lv_sub hl [0, 1, 2, 3, 4, 5] rfl)
    refine lv_if_eq (tgt := 55) hx hb dX11_rules_7 (by decide +kernel) (fun c_118 => ?_) (fun c_118 => ?_)
    · replace hF := hF.trans (if_pos c_118)
      have f_126 := (hr_5.resolve_left (fun q => absurd (q.1.symm.trans c_118) (by decide +kernel))).2
      have h_127 : rg x_1 0 0 := rg_and h_8 (rg_of_eq c_118 (rg_k (0 : Int32) 0 rfl)) (by decide +kernel)
      exact K_117 _ _ _ hF hFr hG hP hD hS (lv_sub hl [0, 1, 2, 3, 4, 5] rfl)
    · replace hF := hF.trans (if_neg c_118)
      obtain ⟨f_128, f_129⟩ := (hr_5.resolve_right (fun q => c_118 q.1)).2
      have h_130 : rg a0 0 2147483647 := rg_le2 f_128 (rg_k (0 : Int32) 0 rfl) (rg_full _) (by decide +kernel)
      have h_131 : rg a0 0 40 := rg_le1 f_129 h_130 (rg_k (40 : Int32) 40 rfl) (by decide +kernel)
      have h_132 : rg x_1 1 1 := rg_ne c_118 h_8 0 rfl (by decide +kernel)
      refine lv_iload_n hx hb dX11_rules_10 rfl (lv_at hl 2 rfl) ?_
      refine lv_iconst (v := 0) hx hb dX11_rules_11 (by decide +kernel) ?_
      refine lv_iconst (v := 5) hx hb dX11_rules_12 (by decide +kernel) ?_
      refine pk_i (va_runS (As := [.int a1, .int 0, .int 5]) (rest := []) ⟨hx, hb, hml, hown, hts⟩ (s_X11_between l D t σ I J ri rj rq H.size tg hSH hG.1 a1 (0 : Int32) (5 : Int32)) (va_cwS 3 hts (tw_S tw_215 tw_216 tw_2 tw_217) rfl rfl rfl cd_yX11_between_3 ⟨Nat.le_of_ble_eq_true rfl, Nat.le_of_ble_eq_true rfl⟩) ⟨pq_blind, pq_pre hK hN hP hD⟩ rfl rfl hl.1 rfl (lv_room (Nat.le_of_ble_eq_true rfl)) dX11_rules_13 ⟨Nat.le_of_ble_eq_true rfl, Nat.le_of_ble_eq_true rfl⟩) hD hS hA (fun x_133 σ1 μ1 H locs hw_134 hP hD hS => ?_)
      obtain ⟨hu_135, hfn_138, hr_137⟩ := hw_134
      obtain ⟨hu_135a, hu_135b⟩ := Prod.mk.inj hu_135
      rw [hu_135a, hu_135b] at hP hD
      replace hF := hF.trans (ap_n hfn_138.symm)
      have h_140 : rg x_133 0 1 := by rcases hr_137 with ⟨q, -⟩ | ⟨q, -⟩ <;> rw [q] <;> exact ⟨by decide +kernel, by decide +kernel⟩
      refine lv_if_eq (tgt := 55) hx hb dX11_rules_16 (by decide +kernel) (fun c_141 => ?_) (fun c_141 => ?_)
      · replace hF := hF.trans (if_pos c_141)
        have f_149 := (hr_137.resolve_left (fun q => absurd (q.1.symm.trans c_141) (by decide +kernel))).2
        have h_150 : rg x_133 0 0 := rg_and h_140 (rg_of_eq c_141 (rg_k (0 : Int32) 0 rfl)) (by decide +kernel)
        exact K_117 _ _ _ hF hFr hG hP hD hS (lv_sub hl [0, 1, 2, 3, 4, 5] rfl)
      · replace hF := hF.trans (if_neg c_141)
        obtain ⟨f_151, f_152⟩ := (hr_137.resolve_right (fun q => c_141 q.1)).2
        have h_153 : rg a1 0 2147483647 := rg_le2 f_151 (rg_k (0 : Int32) 0 rfl) (rg_full _) (by decide +kernel)
        have h_154 : rg a1 0 5 := rg_le1 f_152 h_153 (rg_k (5 : Int32) 5 rfl) (by decide +kernel)
        have h_155 : rg x_133 1 1 := rg_ne c_141 h_140 0 rfl (by decide +kernel)
        refine lv_iload_n hx hb dX11_rules_19 rfl (lv_at hl 3 rfl) ?_
        refine lv_iconst (v := 0) hx hb dX11_rules_20 (by decide +kernel) ?_
        refine lv_bipush (v := 50) hx hb dX11_rules_21 (by decide +kernel) ?_
        refine pk_i (va_runS (As := [.int a2, .int 0, .int 50]) (rest := []) ⟨hx, hb, hml, hown, hts⟩ (s_X11_between l D t σ I J ri rj rq H.size tg hSH hG.1 a2 (0 : Int32) (50 : Int32)) (va_cwS 3 hts (tw_S tw_215 tw_216 tw_2 tw_217) rfl rfl rfl cd_yX11_between_3 ⟨Nat.le_of_ble_eq_true rfl, Nat.le_of_ble_eq_true rfl⟩) ⟨pq_blind, pq_pre hK hN hP hD⟩ rfl rfl hl.1 rfl (lv_room (Nat.le_of_ble_eq_true rfl)) dX11_rules_23 ⟨Nat.le_of_ble_eq_true rfl, Nat.le_of_ble_eq_true rfl⟩) hD hS hA (fun x_156 σ1 μ1 H locs hw_157 hP hD hS => ?_)
        obtain ⟨hu_158, hfn_161, hr_160⟩ := hw_157
        obtain ⟨hu_158a, hu_158b⟩ := Prod.mk.inj hu_158
        rw [hu_158a, hu_158b] at hP hD
        replace hF := hF.trans (ap_n hfn_161.symm)
        have h_163 : rg x_156 0 1 := by rcases hr_160 with ⟨q, -⟩ | ⟨q, -⟩ <;> rw [q] <;> exact ⟨by decide +kernel, by decide +kernel⟩
        refine lv_if_eq (tgt := 55) hx hb dX11_rules_26 (by decide +kernel) (fun c_164 => ?_) (fun c_164 => ?_)
        · replace hF := hF.trans (if_pos c_164)
          have f_172 := (hr_160.resolve_left (fun q => absurd (q.1.symm.trans c_164) (by decide +kernel))).2
          have h_173 : rg x_156 0 0 := rg_and h_163 (rg_of_eq c_164 (rg_k (0 : Int32) 0 rfl)) (by decide +kernel)
          exact K_117 _ _ _ hF hFr hG hP hD hS (lv_sub hl [0, 1, 2, 3, 4, 5] rfl)
        · replace hF := hF.trans (if_neg c_164)
          obtain ⟨f_174, f_175⟩ := (hr_160.resolve_right (fun q => c_164 q.1)).2
          have h_176 : rg a2 0 2147483647 := rg_le2 f_174 (rg_k (0 : Int32) 0 rfl) (rg_full _) (by decide +kernel)
          have h_177 : rg a2 0 50 := rg_le1 f_175 h_176 (rg_k (50 : Int32) 50 rfl) (by decide +kernel)
          have h_178 : rg x_156 1 1 := rg_ne c_164 h_163 0 rfl (by decide +kernel)
          refine lv_iload hx hb dX11_rules_29 (lv_at hl 4 rfl) ?_
          refine lv_iconst (v := 1) hx hb dX11_rules_31 (by decide +kernel) ?_
          refine lv_bipush (v := 20) hx hb dX11_rules_32 (by decide +kernel) ?_
          refine pk_i (va_runS (As := [.int a3, .int 1, .int 20]) (rest := []) ⟨hx, hb, hml, hown, hts⟩ (s_X11_between l D t σ I J ri rj rq H.size tg hSH hG.1 a3 (1 : Int32) (20 : Int32)) (va_cwS 3 hts (tw_S tw_215 tw_216 tw_2 tw_217) rfl rfl rfl cd_yX11_between_3 ⟨Nat.le_of_ble_eq_true rfl, Nat.le_of_ble_eq_true rfl⟩) ⟨pq_blind, pq_pre hK hN hP hD⟩ rfl rfl hl.1 rfl (lv_room (Nat.le_of_ble_eq_true rfl)) dX11_rules_34 ⟨Nat.le_of_ble_eq_true rfl, Nat.le_of_ble_eq_true rfl⟩) hD hS hA (fun x_179 σ1 μ1 H locs hw_180 hP hD hS => ?_)
          obtain ⟨hu_181, hfn_184, hr_183⟩ := hw_180
          obtain ⟨hu_181a, hu_181b⟩ := Prod.mk.inj hu_181
          rw [hu_181a, hu_181b] at hP hD
          replace hF := hF.trans (ap_n hfn_184.symm)
          have h_186 : rg x_179 0 1 := by rcases hr_183 with ⟨q, -⟩ | ⟨q, -⟩ <;> rw [q] <;> exact ⟨by decide +kernel, by decide +kernel⟩
          refine lv_if_eq (tgt := 55) hx hb dX11_rules_37 (by decide +kernel) (fun c_187 => ?_) (fun c_187 => ?_)
          · replace hF := hF.trans (if_pos c_187)
            have f_195 := (hr_183.resolve_left (fun q => absurd (q.1.symm.trans c_187) (by decide +kernel))).2
            have h_196 : rg x_179 0 0 := rg_and h_186 (rg_of_eq c_187 (rg_k (0 : Int32) 0 rfl)) (by decide +kernel)
            exact K_117 _ _ _ hF hFr hG hP hD hS (lv_sub hl [0, 1, 2, 3, 4, 5] rfl)
          · replace hF := hF.trans (if_neg c_187)
            obtain ⟨f_197, f_198⟩ := (hr_183.resolve_right (fun q => c_187 q.1)).2
            have h_199 : rg a3 1 2147483647 := rg_le2 f_197 (rg_k (1 : Int32) 1 rfl) (rg_full _) (by decide +kernel)
            have h_200 : rg a3 1 20 := rg_le1 f_198 h_199 (rg_k (20 : Int32) 20 rfl) (by decide +kernel)
            have h_201 : rg x_179 1 1 := rg_ne c_187 h_186 0 rfl (by decide +kernel)
            refine lv_iload hx hb dX11_rules_40 (lv_at hl 5 rfl) ?_
            refine lv_iconst (v := 0) hx hb dX11_rules_42 (by decide +kernel) ?_
            refine lv_bipush (v := 100) hx hb dX11_rules_43 (by decide +kernel) ?_
            refine pk_i (va_runS (As := [.int a4, .int 0, .int 100]) (rest := []) ⟨hx, hb, hml, hown, hts⟩ (s_X11_between l D t σ I J ri rj rq H.size tg hSH hG.1 a4 (0 : Int32) (100 : Int32)) (va_cwS 3 hts (tw_S tw_215 tw_216 tw_2 tw_217) rfl rfl rfl cd_yX11_between_3 ⟨Nat.le_of_ble_eq_true rfl, Nat.le_of_ble_eq_true rfl⟩) ⟨pq_blind, pq_pre hK hN hP hD⟩ rfl rfl hl.1 rfl (lv_room (Nat.le_of_ble_eq_true rfl)) dX11_rules_45 ⟨Nat.le_of_ble_eq_true rfl, Nat.le_of_ble_eq_true rfl⟩) hD hS hA (fun x_202 σ1 μ1 H locs hw_203 hP hD hS => ?_)
            obtain ⟨hu_204, hfn_207, hr_206⟩ := hw_203
            obtain ⟨hu_204a, hu_204b⟩ := Prod.mk.inj hu_204
            rw [hu_204a, hu_204b] at hP hD
            replace hF := hF.trans (ap_n hfn_207.symm)
            have h_209 : rg x_202 0 1 := by rcases hr_206 with ⟨q, -⟩ | ⟨q, -⟩ <;> rw [q] <;> exact ⟨by decide +kernel, by decide +kernel⟩
            refine lv_if_eq (tgt := 55) hx hb dX11_rules_48 (by decide +kernel) (fun c_210 => ?_) (fun c_210 => ?_)
            · replace hF := hF.trans (if_pos c_210)
              have f_218 := (hr_206.resolve_left (fun q => absurd (q.1.symm.trans c_210) (by decide +kernel))).2
              have h_219 : rg x_202 0 0 := rg_and h_209 (rg_of_eq c_210 (rg_k (0 : Int32) 0 rfl)) (by decide +kernel)
              exact K_117 _ _ _ hF hFr hG hP hD hS (lv_sub hl [0, 1, 2, 3, 4, 5] rfl)
            · replace hF := hF.trans (if_neg c_210)
              obtain ⟨f_220, f_221⟩ := (hr_206.resolve_right (fun q => c_210 q.1)).2
              have h_222 : rg a4 0 2147483647 := rg_le2 f_220 (rg_k (0 : Int32) 0 rfl) (rg_full _) (by decide +kernel)
              have h_223 : rg a4 0 100 := rg_le1 f_221 h_222 (rg_k (100 : Int32) 100 rfl) (by decide +kernel)
              have h_224 : rg x_202 1 1 := rg_ne c_210 h_209 0 rfl (by decide +kernel)
              refine lv_iconst (v := 1) hx hb dX11_rules_51 (by decide +kernel) ?_
              refine lv_goto (tgt := 56) hx hb dX11_rules_52 (by decide +kernel) ?_
              exact K_95 _ _ _ (rg_w h_131 (by decide +kernel)) (rg_w h_154 (by decide +kernel)) (rg_w h_177 (by decide +kernel)) (rg_w h_200 (by decide +kernel)) (rg_w h_223 (by decide +kernel)) (rg_w h_132 (by decide +kernel)) hF hFr hG hP hD hS (lv_sub hl [0, 1, 2, 3, 4, 5] rfl)
  exact go _ _ _ hP hD hS hl

set_option maxRecDepth 100000 in
def g_X11_isCell (a0 : Int32) (I : Nat → Int32) (J : Nat → Int64) (ri : Nat → Nat → Int32) (rj : Nat → Nat → Int64) (rq : Nat → Nat → Option Nat) : Int32 × vM := (ap1 (I 65) fun (y_3 : Int32) => (ap1 ((y_3) - (1 : Int32)) fun (x_4 : Int32) => (ap1 (g_X11_between a0 (0 : Int32) x_4) fun (x_6 : Int32) => (x_6, I, J, ri, rj, rq))))
set_option maxRecDepth 100000 in
theorem g_X11_isCell_e {a0 : Int32} {I : Nat → Int32} {J : Nat → Int64} {ri : Nat → Nat → Int32} {rj : Nat → Nat → Int64} {rq : Nat → Nat → Option Nat} : g_X11_isCell a0 I J ri rj rq = (ap1 (I 65) fun (y_3 : Int32) => (ap1 ((y_3) - (1 : Int32)) fun (x_4 : Int32) => (ap1 (g_X11_between a0 (0 : Int32) x_4) fun (x_6 : Int32) => (x_6, I, J, ri, rj, rq)))) := rfl
set_option maxHeartbeats 4000000 in
set_option maxRecDepth 100000 in
theorem s_X11_isCell (l : Launch) (D : va_G) (t : pq_T) (σ : pq_S) (I : Nat → Nat → Int32) (J : Nat → Nat → Int64) (ri : Nat → Nat → Int32) (rj : Nat → Nat → Int64) (rq : Nat → Nat → Option Nat) (sz : Nat) (tg : Nat → Nat) (hSH : SH σ tg) (hG0 : GS tg σ I ri rq) (this : Nat) (a0 : Int32) (hL_this : this ∈ σ.1) (hK_this : σ.2.1 this = 11) (this_now : Nat) (hR_this_now : σ.2.2.1 352 this = some this_now) (hL_this_now : this_now ∈ σ.1) (hK_this_now : σ.2.1 this_now = 10) : MetI l yX11_isCell (wa yX11_isCell cX11_isCell 2 (some .boolean)) ({ frames := 1, cells := 0, slots := 0, locals := 22 }) [.ref this, .int a0] D t σ (I, J, ri, rj, rq) sz 0 0 (fun (r : Int32) (u : pq_S × pq_M) => u = (σ, I, J, ri, rj, rq) ∧ g_X11_isCell a0 (vI 10 σ this_now I) (vJ 10 σ this_now J) (vR 10 σ this_now ri) (vL 10 σ this_now rj) (vQ 10 σ this_now rq) = (r, (vI 10 σ this_now I), (vJ 10 σ this_now J), (vR 10 σ this_now ri), (vL 10 σ this_now rj), (vQ 10 σ this_now rq)) ∧ ((r = 1 ∧ rg a0 0 39) ∨ (r = 0 ∧ True))) := by
  refine Met.ofW (cc := cX11_isCell) (maxL := 2) (ret := (some .boolean)) (by decide +kernel) rfl ?_
  intro p e s m args below meth c s₁ B hml hv
  obtain ⟨rfl, hsz, hP, hK, hD0, hN⟩ := hv
  have hx := B.exec
  have hb := B.bytes
  have hr := B.returns
  have hts := atoms_spec (ws := (wa yX11_isCell cX11_isCell 2 (some .boolean))) B.pre
  have hown : s.vm.findClass RX11 = some m.cls := findClass_of_methodNamed B.named
  have hlocks := B.notSynchronized
  subst hsz
  have hD : va_D (pq_B t σ (I, J, ri, rj, rq) s.heap.size) (pq_P t σ (I, J, ri, rj, rq)) := hD0.self
  generalize hAe : pq_B t σ (I, J, ri, rj, rq) s.heap.size = A at hD ⊢
  have hA : ∀ q : Nat, s.heap.size ≤ q → A q := fun q h => by rw [← hAe]; exact Or.inr h
  have hS : va_S A s.heap s.heap [] := va_S.rf
  have hG : GX [] tg σ I ri rj I ri rj rq := ⟨hG0, fun _ _ _ => rfl, fun _ _ _ _ _ => rfl, fun _ _ _ _ _ => rfl⟩
  have hl := lv_entry ([.ref this, .int a0]) (n := 2) (Nat.le_of_ble_eq_true rfl)
  rw [lg_entry_eq]
  generalize (lg_sl ([.ref this, .int a0]) ++ List.replicate (2 - (lg_sl ([.ref this, .int a0])).length) Slot.unset).toArray = ls at hl ⊢
  have hl : lv_has ls 2 [(0, .ref this), (1, .int a0)] := hl
  refine q_gen (fun Q hQ => ?_)
  have go : ∀ (H : Heap) (locs : List Loc) (ls : Array Slot), va_P D vwCl (pq_P t σ (I, J, ri, rj, rq)) H → va_D A (pq_P t σ (I, J, ri, rj, rq)) → va_S A s.heap H locs → lv_has ls 2 [(0, .ref this), (1, .int a0)] → W p l e ({ frames := 1, cells := 0, slots := 0, locals := 22 } : Room) s m (List.toArray ([.ref this, .int a0] : List Value)) below meth c H locs 0 0 Q (F0 m 0 ls []) := by
    intro H locs ls hP hD hS hl
    have hVT : VT 10 σ tg this_now := vt_10 hSH hL_this_now hK_this_now
    have hFr : FR 10 tg σ this_now (I, J, ri, rj, rq) (I, J, ri, rj, rq) := fr_rf
    have hO_this_now : this_now = vo σ 10 this_now := rfl
    obtain ⟨F, hF0⟩ : ∃ F, F = g_X11_isCell a0 (vI 10 σ this_now I) (vJ 10 σ this_now J) (vR 10 σ this_now ri) (vL 10 σ this_now rj) (vQ 10 σ this_now rq) := ⟨_, rfl⟩
    have hF := hF0.trans g_X11_isCell_e
    refine lv_iload_n hx hb dX11_isCell_0 rfl (lv_at hl 1 rfl) ?_
    refine lv_iconst (v := 0) hx hb dX11_isCell_1 (by decide +kernel) ?_
    refine lv_aload_n hx hb dX11_isCell_2 rfl (lv_at hl 0 rfl) ?_
    refine pg_f (v := .ref this_now) (C := RX11) (T := TX11) (N := 5) hx hb hts (tw_i inlX11) hown hK hP hL_this hK_this (by decide +kernel) rfl 0 (by decide +kernel) (hts _ (tw_c tw_16)) (pq_hv rfl hR_this_now) dX11_isCell_3 ?_
    obtain ⟨w_1, hR_w_1, hL_w_1, hK_w_1⟩ := sh_o hSH 327 (ci := 10) (kd := 2) rfl hL_this_now hK_this_now
    have hO_w_1 : w_1 = vo σ 2 this_now := vo_k (c := 10) hO_this_now hR_w_1
    refine pg_f (v := .ref w_1) (C := RX10) (T := TX10) (N := 13) hx hb hts (tw_i inlX10) hown hK hP hL_this_now hK_this_now (by decide +kernel) rfl 7 (by decide +kernel) (hts _ (tw_c tw_199)) (pq_hv rfl hR_w_1) dX11_isCell_6 ?_
    refine pg_f (v := .int (I 65 w_1)) (C := RX2) (T := TX2) (N := 20) hx hb hts (tw_i inlX2) hown hK hP hL_w_1 hK_w_1 (by decide +kernel) rfl 1 (by decide +kernel) (hts _ (tw_c tw_210)) rfl dX11_isCell_9 ?_
    have h_2 : rg (I 65 w_1) 0 40 := GX.rI hG 65 rfl
    replace hF := hF.trans (ap_n (vI_e (f := 65) hO_w_1 (by decide +kernel)))
    refine lv_iconst (v := 1) hx hb dX11_isCell_12 (by decide +kernel) ?_
    refine lv_isub hx hb dX11_isCell_13 ?_
    refine lv_topi (fun x_4 ex_4 => ?_)
    replace hF := hF.trans (ap_n ex_4)
    have h_5 : rg x_4 (-1) 39 := rg_of_eq ex_4 (rg_sub h_2 (rg_k (1 : Int32) 1 rfl) (by decide +kernel))
    refine pk_i (va_runS (As := [.int a0, .int 0, .int x_4]) (rest := []) ⟨hx, hb, hml, hown, hts⟩ (s_X11_between l D t σ I J ri rj rq H.size tg hSH hG.1 a0 (0 : Int32) x_4) (va_cwS 3 hts (tw_S tw_215 tw_216 tw_2 tw_217) rfl rfl rfl cd_yX11_between_3 ⟨Nat.le_of_ble_eq_true rfl, Nat.le_of_ble_eq_true rfl⟩) ⟨pq_blind, pq_pre hK hN hP hD⟩ rfl rfl hl.1 rfl (lv_room (Nat.le_of_ble_eq_true rfl)) dX11_isCell_14 ⟨Nat.le_of_ble_eq_true rfl, Nat.le_of_ble_eq_true rfl⟩) hD hS hA (fun x_6 σ1 μ1 H locs hw_7 hP hD hS => ?_)
    obtain ⟨hu_8, hfn_11, hr_10⟩ := hw_7
    obtain ⟨hu_8a, hu_8b⟩ := Prod.mk.inj hu_8
    rw [hu_8a, hu_8b] at hP hD
    replace hF := hF.trans (ap_n hfn_11.symm)
    have h_13 : rg x_6 0 1 := by rcases hr_10 with ⟨q, -⟩ | ⟨q, -⟩ <;> rw [q] <;> exact ⟨by decide +kernel, by decide +kernel⟩
    rcases hr_10 with ⟨e_17, f_14, f_15⟩ | ⟨e_17, f_16⟩
    · refine lv_tov 1 e_17 ?_
      have h_18 : rg a0 0 2147483647 := rg_le2 f_14 (rg_k (0 : Int32) 0 rfl) (rg_full _) (by decide +kernel)
      have h_19 : rg a0 0 39 := rg_le1 f_15 h_18 h_5 (by decide +kernel)
      have h_20 : rg x_4 0 39 := rg_le2 f_15 h_18 h_5 (by decide +kernel)
      subst hQ
      exact W.zret (v := 1) hx hb hr (by decide +kernel) (fun t1 ht hW => ⟨⟨1, (σ, I, J, ri, rj, rq), rfl, ⟨rfl, (hF0.symm.trans (hF.trans (by rw [e_17]))), (Or.inl ⟨rfl, (rg_w h_19 (by decide +kernel))⟩)⟩, by rw [ht]; exact hP, va_K.moved hW.alike hK, hD⟩, hS.F ht⟩) hS.2.2 dX11_isCell_17
    · refine lv_tov 0 e_17 ?_
      subst hQ
      exact W.zret (v := 0) hx hb hr (by decide +kernel) (fun t1 ht hW => ⟨⟨0, (σ, I, J, ri, rj, rq), rfl, ⟨rfl, (hF0.symm.trans (hF.trans (by rw [e_17]))), (Or.inr ⟨rfl, trivial⟩)⟩, by rw [ht]; exact hP, va_K.moved hW.alike hK, hD⟩, hS.F ht⟩) hS.2.2 dX11_isCell_17
  exact go _ _ _ hP hD hS hl

set_option maxRecDepth 100000 in
def g_X11_wall_K19 (I : Nat → Int32) (J : Nat → Int64) (ri : Nat → Nat → Int32) (rj : Nat → Nat → Int64) (rq : Nat → Nat → Option Nat) : Int32 × vM := ((0 : Int32), I, J, ri, rj, rq)
set_option maxRecDepth 100000 in
theorem g_X11_wall_K19_e {I : Nat → Int32} {J : Nat → Int64} {ri : Nat → Nat → Int32} {rj : Nat → Nat → Int64} {rq : Nat → Nat → Option Nat} : g_X11_wall_K19 I J ri rj rq  = ((0 : Int32), I, J, ri, rj, rq) := rfl
set_option maxRecDepth 100000 in
def g_X11_wall (a0 : Int32) (a1 : Int32) (I : Nat → Int32) (J : Nat → Int64) (ri : Nat → Nat → Int32) (rj : Nat → Nat → Int64) (rq : Nat → Nat → Option Nat) : Int32 × vM := (bnI (g_X11_isCell a0 I J ri rj rq) fun (x_1 : Int32) (_ : Nat → Int32) (_ : Nat → Int64) (_ : Nat → Nat → Int32) (_ : Nat → Nat → Int64) (_ : Nat → Nat → Option Nat) => (if x_1 = (0 : Int32) then (g_X11_wall_K19 I J ri rj rq ) else (ap1 (g_X11_between a1 (0 : Int32) (1000 : Int32)) fun (x_43 : Int32) => (if x_43 = (0 : Int32) then (g_X11_wall_K19 I J ri rj rq ) else (ap1 (va_up ri 75 (upd (ri 75) (a0).toNatClampNeg a1)) fun (r_66 : Nat → Nat → Int32) => ((1 : Int32), I, J, r_66, rj, rq))))))
set_option maxRecDepth 100000 in
theorem g_X11_wall_e {a0 : Int32} {a1 : Int32} {I : Nat → Int32} {J : Nat → Int64} {ri : Nat → Nat → Int32} {rj : Nat → Nat → Int64} {rq : Nat → Nat → Option Nat} : g_X11_wall a0 a1 I J ri rj rq = (bnI (g_X11_isCell a0 I J ri rj rq) fun (x_1 : Int32) (_ : Nat → Int32) (_ : Nat → Int64) (_ : Nat → Nat → Int32) (_ : Nat → Nat → Int64) (_ : Nat → Nat → Option Nat) => (if x_1 = (0 : Int32) then (g_X11_wall_K19 I J ri rj rq ) else (ap1 (g_X11_between a1 (0 : Int32) (1000 : Int32)) fun (x_43 : Int32) => (if x_43 = (0 : Int32) then (g_X11_wall_K19 I J ri rj rq ) else (ap1 (va_up ri 75 (upd (ri 75) (a0).toNatClampNeg a1)) fun (r_66 : Nat → Nat → Int32) => ((1 : Int32), I, J, r_66, rj, rq)))))) := rfl
set_option maxHeartbeats 4000000 in
set_option maxRecDepth 100000 in
theorem s_X11_wall (l : Launch) (D : va_G) (t : pq_T) (σ : pq_S) (I : Nat → Nat → Int32) (J : Nat → Nat → Int64) (ri : Nat → Nat → Int32) (rj : Nat → Nat → Int64) (rq : Nat → Nat → Option Nat) (sz : Nat) (tg : Nat → Nat) (hSH : SH σ tg) (hG0 : GS tg σ I ri rq) (this : Nat) (a0 : Int32) (a1 : Int32) (hL_this : this ∈ σ.1) (hK_this : σ.2.1 this = 11) (this_now : Nat) (hR_this_now : σ.2.2.1 352 this = some this_now) (hL_this_now : this_now ∈ σ.1) (hK_this_now : σ.2.1 this_now = 10) : MetI l yX11_wall (wa yX11_wall cX11_wall 3 (some .boolean)) ({ frames := 2, cells := 0, slots := 0, locals := 43 }) [.ref this, .int a0, .int a1] D t σ (I, J, ri, rj, rq) sz 0 0 (fun (r : Int32) (u : pq_S × pq_M) => ∃ ri' : Nat → Nat → Int32, u = (σ, I, J, ri', rj, rq) ∧ GX [1075] tg σ I ri rj I ri' rj rq ∧ g_X11_wall a0 a1 (vI 10 σ this_now I) (vJ 10 σ this_now J) (vR 10 σ this_now ri) (vL 10 σ this_now rj) (vQ 10 σ this_now rq) = (r, (vI 10 σ this_now I), (vJ 10 σ this_now J), (vR 10 σ this_now ri'), (vL 10 σ this_now rj), (vQ 10 σ this_now rq)) ∧ FR 10 tg σ this_now (I, J, ri, rj, rq) (I, J, ri', rj, rq) ∧ ((r = 1 ∧ rg a0 0 39 ∧ rg a1 0 1000) ∨ (r = 0 ∧ True))) := by
  refine Met.ofW (cc := cX11_wall) (maxL := 3) (ret := (some .boolean)) (by decide +kernel) rfl ?_
  intro p e s m args below meth c s₁ B hml hv
  obtain ⟨rfl, hsz, hP, hK, hD0, hN⟩ := hv
  have hx := B.exec
  have hb := B.bytes
  have hr := B.returns
  have hts := atoms_spec (ws := (wa yX11_wall cX11_wall 3 (some .boolean))) B.pre
  have hown : s.vm.findClass RX11 = some m.cls := findClass_of_methodNamed B.named
  have hlocks := B.notSynchronized
  subst hsz
  have hD : va_D (pq_B t σ (I, J, ri, rj, rq) s.heap.size) (pq_P t σ (I, J, ri, rj, rq)) := hD0.self
  generalize hAe : pq_B t σ (I, J, ri, rj, rq) s.heap.size = A at hD ⊢
  have hA : ∀ q : Nat, s.heap.size ≤ q → A q := fun q h => by rw [← hAe]; exact Or.inr h
  have hS : va_S A s.heap s.heap [] := va_S.rf
  have hG : GX [1075] tg σ I ri rj I ri rj rq := ⟨hG0, fun _ _ _ => rfl, fun _ _ _ _ _ => rfl, fun _ _ _ _ _ => rfl⟩
  have hl := lv_entry ([.ref this, .int a0, .int a1]) (n := 3) (Nat.le_of_ble_eq_true rfl)
  rw [lg_entry_eq]
  generalize (lg_sl ([.ref this, .int a0, .int a1]) ++ List.replicate (3 - (lg_sl ([.ref this, .int a0, .int a1])).length) Slot.unset).toArray = ls at hl ⊢
  have hl : lv_has ls 3 [(0, .ref this), (1, .int a0), (2, .int a1)] := hl
  refine q_gen (fun Q hQ => ?_)
  have go : ∀ (H : Heap) (locs : List Loc) (ls : Array Slot), va_P D vwCl (pq_P t σ (I, J, ri, rj, rq)) H → va_D A (pq_P t σ (I, J, ri, rj, rq)) → va_S A s.heap H locs → lv_has ls 3 [(0, .ref this), (1, .int a0), (2, .int a1)] → W p l e ({ frames := 2, cells := 0, slots := 0, locals := 43 } : Room) s m (List.toArray ([.ref this, .int a0, .int a1] : List Value)) below meth c H locs 0 0 Q (F0 m 0 ls []) := by
    intro H locs ls hP hD hS hl
    have hVT : VT 10 σ tg this_now := vt_10 hSH hL_this_now hK_this_now
    have hFr : FR 10 tg σ this_now (I, J, ri, rj, rq) (I, J, ri, rj, rq) := fr_rf
    have hO_this_now : this_now = vo σ 10 this_now := rfl
    obtain ⟨F, hF0⟩ : ∃ F, F = g_X11_wall a0 a1 (vI 10 σ this_now I) (vJ 10 σ this_now J) (vR 10 σ this_now ri) (vL 10 σ this_now rj) (vQ 10 σ this_now rq) := ⟨_, rfl⟩
    have hF := hF0.trans g_X11_wall_e
    refine lv_aload_n hx hb dX11_wall_0 rfl (lv_at hl 0 rfl) ?_
    refine lv_iload_n hx hb dX11_wall_1 rfl (lv_at hl 1 rfl) ?_
    refine pk_i (va_runV (As := [.int a0]) (rest := []) ⟨hx, hb, hml, hown, hts⟩ (s_X11_isCell l D t σ I J ri rj rq H.size tg hSH hG.1 this a0 hL_this hK_this this_now hR_this_now hL_this_now hK_this_now) (cwV 1 hts (tw_V tw_332 tw_333 tw_334 tw_2 tw_335) rfl rfl rfl cv_yX11_isCell_1 ⟨Nat.le_of_ble_eq_true rfl, Nat.le_of_ble_eq_true rfl⟩) ⟨pq_blind, pq_recv hK hP hL_this hK_this (by decide +kernel) rfl, pq_pre hK hN hP hD⟩ rfl rfl hl.1 rfl (lv_room (Nat.le_of_ble_eq_true rfl)) dX11_wall_2 ⟨Nat.le_of_ble_eq_true rfl, Nat.le_of_ble_eq_true rfl⟩) hD hS hA (fun x_1 σ1 μ1 H locs hw_2 hP hD hS => ?_)
    obtain ⟨hu_3, hfn_6, hr_5⟩ := hw_2
    obtain ⟨hu_3a, hu_3b⟩ := Prod.mk.inj hu_3
    rw [hu_3a, hu_3b] at hP hD
    replace hF := hF.trans (bn_n hfn_6)
    have h_8 : rg x_1 0 1 := by rcases hr_5 with ⟨q, -⟩ | ⟨q, -⟩ <;> rw [q] <;> exact ⟨by decide +kernel, by decide +kernel⟩
    have K_33 : ∀  (H : Heap) (locs : List Loc) (ls : Array Slot), F = g_X11_wall_K19 (vI 10 σ this_now I) (vJ 10 σ this_now J) (vR 10 σ this_now ri) (vL 10 σ this_now rj) (vQ 10 σ this_now rq)  → FR 10 tg σ this_now (I, J, ri, rj, rq) (I, J, ri, rj, rq) → GX [1075] tg σ I ri rj I ri rj rq → va_P D vwCl (pq_P t σ (I, J, ri, rj, rq)) H → va_D A (pq_P t σ (I, J, ri, rj, rq)) → va_S A s.heap H locs → lv_has ls 3 [] → W p l e ({ frames := 2, cells := 0, slots := 0, locals := 43 } : Room) s m (List.toArray ([.ref this, .int a0, .int a1] : List Value)) below meth c H locs 0 0 Q (F0 m 19 ls []) := by
      intro H locs ls hF hFr hG hP hD hS hl
      replace hF := hF.trans g_X11_wall_K19_e
      refine lv_iconst (v := 0) hx hb dX11_wall_19 (by decide +kernel) ?_
      subst hQ
      exact W.zret (v := 0) hx hb hr (by decide +kernel) (fun t1 ht hW => ⟨⟨0, (σ, I, J, ri, rj, rq), rfl, ⟨ri, rfl, hG, (hF0.symm.trans hF), hFr, (Or.inr ⟨rfl, trivial⟩)⟩, by rw [ht]; exact hP, va_K.moved hW.alike hK, hD⟩, hS.F ht⟩) hS.2.2 dX11_wall_20
    refine lv_if_eq (tgt := 19) hx hb dX11_wall_5 (by decide +kernel) (fun c_34 => ?_) (fun c_34 => ?_)
    · replace hF := hF.trans (if_pos c_34)
      have f_39 := (hr_5.resolve_left (fun q => absurd (q.1.symm.trans c_34) (by decide +kernel))).2
      have h_40 : rg x_1 0 0 := rg_and h_8 (rg_of_eq c_34 (rg_k (0 : Int32) 0 rfl)) (by decide +kernel)
      exact K_33 _ _ _ hF hFr hG hP hD hS (lv_sub hl [] rfl)
    · replace hF := hF.trans (if_neg c_34)
      have f_41 := (hr_5.resolve_right (fun q => c_34 q.1)).2
      have h_42 : rg x_1 1 1 := rg_ne c_34 h_8 0 rfl (by decide +kernel)
      refine lv_iload_n hx hb dX11_wall_8 rfl (lv_at hl 2 rfl) ?_
      refine lv_iconst (v := 0) hx hb dX11_wall_9 (by decide +kernel) ?_
      refine lv_sipush (v := 1000) hx hb dX11_wall_10 (by decide +kernel) ?_
      refine pk_i (va_runS (As := [.int a1, .int 0, .int 1000]) (rest := []) ⟨hx, hb, hml, hown, hts⟩ (s_X11_between l D t σ I J ri rj rq H.size tg hSH hG.1 a1 (0 : Int32) (1000 : Int32)) (va_cwS 3 hts (tw_S tw_215 tw_216 tw_2 tw_217) rfl rfl rfl cd_yX11_between_3 ⟨Nat.le_of_ble_eq_true rfl, Nat.le_of_ble_eq_true rfl⟩) ⟨pq_blind, pq_pre hK hN hP hD⟩ rfl rfl hl.1 rfl (lv_room (Nat.le_of_ble_eq_true rfl)) dX11_wall_13 ⟨Nat.le_of_ble_eq_true rfl, Nat.le_of_ble_eq_true rfl⟩) hD hS hA (fun x_43 σ1 μ1 H locs hw_44 hP hD hS => ?_)
      obtain ⟨hu_45, hfn_48, hr_47⟩ := hw_44
      obtain ⟨hu_45a, hu_45b⟩ := Prod.mk.inj hu_45
      rw [hu_45a, hu_45b] at hP hD
      replace hF := hF.trans (ap_n hfn_48.symm)
      have h_50 : rg x_43 0 1 := by rcases hr_47 with ⟨q, -⟩ | ⟨q, -⟩ <;> rw [q] <;> exact ⟨by decide +kernel, by decide +kernel⟩
      refine lv_if_ne (tgt := 21) hx hb dX11_wall_16 (by decide +kernel) (fun c_51 => ?_) (fun c_51 => ?_)
      · replace hF := hF.trans (if_neg c_51)
        obtain ⟨f_59, f_60⟩ := (hr_47.resolve_right (fun q => c_51 q.1)).2
        have h_61 : rg a1 0 2147483647 := rg_le2 f_59 (rg_k (0 : Int32) 0 rfl) (rg_full _) (by decide +kernel)
        have h_62 : rg a1 0 1000 := rg_le1 f_60 h_61 (rg_k (1000 : Int32) 1000 rfl) (by decide +kernel)
        have h_63 : rg x_43 1 1 := rg_ne c_51 h_50 0 rfl (by decide +kernel)
        refine lv_aload_n hx hb dX11_wall_21 rfl (lv_at hl 0 rfl) ?_
        refine pg_f (v := .ref this_now) (C := RX11) (T := TX11) (N := 5) hx hb hts (tw_i inlX11) hown hK hP hL_this hK_this (by decide +kernel) rfl 0 (by decide +kernel) (hts _ (tw_c tw_16)) (pq_hv rfl hR_this_now) dX11_wall_22 ?_
        obtain ⟨w_64, hR_w_64, hL_w_64, hK_w_64⟩ := sh_o hSH 327 (ci := 10) (kd := 2) rfl hL_this_now hK_this_now
        have hO_w_64 : w_64 = vo σ 2 this_now := vo_k (c := 10) hO_this_now hR_w_64
        refine pg_f (v := .ref w_64) (C := RX10) (T := TX10) (N := 13) hx hb hts (tw_i inlX10) hown hK hP hL_this_now hK_this_now (by decide +kernel) rfl 7 (by decide +kernel) (hts _ (tw_c tw_199)) (pq_hv rfl hR_w_64) dX11_wall_25 ?_
        obtain ⟨w_65, hR_w_65, hL_w_65, hK_w_65, hN_w_65, hT_w_65⟩ := sh_a hSH 75 (ci := 2) (kd := 13) (len := 40) rfl (by decide +kernel) hL_w_64 hK_w_64
        have hO_w_65 : w_65 = vrow σ 75 this_now := vo_k (c := 2) hO_w_64 hR_w_65
        refine pg_f (v := .ref w_65) (C := RX2) (T := TX2) (N := 20) hx hb hts (tw_i inlX2) hown hK hP hL_w_64 hK_w_64 (by decide +kernel) rfl 11 (by decide +kernel) (hts _ (tw_c tw_331)) (pq_hv rfl hR_w_65) dX11_wall_28 ?_
        refine lv_iload_n hx hb dX11_wall_31 rfl (lv_at hl 1 rfl) ?_
        refine lv_iload_n hx hb dX11_wall_32 rfl (lv_at hl 2 rfl) ?_
        refine pt_i hx hb hK hP hD hS hL_w_65 hK_w_65 hN_w_65 (rg_in f_41 (by decide +kernel)) dX11_wall_33 (fun r_66 H locs er_66 hP hD hS => ?_)
        replace hFr := fr_R hFr hO_w_65 (by decide +kernel) er_66
        replace hF := hF.trans (ap_n (vR_st hVT hO_w_65 (by decide +kernel) er_66))
        have hG := GX.wR hG hSH hT_w_65 rfl er_66 (rg_w h_62 (by decide +kernel)) (by decide +kernel)
        refine lv_iconst (v := 1) hx hb dX11_wall_34 (by decide +kernel) ?_
        subst hQ
        exact W.zret (v := 1) hx hb hr (by decide +kernel) (fun t1 ht hW => ⟨⟨1, (σ, I, J, r_66, rj, rq), rfl, ⟨r_66, rfl, hG, (hF0.symm.trans hF), hFr, (Or.inl ⟨rfl, (rg_w f_41 (by decide +kernel)), (rg_w h_62 (by decide +kernel))⟩)⟩, by rw [ht]; exact hP, va_K.moved hW.alike hK, hD⟩, hS.F ht⟩) hS.2.2 dX11_wall_35
      · replace hF := hF.trans (if_pos c_51)
        have f_67 := (hr_47.resolve_left (fun q => absurd (q.1.symm.trans c_51) (by decide +kernel))).2
        have h_68 : rg x_43 0 0 := rg_and h_50 (rg_of_eq c_51 (rg_k (0 : Int32) 0 rfl)) (by decide +kernel)
        exact K_33 _ _ _ hF hFr hG hP hD hS (lv_sub hl [] rfl)
  exact go _ _ _ hP hD hS hl

set_option maxRecDepth 100000 in
def g_X11_well_K69 (I : Nat → Int32) (J : Nat → Int64) (ri : Nat → Nat → Int32) (rj : Nat → Nat → Int64) (rq : Nat → Nat → Option Nat) : Int32 × vM := ((0 : Int32), I, J, ri, rj, rq)
set_option maxRecDepth 100000 in
theorem g_X11_well_K69_e {I : Nat → Int32} {J : Nat → Int64} {ri : Nat → Nat → Int32} {rj : Nat → Nat → Int64} {rq : Nat → Nat → Option Nat} : g_X11_well_K69 I J ri rj rq  = ((0 : Int32), I, J, ri, rj, rq) := rfl
set_option maxRecDepth 100000 in
def g_X11_well_K45 (a0 : Int32) (a1 : Int32) (a2 : Int32) (a3 : Int32) (I : Nat → Int32) (J : Nat → Int64) (ri : Nat → Nat → Int32) (rj : Nat → Nat → Int64) (rq : Nat → Nat → Option Nat) : Int32 × vM := (bnI (g_X9_isAt a0 I J ri rj rq) fun (x_127 : Int32) (_ : Nat → Int32) (_ : Nat → Int64) (_ : Nat → Nat → Int32) (_ : Nat → Nat → Int64) (_ : Nat → Nat → Option Nat) => (if x_127 = (0 : Int32) then (bnV (g_X9_dig a0 a1 a2 a3 I J ri rj rq) fun (_ : Nat → Int32) (_ : Nat → Int64) (ri_141 : Nat → Nat → Int32) (_ : Nat → Nat → Int64) (_ : Nat → Nat → Option Nat) => ((1 : Int32), I, J, ri_141, rj, rq)) else (g_X11_well_K69 I J ri rj rq )))
set_option maxRecDepth 100000 in
theorem g_X11_well_K45_e {a0 : Int32} {a1 : Int32} {a2 : Int32} {a3 : Int32} {I : Nat → Int32} {J : Nat → Int64} {ri : Nat → Nat → Int32} {rj : Nat → Nat → Int64} {rq : Nat → Nat → Option Nat} : g_X11_well_K45 a0 a1 a2 a3 I J ri rj rq  = (bnI (g_X9_isAt a0 I J ri rj rq) fun (x_127 : Int32) (_ : Nat → Int32) (_ : Nat → Int64) (_ : Nat → Nat → Int32) (_ : Nat → Nat → Int64) (_ : Nat → Nat → Option Nat) => (if x_127 = (0 : Int32) then (bnV (g_X9_dig a0 a1 a2 a3 I J ri rj rq) fun (_ : Nat → Int32) (_ : Nat → Int64) (ri_141 : Nat → Nat → Int32) (_ : Nat → Nat → Int64) (_ : Nat → Nat → Option Nat) => ((1 : Int32), I, J, ri_141, rj, rq)) else (g_X11_well_K69 I J ri rj rq ))) := rfl
set_option maxRecDepth 100000 in
def g_X11_well_K69_2 (I : Nat → Int32) (J : Nat → Int64) (ri : Nat → Nat → Int32) (rj : Nat → Nat → Int64) (rq : Nat → Nat → Option Nat) : Int32 × vM := ((0 : Int32), I, J, ri, rj, rq)
set_option maxRecDepth 100000 in
theorem g_X11_well_K69_2_e {I : Nat → Int32} {J : Nat → Int64} {ri : Nat → Nat → Int32} {rj : Nat → Nat → Int64} {rq : Nat → Nat → Option Nat} : g_X11_well_K69_2 I J ri rj rq  = ((0 : Int32), I, J, ri, rj, rq) := rfl
set_option maxRecDepth 100000 in
def g_X11_well_K45_2 (I : Nat → Int32) (J : Nat → Int64) (ri : Nat → Nat → Int32) (rj : Nat → Nat → Int64) (rq : Nat → Nat → Option Nat) : Int32 × vM := (g_X11_well_K69_2 I J ri rj rq )
set_option maxRecDepth 100000 in
theorem g_X11_well_K45_2_e {I : Nat → Int32} {J : Nat → Int64} {ri : Nat → Nat → Int32} {rj : Nat → Nat → Int64} {rq : Nat → Nat → Option Nat} : g_X11_well_K45_2 I J ri rj rq  = (g_X11_well_K69_2 I J ri rj rq ) := rfl
set_option maxRecDepth 100000 in
def g_X11_well_K44 (I : Nat → Int32) (J : Nat → Int64) (ri : Nat → Nat → Int32) (rj : Nat → Nat → Int64) (rq : Nat → Nat → Option Nat) : Int32 × vM := (g_X11_well_K45_2 I J ri rj rq )
set_option maxRecDepth 100000 in
theorem g_X11_well_K44_e {I : Nat → Int32} {J : Nat → Int64} {ri : Nat → Nat → Int32} {rj : Nat → Nat → Int64} {rq : Nat → Nat → Option Nat} : g_X11_well_K44 I J ri rj rq  = (g_X11_well_K45_2 I J ri rj rq ) := rfl
set_option maxRecDepth 100000 in
def g_X11_well (a0 : Int32) (a1 : Int32) (a2 : Int32) (a3 : Int32) (I : Nat → Int32) (J : Nat → Int64) (ri : Nat → Nat → Int32) (rj : Nat → Nat → Int64) (rq : Nat → Nat → Option Nat) : Int32 × vM := (bnI (g_X11_isCell a0 I J ri rj rq) fun (x_1 : Int32) (_ : Nat → Int32) (_ : Nat → Int64) (_ : Nat → Nat → Int32) (_ : Nat → Nat → Int64) (_ : Nat → Nat → Option Nat) => (if x_1 = (0 : Int32) then (g_X11_well_K44 I J ri rj rq ) else (ap1 (g_X11_between a1 (1 : Int32) (20 : Int32)) fun (x_162 : Int32) => (if x_162 = (0 : Int32) then (g_X11_well_K44 I J ri rj rq ) else (ap1 (g_X11_between a2 (0 : Int32) (10000 : Int32)) fun (x_185 : Int32) => (if x_185 = (0 : Int32) then (g_X11_well_K44 I J ri rj rq ) else (ap1 (g_X11_between a3 (0 : Int32) (100 : Int32)) fun (x_208 : Int32) => (if x_208 = (0 : Int32) then (g_X11_well_K44 I J ri rj rq ) else (g_X11_well_K45 a0 a1 a2 a3 I J ri rj rq )))))))))
set_option maxRecDepth 100000 in
theorem g_X11_well_e {a0 : Int32} {a1 : Int32} {a2 : Int32} {a3 : Int32} {I : Nat → Int32} {J : Nat → Int64} {ri : Nat → Nat → Int32} {rj : Nat → Nat → Int64} {rq : Nat → Nat → Option Nat} : g_X11_well a0 a1 a2 a3 I J ri rj rq = (bnI (g_X11_isCell a0 I J ri rj rq) fun (x_1 : Int32) (_ : Nat → Int32) (_ : Nat → Int64) (_ : Nat → Nat → Int32) (_ : Nat → Nat → Int64) (_ : Nat → Nat → Option Nat) => (if x_1 = (0 : Int32) then (g_X11_well_K44 I J ri rj rq ) else (ap1 (g_X11_between a1 (1 : Int32) (20 : Int32)) fun (x_162 : Int32) => (if x_162 = (0 : Int32) then (g_X11_well_K44 I J ri rj rq ) else (ap1 (g_X11_between a2 (0 : Int32) (10000 : Int32)) fun (x_185 : Int32) => (if x_185 = (0 : Int32) then (g_X11_well_K44 I J ri rj rq ) else (ap1 (g_X11_between a3 (0 : Int32) (100 : Int32)) fun (x_208 : Int32) => (if x_208 = (0 : Int32) then (g_X11_well_K44 I J ri rj rq ) else (g_X11_well_K45 a0 a1 a2 a3 I J ri rj rq ))))))))) := rfl
set_option maxHeartbeats 4000000 in
set_option maxRecDepth 100000 in
theorem s_X11_well (l : Launch) (D : va_G) (t : pq_T) (σ : pq_S) (I : Nat → Nat → Int32) (J : Nat → Nat → Int64) (ri : Nat → Nat → Int32) (rj : Nat → Nat → Int64) (rq : Nat → Nat → Option Nat) (sz : Nat) (tg : Nat → Nat) (hSH : SH σ tg) (hG0 : GS tg σ I ri rq) (this : Nat) (a0 : Int32) (a1 : Int32) (a2 : Int32) (a3 : Int32) (hL_this : this ∈ σ.1) (hK_this : σ.2.1 this = 11) (this_now : Nat) (hR_this_now : σ.2.2.1 352 this = some this_now) (hL_this_now : this_now ∈ σ.1) (hK_this_now : σ.2.1 this_now = 10) : MetI l yX11_well (wa yX11_well cX11_well 6 (some .boolean)) ({ frames := 2, cells := 0, slots := 0, locals := 43 }) [.ref this, .int a0, .int a1, .int a2, .int a3] D t σ (I, J, ri, rj, rq) sz 0 0 (fun (r : Int32) (u : pq_S × pq_M) => ∃ ri' : Nat → Nat → Int32, u = (σ, I, J, ri', rj, rq) ∧ GX [1288] tg σ I ri rj I ri' rj rq ∧ g_X11_well a0 a1 a2 a3 (vI 10 σ this_now I) (vJ 10 σ this_now J) (vR 10 σ this_now ri) (vL 10 σ this_now rj) (vQ 10 σ this_now rq) = (r, (vI 10 σ this_now I), (vJ 10 σ this_now J), (vR 10 σ this_now ri'), (vL 10 σ this_now rj), (vQ 10 σ this_now rq)) ∧ FR 10 tg σ this_now (I, J, ri, rj, rq) (I, J, ri', rj, rq) ∧ ((r = 1 ∧ rg a0 0 39 ∧ rg a1 1 20 ∧ rg a2 0 10000 ∧ rg a3 0 100) ∨ (r = 0 ∧ True))) := by
  refine Met.ofW (cc := cX11_well) (maxL := 6) (ret := (some .boolean)) (by decide +kernel) rfl ?_
  intro p e s m args below meth c s₁ B hml hv
  obtain ⟨rfl, hsz, hP, hK, hD0, hN⟩ := hv
  have hx := B.exec
  have hb := B.bytes
  have hr := B.returns
  have hts := atoms_spec (ws := (wa yX11_well cX11_well 6 (some .boolean))) B.pre
  have hown : s.vm.findClass RX11 = some m.cls := findClass_of_methodNamed B.named
  have hlocks := B.notSynchronized
  subst hsz
  have hD : va_D (pq_B t σ (I, J, ri, rj, rq) s.heap.size) (pq_P t σ (I, J, ri, rj, rq)) := hD0.self
  generalize hAe : pq_B t σ (I, J, ri, rj, rq) s.heap.size = A at hD ⊢
  have hA : ∀ q : Nat, s.heap.size ≤ q → A q := fun q h => by rw [← hAe]; exact Or.inr h
  have hS : va_S A s.heap s.heap [] := va_S.rf
  have hG : GX [1288] tg σ I ri rj I ri rj rq := ⟨hG0, fun _ _ _ => rfl, fun _ _ _ _ _ => rfl, fun _ _ _ _ _ => rfl⟩
  have hl := lv_entry ([.ref this, .int a0, .int a1, .int a2, .int a3]) (n := 6) (Nat.le_of_ble_eq_true rfl)
  rw [lg_entry_eq]
  generalize (lg_sl ([.ref this, .int a0, .int a1, .int a2, .int a3]) ++ List.replicate (6 - (lg_sl ([.ref this, .int a0, .int a1, .int a2, .int a3])).length) Slot.unset).toArray = ls at hl ⊢
  have hl : lv_has ls 6 [(0, .ref this), (1, .int a0), (2, .int a1), (3, .int a2), (4, .int a3)] := hl
  refine q_gen (fun Q hQ => ?_)
  have go : ∀ (H : Heap) (locs : List Loc) (ls : Array Slot), va_P D vwCl (pq_P t σ (I, J, ri, rj, rq)) H → va_D A (pq_P t σ (I, J, ri, rj, rq)) → va_S A s.heap H locs → lv_has ls 6 [(0, .ref this), (1, .int a0), (2, .int a1), (3, .int a2), (4, .int a3)] → W p l e ({ frames := 2, cells := 0, slots := 0, locals := 43 } : Room) s m (List.toArray ([.ref this, .int a0, .int a1, .int a2, .int a3] : List Value)) below meth c H locs 0 0 Q (F0 m 0 ls []) := by
    intro H locs ls hP hD hS hl
    have hVT : VT 10 σ tg this_now := vt_10 hSH hL_this_now hK_this_now
    have hFr : FR 10 tg σ this_now (I, J, ri, rj, rq) (I, J, ri, rj, rq) := fr_rf
    have hO_this_now : this_now = vo σ 10 this_now := rfl
    obtain ⟨F, hF0⟩ : ∃ F, F = g_X11_well a0 a1 a2 a3 (vI 10 σ this_now I) (vJ 10 σ this_now J) (vR 10 σ this_now ri) (vL 10 σ this_now rj) (vQ 10 σ this_now rq) := ⟨_, rfl⟩
    have hF := hF0.trans g_X11_well_e
    refine lv_aload_n hx hb dX11_well_0 rfl (lv_at hl 0 rfl) ?_
    refine lv_iload_n hx hb dX11_well_1 rfl (lv_at hl 1 rfl) ?_
    refine pk_i (va_runV (As := [.int a0]) (rest := []) ⟨hx, hb, hml, hown, hts⟩ (s_X11_isCell l D t σ I J ri rj rq H.size tg hSH hG.1 this a0 hL_this hK_this this_now hR_this_now hL_this_now hK_this_now) (cwV 1 hts (tw_V tw_332 tw_333 tw_334 tw_2 tw_335) rfl rfl rfl cv_yX11_isCell_1 ⟨Nat.le_of_ble_eq_true rfl, Nat.le_of_ble_eq_true rfl⟩) ⟨pq_blind, pq_recv hK hP hL_this hK_this (by decide +kernel) rfl, pq_pre hK hN hP hD⟩ rfl rfl hl.1 rfl (lv_room (Nat.le_of_ble_eq_true rfl)) dX11_well_2 ⟨Nat.le_of_ble_eq_true rfl, Nat.le_of_ble_eq_true rfl⟩) hD hS hA (fun x_1 σ1 μ1 H locs hw_2 hP hD hS => ?_)
    obtain ⟨hu_3, hfn_6, hr_5⟩ := hw_2
    obtain ⟨hu_3a, hu_3b⟩ := Prod.mk.inj hu_3
    rw [hu_3a, hu_3b] at hP hD
    replace hF := hF.trans (bn_n hfn_6)
    have h_8 : rg x_1 0 1 := by rcases hr_5 with ⟨q, -⟩ | ⟨q, -⟩ <;> rw [q] <;> exact ⟨by decide +kernel, by decide +kernel⟩
    have K_90 : ∀  (H : Heap) (locs : List Loc) (ls : Array Slot), rg (a0) 0 39 → rg (a1) 1 20 → rg (a2) 0 10000 → rg (a3) 0 100 → rg (x_1) 1 1 → F = g_X11_well_K45 a0 a1 a2 a3 (vI 10 σ this_now I) (vJ 10 σ this_now J) (vR 10 σ this_now ri) (vL 10 σ this_now rj) (vQ 10 σ this_now rq)  → FR 10 tg σ this_now (I, J, ri, rj, rq) (I, J, ri, rj, rq) → GX [1288] tg σ I ri rj I ri rj rq → va_P D vwCl (pq_P t σ (I, J, ri, rj, rq)) H → va_D A (pq_P t σ (I, J, ri, rj, rq)) → va_S A s.heap H locs → lv_has ls 6 [(0, .ref this), (1, .int a0), (2, .int a1), (3, .int a2), (4, .int a3)] → W p l e ({ frames := 2, cells := 0, slots := 0, locals := 43 } : Room) s m (List.toArray ([.ref this, .int a0, .int a1, .int a2, .int a3] : List Value)) below meth c H locs 0 0 Q (F0 m 45 ls [.int 1]) := by
      intro H locs ls h_96 h_97 h_98 h_99 h_100 hF hFr hG hP hD hS hl
      replace hF := hF.trans g_X11_well_K45_e
      refine lv_istore (lv' := [(5, .int 1), (0, .ref this), (1, .int a0), (2, .int a1), (3, .int a2), (4, .int a3)]) hx hb dX11_well_45 hl (by decide +kernel) rfl (fun ls hl => ?_)
      refine lv_iload hx hb dX11_well_47 (lv_at hl 0 rfl) ?_
      have K_123 : ∀  (H : Heap) (locs : List Loc) (ls : Array Slot), F = g_X11_well_K69 (vI 10 σ this_now I) (vJ 10 σ this_now J) (vR 10 σ this_now ri) (vL 10 σ this_now rj) (vQ 10 σ this_now rq)  → FR 10 tg σ this_now (I, J, ri, rj, rq) (I, J, ri, rj, rq) → GX [1288] tg σ I ri rj I ri rj rq → va_P D vwCl (pq_P t σ (I, J, ri, rj, rq)) H → va_D A (pq_P t σ (I, J, ri, rj, rq)) → va_S A s.heap H locs → lv_has ls 6 [] → W p l e ({ frames := 2, cells := 0, slots := 0, locals := 43 } : Room) s m (List.toArray ([.ref this, .int a0, .int a1, .int a2, .int a3] : List Value)) below meth c H locs 0 0 Q (F0 m 69 ls []) := by
        intro H locs ls hF hFr hG hP hD hS hl
        replace hF := hF.trans g_X11_well_K69_e
        refine lv_iconst (v := 0) hx hb dX11_well_69 (by decide +kernel) ?_
        subst hQ
        exact W.zret (v := 0) hx hb hr (by decide +kernel) (fun t1 ht hW => ⟨⟨0, (σ, I, J, ri, rj, rq), rfl, ⟨ri, rfl, hG, (hF0.symm.trans hF), hFr, (Or.inr ⟨rfl, trivial⟩)⟩, by rw [ht]; exact hP, va_K.moved hW.alike hK, hD⟩, hS.F ht⟩) hS.2.2 dX11_well_70
      refine lv_if_eq (tgt := 69) hx hb dX11_well_49 (by decide +kernel) (fun c_124 => absurd c_124 (by decide +kernel)) (fun c_124 => ?_)
      refine lv_aload_n hx hb dX11_well_52 rfl (lv_at hl 1 rfl) ?_
      refine pg_f (v := .ref this_now) (C := RX11) (T := TX11) (N := 5) hx hb hts (tw_i inlX11) hown hK hP hL_this hK_this (by decide +kernel) rfl 0 (by decide +kernel) (hts _ (tw_c tw_16)) (pq_hv rfl hR_this_now) dX11_well_53 ?_
      obtain ⟨w_125, hR_w_125, hL_w_125, hK_w_125⟩ := sh_o hSH 327 (ci := 10) (kd := 2) rfl hL_this_now hK_this_now
      have hO_w_125 : w_125 = vo σ 2 this_now := vo_k (c := 10) hO_this_now hR_w_125
      refine pg_f (v := .ref w_125) (C := RX10) (T := TX10) (N := 13) hx hb hts (tw_i inlX10) hown hK hP hL_this_now hK_this_now (by decide +kernel) rfl 7 (by decide +kernel) (hts _ (tw_c tw_199)) (pq_hv rfl hR_w_125) dX11_well_56 ?_
      obtain ⟨w_126, hR_w_126, hL_w_126, hK_w_126⟩ := sh_o hSH 78 (ci := 2) (kd := 9) rfl hL_w_125 hK_w_125
      have hO_w_126 : w_126 = vo σ 9 this_now := vo_k (c := 2) hO_w_125 hR_w_126
      refine pg_f (v := .ref w_126) (C := RX2) (T := TX2) (N := 20) hx hb hts (tw_i inlX2) hown hK hP hL_w_125 hK_w_125 (by decide +kernel) rfl 14 (by decide +kernel) (hts _ (tw_c tw_348)) (pq_hv rfl hR_w_126) dX11_well_59 ?_
      refine lv_iload_n hx hb dX11_well_62 rfl (lv_at hl 2 rfl) ?_
      refine pk_i (va_runV (As := [.int a0]) (rest := []) ⟨hx, hb, hml, hown, hts⟩ (s_X9_isAt l D t σ I J ri rj rq H.size tg hSH hG.1 w_126 a0 hL_w_126 hK_w_126 (rg_w h_96 (by decide +kernel)) this_now hL_this_now hK_this_now hO_w_126) (cwV 1 hts (tw_V tw_349 tw_350 tw_351 tw_94 tw_352) rfl rfl rfl cv_yX9_isAt_1 ⟨Nat.le_of_ble_eq_true rfl, Nat.le_of_ble_eq_true rfl⟩) ⟨pq_blind, pq_recv hK hP hL_w_126 hK_w_126 (by decide +kernel) rfl, pq_pre hK hN hP hD⟩ rfl rfl hl.1 rfl (lv_room (Nat.le_of_ble_eq_true rfl)) dX11_well_63 ⟨Nat.le_of_ble_eq_true rfl, Nat.le_of_ble_eq_true rfl⟩) hD hS hA (fun x_127 σ1 μ1 H locs hw_128 hP hD hS => ?_)
      obtain ⟨hu_129, hfn_132, hr_131⟩ := hw_128
      obtain ⟨hu_129a, hu_129b⟩ := Prod.mk.inj hu_129
      rw [hu_129a, hu_129b] at hP hD
      replace hF := hF.trans (bn_n hfn_132)
      have h_134 : rg x_127 0 1 := by rcases hr_131 with ⟨q, -⟩ | ⟨q, -⟩ <;> rw [q] <;> exact ⟨by decide +kernel, by decide +kernel⟩
      refine lv_if_eq (tgt := 71) hx hb dX11_well_66 (by decide +kernel) (fun c_135 => ?_) (fun c_135 => ?_)
      · replace hF := hF.trans (if_pos c_135)
        have h_138 : rg x_127 0 0 := rg_and h_134 (rg_of_eq c_135 (rg_k (0 : Int32) 0 rfl)) (by decide +kernel)
        refine lv_aload_n hx hb dX11_well_71 rfl (lv_at hl 1 rfl) ?_
        refine pg_f (v := .ref this_now) (C := RX11) (T := TX11) (N := 5) hx hb hts (tw_i inlX11) hown hK hP hL_this hK_this (by decide +kernel) rfl 0 (by decide +kernel) (hts _ (tw_c tw_16)) (pq_hv rfl hR_this_now) dX11_well_72 ?_
        refine pg_f (v := .ref w_125) (C := RX10) (T := TX10) (N := 13) hx hb hts (tw_i inlX10) hown hK hP hL_this_now hK_this_now (by decide +kernel) rfl 7 (by decide +kernel) (hts _ (tw_c tw_199)) (pq_hv rfl hR_w_125) dX11_well_75 ?_
        refine pg_f (v := .ref w_126) (C := RX2) (T := TX2) (N := 20) hx hb hts (tw_i inlX2) hown hK hP hL_w_125 hK_w_125 (by decide +kernel) rfl 14 (by decide +kernel) (hts _ (tw_c tw_348)) (pq_hv rfl hR_w_126) dX11_well_78 ?_
        refine lv_iload_n hx hb dX11_well_81 rfl (lv_at hl 2 rfl) ?_
        refine lv_iload_n hx hb dX11_well_82 rfl (lv_at hl 3 rfl) ?_
        refine lv_iload_n hx hb dX11_well_83 rfl (lv_at hl 4 rfl) ?_
        refine lv_iload hx hb dX11_well_84 (lv_at hl 5 rfl) ?_
        refine pk_v (va_runV (As := [.int a0, .int a1, .int a2, .int a3]) (rest := []) ⟨hx, hb, hml, hown, hts⟩ (s_X9_dig l D t σ I J ri rj rq H.size tg hSH hG.1 w_126 a0 a1 a2 a3 hL_w_126 hK_w_126 (rg_w h_96 (by decide +kernel)) this_now hL_this_now hK_this_now hO_w_126) (cwV 4 hts (tw_V tw_353 tw_354 tw_355 tw_94 tw_356) rfl rfl rfl cv_yX9_dig_4 ⟨Nat.le_of_ble_eq_true rfl, Nat.le_of_ble_eq_true rfl⟩) ⟨pq_blind, pq_recv hK hP hL_w_126 hK_w_126 (by decide +kernel) rfl, pq_pre hK hN hP hD⟩ rfl rfl hl.1 rfl (lv_room (Nat.le_of_ble_eq_true rfl)) dX11_well_86 ⟨Nat.le_of_ble_eq_true rfl, Nat.le_of_ble_eq_true rfl⟩) hD hS hA (fun σ1 μ1 H locs hw_140 hP hD hS => ?_)
        obtain ⟨ri_141, hu_142, hg_143, hfn_145, hfr_146⟩ := hw_140
        obtain ⟨hu_142a, hu_142b⟩ := Prod.mk.inj hu_142
        rw [hu_142a, hu_142b] at hP hD
        replace hF := hF.trans (bv_n hfn_145)
        replace hFr := fr_tr hFr hfr_146
        have hG := GX.tr hG hg_143 (by decide +kernel)
        refine lv_iconst (v := 1) hx hb dX11_well_89 (by decide +kernel) ?_
        subst hQ
        exact W.zret (v := 1) hx hb hr (by decide +kernel) (fun t1 ht hW => ⟨⟨1, (σ, I, J, ri_141, rj, rq), rfl, ⟨ri_141, rfl, hG, (hF0.symm.trans hF), hFr, (Or.inl ⟨rfl, (rg_w h_96 (by decide +kernel)), (rg_w h_97 (by decide +kernel)), (rg_w h_98 (by decide +kernel)), (rg_w h_99 (by decide +kernel))⟩)⟩, by rw [ht]; exact hP, va_K.moved hW.alike hK, hD⟩, hS.F ht⟩) hS.2.2 dX11_well_90
      · replace hF := hF.trans (if_neg c_135)
        have h_147 : rg x_127 1 1 := rg_ne c_135 h_134 0 rfl (by decide +kernel)
        exact K_123 _ _ _ hF hFr hG hP hD hS (lv_sub hl [] rfl)
    have K_148 : ∀  (H : Heap) (locs : List Loc) (ls : Array Slot), F = g_X11_well_K45_2 (vI 10 σ this_now I) (vJ 10 σ this_now J) (vR 10 σ this_now ri) (vL 10 σ this_now rj) (vQ 10 σ this_now rq)  → FR 10 tg σ this_now (I, J, ri, rj, rq) (I, J, ri, rj, rq) → GX [1288] tg σ I ri rj I ri rj rq → va_P D vwCl (pq_P t σ (I, J, ri, rj, rq)) H → va_D A (pq_P t σ (I, J, ri, rj, rq)) → va_S A s.heap H locs → lv_has ls 6 [(0, .ref this), (1, .int a0), (2, .int a1), (3, .int a2), (4, .int a3)] → W p l e ({ frames := 2, cells := 0, slots := 0, locals := 43 } : Room) s m (List.toArray ([.ref this, .int a0, .int a1, .int a2, .int a3] : List Value)) below meth c H locs 0 0 Q (F0 m 45 ls [.int 0]) := by
      intro H locs ls hF hFr hG hP hD hS hl
      replace hF := hF.trans g_X11_well_K45_2_e
      refine lv_istore (lv' := [(5, .int 0), (0, .ref this), (1, .int a0), (2, .int a1), (3, .int a2), (4, .int a3)]) hx hb dX11_well_45 hl (by decide +kernel) rfl (fun ls hl => ?_)
      refine lv_iload hx hb dX11_well_47 (lv_at hl 0 rfl) ?_
      have K_150 : ∀  (H : Heap) (locs : List Loc) (ls : Array Slot), F = g_X11_well_K69_2 (vI 10 σ this_now I) (vJ 10 σ this_now J) (vR 10 σ this_now ri) (vL 10 σ this_now rj) (vQ 10 σ this_now rq)  → FR 10 tg σ this_now (I, J, ri, rj, rq) (I, J, ri, rj, rq) → GX [1288] tg σ I ri rj I ri rj rq → va_P D vwCl (pq_P t σ (I, J, ri, rj, rq)) H → va_D A (pq_P t σ (I, J, ri, rj, rq)) → va_S A s.heap H locs → lv_has ls 6 [] → W p l e ({ frames := 2, cells := 0, slots := 0, locals := 43 } : Room) s m (List.toArray ([.ref this, .int a0, .int a1, .int a2, .int a3] : List Value)) below meth c H locs 0 0 Q (F0 m 69 ls []) := by
        intro H locs ls hF hFr hG hP hD hS hl
        replace hF := hF.trans g_X11_well_K69_2_e
        refine lv_iconst (v := 0) hx hb dX11_well_69 (by decide +kernel) ?_
        subst hQ
        exact W.zret (v := 0) hx hb hr (by decide +kernel) (fun t1 ht hW => ⟨⟨0, (σ, I, J, ri, rj, rq), rfl, ⟨ri, rfl, hG, (hF0.symm.trans hF), hFr, (Or.inr ⟨rfl, trivial⟩)⟩, by rw [ht]; exact hP, va_K.moved hW.alike hK, hD⟩, hS.F ht⟩) hS.2.2 dX11_well_70
      refine lv_if_eq (tgt := 69) hx hb dX11_well_49 (by decide +kernel) (fun c_151 => ?_) (fun c_151 => absurd c_151 (by decide +kernel))
      exact K_150 _ _ _ hF hFr hG hP hD hS (lv_sub hl [] rfl)
    have K_152 : ∀  (H : Heap) (locs : List Loc) (ls : Array Slot), F = g_X11_well_K44 (vI 10 σ this_now I) (vJ 10 σ this_now J) (vR 10 σ this_now ri) (vL 10 σ this_now rj) (vQ 10 σ this_now rq)  → FR 10 tg σ this_now (I, J, ri, rj, rq) (I, J, ri, rj, rq) → GX [1288] tg σ I ri rj I ri rj rq → va_P D vwCl (pq_P t σ (I, J, ri, rj, rq)) H → va_D A (pq_P t σ (I, J, ri, rj, rq)) → va_S A s.heap H locs → lv_has ls 6 [(0, .ref this), (1, .int a0), (2, .int a1), (3, .int a2), (4, .int a3)] → W p l e ({ frames := 2, cells := 0, slots := 0, locals := 43 } : Room) s m (List.toArray ([.ref this, .int a0, .int a1, .int a2, .int a3] : List Value)) below meth c H locs 0 0 Q (F0 m 44 ls []) := by
      intro H locs ls hF hFr hG hP hD hS hl
      replace hF := hF.trans g_X11_well_K44_e
      refine lv_iconst (v := 0) hx hb dX11_well_44 (by decide +kernel) ?_
      exact K_148 _ _ _ hF hFr hG hP hD hS (lv_sub hl [0, 1, 2, 3, 4] rfl)
    refine lv_if_eq (tgt := 44) hx hb dX11_well_5 (by decide +kernel) (fun c_153 => ?_) (fun c_153 => ?_)
    · replace hF := hF.trans (if_pos c_153)
      have f_158 := (hr_5.resolve_left (fun q => absurd (q.1.symm.trans c_153) (by decide +kernel))).2
      have h_159 : rg x_1 0 0 := rg_and h_8 (rg_of_eq c_153 (rg_k (0 : Int32) 0 rfl)) (by decide +kernel)
      exact K_152 _ _ _ hF hFr hG hP hD hS (lv_sub hl [0, 1, 2, 3, 4] rfl)
    · replace hF := hF.trans (if_neg c_153)
      have f_160 := (hr_5.resolve_right (fun q => c_153 q.1)).2
      have h_161 : rg x_1 1 1 := rg_ne c_153 h_8 0 rfl (by decide +kernel)
      refine lv_iload_n hx hb dX11_well_8 rfl (lv_at hl 2 rfl) ?_
      refine lv_iconst (v := 1) hx hb dX11_well_9 (by decide +kernel) ?_
      refine lv_bipush (v := 20) hx hb dX11_well_10 (by decide +kernel) ?_
      refine pk_i (va_runS (As := [.int a1, .int 1, .int 20]) (rest := []) ⟨hx, hb, hml, hown, hts⟩ (s_X11_between l D t σ I J ri rj rq H.size tg hSH hG.1 a1 (1 : Int32) (20 : Int32)) (va_cwS 3 hts (tw_S tw_215 tw_216 tw_2 tw_217) rfl rfl rfl cd_yX11_between_3 ⟨Nat.le_of_ble_eq_true rfl, Nat.le_of_ble_eq_true rfl⟩) ⟨pq_blind, pq_pre hK hN hP hD⟩ rfl rfl hl.1 rfl (lv_room (Nat.le_of_ble_eq_true rfl)) dX11_well_12 ⟨Nat.le_of_ble_eq_true rfl, Nat.le_of_ble_eq_true rfl⟩) hD hS hA (fun x_162 σ1 μ1 H locs hw_163 hP hD hS => ?_)
      obtain ⟨hu_164, hfn_167, hr_166⟩ := hw_163
      obtain ⟨hu_164a, hu_164b⟩ := Prod.mk.inj hu_164
      rw [hu_164a, hu_164b] at hP hD
      replace hF := hF.trans (ap_n hfn_167.symm)
      have h_169 : rg x_162 0 1 := by rcases hr_166 with ⟨q, -⟩ | ⟨q, -⟩ <;> rw [q] <;> exact ⟨by decide +kernel, by decide +kernel⟩
      refine lv_if_eq (tgt := 44) hx hb dX11_well_15 (by decide +kernel) (fun c_170 => ?_) (fun c_170 => ?_)
      · replace hF := hF.trans (if_pos c_170)
        have f_178 := (hr_166.resolve_left (fun q => absurd (q.1.symm.trans c_170) (by decide +kernel))).2
        have h_179 : rg x_162 0 0 := rg_and h_169 (rg_of_eq c_170 (rg_k (0 : Int32) 0 rfl)) (by decide +kernel)
        exact K_152 _ _ _ hF hFr hG hP hD hS (lv_sub hl [0, 1, 2, 3, 4] rfl)
      · replace hF := hF.trans (if_neg c_170)
        obtain ⟨f_180, f_181⟩ := (hr_166.resolve_right (fun q => c_170 q.1)).2
        have h_182 : rg a1 1 2147483647 := rg_le2 f_180 (rg_k (1 : Int32) 1 rfl) (rg_full _) (by decide +kernel)
        have h_183 : rg a1 1 20 := rg_le1 f_181 h_182 (rg_k (20 : Int32) 20 rfl) (by decide +kernel)
        have h_184 : rg x_162 1 1 := rg_ne c_170 h_169 0 rfl (by decide +kernel)
        refine lv_iload_n hx hb dX11_well_18 rfl (lv_at hl 3 rfl) ?_
        refine lv_iconst (v := 0) hx hb dX11_well_19 (by decide +kernel) ?_
        refine lv_sipush (v := 10000) hx hb dX11_well_20 (by decide +kernel) ?_
        refine pk_i (va_runS (As := [.int a2, .int 0, .int 10000]) (rest := []) ⟨hx, hb, hml, hown, hts⟩ (s_X11_between l D t σ I J ri rj rq H.size tg hSH hG.1 a2 (0 : Int32) (10000 : Int32)) (va_cwS 3 hts (tw_S tw_215 tw_216 tw_2 tw_217) rfl rfl rfl cd_yX11_between_3 ⟨Nat.le_of_ble_eq_true rfl, Nat.le_of_ble_eq_true rfl⟩) ⟨pq_blind, pq_pre hK hN hP hD⟩ rfl rfl hl.1 rfl (lv_room (Nat.le_of_ble_eq_true rfl)) dX11_well_23 ⟨Nat.le_of_ble_eq_true rfl, Nat.le_of_ble_eq_true rfl⟩) hD hS hA (fun x_185 σ1 μ1 H locs hw_186 hP hD hS => ?_)
        obtain ⟨hu_187, hfn_190, hr_189⟩ := hw_186
        obtain ⟨hu_187a, hu_187b⟩ := Prod.mk.inj hu_187
        rw [hu_187a, hu_187b] at hP hD
        replace hF := hF.trans (ap_n hfn_190.symm)
        have h_192 : rg x_185 0 1 := by rcases hr_189 with ⟨q, -⟩ | ⟨q, -⟩ <;> rw [q] <;> exact ⟨by decide +kernel, by decide +kernel⟩
        refine lv_if_eq (tgt := 44) hx hb dX11_well_26 (by decide +kernel) (fun c_193 => ?_) (fun c_193 => ?_)
        · replace hF := hF.trans (if_pos c_193)
          have f_201 := (hr_189.resolve_left (fun q => absurd (q.1.symm.trans c_193) (by decide +kernel))).2
          have h_202 : rg x_185 0 0 := rg_and h_192 (rg_of_eq c_193 (rg_k (0 : Int32) 0 rfl)) (by decide +kernel)
          exact K_152 _ _ _ hF hFr hG hP hD hS (lv_sub hl [0, 1, 2, 3, 4] rfl)
        · replace hF := hF.trans (if_neg c_193)
          obtain ⟨f_203, f_204⟩ := (hr_189.resolve_right (fun q => c_193 q.1)).2
          have h_205 : rg a2 0 2147483647 := rg_le2 f_203 (rg_k (0 : Int32) 0 rfl) (rg_full _) (by decide +kernel)
          have h_206 : rg a2 0 10000 := rg_le1 f_204 h_205 (rg_k (10000 : Int32) 10000 rfl) (by decide +kernel)
          have h_207 : rg x_185 1 1 := rg_ne c_193 h_192 0 rfl (by decide +kernel)
          refine lv_iload hx hb dX11_well_29 (lv_at hl 4 rfl) ?_
          refine lv_iconst (v := 0) hx hb dX11_well_31 (by decide +kernel) ?_
          refine lv_bipush (v := 100) hx hb dX11_well_32 (by decide +kernel) ?_
          refine pk_i (va_runS (As := [.int a3, .int 0, .int 100]) (rest := []) ⟨hx, hb, hml, hown, hts⟩ (s_X11_between l D t σ I J ri rj rq H.size tg hSH hG.1 a3 (0 : Int32) (100 : Int32)) (va_cwS 3 hts (tw_S tw_215 tw_216 tw_2 tw_217) rfl rfl rfl cd_yX11_between_3 ⟨Nat.le_of_ble_eq_true rfl, Nat.le_of_ble_eq_true rfl⟩) ⟨pq_blind, pq_pre hK hN hP hD⟩ rfl rfl hl.1 rfl (lv_room (Nat.le_of_ble_eq_true rfl)) dX11_well_34 ⟨Nat.le_of_ble_eq_true rfl, Nat.le_of_ble_eq_true rfl⟩) hD hS hA (fun x_208 σ1 μ1 H locs hw_209 hP hD hS => ?_)
          obtain ⟨hu_210, hfn_213, hr_212⟩ := hw_209
          obtain ⟨hu_210a, hu_210b⟩ := Prod.mk.inj hu_210
          rw [hu_210a, hu_210b] at hP hD
          replace hF := hF.trans (ap_n hfn_213.symm)
          have h_215 : rg x_208 0 1 := by rcases hr_212 with ⟨q, -⟩ | ⟨q, -⟩ <;> rw [q] <;> exact ⟨by decide +kernel, by decide +kernel⟩
          refine lv_if_eq (tgt := 44) hx hb dX11_well_37 (by decide +kernel) (fun c_216 => ?_) (fun c_216 => ?_)
          · replace hF := hF.trans (if_pos c_216)
            have f_224 := (hr_212.resolve_left (fun q => absurd (q.1.symm.trans c_216) (by decide +kernel))).2
            have h_225 : rg x_208 0 0 := rg_and h_215 (rg_of_eq c_216 (rg_k (0 : Int32) 0 rfl)) (by decide +kernel)
            exact K_152 _ _ _ hF hFr hG hP hD hS (lv_sub hl [0, 1, 2, 3, 4] rfl)
          · replace hF := hF.trans (if_neg c_216)
            obtain ⟨f_226, f_227⟩ := (hr_212.resolve_right (fun q => c_216 q.1)).2
            have h_228 : rg a3 0 2147483647 := rg_le2 f_226 (rg_k (0 : Int32) 0 rfl) (rg_full _) (by decide +kernel)
            have h_229 : rg a3 0 100 := rg_le1 f_227 h_228 (rg_k (100 : Int32) 100 rfl) (by decide +kernel)
            have h_230 : rg x_208 1 1 := rg_ne c_216 h_215 0 rfl (by decide +kernel)
            refine lv_iconst (v := 1) hx hb dX11_well_40 (by decide +kernel) ?_
            refine lv_goto (tgt := 45) hx hb dX11_well_41 (by decide +kernel) ?_
            exact K_90 _ _ _ (rg_w f_160 (by decide +kernel)) (rg_w h_183 (by decide +kernel)) (rg_w h_206 (by decide +kernel)) (rg_w h_229 (by decide +kernel)) (rg_w h_161 (by decide +kernel)) hF hFr hG hP hD hS (lv_sub hl [0, 1, 2, 3, 4] rfl)
  exact go _ _ _ hP hD hS hl
