theorem dX11_levelOf_0 : decode cX11_levelOf 0 = .ok (.iload_n 1, 1) := by decide +kernel
theorem dX11_levelOf_1 : decode cX11_levelOf 1 = .ok (.invokestatic 64, 3) := by decide +kernel
theorem dX11_levelOf_4 : decode cX11_levelOf 4 = .ok (.ifCond .eq 21, 3) := by decide +kernel
theorem dX11_levelOf_7 : decode cX11_levelOf 7 = .ok (.iload_n 2, 1) := by decide +kernel
theorem tw_247 : Cond.methodLink RX11 67 yX11_isMonth ∈ wsL_law := List.mem_of_getElem? (i := 247) (by decide +kernel)
theorem tw_248 : Cond.static yX11_isMonth ∈ wsL_law := List.mem_of_getElem? (i := 248) (by decide +kernel)
theorem tw_249 : Cond.code yX11_isMonth cX11_isMonth 1 (some .boolean) ∈ wsL_law := List.mem_of_getElem? (i := 249) (by decide +kernel)
theorem dX11_levelOf_8 : decode cX11_levelOf 8 = .ok (.invokestatic 67, 3) := by decide +kernel
theorem dX11_levelOf_11 : decode cX11_levelOf 11 = .ok (.ifCond .eq 14, 3) := by decide +kernel
theorem dX11_levelOf_14 : decode cX11_levelOf 14 = .ok (.iload_n 3, 1) := by decide +kernel
theorem dX11_levelOf_15 : decode cX11_levelOf 15 = .ok (.iconst 0, 1) := by decide +kernel
theorem dX11_levelOf_16 : decode cX11_levelOf 16 = .ok (.sipush 600, 3) := by decide +kernel
theorem dX11_levelOf_19 : decode cX11_levelOf 19 = .ok (.invokestatic 50, 3) := by decide +kernel
theorem dX11_levelOf_22 : decode cX11_levelOf 22 = .ok (.ifCond .ne 6, 3) := by decide +kernel
theorem dX11_levelOf_28 : decode cX11_levelOf 28 = .ok (.aload_n 0, 1) := by decide +kernel
theorem dX11_levelOf_29 : decode cX11_levelOf 29 = .ok (.getfield 10, 3) := by decide +kernel
theorem tw_242 : Cond.fieldLink RX11 70 "RingsUnder$World" "seas" "LRingsUnder$Seas;" ∈ wsL_law := List.mem_of_getElem? (i := 242) (by decide +kernel)
theorem dX11_levelOf_32 : decode cX11_levelOf 32 = .ok (.getfield 70, 3) := by decide +kernel
theorem dX11_levelOf_35 : decode cX11_levelOf 35 = .ok (.iload_n 1, 1) := by decide +kernel
theorem dX11_levelOf_36 : decode cX11_levelOf 36 = .ok (.iload_n 2, 1) := by decide +kernel
theorem dX11_levelOf_37 : decode cX11_levelOf 37 = .ok (.iload_n 3, 1) := by decide +kernel
theorem tw_270 : Cond.methodLink RX11 84 yX7_known ∈ wsL_law := List.mem_of_getElem? (i := 270) (by decide +kernel)
theorem dX11_levelOf_38 : decode cX11_levelOf 38 = .ok (.invokevirtual 84, 3) := by decide +kernel
theorem dX11_levelOf_41 : decode cX11_levelOf 41 = .ok (.ireturn, 1) := by decide +kernel
theorem dX11_levelOf_25 : decode cX11_levelOf 25 = .ok (.ldc 83, 2) := by decide +kernel
theorem dX11_levelOf_27 : decode cX11_levelOf 27 = .ok (.ireturn, 1) := by decide +kernel
theorem dX11_table_0 : decode cX11_table 0 = .ok (.iload_n 1, 1) := by decide +kernel
theorem dX11_table_1 : decode cX11_table 1 = .ok (.iconst 0, 1) := by decide +kernel
theorem dX11_table_2 : decode cX11_table 2 = .ok (.bipush 11, 2) := by decide +kernel
theorem dX11_table_4 : decode cX11_table 4 = .ok (.invokestatic 50, 3) := by decide +kernel
theorem dX11_table_7 : decode cX11_table 7 = .ok (.ifCond .eq 62, 3) := by decide +kernel
theorem dX11_table_10 : decode cX11_table 10 = .ok (.iload_n 2, 1) := by decide +kernel
theorem dX11_table_11 : decode cX11_table 11 = .ok (.iconst 0, 1) := by decide +kernel
theorem dX11_table_12 : decode cX11_table 12 = .ok (.sipush 2000, 3) := by decide +kernel
theorem dX11_table_15 : decode cX11_table 15 = .ok (.invokestatic 50, 3) := by decide +kernel
theorem dX11_table_18 : decode cX11_table 18 = .ok (.ifCond .eq 51, 3) := by decide +kernel
theorem dX11_table_21 : decode cX11_table 21 = .ok (.iload_n 3, 1) := by decide +kernel
theorem dX11_table_22 : decode cX11_table 22 = .ok (.iload_n 2, 1) := by decide +kernel
theorem dX11_table_23 : decode cX11_table 23 = .ok (.sipush 2000, 3) := by decide +kernel
theorem dX11_table_26 : decode cX11_table 26 = .ok (.invokestatic 50, 3) := by decide +kernel
theorem dX11_table_29 : decode cX11_table 29 = .ok (.ifCond .eq 40, 3) := by decide +kernel
theorem dX11_table_32 : decode cX11_table 32 = .ok (.iload 4, 2) := by decide +kernel
theorem dX11_table_34 : decode cX11_table 34 = .ok (.iconst 0, 1) := by decide +kernel
theorem dX11_table_35 : decode cX11_table 35 = .ok (.bipush 40, 2) := by decide +kernel
theorem dX11_table_37 : decode cX11_table 37 = .ok (.invokestatic 50, 3) := by decide +kernel
theorem dX11_table_40 : decode cX11_table 40 = .ok (.ifCond .eq 29, 3) := by decide +kernel
theorem dX11_table_43 : decode cX11_table 43 = .ok (.iload 5, 2) := by decide +kernel
theorem dX11_table_45 : decode cX11_table 45 = .ok (.iconst 0, 1) := by decide +kernel
theorem dX11_table_46 : decode cX11_table 46 = .ok (.bipush 50, 2) := by decide +kernel
theorem dX11_table_48 : decode cX11_table 48 = .ok (.invokestatic 50, 3) := by decide +kernel
theorem dX11_table_51 : decode cX11_table 51 = .ok (.ifCond .eq 18, 3) := by decide +kernel
theorem dX11_table_54 : decode cX11_table 54 = .ok (.iload 6, 2) := by decide +kernel
theorem dX11_table_56 : decode cX11_table 56 = .ok (.iconst 0, 1) := by decide +kernel
theorem dX11_table_57 : decode cX11_table 57 = .ok (.bipush 100, 2) := by decide +kernel
theorem dX11_table_59 : decode cX11_table 59 = .ok (.invokestatic 50, 3) := by decide +kernel
theorem dX11_table_62 : decode cX11_table 62 = .ok (.ifCond .eq 7, 3) := by decide +kernel
theorem dX11_table_65 : decode cX11_table 65 = .ok (.iconst 1, 1) := by decide +kernel
theorem dX11_table_66 : decode cX11_table 66 = .ok (.goto 4, 3) := by decide +kernel
theorem dX11_table_70 : decode cX11_table 70 = .ok (.istore 7, 2) := by decide +kernel
theorem dX11_table_72 : decode cX11_table 72 = .ok (.iload 7, 2) := by decide +kernel
theorem dX11_table_74 : decode cX11_table 74 = .ok (.ifCond .ne 5, 3) := by decide +kernel
theorem dX11_table_79 : decode cX11_table 79 = .ok (.aload_n 0, 1) := by decide +kernel
theorem dX11_table_80 : decode cX11_table 80 = .ok (.getfield 10, 3) := by decide +kernel
theorem dX11_table_83 : decode cX11_table 83 = .ok (.getfield 70, 3) := by decide +kernel
theorem dX11_table_86 : decode cX11_table 86 = .ok (.astore 8, 2) := by decide +kernel
theorem dX11_table_88 : decode cX11_table 88 = .ok (.aload 8, 2) := by decide +kernel
theorem tw_305 : Cond.fieldLink RX11 88 "RingsUnder$Seas" "low" "[I" ∈ wsL_law := List.mem_of_getElem? (i := 305) (by decide +kernel)
theorem dX11_table_90 : decode cX11_table 90 = .ok (.getfield 88, 3) := by decide +kernel
theorem dX11_table_93 : decode cX11_table 93 = .ok (.iload_n 1, 1) := by decide +kernel
theorem dX11_table_94 : decode cX11_table 94 = .ok (.iload_n 2, 1) := by decide +kernel
theorem dX11_table_95 : decode cX11_table 95 = .ok (.iastore, 1) := by decide +kernel
theorem dX11_table_96 : decode cX11_table 96 = .ok (.aload 8, 2) := by decide +kernel
theorem tw_306 : Cond.fieldLink RX11 92 "RingsUnder$Seas" "high" "[I" ∈ wsL_law := List.mem_of_getElem? (i := 306) (by decide +kernel)
theorem dX11_table_98 : decode cX11_table 98 = .ok (.getfield 92, 3) := by decide +kernel
theorem dX11_table_101 : decode cX11_table 101 = .ok (.iload_n 1, 1) := by decide +kernel
theorem dX11_table_102 : decode cX11_table 102 = .ok (.iload_n 3, 1) := by decide +kernel
theorem dX11_table_103 : decode cX11_table 103 = .ok (.iastore, 1) := by decide +kernel
theorem dX11_table_104 : decode cX11_table 104 = .ok (.aload 8, 2) := by decide +kernel
theorem tw_307 : Cond.fieldLink RX11 95 "RingsUnder$Seas" "warm" "[I" ∈ wsL_law := List.mem_of_getElem? (i := 307) (by decide +kernel)
theorem dX11_table_106 : decode cX11_table 106 = .ok (.getfield 95, 3) := by decide +kernel
theorem dX11_table_109 : decode cX11_table 109 = .ok (.iload_n 1, 1) := by decide +kernel
theorem dX11_table_110 : decode cX11_table 110 = .ok (.iload 4, 2) := by decide +kernel
theorem dX11_table_112 : decode cX11_table 112 = .ok (.iastore, 1) := by decide +kernel
theorem dX11_table_113 : decode cX11_table 113 = .ok (.aload 8, 2) := by decide +kernel
theorem tw_308 : Cond.fieldLink RX11 98 "RingsUnder$Seas" "drift" "[I" ∈ wsL_law := List.mem_of_getElem? (i := 308) (by decide +kernel)
theorem dX11_table_115 : decode cX11_table 115 = .ok (.getfield 98, 3) := by decide +kernel
theorem dX11_table_118 : decode cX11_table 118 = .ok (.iload_n 1, 1) := by decide +kernel
theorem dX11_table_119 : decode cX11_table 119 = .ok (.iload 5, 2) := by decide +kernel
theorem dX11_table_121 : decode cX11_table 121 = .ok (.iastore, 1) := by decide +kernel
theorem dX11_table_122 : decode cX11_table 122 = .ok (.aload 8, 2) := by decide +kernel
theorem tw_309 : Cond.fieldLink RX11 101 "RingsUnder$Seas" "rain" "[I" ∈ wsL_law := List.mem_of_getElem? (i := 309) (by decide +kernel)
theorem dX11_table_124 : decode cX11_table 124 = .ok (.getfield 101, 3) := by decide +kernel
theorem dX11_table_127 : decode cX11_table 127 = .ok (.iload_n 1, 1) := by decide +kernel
theorem dX11_table_128 : decode cX11_table 128 = .ok (.iload 6, 2) := by decide +kernel
theorem dX11_table_130 : decode cX11_table 130 = .ok (.iastore, 1) := by decide +kernel
theorem dX11_table_131 : decode cX11_table 131 = .ok (.iconst 1, 1) := by decide +kernel
theorem dX11_table_132 : decode cX11_table 132 = .ok (.ireturn, 1) := by decide +kernel
theorem dX11_table_69 : decode cX11_table 69 = .ok (.iconst 0, 1) := by decide +kernel
theorem dX11_table_77 : decode cX11_table 77 = .ok (.iconst 0, 1) := by decide +kernel
theorem dX11_table_78 : decode cX11_table 78 = .ok (.ireturn, 1) := by decide +kernel
theorem dX11_rules_0 : decode cX11_rules 0 = .ok (.iload_n 1, 1) := by decide +kernel
theorem dX11_rules_1 : decode cX11_rules 1 = .ok (.iconst 0, 1) := by decide +kernel
theorem dX11_rules_2 : decode cX11_rules 2 = .ok (.bipush 40, 2) := by decide +kernel
theorem dX11_rules_4 : decode cX11_rules 4 = .ok (.invokestatic 50, 3) := by decide +kernel
theorem dX11_rules_7 : decode cX11_rules 7 = .ok (.ifCond .eq 48, 3) := by decide +kernel
theorem dX11_rules_10 : decode cX11_rules 10 = .ok (.iload_n 2, 1) := by decide +kernel
theorem dX11_rules_11 : decode cX11_rules 11 = .ok (.iconst 0, 1) := by decide +kernel
theorem dX11_rules_12 : decode cX11_rules 12 = .ok (.iconst 5, 1) := by decide +kernel
theorem dX11_rules_13 : decode cX11_rules 13 = .ok (.invokestatic 50, 3) := by decide +kernel
theorem dX11_rules_16 : decode cX11_rules 16 = .ok (.ifCond .eq 39, 3) := by decide +kernel
theorem dX11_rules_19 : decode cX11_rules 19 = .ok (.iload_n 3, 1) := by decide +kernel
theorem dX11_rules_20 : decode cX11_rules 20 = .ok (.iconst 0, 1) := by decide +kernel
theorem dX11_rules_21 : decode cX11_rules 21 = .ok (.bipush 50, 2) := by decide +kernel
theorem dX11_rules_23 : decode cX11_rules 23 = .ok (.invokestatic 50, 3) := by decide +kernel
theorem dX11_rules_26 : decode cX11_rules 26 = .ok (.ifCond .eq 29, 3) := by decide +kernel
theorem dX11_rules_29 : decode cX11_rules 29 = .ok (.iload 4, 2) := by decide +kernel
theorem dX11_rules_31 : decode cX11_rules 31 = .ok (.iconst 1, 1) := by decide +kernel
theorem dX11_rules_32 : decode cX11_rules 32 = .ok (.bipush 20, 2) := by decide +kernel
theorem dX11_rules_34 : decode cX11_rules 34 = .ok (.invokestatic 50, 3) := by decide +kernel
theorem dX11_rules_37 : decode cX11_rules 37 = .ok (.ifCond .eq 18, 3) := by decide +kernel
theorem dX11_rules_40 : decode cX11_rules 40 = .ok (.iload 5, 2) := by decide +kernel
theorem dX11_rules_42 : decode cX11_rules 42 = .ok (.iconst 0, 1) := by decide +kernel
theorem dX11_rules_43 : decode cX11_rules 43 = .ok (.bipush 100, 2) := by decide +kernel
theorem dX11_rules_45 : decode cX11_rules 45 = .ok (.invokestatic 50, 3) := by decide +kernel
theorem dX11_rules_48 : decode cX11_rules 48 = .ok (.ifCond .eq 7, 3) := by decide +kernel
theorem dX11_rules_51 : decode cX11_rules 51 = .ok (.iconst 1, 1) := by decide +kernel
theorem dX11_rules_52 : decode cX11_rules 52 = .ok (.goto 4, 3) := by decide +kernel
theorem dX11_rules_56 : decode cX11_rules 56 = .ok (.istore 6, 2) := by decide +kernel
theorem dX11_rules_58 : decode cX11_rules 58 = .ok (.iload 6, 2) := by decide +kernel
theorem dX11_rules_60 : decode cX11_rules 60 = .ok (.ifCond .ne 5, 3) := by decide +kernel
theorem dX11_rules_65 : decode cX11_rules 65 = .ok (.aload_n 0, 1) := by decide +kernel
theorem dX11_rules_66 : decode cX11_rules 66 = .ok (.getfield 10, 3) := by decide +kernel
theorem dX11_rules_69 : decode cX11_rules 69 = .ok (.getfield 70, 3) := by decide +kernel
theorem dX11_rules_72 : decode cX11_rules 72 = .ok (.astore 7, 2) := by decide +kernel
theorem dX11_rules_74 : decode cX11_rules 74 = .ok (.aload 7, 2) := by decide +kernel
theorem dX11_rules_76 : decode cX11_rules 76 = .ok (.iload_n 1, 1) := by decide +kernel
theorem tw_318 : Cond.fieldLink RX11 104 "RingsUnder$Seas" "bear" "I" ∈ wsL_law := List.mem_of_getElem? (i := 318) (by decide +kernel)
theorem dX11_rules_77 : decode cX11_rules 77 = .ok (.putfield 104, 3) := by decide +kernel
theorem dX11_rules_80 : decode cX11_rules 80 = .ok (.aload 7, 2) := by decide +kernel
theorem dX11_rules_82 : decode cX11_rules 82 = .ok (.iload_n 2, 1) := by decide +kernel
theorem tw_319 : Cond.fieldLink RX11 107 "RingsUnder$Seas" "grow" "I" ∈ wsL_law := List.mem_of_getElem? (i := 319) (by decide +kernel)
theorem dX11_rules_83 : decode cX11_rules 83 = .ok (.putfield 107, 3) := by decide +kernel
theorem dX11_rules_86 : decode cX11_rules 86 = .ok (.aload 7, 2) := by decide +kernel
theorem dX11_rules_88 : decode cX11_rules 88 = .ok (.iload_n 3, 1) := by decide +kernel
theorem tw_320 : Cond.fieldLink RX11 110 "RingsUnder$Seas" "die" "I" ∈ wsL_law := List.mem_of_getElem? (i := 320) (by decide +kernel)
theorem dX11_rules_89 : decode cX11_rules 89 = .ok (.putfield 110, 3) := by decide +kernel
theorem dX11_rules_92 : decode cX11_rules 92 = .ok (.aload 7, 2) := by decide +kernel
theorem dX11_rules_94 : decode cX11_rules 94 = .ok (.iload 4, 2) := by decide +kernel
theorem tw_321 : Cond.fieldLink RX11 113 "RingsUnder$Seas" "reach" "I" ∈ wsL_law := List.mem_of_getElem? (i := 321) (by decide +kernel)
theorem dX11_rules_96 : decode cX11_rules 96 = .ok (.putfield 113, 3) := by decide +kernel
theorem dX11_rules_99 : decode cX11_rules 99 = .ok (.aload 7, 2) := by decide +kernel
theorem dX11_rules_101 : decode cX11_rules 101 = .ok (.iload 5, 2) := by decide +kernel
theorem tw_322 : Cond.fieldLink RX11 116 "RingsUnder$Seas" "cost" "I" ∈ wsL_law := List.mem_of_getElem? (i := 322) (by decide +kernel)
theorem dX11_rules_103 : decode cX11_rules 103 = .ok (.putfield 116, 3) := by decide +kernel
theorem dX11_rules_106 : decode cX11_rules 106 = .ok (.iconst 1, 1) := by decide +kernel
theorem dX11_rules_107 : decode cX11_rules 107 = .ok (.ireturn, 1) := by decide +kernel
theorem dX11_rules_55 : decode cX11_rules 55 = .ok (.iconst 0, 1) := by decide +kernel
theorem dX11_rules_63 : decode cX11_rules 63 = .ok (.iconst 0, 1) := by decide +kernel
theorem dX11_rules_64 : decode cX11_rules 64 = .ok (.ireturn, 1) := by decide +kernel
theorem dX11_lot_0 : decode cX11_lot 0 = .ok (.aload_n 0, 1) := by decide +kernel
theorem dX11_lot_1 : decode cX11_lot 1 = .ok (.getfield 10, 3) := by decide +kernel
theorem dX11_lot_4 : decode cX11_lot 4 = .ok (.getfield 143, 3) := by decide +kernel
theorem dX11_lot_7 : decode cX11_lot 7 = .ok (.astore_n 2, 1) := by decide +kernel
theorem dX11_lot_8 : decode cX11_lot 8 = .ok (.iload_n 1, 1) := by decide +kernel
theorem dX11_lot_9 : decode cX11_lot 9 = .ok (.iconst 0, 1) := by decide +kernel
theorem dX11_lot_10 : decode cX11_lot 10 = .ok (.bipush 60, 2) := by decide +kernel
theorem dX11_lot_12 : decode cX11_lot 12 = .ok (.invokestatic 50, 3) := by decide +kernel
theorem dX11_lot_15 : decode cX11_lot 15 = .ok (.ifCond .eq 11, 3) := by decide +kernel
theorem dX11_lot_18 : decode cX11_lot 18 = .ok (.aload_n 2, 1) := by decide +kernel
theorem dX11_lot_19 : decode cX11_lot 19 = .ok (.getfield 147, 3) := by decide +kernel
theorem dX11_lot_22 : decode cX11_lot 22 = .ok (.iconst 5, 1) := by decide +kernel
theorem dX11_lot_23 : decode cX11_lot 23 = .ok (.if_icmp .lt 5, 3) := by decide +kernel
theorem dX11_lot_28 : decode cX11_lot 28 = .ok (.aload_n 2, 1) := by decide +kernel
theorem tw_381 : Cond.fieldLink RX11 152 "RingsUnder$Folk" "lotBeds" "[I" ∈ wsL_law := List.mem_of_getElem? (i := 381) (by decide +kernel)
theorem dX11_lot_29 : decode cX11_lot 29 = .ok (.getfield 152, 3) := by decide +kernel
theorem dX11_lot_32 : decode cX11_lot 32 = .ok (.aload_n 2, 1) := by decide +kernel
theorem dX11_lot_33 : decode cX11_lot 33 = .ok (.getfield 147, 3) := by decide +kernel
theorem dX11_lot_36 : decode cX11_lot 36 = .ok (.iload_n 1, 1) := by decide +kernel
theorem dX11_lot_37 : decode cX11_lot 37 = .ok (.iastore, 1) := by decide +kernel
theorem dX11_lot_38 : decode cX11_lot 38 = .ok (.aload_n 2, 1) := by decide +kernel
theorem dX11_lot_39 : decode cX11_lot 39 = .ok (.dup, 1) := by decide +kernel
theorem dX11_lot_40 : decode cX11_lot 40 = .ok (.getfield 147, 3) := by decide +kernel
theorem dX11_lot_43 : decode cX11_lot 43 = .ok (.iconst 1, 1) := by decide +kernel
theorem dX11_lot_44 : decode cX11_lot 44 = .ok (.iadd, 1) := by decide +kernel
theorem dX11_lot_45 : decode cX11_lot 45 = .ok (.putfield 147, 3) := by decide +kernel
theorem dX11_lot_48 : decode cX11_lot 48 = .ok (.aload_n 2, 1) := by decide +kernel
theorem dX11_lot_49 : decode cX11_lot 49 = .ok (.getfield 147, 3) := by decide +kernel
theorem dX11_lot_52 : decode cX11_lot 52 = .ok (.iconst 1, 1) := by decide +kernel
theorem dX11_lot_53 : decode cX11_lot 53 = .ok (.isub, 1) := by decide +kernel
theorem dX11_lot_54 : decode cX11_lot 54 = .ok (.ireturn, 1) := by decide +kernel
theorem dX11_lot_26 : decode cX11_lot 26 = .ok (.iconst (-1), 1) := by decide +kernel
theorem dX11_lot_27 : decode cX11_lot 27 = .ok (.ireturn, 1) := by decide +kernel
theorem dX11_sail_0 : decode cX11_sail 0 = .ok (.iload_n 1, 1) := by decide +kernel
theorem dX11_sail_1 : decode cX11_sail 1 = .ok (.iconst 0, 1) := by decide +kernel
theorem dX11_sail_2 : decode cX11_sail 2 = .ok (.bipush 40, 2) := by decide +kernel
theorem dX11_sail_4 : decode cX11_sail 4 = .ok (.invokestatic 50, 3) := by decide +kernel
theorem dX11_sail_7 : decode cX11_sail 7 = .ok (.ifCond .eq 13, 3) := by decide +kernel
theorem dX11_sail_10 : decode cX11_sail 10 = .ok (.iload_n 2, 1) := by decide +kernel
theorem dX11_sail_11 : decode cX11_sail 11 = .ok (.iconst 0, 1) := by decide +kernel
theorem tw_1024 : Cond.constant RX11 253 (100000) ∈ wsL_law := List.mem_of_getElem? (i := 1024) (by decide +kernel)
theorem dX11_sail_12 : decode cX11_sail 12 = .ok (.ldc 253, 2) := by decide +kernel
theorem dX11_sail_14 : decode cX11_sail 14 = .ok (.invokestatic 50, 3) := by decide +kernel
theorem dX11_sail_17 : decode cX11_sail 17 = .ok (.ifCond .ne 5, 3) := by decide +kernel
theorem dX11_sail_22 : decode cX11_sail 22 = .ok (.aload_n 0, 1) := by decide +kernel
theorem dX11_sail_23 : decode cX11_sail 23 = .ok (.getfield 10, 3) := by decide +kernel
theorem dX11_sail_26 : decode cX11_sail 26 = .ok (.iload_n 1, 1) := by decide +kernel
theorem tw_1025 : Cond.fieldLink RX11 254 "RingsUnder$World" "boats" "I" ∈ wsL_law := List.mem_of_getElem? (i := 1025) (by decide +kernel)
theorem dX11_sail_27 : decode cX11_sail 27 = .ok (.putfield 254, 3) := by decide +kernel
theorem dX11_sail_30 : decode cX11_sail 30 = .ok (.aload_n 0, 1) := by decide +kernel
theorem dX11_sail_31 : decode cX11_sail 31 = .ok (.getfield 10, 3) := by decide +kernel
theorem dX11_sail_34 : decode cX11_sail 34 = .ok (.dup, 1) := by decide +kernel
theorem tw_1026 : Cond.fieldLink RX11 257 "RingsUnder$World" "fund" "I" ∈ wsL_law := List.mem_of_getElem? (i := 1026) (by decide +kernel)
theorem dX11_sail_35 : decode cX11_sail 35 = .ok (.getfield 257, 3) := by decide +kernel
theorem dX11_sail_38 : decode cX11_sail 38 = .ok (.iload_n 2, 1) := by decide +kernel
theorem dX11_sail_39 : decode cX11_sail 39 = .ok (.iadd, 1) := by decide +kernel
theorem dX11_sail_40 : decode cX11_sail 40 = .ok (.putfield 257, 3) := by decide +kernel
theorem dX11_sail_43 : decode cX11_sail 43 = .ok (.iconst 1, 1) := by decide +kernel
theorem dX11_sail_44 : decode cX11_sail 44 = .ok (.ireturn, 1) := by decide +kernel
theorem dX11_sail_20 : decode cX11_sail 20 = .ok (.iconst 0, 1) := by decide +kernel
theorem dX11_sail_21 : decode cX11_sail 21 = .ok (.ireturn, 1) := by decide +kernel
theorem dX7_tell_0 : decode cX7_tell 0 = .ok (.aload_n 0, 1) := by decide +kernel
theorem dX7_tell_1 : decode cX7_tell 1 = .ok (.getfield 59, 3) := by decide +kernel
theorem dX7_tell_4 : decode cX7_tell 4 = .ok (.sipush 200, 3) := by decide +kernel
theorem dX7_tell_7 : decode cX7_tell 7 = .ok (.if_icmp .lt 5, 3) := by decide +kernel
theorem dX7_tell_12 : decode cX7_tell 12 = .ok (.aload_n 0, 1) := by decide +kernel
theorem dX7_tell_13 : decode cX7_tell 13 = .ok (.getfield 9, 3) := by decide +kernel
theorem dX7_tell_16 : decode cX7_tell 16 = .ok (.aload_n 0, 1) := by decide +kernel
theorem dX7_tell_17 : decode cX7_tell 17 = .ok (.getfield 59, 3) := by decide +kernel
theorem dX7_tell_20 : decode cX7_tell 20 = .ok (.iload_n 1, 1) := by decide +kernel
theorem dX7_tell_21 : decode cX7_tell 21 = .ok (.iastore, 1) := by decide +kernel
theorem dX7_tell_22 : decode cX7_tell 22 = .ok (.aload_n 0, 1) := by decide +kernel
theorem dX7_tell_23 : decode cX7_tell 23 = .ok (.getfield 15, 3) := by decide +kernel
theorem dX7_tell_26 : decode cX7_tell 26 = .ok (.aload_n 0, 1) := by decide +kernel
theorem dX7_tell_27 : decode cX7_tell 27 = .ok (.getfield 59, 3) := by decide +kernel
theorem dX7_tell_30 : decode cX7_tell 30 = .ok (.iload_n 2, 1) := by decide +kernel
theorem dX7_tell_31 : decode cX7_tell 31 = .ok (.iastore, 1) := by decide +kernel
theorem dX7_tell_32 : decode cX7_tell 32 = .ok (.aload_n 0, 1) := by decide +kernel
theorem dX7_tell_33 : decode cX7_tell 33 = .ok (.getfield 18, 3) := by decide +kernel
theorem dX7_tell_36 : decode cX7_tell 36 = .ok (.aload_n 0, 1) := by decide +kernel
theorem dX7_tell_37 : decode cX7_tell 37 = .ok (.getfield 59, 3) := by decide +kernel
theorem dX7_tell_40 : decode cX7_tell 40 = .ok (.iload_n 3, 1) := by decide +kernel
theorem dX7_tell_41 : decode cX7_tell 41 = .ok (.iastore, 1) := by decide +kernel
theorem dX7_tell_42 : decode cX7_tell 42 = .ok (.aload_n 0, 1) := by decide +kernel
theorem dX7_tell_43 : decode cX7_tell 43 = .ok (.getfield 21, 3) := by decide +kernel
theorem dX7_tell_46 : decode cX7_tell 46 = .ok (.aload_n 0, 1) := by decide +kernel
theorem dX7_tell_47 : decode cX7_tell 47 = .ok (.getfield 59, 3) := by decide +kernel
theorem dX7_tell_50 : decode cX7_tell 50 = .ok (.iload 4, 2) := by decide +kernel
theorem dX7_tell_52 : decode cX7_tell 52 = .ok (.iastore, 1) := by decide +kernel
theorem dX7_tell_53 : decode cX7_tell 53 = .ok (.aload_n 0, 1) := by decide +kernel
theorem dX7_tell_54 : decode cX7_tell 54 = .ok (.dup, 1) := by decide +kernel
theorem dX7_tell_55 : decode cX7_tell 55 = .ok (.getfield 59, 3) := by decide +kernel
theorem dX7_tell_58 : decode cX7_tell 58 = .ok (.iconst 1, 1) := by decide +kernel
theorem dX7_tell_59 : decode cX7_tell 59 = .ok (.iadd, 1) := by decide +kernel
theorem dX7_tell_60 : decode cX7_tell 60 = .ok (.putfield 59, 3) := by decide +kernel
theorem dX7_tell_63 : decode cX7_tell 63 = .ok (.aload_n 0, 1) := by decide +kernel
theorem dX7_tell_64 : decode cX7_tell 64 = .ok (.getfield 59, 3) := by decide +kernel
theorem dX7_tell_67 : decode cX7_tell 67 = .ok (.ireturn, 1) := by decide +kernel
theorem dX11_level_0 : decode cX11_level 0 = .ok (.iload_n 1, 1) := by decide +kernel
theorem dX11_level_1 : decode cX11_level 1 = .ok (.invokestatic 64, 3) := by decide +kernel
theorem dX11_level_4 : decode cX11_level 4 = .ok (.ifCond .eq 28, 3) := by decide +kernel
theorem dX11_level_7 : decode cX11_level 7 = .ok (.iload_n 2, 1) := by decide +kernel
theorem dX11_level_8 : decode cX11_level 8 = .ok (.invokestatic 67, 3) := by decide +kernel
theorem dX11_level_11 : decode cX11_level 11 = .ok (.ifCond .eq 21, 3) := by decide +kernel
theorem dX11_level_14 : decode cX11_level 14 = .ok (.iload_n 3, 1) := by decide +kernel
theorem dX11_level_15 : decode cX11_level 15 = .ok (.ifCond .eq 19, 3) := by decide +kernel
theorem dX11_level_34 : decode cX11_level 34 = .ok (.aload_n 0, 1) := by decide +kernel
theorem dX11_level_35 : decode cX11_level 35 = .ok (.getfield 10, 3) := by decide +kernel
theorem dX11_level_38 : decode cX11_level 38 = .ok (.getfield 70, 3) := by decide +kernel
theorem tw_243 : Cond.fieldLink RX11 74 "RingsUnder$Seas" "levels" "I" ∈ wsL_law := List.mem_of_getElem? (i := 243) (by decide +kernel)
theorem dX11_level_41 : decode cX11_level 41 = .ok (.getfield 74, 3) := by decide +kernel
theorem dX11_level_44 : decode cX11_level 44 = .ok (.sipush 200, 3) := by decide +kernel
theorem dX11_level_47 : decode cX11_level 47 = .ok (.if_icmp .lt 5, 3) := by decide +kernel
theorem dX11_level_52 : decode cX11_level 52 = .ok (.aload_n 0, 1) := by decide +kernel
theorem dX11_level_53 : decode cX11_level 53 = .ok (.getfield 10, 3) := by decide +kernel
theorem dX11_level_56 : decode cX11_level 56 = .ok (.getfield 70, 3) := by decide +kernel
theorem dX11_level_59 : decode cX11_level 59 = .ok (.iload_n 1, 1) := by decide +kernel
theorem dX11_level_60 : decode cX11_level 60 = .ok (.iload_n 2, 1) := by decide +kernel
theorem dX11_level_61 : decode cX11_level 61 = .ok (.iload_n 3, 1) := by decide +kernel
theorem dX11_level_62 : decode cX11_level 62 = .ok (.ifCond .eq 8, 3) := by decide +kernel
theorem dX11_level_70 : decode cX11_level 70 = .ok (.sipush (-5000), 3) := by decide +kernel
theorem dX11_level_73 : decode cX11_level 73 = .ok (.aload_n 0, 1) := by decide +kernel
theorem dX11_level_74 : decode cX11_level 74 = .ok (.getfield 10, 3) := by decide +kernel
theorem dX11_level_77 : decode cX11_level 77 = .ok (.getfield 54, 3) := by decide +kernel
theorem tw_250 : Cond.methodLink RX11 79 yX7_tell ∈ wsL_law := List.mem_of_getElem? (i := 250) (by decide +kernel)
theorem tw_251 : Cond.instanceMethod yX7_tell ∈ wsL_law := List.mem_of_getElem? (i := 251) (by decide +kernel)
theorem tw_252 : Cond.selects RX7 yX7_tell yX7_tell ∈ wsL_law := List.mem_of_getElem? (i := 252) (by decide +kernel)
theorem tw_253 : Cond.code yX7_tell cX7_tell 5 (some .int) ∈ wsL_law := List.mem_of_getElem? (i := 253) (by decide +kernel)
theorem dX11_level_80 : decode cX11_level 80 = .ok (.invokevirtual 79, 3) := by decide +kernel
theorem dX11_level_83 : decode cX11_level 83 = .ok (.ireturn, 1) := by decide +kernel
theorem dX11_level_65 : decode cX11_level 65 = .ok (.iload 4, 2) := by decide +kernel
theorem dX11_level_67 : decode cX11_level 67 = .ok (.goto 6, 3) := by decide +kernel
theorem dX11_level_18 : decode cX11_level 18 = .ok (.iload 4, 2) := by decide +kernel
theorem dX11_level_20 : decode cX11_level 20 = .ok (.sipush (-1000), 3) := by decide +kernel
theorem dX11_level_23 : decode cX11_level 23 = .ok (.sipush 5000, 3) := by decide +kernel
theorem dX11_level_26 : decode cX11_level 26 = .ok (.invokestatic 50, 3) := by decide +kernel
theorem dX11_level_29 : decode cX11_level 29 = .ok (.ifCond .ne 5, 3) := by decide +kernel
theorem dX11_level_32 : decode cX11_level 32 = .ok (.iconst (-1), 1) := by decide +kernel
theorem dX11_level_33 : decode cX11_level 33 = .ok (.ireturn, 1) := by decide +kernel
theorem dX6_append_0 : decode cX6_append 0 = .ok (.bipush 24, 2) := by decide +kernel
theorem dX6_append_2 : decode cX6_append 2 = .ok (.istore_n 2, 1) := by decide +kernel
theorem dX6_append_3 : decode cX6_append 3 = .ok (.iload_n 2, 1) := by decide +kernel
theorem dX6_append_4 : decode cX6_append 4 = .ok (.ifCond .lt 45, 3) := by decide +kernel
theorem dX6_append_7 : decode cX6_append 7 = .ok (.aload_n 0, 1) := by decide +kernel
theorem tw_626 : Cond.fieldLink RX6 15 "RingsUnder$Scanner" "length" "I" ∈ wsL_law := List.mem_of_getElem? (i := 626) (by decide +kernel)
theorem dX6_append_8 : decode cX6_append 8 = .ok (.getfield 15, 3) := by decide +kernel
theorem dX6_append_11 : decode cX6_append 11 = .ok (.sipush 300, 3) := by decide +kernel
theorem dX6_append_14 : decode cX6_append 14 = .ok (.if_icmp .ge 35, 3) := by decide +kernel
theorem dX6_append_17 : decode cX6_append 17 = .ok (.aload_n 0, 1) := by decide +kernel
theorem tw_165 : Cond.fieldLink RX6 9 "RingsUnder$Scanner" "tape" "[I" ∈ wsL_law := List.mem_of_getElem? (i := 165) (by decide +kernel)
theorem dX6_append_18 : decode cX6_append 18 = .ok (.getfield 9, 3) := by decide +kernel
theorem dX6_append_21 : decode cX6_append 21 = .ok (.aload_n 0, 1) := by decide +kernel
theorem dX6_append_22 : decode cX6_append 22 = .ok (.getfield 15, 3) := by decide +kernel
theorem dX6_append_25 : decode cX6_append 25 = .ok (.iload_n 1, 1) := by decide +kernel
theorem dX6_append_26 : decode cX6_append 26 = .ok (.iload_n 2, 1) := by decide +kernel
theorem dX6_append_27 : decode cX6_append 27 = .ok (.iushr, 1) := by decide +kernel
theorem dX6_append_28 : decode cX6_append 28 = .ok (.sipush 255, 3) := by decide +kernel
theorem dX6_append_31 : decode cX6_append 31 = .ok (.iand, 1) := by decide +kernel
theorem dX6_append_32 : decode cX6_append 32 = .ok (.iastore, 1) := by decide +kernel
theorem dX6_append_33 : decode cX6_append 33 = .ok (.aload_n 0, 1) := by decide +kernel
theorem dX6_append_34 : decode cX6_append 34 = .ok (.dup, 1) := by decide +kernel
theorem dX6_append_35 : decode cX6_append 35 = .ok (.getfield 15, 3) := by decide +kernel
theorem dX6_append_38 : decode cX6_append 38 = .ok (.iconst 1, 1) := by decide +kernel
theorem dX6_append_39 : decode cX6_append 39 = .ok (.iadd, 1) := by decide +kernel
theorem dX6_append_40 : decode cX6_append 40 = .ok (.putfield 15, 3) := by decide +kernel
theorem dX6_append_43 : decode cX6_append 43 = .ok (.iinc 2 (-8), 3) := by decide +kernel
theorem dX6_append_46 : decode cX6_append 46 = .ok (.goto (-43), 3) := by decide +kernel
theorem dX6_append_49 : decode cX6_append 49 = .ok (.return_, 1) := by decide +kernel
theorem dX11_feed_0 : decode cX11_feed 0 = .ok (.aload_n 0, 1) := by decide +kernel
theorem tw_26 : Cond.fieldLink RX11 32 "RingsUnder" "reader" "LRingsUnder$Reader;" ∈ wsL_law := List.mem_of_getElem? (i := 26) (by decide +kernel)
theorem dX11_feed_1 : decode cX11_feed 1 = .ok (.getfield 32, 3) := by decide +kernel
theorem tw_620 : Cond.fieldLink RX11 195 "RingsUnder$Reader" "scanner" "LRingsUnder$Scanner;" ∈ wsL_law := List.mem_of_getElem? (i := 620) (by decide +kernel)
theorem dX11_feed_4 : decode cX11_feed 4 = .ok (.getfield 195, 3) := by decide +kernel
theorem dX11_feed_7 : decode cX11_feed 7 = .ok (.astore 6, 2) := by decide +kernel
theorem dX11_feed_9 : decode cX11_feed 9 = .ok (.aload 6, 2) := by decide +kernel
theorem tw_621 : Cond.fieldLink RX11 199 "RingsUnder$Scanner" "length" "I" ∈ wsL_law := List.mem_of_getElem? (i := 621) (by decide +kernel)
theorem dX11_feed_11 : decode cX11_feed 11 = .ok (.getfield 199, 3) := by decide +kernel
theorem dX11_feed_14 : decode cX11_feed 14 = .ok (.sipush 280, 3) := by decide +kernel
theorem dX11_feed_17 : decode cX11_feed 17 = .ok (.if_icmp .le 5, 3) := by decide +kernel
theorem dX11_feed_22 : decode cX11_feed 22 = .ok (.aload 6, 2) := by decide +kernel
theorem dX11_feed_24 : decode cX11_feed 24 = .ok (.iload_n 1, 1) := by decide +kernel
theorem tw_622 : Cond.methodLink RX11 204 yX6_append ∈ wsL_law := List.mem_of_getElem? (i := 622) (by decide +kernel)
theorem tw_623 : Cond.instanceMethod yX6_append ∈ wsL_law := List.mem_of_getElem? (i := 623) (by decide +kernel)
theorem tw_624 : Cond.selects RX6 yX6_append yX6_append ∈ wsL_law := List.mem_of_getElem? (i := 624) (by decide +kernel)
theorem tw_153 : Cond.initialized RX6 ∈ wsL_law := List.mem_of_getElem? (i := 153) (by decide +kernel)
theorem tw_625 : Cond.code yX6_append cX6_append 3 none ∈ wsL_law := List.mem_of_getElem? (i := 625) (by decide +kernel)
theorem dX11_feed_25 : decode cX11_feed 25 = .ok (.invokevirtual 204, 3) := by decide +kernel
theorem dX11_feed_28 : decode cX11_feed 28 = .ok (.aload 6, 2) := by decide +kernel
theorem dX11_feed_30 : decode cX11_feed 30 = .ok (.iload_n 2, 1) := by decide +kernel
theorem dX11_feed_31 : decode cX11_feed 31 = .ok (.invokevirtual 204, 3) := by decide +kernel
theorem dX11_feed_34 : decode cX11_feed 34 = .ok (.aload 6, 2) := by decide +kernel
theorem dX11_feed_36 : decode cX11_feed 36 = .ok (.iload_n 3, 1) := by decide +kernel
theorem dX11_feed_37 : decode cX11_feed 37 = .ok (.invokevirtual 204, 3) := by decide +kernel
theorem dX11_feed_40 : decode cX11_feed 40 = .ok (.aload 6, 2) := by decide +kernel
theorem dX11_feed_42 : decode cX11_feed 42 = .ok (.iload 4, 2) := by decide +kernel
theorem dX11_feed_44 : decode cX11_feed 44 = .ok (.invokevirtual 204, 3) := by decide +kernel
theorem dX11_feed_47 : decode cX11_feed 47 = .ok (.aload 6, 2) := by decide +kernel
theorem dX11_feed_49 : decode cX11_feed 49 = .ok (.iload 5, 2) := by decide +kernel
theorem dX11_feed_51 : decode cX11_feed 51 = .ok (.invokevirtual 204, 3) := by decide +kernel
theorem dX11_feed_54 : decode cX11_feed 54 = .ok (.aload 6, 2) := by decide +kernel
theorem dX11_feed_56 : decode cX11_feed 56 = .ok (.getfield 199, 3) := by decide +kernel
theorem dX11_feed_59 : decode cX11_feed 59 = .ok (.ireturn, 1) := by decide +kernel
theorem dX11_end_0 : decode cX11_end 0 = .ok (.iload_n 1, 1) := by decide +kernel
theorem dX11_end_1 : decode cX11_end 1 = .ok (.iconst 0, 1) := by decide +kernel
theorem dX11_end_2 : decode cX11_end 2 = .ok (.aload_n 0, 1) := by decide +kernel
theorem dX11_end_3 : decode cX11_end 3 = .ok (.getfield 32, 3) := by decide +kernel
theorem dX11_end_6 : decode cX11_end 6 = .ok (.getfield 195, 3) := by decide +kernel
theorem dX11_end_9 : decode cX11_end 9 = .ok (.getfield 199, 3) := by decide +kernel
theorem dX11_end_12 : decode cX11_end 12 = .ok (.invokestatic 50, 3) := by decide +kernel
theorem dX11_end_15 : decode cX11_end 15 = .ok (.ifCond .ne 5, 3) := by decide +kernel
theorem dX11_end_20 : decode cX11_end 20 = .ok (.aload_n 0, 1) := by decide +kernel
theorem dX11_end_21 : decode cX11_end 21 = .ok (.getfield 32, 3) := by decide +kernel
theorem dX11_end_24 : decode cX11_end 24 = .ok (.getfield 195, 3) := by decide +kernel
theorem dX11_end_27 : decode cX11_end 27 = .ok (.iload_n 1, 1) := by decide +kernel
theorem dX11_end_28 : decode cX11_end 28 = .ok (.putfield 199, 3) := by decide +kernel
theorem dX11_end_31 : decode cX11_end 31 = .ok (.iload_n 1, 1) := by decide +kernel
theorem dX11_end_32 : decode cX11_end 32 = .ok (.ireturn, 1) := by decide +kernel
theorem dX11_end_18 : decode cX11_end 18 = .ok (.iconst (-1), 1) := by decide +kernel
theorem dX11_end_19 : decode cX11_end 19 = .ok (.ireturn, 1) := by decide +kernel
theorem dX11_says_0 : decode cX11_says 0 = .ok (.iload_n 1, 1) := by decide +kernel
theorem dX11_says_1 : decode cX11_says 1 = .ok (.invokestatic 67, 3) := by decide +kernel
theorem dX11_says_4 : decode cX11_says 4 = .ok (.ifCond .ne 5, 3) := by decide +kernel
theorem dX11_says_9 : decode cX11_says 9 = .ok (.iload_n 2, 1) := by decide +kernel
theorem dX11_says_10 : decode cX11_says 10 = .ok (.tableswitch 62 0 2 #[26, 38, 50], 26) := by decide +kernel
theorem dX11_says_36 : decode cX11_says 36 = .ok (.aload_n 0, 1) := by decide +kernel
theorem dX11_says_37 : decode cX11_says 37 = .ok (.getfield 10, 3) := by decide +kernel
theorem dX11_says_40 : decode cX11_says 40 = .ok (.getfield 208, 3) := by decide +kernel
theorem dX11_says_43 : decode cX11_says 43 = .ok (.iload_n 1, 1) := by decide +kernel
theorem tw_991 : Cond.methodLink RX11 244 yX3_councilIn ∈ wsL_law := List.mem_of_getElem? (i := 991) (by decide +kernel)
theorem dX11_says_44 : decode cX11_says 44 = .ok (.invokevirtual 244, 3) := by decide +kernel
theorem dX11_says_47 : decode cX11_says 47 = .ok (.ireturn, 1) := by decide +kernel
theorem dX11_says_48 : decode cX11_says 48 = .ok (.aload_n 0, 1) := by decide +kernel
theorem dX11_says_49 : decode cX11_says 49 = .ok (.getfield 10, 3) := by decide +kernel
theorem dX11_says_52 : decode cX11_says 52 = .ok (.getfield 208, 3) := by decide +kernel
theorem dX11_says_55 : decode cX11_says 55 = .ok (.iload_n 1, 1) := by decide +kernel
theorem tw_1004 : Cond.methodLink RX11 247 yX3_leaveIn ∈ wsL_law := List.mem_of_getElem? (i := 1004) (by decide +kernel)
theorem dX11_says_56 : decode cX11_says 56 = .ok (.invokevirtual 247, 3) := by decide +kernel
theorem dX11_says_59 : decode cX11_says 59 = .ok (.ireturn, 1) := by decide +kernel
theorem dX11_says_60 : decode cX11_says 60 = .ok (.aload_n 0, 1) := by decide +kernel
theorem dX11_says_61 : decode cX11_says 61 = .ok (.getfield 10, 3) := by decide +kernel
theorem dX11_says_64 : decode cX11_says 64 = .ok (.getfield 208, 3) := by decide +kernel
theorem dX11_says_67 : decode cX11_says 67 = .ok (.iload_n 1, 1) := by decide +kernel
theorem tw_1008 : Cond.methodLink RX11 250 yX3_fixIn ∈ wsL_law := List.mem_of_getElem? (i := 1008) (by decide +kernel)
theorem dX11_says_68 : decode cX11_says 68 = .ok (.invokevirtual 250, 3) := by decide +kernel
theorem dX11_says_71 : decode cX11_says 71 = .ok (.ireturn, 1) := by decide +kernel
theorem dX11_says_72 : decode cX11_says 72 = .ok (.iconst (-1), 1) := by decide +kernel
theorem dX11_says_73 : decode cX11_says 73 = .ok (.ireturn, 1) := by decide +kernel
theorem dX11_says_7 : decode cX11_says 7 = .ok (.iconst (-1), 1) := by decide +kernel
theorem dX11_says_8 : decode cX11_says 8 = .ok (.ireturn, 1) := by decide +kernel
theorem dX11_at_0 : decode cX11_at 0 = .ok (.aload_n 0, 1) := by decide +kernel
theorem dX11_at_1 : decode cX11_at 1 = .ok (.iload_n 1, 1) := by decide +kernel
theorem dX11_at_2 : decode cX11_at 2 = .ok (.invokevirtual 46, 3) := by decide +kernel
theorem dX11_at_5 : decode cX11_at 5 = .ok (.ifCond .ne 25, 3) := by decide +kernel
theorem dX11_at_8 : decode cX11_at 8 = .ok (.aload_n 0, 1) := by decide +kernel
theorem dX11_at_9 : decode cX11_at 9 = .ok (.iload_n 1, 1) := by decide +kernel
theorem tw_409 : Cond.methodLink RX11 168 yX11_isLot ∈ wsL_law := List.mem_of_getElem? (i := 409) (by decide +kernel)
theorem tw_410 : Cond.instanceMethod yX11_isLot ∈ wsL_law := List.mem_of_getElem? (i := 410) (by decide +kernel)
theorem tw_411 : Cond.selects RX11 yX11_isLot yX11_isLot ∈ wsL_law := List.mem_of_getElem? (i := 411) (by decide +kernel)
theorem tw_412 : Cond.code yX11_isLot cX11_isLot 2 (some .boolean) ∈ wsL_law := List.mem_of_getElem? (i := 412) (by decide +kernel)
theorem dX11_at_10 : decode cX11_at 10 = .ok (.invokevirtual 168, 3) := by decide +kernel
theorem dX11_at_13 : decode cX11_at 13 = .ok (.ifCond .ne 17, 3) := by decide +kernel
theorem dX11_at_16 : decode cX11_at 16 = .ok (.iload_n 1, 1) := by decide +kernel
theorem dX11_at_17 : decode cX11_at 17 = .ok (.sipush 200, 3) := by decide +kernel
theorem dX11_at_20 : decode cX11_at 20 = .ok (.if_icmp .eq 10, 3) := by decide +kernel
theorem dX11_at_30 : decode cX11_at 30 = .ok (.iconst 1, 1) := by decide +kernel
theorem dX11_at_31 : decode cX11_at 31 = .ok (.goto 4, 3) := by decide +kernel
theorem dX11_at_35 : decode cX11_at 35 = .ok (.istore_n 2, 1) := by decide +kernel
theorem dX11_at_36 : decode cX11_at 36 = .ok (.iload_n 2, 1) := by decide +kernel
theorem dX11_at_37 : decode cX11_at 37 = .ok (.ifCond .eq 17, 3) := by decide +kernel
theorem dX11_at_40 : decode cX11_at 40 = .ok (.aload_n 0, 1) := by decide +kernel
theorem dX11_at_41 : decode cX11_at 41 = .ok (.getfield 10, 3) := by decide +kernel
theorem dX11_at_44 : decode cX11_at 44 = .ok (.getfield 143, 3) := by decide +kernel
theorem dX11_at_47 : decode cX11_at 47 = .ok (.iload_n 1, 1) := by decide +kernel
theorem tw_1307 : Cond.methodLink RX11 346 yX0_countAt ∈ wsL_law := List.mem_of_getElem? (i := 1307) (by decide +kernel)
theorem tw_418 : Cond.instanceMethod yX0_countAt ∈ wsL_law := List.mem_of_getElem? (i := 418) (by decide +kernel)
theorem tw_419 : Cond.selects RX0 yX0_countAt yX0_countAt ∈ wsL_law := List.mem_of_getElem? (i := 419) (by decide +kernel)
theorem tw_420 : Cond.code yX0_countAt cX0_countAt 4 (some .int) ∈ wsL_law := List.mem_of_getElem? (i := 420) (by decide +kernel)
theorem dX11_at_48 : decode cX11_at 48 = .ok (.invokevirtual 346, 3) := by decide +kernel
theorem dX11_at_51 : decode cX11_at 51 = .ok (.goto 4, 3) := by decide +kernel
theorem dX11_at_55 : decode cX11_at 55 = .ok (.ireturn, 1) := by decide +kernel
theorem dX11_at_23 : decode cX11_at 23 = .ok (.iload_n 1, 1) := by decide +kernel
theorem dX11_at_24 : decode cX11_at 24 = .ok (.sipush 300, 3) := by decide +kernel
theorem dX11_at_27 : decode cX11_at 27 = .ok (.if_icmp .ne 7, 3) := by decide +kernel
theorem dX11_at_34 : decode cX11_at 34 = .ok (.iconst 0, 1) := by decide +kernel
theorem dX11_at_54 : decode cX11_at 54 = .ok (.iconst (-1), 1) := by decide +kernel
theorem dX11_area_0 : decode cX11_area 0 = .ok (.aload_n 0, 1) := by decide +kernel
theorem dX11_area_1 : decode cX11_area 1 = .ok (.getfield 10, 3) := by decide +kernel
theorem tw_1316 : Cond.fieldLink RX11 349 "RingsUnder$World" "area" "I" ∈ wsL_law := List.mem_of_getElem? (i := 1316) (by decide +kernel)
theorem dX11_area_4 : decode cX11_area 4 = .ok (.getfield 349, 3) := by decide +kernel
theorem dX11_area_7 : decode cX11_area 7 = .ok (.ireturn, 1) := by decide +kernel
theorem dX11_fault_0 : decode cX11_fault 0 = .ok (.iload_n 1, 1) := by decide +kernel
theorem dX11_fault_1 : decode cX11_fault 1 = .ok (.lookupswitch 43 #[(0, 27), (1, 35)], 27) := by decide +kernel
theorem dX11_fault_28 : decode cX11_fault 28 = .ok (.aload_n 0, 1) := by decide +kernel
theorem dX11_fault_29 : decode cX11_fault 29 = .ok (.getfield 32, 3) := by decide +kernel
theorem tw_650 : Cond.fieldLink RX11 221 "RingsUnder$Reader" "fault" "I" ∈ wsL_law := List.mem_of_getElem? (i := 650) (by decide +kernel)
theorem dX11_fault_32 : decode cX11_fault 32 = .ok (.getfield 221, 3) := by decide +kernel
theorem dX11_fault_35 : decode cX11_fault 35 = .ok (.ireturn, 1) := by decide +kernel
theorem dX11_fault_36 : decode cX11_fault 36 = .ok (.aload_n 0, 1) := by decide +kernel
theorem dX11_fault_37 : decode cX11_fault 37 = .ok (.getfield 32, 3) := by decide +kernel
theorem tw_941 : Cond.fieldLink RX11 228 "RingsUnder$Reader" "place" "I" ∈ wsL_law := List.mem_of_getElem? (i := 941) (by decide +kernel)
theorem dX11_fault_40 : decode cX11_fault 40 = .ok (.getfield 228, 3) := by decide +kernel
theorem dX11_fault_43 : decode cX11_fault 43 = .ok (.ireturn, 1) := by decide +kernel
theorem dX11_fault_44 : decode cX11_fault 44 = .ok (.iconst (-1), 1) := by decide +kernel
theorem dX11_fault_45 : decode cX11_fault 45 = .ok (.ireturn, 1) := by decide +kernel
def sp_levelOf (ri_ : Int32) (mo : Int32) (kn : Int32) : Int32 := if (0 ≤ ri_ ∧ ri_ ≤ 2) ∧ (0 ≤ mo ∧ mo ≤ 599) ∧ (0 ≤ kn ∧ kn ≤ 600) then 0 else (-1000000)

set_option maxHeartbeats 4000000 in
set_option maxRecDepth 100000 in
theorem c_X11_levelOf (l : Launch) (D : va_G) (t : pq_T) (σ : pq_S) (I : Nat → Nat → Int32) (J : Nat → Nat → Int64) (ri : Nat → Nat → Int32) (rj : Nat → Nat → Int64) (rq : Nat → Nat → Option Nat) (sz : Nat) (this : Nat) (ri_ : Int32) (mo : Int32) (kn : Int32) (hL_this : this ∈ σ.1) (hK_this : σ.2.1 this = 11) (this_now : Nat) (hR_this_now : σ.2.2.1 352 this = some this_now) (hL_this_now : this_now ∈ σ.1) (hK_this_now : σ.2.1 this_now = 10) (this_now_seas : Nat) (hR_this_now_seas : σ.2.2.1 326 this_now = some this_now_seas) (hL_this_now_seas : this_now_seas ∈ σ.1) (hK_this_now_seas : σ.2.1 this_now_seas = 7) (hZ : pq_Z I) : MetI l yX11_levelOf (wa yX11_levelOf cX11_levelOf 4 (some .int)) ({ frames := 2, cells := 0, slots := 0, locals := 48 }) [.ref this, .int ri_, .int mo, .int kn] D t σ (I, J, ri, rj, rq) sz 0 0 (fun (r : Int32) (u : pq_S × pq_M) => u = (σ, I, J, ri, rj, rq) ∧ (r = sp_levelOf ri_ mo kn)) := by
  refine Met.ofW (cc := cX11_levelOf) (maxL := 4) (ret := (some .int)) (by decide) rfl ?_
  intro p e s m args below meth c s₁ B hml hv
  obtain ⟨rfl, hsz, hP, hK, hD0, hN⟩ := hv
  have hx := B.exec
  have hb := B.bytes
  have hr := B.returns
  have hts := atoms_spec (ws := (wa yX11_levelOf cX11_levelOf 4 (some .int))) B.pre
  have hown : s.vm.findClass RX11 = some m.cls := findClass_of_methodNamed B.named
  have hlocks := B.notSynchronized
  subst hsz
  have hD : va_D (pq_B t σ (I, J, ri, rj, rq) s.heap.size) (pq_P t σ (I, J, ri, rj, rq)) := hD0.self
  generalize hAe : pq_B t σ (I, J, ri, rj, rq) s.heap.size = A at hD ⊢
  have hA : ∀ q : Nat, s.heap.size ≤ q → A q := fun q h => by rw [← hAe]; exact Or.inr h
  have hS : va_S A s.heap s.heap [] := va_S.rf
  have hl := lv_entry ([.ref this, .int ri_, .int mo, .int kn]) (n := 4) (Nat.le_of_ble_eq_true rfl)
  rw [lg_entry_eq]
  generalize (lg_sl ([.ref this, .int ri_, .int mo, .int kn]) ++ List.replicate (4 - (lg_sl ([.ref this, .int ri_, .int mo, .int kn])).length) Slot.unset).toArray = ls at hl ⊢
  have hl : lv_has ls 4 [(0, .ref this), (1, .int ri_), (2, .int mo), (3, .int kn)] := hl
  refine lv_iload_n hx hb dX11_levelOf_0 rfl (lv_at hl 1 rfl) ?_
  refine pk_i (va_runS (As := [.int ri_]) (rest := []) ⟨hx, hb, hml, hown, hts⟩ (c_X11_isRise l D t σ I J ri rj rq (Array.size s.heap) ri_) (va_cwS 1 hts (tw_S tw_244 tw_245 tw_2 tw_246) rfl rfl rfl (by decide +kernel) ⟨Nat.le_of_ble_eq_true rfl, Nat.le_of_ble_eq_true rfl⟩) ⟨pq_blind, pq_pre hK hN hP hD⟩ rfl rfl hl.1 rfl (lv_room (Nat.le_of_ble_eq_true rfl)) dX11_levelOf_1 ⟨Nat.le_of_ble_eq_true rfl, Nat.le_of_ble_eq_true rfl⟩) hD hS hA (fun r_1 σ1 μ1 H locs hw_2 hP hD hS => ?_)
  obtain ⟨hu_3, hr_4⟩ := hw_2
  obtain ⟨hu_3a, hu_3b⟩ := Prod.mk.inj hu_3
  rw [hu_3a, hu_3b] at hP hD
  rcases hr_4 with ⟨rfl, hr_4_0, hr_4_1⟩ | ⟨rfl, hr_4_0⟩
  · refine lv_if_eq (tgt := 25) hx hb dX11_levelOf_4 (by decide) (fun c_5 => absurd c_5 (by decide)) (fun c_5 => ?_)
    refine lv_iload_n hx hb dX11_levelOf_7 rfl (lv_at hl 2 rfl) ?_
    refine pk_i (va_runS (As := [.int mo]) (rest := []) ⟨hx, hb, hml, hown, hts⟩ (c_X11_isMonth l D t σ I J ri rj rq H.size mo) (va_cwS 1 hts (tw_S tw_247 tw_248 tw_2 tw_249) rfl rfl rfl (by decide +kernel) ⟨Nat.le_of_ble_eq_true rfl, Nat.le_of_ble_eq_true rfl⟩) ⟨pq_blind, pq_pre hK hN hP hD⟩ rfl rfl hl.1 rfl (lv_room (Nat.le_of_ble_eq_true rfl)) dX11_levelOf_8 ⟨Nat.le_of_ble_eq_true rfl, Nat.le_of_ble_eq_true rfl⟩) hD hS hA (fun r_6 σ1 μ1 H locs hw_7 hP hD hS => ?_)
    obtain ⟨hu_8, hr_9⟩ := hw_7
    obtain ⟨hu_8a, hu_8b⟩ := Prod.mk.inj hu_8
    rw [hu_8a, hu_8b] at hP hD
    rcases hr_9 with ⟨rfl, hr_9_0, hr_9_1⟩ | ⟨rfl, hr_9_0⟩
    · refine lv_if_eq (tgt := 25) hx hb dX11_levelOf_11 (by decide) (fun c_10 => absurd c_10 (by decide)) (fun c_10 => ?_)
      refine lv_iload_n hx hb dX11_levelOf_14 rfl (lv_at hl 3 rfl) ?_
      refine lv_iconst (v := 0) hx hb dX11_levelOf_15 (by decide) ?_
      refine lv_sipush (v := 600) hx hb dX11_levelOf_16 (by decide) ?_
      refine pk_i (va_runS (As := [.int kn, .int 0, .int 600]) (rest := []) ⟨hx, hb, hml, hown, hts⟩ (c_X11_between l D t σ I J ri rj rq H.size kn (0 : Int32) (600 : Int32)) (va_cwS 3 hts (tw_S tw_215 tw_216 tw_2 tw_217) rfl rfl rfl (by decide +kernel) ⟨Nat.le_of_ble_eq_true rfl, Nat.le_of_ble_eq_true rfl⟩) ⟨pq_blind, pq_pre hK hN hP hD⟩ rfl rfl hl.1 rfl (lv_room (Nat.le_of_ble_eq_true rfl)) dX11_levelOf_19 ⟨Nat.le_of_ble_eq_true rfl, Nat.le_of_ble_eq_true rfl⟩) hD hS hA (fun r_11 σ1 μ1 H locs hw_12 hP hD hS => ?_)
      obtain ⟨hu_13, hr_14⟩ := hw_12
      obtain ⟨hu_13a, hu_13b⟩ := Prod.mk.inj hu_13
      rw [hu_13a, hu_13b] at hP hD
      rcases hr_14 with ⟨rfl, hr_14_0, hr_14_1⟩ | ⟨rfl, hr_14_0⟩
      · refine lv_if_ne (tgt := 28) hx hb dX11_levelOf_22 (by decide) (fun c_15 => ?_) (fun c_15 => absurd c_15 (by decide))
        refine lv_aload_n hx hb dX11_levelOf_28 rfl (lv_at hl 0 rfl) ?_
        refine pg_f (v := .ref this_now) (C := RX11) (T := TX11) (N := 5) hx hb hts (tw_i inlX11) hown hK hP hL_this hK_this (by decide) rfl 0 (by decide) (hts _ (tw_c tw_16)) (pq_hv rfl hR_this_now) dX11_levelOf_29 ?_
        refine pg_f (v := .ref this_now_seas) (C := RX10) (T := TX10) (N := 13) hx hb hts (tw_i inlX10) hown hK hP hL_this_now hK_this_now (by decide) rfl 6 (by decide) (hts _ (tw_c tw_242)) (pq_hv rfl hR_this_now_seas) dX11_levelOf_32 ?_
        refine lv_iload_n hx hb dX11_levelOf_35 rfl (lv_at hl 1 rfl) ?_
        refine lv_iload_n hx hb dX11_levelOf_36 rfl (lv_at hl 2 rfl) ?_
        refine lv_iload_n hx hb dX11_levelOf_37 rfl (lv_at hl 3 rfl) ?_
        refine pk_i (va_runV (As := [.int ri_, .int mo, .int kn]) (rest := []) ⟨hx, hb, hml, hown, hts⟩ (c_X7_known l D t σ I J ri rj rq H.size this_now_seas ri_ mo kn hL_this_now_seas hK_this_now_seas hZ) (cwV 3 hts (tw_V tw_270 tw_271 tw_272 tw_37 tw_273) rfl rfl rfl (by decide +kernel) ⟨Nat.le_of_ble_eq_true rfl, Nat.le_of_ble_eq_true rfl⟩) ⟨pq_blind, pq_recv hK hP hL_this_now_seas hK_this_now_seas (by decide) rfl, pq_pre hK hN hP hD⟩ rfl rfl hl.1 rfl (lv_room (Nat.le_of_ble_eq_true rfl)) dX11_levelOf_38 ⟨Nat.le_of_ble_eq_true rfl, Nat.le_of_ble_eq_true rfl⟩) hD hS hA (fun r_16 σ1 μ1 H locs hw_17 hP hD hS => ?_)
        obtain ⟨hu_18, hr_19⟩ := hw_17
        obtain ⟨hu_18a, hu_18b⟩ := Prod.mk.inj hu_18
        rw [hu_18a, hu_18b] at hP hD
        subst hr_19
        exact W.iret (v := 0) hx hb hr (fun t1 ht hW => ⟨⟨0, (σ, I, J, ri, rj, rq), rfl, ⟨rfl, (by unfold sp_levelOf; rw [if_pos (show _ from ⟨⟨hr_4_0, hr_4_1⟩, ⟨⟨hr_9_0, hr_9_1⟩, ⟨hr_14_0, hr_14_1⟩⟩⟩)])⟩, by rw [ht]; exact hP, va_K.moved hW.alike hK, hD⟩, hS.F ht⟩) hS.2.2 dX11_levelOf_41
      · refine lv_if_ne (tgt := 28) hx hb dX11_levelOf_22 (by decide) (fun c_20 => absurd c_20 (by decide)) (fun c_20 => ?_)
        refine lv_ldc hx hb hown (hts _ (tw_c tw_269)) dX11_levelOf_25 ?_
        exact W.iret (v := (-1000000)) hx hb hr (fun t1 ht hW => ⟨⟨(-1000000), (σ, I, J, ri, rj, rq), rfl, ⟨rfl, (by unfold sp_levelOf; rw [if_neg (fun q => hr_14_0 q.2.2)])⟩, by rw [ht]; exact hP, va_K.moved hW.alike hK, hD⟩, hS.F ht⟩) hS.2.2 dX11_levelOf_27
    · refine lv_if_eq (tgt := 25) hx hb dX11_levelOf_11 (by decide) (fun c_21 => ?_) (fun c_21 => absurd c_21 (by decide))
      refine lv_ldc hx hb hown (hts _ (tw_c tw_269)) dX11_levelOf_25 ?_
      exact W.iret (v := (-1000000)) hx hb hr (fun t1 ht hW => ⟨⟨(-1000000), (σ, I, J, ri, rj, rq), rfl, ⟨rfl, (by unfold sp_levelOf; rw [if_neg (fun q => hr_9_0 q.2.1)])⟩, by rw [ht]; exact hP, va_K.moved hW.alike hK, hD⟩, hS.F ht⟩) hS.2.2 dX11_levelOf_27
  · refine lv_if_eq (tgt := 25) hx hb dX11_levelOf_4 (by decide) (fun c_22 => ?_) (fun c_22 => absurd c_22 (by decide))
    refine lv_ldc hx hb hown (hts _ (tw_c tw_269)) dX11_levelOf_25 ?_
    exact W.iret (v := (-1000000)) hx hb hr (fun t1 ht hW => ⟨⟨(-1000000), (σ, I, J, ri, rj, rq), rfl, ⟨rfl, (by unfold sp_levelOf; rw [if_neg (fun q => hr_4_0 q.1)])⟩, by rw [ht]; exact hP, va_K.moved hW.alike hK, hD⟩, hS.F ht⟩) hS.2.2 dX11_levelOf_27

def sp_table (pl : Int32) (lo : Int32) (hi : Int32) (wm : Int32) (dr : Int32) (ra : Int32) : Int32 := if (0 ≤ pl ∧ pl ≤ 11) ∧ (0 ≤ lo ∧ lo ≤ 2000) ∧ (lo ≤ hi ∧ hi ≤ 2000) ∧ (0 ≤ wm ∧ wm ≤ 40) ∧ (0 ≤ dr ∧ dr ≤ 50) ∧ (0 ≤ ra ∧ ra ≤ 100) then 1 else 0

set_option maxHeartbeats 4000000 in
set_option maxRecDepth 100000 in
theorem c_X11_table (l : Launch) (D : va_G) (t : pq_T) (σ : pq_S) (I : Nat → Nat → Int32) (J : Nat → Nat → Int64) (ri : Nat → Nat → Int32) (rj : Nat → Nat → Int64) (rq : Nat → Nat → Option Nat) (sz : Nat) (this : Nat) (pl : Int32) (lo : Int32) (hi : Int32) (wm : Int32) (dr : Int32) (ra : Int32) (hL_this : this ∈ σ.1) (hK_this : σ.2.1 this = 11) (this_now : Nat) (hR_this_now : σ.2.2.1 352 this = some this_now) (hL_this_now : this_now ∈ σ.1) (hK_this_now : σ.2.1 this_now = 10) (this_now_seas : Nat) (hR_this_now_seas : σ.2.2.1 326 this_now = some this_now_seas) (hL_this_now_seas : this_now_seas ∈ σ.1) (hK_this_now_seas : σ.2.1 this_now_seas = 7) (this_now_seas_low : Nat) (hR_this_now_seas_low : σ.2.2.1 229 this_now_seas = some this_now_seas_low) (hL_this_now_seas_low : this_now_seas_low ∈ σ.1) (hK_this_now_seas_low : σ.2.1 this_now_seas_low = 13) (hN_this_now_seas_low : σ.2.2.2 this_now_seas_low = 12) (this_now_seas_high : Nat) (hR_this_now_seas_high : σ.2.2.1 230 this_now_seas = some this_now_seas_high) (hL_this_now_seas_high : this_now_seas_high ∈ σ.1) (hK_this_now_seas_high : σ.2.1 this_now_seas_high = 13) (hN_this_now_seas_high : σ.2.2.2 this_now_seas_high = 12) (this_now_seas_warm : Nat) (hR_this_now_seas_warm : σ.2.2.1 231 this_now_seas = some this_now_seas_warm) (hL_this_now_seas_warm : this_now_seas_warm ∈ σ.1) (hK_this_now_seas_warm : σ.2.1 this_now_seas_warm = 13) (hN_this_now_seas_warm : σ.2.2.2 this_now_seas_warm = 12) (this_now_seas_drift : Nat) (hR_this_now_seas_drift : σ.2.2.1 232 this_now_seas = some this_now_seas_drift) (hL_this_now_seas_drift : this_now_seas_drift ∈ σ.1) (hK_this_now_seas_drift : σ.2.1 this_now_seas_drift = 13) (hN_this_now_seas_drift : σ.2.2.2 this_now_seas_drift = 12) (this_now_seas_rain : Nat) (hR_this_now_seas_rain : σ.2.2.1 233 this_now_seas = some this_now_seas_rain) (hL_this_now_seas_rain : this_now_seas_rain ∈ σ.1) (hK_this_now_seas_rain : σ.2.1 this_now_seas_rain = 13) (hN_this_now_seas_rain : σ.2.2.2 this_now_seas_rain = 12) : MetI l yX11_table (wa yX11_table cX11_table 9 (some .boolean)) ({ frames := 1, cells := 0, slots := 0, locals := 22 }) [.ref this, .int pl, .int lo, .int hi, .int wm, .int dr, .int ra] D t σ (I, J, ri, rj, rq) sz 0 0 (fun (r : Int32) (u : pq_S × pq_M) => ∃ ri' : Nat → Nat → Int32, u = (σ, I, J, ri', rj, rq) ∧ (r = sp_table pl lo hi wm dr ra)) := by
  refine Met.ofW (cc := cX11_table) (maxL := 9) (ret := (some .boolean)) (by decide) rfl ?_
  intro p e s m args below meth c s₁ B hml hv
  obtain ⟨rfl, hsz, hP, hK, hD0, hN⟩ := hv
  have hx := B.exec
  have hb := B.bytes
  have hr := B.returns
  have hts := atoms_spec (ws := (wa yX11_table cX11_table 9 (some .boolean))) B.pre
  have hown : s.vm.findClass RX11 = some m.cls := findClass_of_methodNamed B.named
  have hlocks := B.notSynchronized
  subst hsz
  have hD : va_D (pq_B t σ (I, J, ri, rj, rq) s.heap.size) (pq_P t σ (I, J, ri, rj, rq)) := hD0.self
  generalize hAe : pq_B t σ (I, J, ri, rj, rq) s.heap.size = A at hD ⊢
  have hA : ∀ q : Nat, s.heap.size ≤ q → A q := fun q h => by rw [← hAe]; exact Or.inr h
  have hS : va_S A s.heap s.heap [] := va_S.rf
  have hl := lv_entry ([.ref this, .int pl, .int lo, .int hi, .int wm, .int dr, .int ra]) (n := 9) (Nat.le_of_ble_eq_true rfl)
  rw [lg_entry_eq]
  generalize (lg_sl ([.ref this, .int pl, .int lo, .int hi, .int wm, .int dr, .int ra]) ++ List.replicate (9 - (lg_sl ([.ref this, .int pl, .int lo, .int hi, .int wm, .int dr, .int ra])).length) Slot.unset).toArray = ls at hl ⊢
  have hl : lv_has ls 9 [(0, .ref this), (1, .int pl), (2, .int lo), (3, .int hi), (4, .int wm), (5, .int dr), (6, .int ra)] := hl
  refine lv_iload_n hx hb dX11_table_0 rfl (lv_at hl 1 rfl) ?_
  refine lv_iconst (v := 0) hx hb dX11_table_1 (by decide) ?_
  refine lv_bipush (v := 11) hx hb dX11_table_2 (by decide) ?_
  refine pk_i (va_runS (As := [.int pl, .int 0, .int 11]) (rest := []) ⟨hx, hb, hml, hown, hts⟩ (c_X11_between l D t σ I J ri rj rq (Array.size s.heap) pl (0 : Int32) (11 : Int32)) (va_cwS 3 hts (tw_S tw_215 tw_216 tw_2 tw_217) rfl rfl rfl (by decide +kernel) ⟨Nat.le_of_ble_eq_true rfl, Nat.le_of_ble_eq_true rfl⟩) ⟨pq_blind, pq_pre hK hN hP hD⟩ rfl rfl hl.1 rfl (lv_room (Nat.le_of_ble_eq_true rfl)) dX11_table_4 ⟨Nat.le_of_ble_eq_true rfl, Nat.le_of_ble_eq_true rfl⟩) hD hS hA (fun r_1 σ1 μ1 H locs hw_2 hP hD hS => ?_)
  obtain ⟨hu_3, hr_4⟩ := hw_2
  obtain ⟨hu_3a, hu_3b⟩ := Prod.mk.inj hu_3
  rw [hu_3a, hu_3b] at hP hD
  rcases hr_4 with ⟨rfl, hr_4_0, hr_4_1⟩ | ⟨rfl, hr_4_0⟩
  · refine lv_if_eq (tgt := 69) hx hb dX11_table_7 (by decide) (fun c_5 => absurd c_5 (by decide)) (fun c_5 => ?_)
    refine lv_iload_n hx hb dX11_table_10 rfl (lv_at hl 2 rfl) ?_
    refine lv_iconst (v := 0) hx hb dX11_table_11 (by decide) ?_
    refine lv_sipush (v := 2000) hx hb dX11_table_12 (by decide) ?_
    refine pk_i (va_runS (As := [.int lo, .int 0, .int 2000]) (rest := []) ⟨hx, hb, hml, hown, hts⟩ (c_X11_between l D t σ I J ri rj rq H.size lo (0 : Int32) (2000 : Int32)) (va_cwS 3 hts (tw_S tw_215 tw_216 tw_2 tw_217) rfl rfl rfl (by decide +kernel) ⟨Nat.le_of_ble_eq_true rfl, Nat.le_of_ble_eq_true rfl⟩) ⟨pq_blind, pq_pre hK hN hP hD⟩ rfl rfl hl.1 rfl (lv_room (Nat.le_of_ble_eq_true rfl)) dX11_table_15 ⟨Nat.le_of_ble_eq_true rfl, Nat.le_of_ble_eq_true rfl⟩) hD hS hA (fun r_6 σ1 μ1 H locs hw_7 hP hD hS => ?_)
    obtain ⟨hu_8, hr_9⟩ := hw_7
    obtain ⟨hu_8a, hu_8b⟩ := Prod.mk.inj hu_8
    rw [hu_8a, hu_8b] at hP hD
    rcases hr_9 with ⟨rfl, hr_9_0, hr_9_1⟩ | ⟨rfl, hr_9_0⟩
    · refine lv_if_eq (tgt := 69) hx hb dX11_table_18 (by decide) (fun c_10 => absurd c_10 (by decide)) (fun c_10 => ?_)
      refine lv_iload_n hx hb dX11_table_21 rfl (lv_at hl 3 rfl) ?_
      refine lv_iload_n hx hb dX11_table_22 rfl (lv_at hl 2 rfl) ?_
      refine lv_sipush (v := 2000) hx hb dX11_table_23 (by decide) ?_
      refine pk_i (va_runS (As := [.int hi, .int lo, .int 2000]) (rest := []) ⟨hx, hb, hml, hown, hts⟩ (c_X11_between l D t σ I J ri rj rq H.size hi lo (2000 : Int32)) (va_cwS 3 hts (tw_S tw_215 tw_216 tw_2 tw_217) rfl rfl rfl (by decide +kernel) ⟨Nat.le_of_ble_eq_true rfl, Nat.le_of_ble_eq_true rfl⟩) ⟨pq_blind, pq_pre hK hN hP hD⟩ rfl rfl hl.1 rfl (lv_room (Nat.le_of_ble_eq_true rfl)) dX11_table_26 ⟨Nat.le_of_ble_eq_true rfl, Nat.le_of_ble_eq_true rfl⟩) hD hS hA (fun r_11 σ1 μ1 H locs hw_12 hP hD hS => ?_)
      obtain ⟨hu_13, hr_14⟩ := hw_12
      obtain ⟨hu_13a, hu_13b⟩ := Prod.mk.inj hu_13
      rw [hu_13a, hu_13b] at hP hD
      rcases hr_14 with ⟨rfl, hr_14_0, hr_14_1⟩ | ⟨rfl, hr_14_0⟩
      · refine lv_if_eq (tgt := 69) hx hb dX11_table_29 (by decide) (fun c_15 => absurd c_15 (by decide)) (fun c_15 => ?_)
        refine lv_iload hx hb dX11_table_32 (lv_at hl 4 rfl) ?_
        refine lv_iconst (v := 0) hx hb dX11_table_34 (by decide) ?_
        refine lv_bipush (v := 40) hx hb dX11_table_35 (by decide) ?_
        refine pk_i (va_runS (As := [.int wm, .int 0, .int 40]) (rest := []) ⟨hx, hb, hml, hown, hts⟩ (c_X11_between l D t σ I J ri rj rq H.size wm (0 : Int32) (40 : Int32)) (va_cwS 3 hts (tw_S tw_215 tw_216 tw_2 tw_217) rfl rfl rfl (by decide +kernel) ⟨Nat.le_of_ble_eq_true rfl, Nat.le_of_ble_eq_true rfl⟩) ⟨pq_blind, pq_pre hK hN hP hD⟩ rfl rfl hl.1 rfl (lv_room (Nat.le_of_ble_eq_true rfl)) dX11_table_37 ⟨Nat.le_of_ble_eq_true rfl, Nat.le_of_ble_eq_true rfl⟩) hD hS hA (fun r_16 σ1 μ1 H locs hw_17 hP hD hS => ?_)
        obtain ⟨hu_18, hr_19⟩ := hw_17
        obtain ⟨hu_18a, hu_18b⟩ := Prod.mk.inj hu_18
        rw [hu_18a, hu_18b] at hP hD
        rcases hr_19 with ⟨rfl, hr_19_0, hr_19_1⟩ | ⟨rfl, hr_19_0⟩
        · refine lv_if_eq (tgt := 69) hx hb dX11_table_40 (by decide) (fun c_20 => absurd c_20 (by decide)) (fun c_20 => ?_)
          refine lv_iload hx hb dX11_table_43 (lv_at hl 5 rfl) ?_
          refine lv_iconst (v := 0) hx hb dX11_table_45 (by decide) ?_
          refine lv_bipush (v := 50) hx hb dX11_table_46 (by decide) ?_
          refine pk_i (va_runS (As := [.int dr, .int 0, .int 50]) (rest := []) ⟨hx, hb, hml, hown, hts⟩ (c_X11_between l D t σ I J ri rj rq H.size dr (0 : Int32) (50 : Int32)) (va_cwS 3 hts (tw_S tw_215 tw_216 tw_2 tw_217) rfl rfl rfl (by decide +kernel) ⟨Nat.le_of_ble_eq_true rfl, Nat.le_of_ble_eq_true rfl⟩) ⟨pq_blind, pq_pre hK hN hP hD⟩ rfl rfl hl.1 rfl (lv_room (Nat.le_of_ble_eq_true rfl)) dX11_table_48 ⟨Nat.le_of_ble_eq_true rfl, Nat.le_of_ble_eq_true rfl⟩) hD hS hA (fun r_21 σ1 μ1 H locs hw_22 hP hD hS => ?_)
          obtain ⟨hu_23, hr_24⟩ := hw_22
          obtain ⟨hu_23a, hu_23b⟩ := Prod.mk.inj hu_23
          rw [hu_23a, hu_23b] at hP hD
          rcases hr_24 with ⟨rfl, hr_24_0, hr_24_1⟩ | ⟨rfl, hr_24_0⟩
          · refine lv_if_eq (tgt := 69) hx hb dX11_table_51 (by decide) (fun c_25 => absurd c_25 (by decide)) (fun c_25 => ?_)
            refine lv_iload hx hb dX11_table_54 (lv_at hl 6 rfl) ?_
            refine lv_iconst (v := 0) hx hb dX11_table_56 (by decide) ?_
            refine lv_bipush (v := 100) hx hb dX11_table_57 (by decide) ?_
            refine pk_i (va_runS (As := [.int ra, .int 0, .int 100]) (rest := []) ⟨hx, hb, hml, hown, hts⟩ (c_X11_between l D t σ I J ri rj rq H.size ra (0 : Int32) (100 : Int32)) (va_cwS 3 hts (tw_S tw_215 tw_216 tw_2 tw_217) rfl rfl rfl (by decide +kernel) ⟨Nat.le_of_ble_eq_true rfl, Nat.le_of_ble_eq_true rfl⟩) ⟨pq_blind, pq_pre hK hN hP hD⟩ rfl rfl hl.1 rfl (lv_room (Nat.le_of_ble_eq_true rfl)) dX11_table_59 ⟨Nat.le_of_ble_eq_true rfl, Nat.le_of_ble_eq_true rfl⟩) hD hS hA (fun r_26 σ1 μ1 H locs hw_27 hP hD hS => ?_)
            obtain ⟨hu_28, hr_29⟩ := hw_27
            obtain ⟨hu_28a, hu_28b⟩ := Prod.mk.inj hu_28
            rw [hu_28a, hu_28b] at hP hD
            rcases hr_29 with ⟨rfl, hr_29_0, hr_29_1⟩ | ⟨rfl, hr_29_0⟩
            · refine lv_if_eq (tgt := 69) hx hb dX11_table_62 (by decide) (fun c_30 => absurd c_30 (by decide)) (fun c_30 => ?_)
              refine lv_iconst (v := 1) hx hb dX11_table_65 (by decide) ?_
              refine lv_goto (tgt := 70) hx hb dX11_table_66 (by decide) ?_
              refine lv_istore (lv' := [(7, .int 1), (0, .ref this), (1, .int pl), (2, .int lo), (3, .int hi), (4, .int wm), (5, .int dr), (6, .int ra)]) hx hb dX11_table_70 hl (by decide) rfl (fun ls hl => ?_)
              refine lv_iload hx hb dX11_table_72 (lv_at hl 0 rfl) ?_
              refine lv_if_ne (tgt := 79) hx hb dX11_table_74 (by decide) (fun c_31 => ?_) (fun c_31 => absurd c_31 (by decide))
              refine lv_aload_n hx hb dX11_table_79 rfl (lv_at hl 1 rfl) ?_
              refine pg_f (v := .ref this_now) (C := RX11) (T := TX11) (N := 5) hx hb hts (tw_i inlX11) hown hK hP hL_this hK_this (by decide) rfl 0 (by decide) (hts _ (tw_c tw_16)) (pq_hv rfl hR_this_now) dX11_table_80 ?_
              refine pg_f (v := .ref this_now_seas) (C := RX10) (T := TX10) (N := 13) hx hb hts (tw_i inlX10) hown hK hP hL_this_now hK_this_now (by decide) rfl 6 (by decide) (hts _ (tw_c tw_242)) (pq_hv rfl hR_this_now_seas) dX11_table_83 ?_
              refine lv_astore (lv' := [(8, .ref this_now_seas), (7, .int 1), (0, .ref this), (1, .int pl), (2, .int lo), (3, .int hi), (4, .int wm), (5, .int dr), (6, .int ra)]) hx hb dX11_table_86 hl (by decide) rfl (fun ls hl => ?_)
              refine lv_aload hx hb dX11_table_88 (lv_at hl 0 rfl) ?_
              refine pg_f (v := .ref this_now_seas_low) (C := RX7) (T := TX7) (N := 15) hx hb hts (tw_i inlX7) hown hK hP hL_this_now_seas hK_this_now_seas (by decide) rfl 5 (by decide) (hts _ (tw_c tw_305)) (pq_hv rfl hR_this_now_seas_low) dX11_table_90 ?_
              refine lv_iload_n hx hb dX11_table_93 rfl (lv_at hl 3 rfl) ?_
              refine lv_iload_n hx hb dX11_table_94 rfl (lv_at hl 4 rfl) ?_
              refine pt_i hx hb hK hP hD hS hL_this_now_seas_low hK_this_now_seas_low hN_this_now_seas_low (in_of hr_4_0 hr_4_1 (by decide)) dX11_table_95 (fun r_32 H locs er_32 hP hD hS => ?_)
              refine lv_aload hx hb dX11_table_96 (lv_at hl 0 rfl) ?_
              refine pg_f (v := .ref this_now_seas_high) (C := RX7) (T := TX7) (N := 15) hx hb hts (tw_i inlX7) hown hK hP hL_this_now_seas hK_this_now_seas (by decide) rfl 6 (by decide) (hts _ (tw_c tw_306)) (pq_hv rfl hR_this_now_seas_high) dX11_table_98 ?_
              refine lv_iload_n hx hb dX11_table_101 rfl (lv_at hl 3 rfl) ?_
              refine lv_iload_n hx hb dX11_table_102 rfl (lv_at hl 5 rfl) ?_
              refine pt_i hx hb hK hP hD hS hL_this_now_seas_high hK_this_now_seas_high hN_this_now_seas_high (in_of hr_4_0 hr_4_1 (by decide)) dX11_table_103 (fun r_33 H locs er_33 hP hD hS => ?_)
              refine lv_aload hx hb dX11_table_104 (lv_at hl 0 rfl) ?_
              refine pg_f (v := .ref this_now_seas_warm) (C := RX7) (T := TX7) (N := 15) hx hb hts (tw_i inlX7) hown hK hP hL_this_now_seas hK_this_now_seas (by decide) rfl 7 (by decide) (hts _ (tw_c tw_307)) (pq_hv rfl hR_this_now_seas_warm) dX11_table_106 ?_
              refine lv_iload_n hx hb dX11_table_109 rfl (lv_at hl 3 rfl) ?_
              refine lv_iload hx hb dX11_table_110 (lv_at hl 6 rfl) ?_
              refine pt_i hx hb hK hP hD hS hL_this_now_seas_warm hK_this_now_seas_warm hN_this_now_seas_warm (in_of hr_4_0 hr_4_1 (by decide)) dX11_table_112 (fun r_34 H locs er_34 hP hD hS => ?_)
              refine lv_aload hx hb dX11_table_113 (lv_at hl 0 rfl) ?_
              refine pg_f (v := .ref this_now_seas_drift) (C := RX7) (T := TX7) (N := 15) hx hb hts (tw_i inlX7) hown hK hP hL_this_now_seas hK_this_now_seas (by decide) rfl 8 (by decide) (hts _ (tw_c tw_308)) (pq_hv rfl hR_this_now_seas_drift) dX11_table_115 ?_
              refine lv_iload_n hx hb dX11_table_118 rfl (lv_at hl 3 rfl) ?_
              refine lv_iload hx hb dX11_table_119 (lv_at hl 7 rfl) ?_
              refine pt_i hx hb hK hP hD hS hL_this_now_seas_drift hK_this_now_seas_drift hN_this_now_seas_drift (in_of hr_4_0 hr_4_1 (by decide)) dX11_table_121 (fun r_35 H locs er_35 hP hD hS => ?_)
              refine lv_aload hx hb dX11_table_122 (lv_at hl 0 rfl) ?_
              refine pg_f (v := .ref this_now_seas_rain) (C := RX7) (T := TX7) (N := 15) hx hb hts (tw_i inlX7) hown hK hP hL_this_now_seas hK_this_now_seas (by decide) rfl 9 (by decide) (hts _ (tw_c tw_309)) (pq_hv rfl hR_this_now_seas_rain) dX11_table_124 ?_
              refine lv_iload_n hx hb dX11_table_127 rfl (lv_at hl 3 rfl) ?_
              refine lv_iload hx hb dX11_table_128 (lv_at hl 8 rfl) ?_
              refine pt_i hx hb hK hP hD hS hL_this_now_seas_rain hK_this_now_seas_rain hN_this_now_seas_rain (in_of hr_4_0 hr_4_1 (by decide)) dX11_table_130 (fun r_36 H locs er_36 hP hD hS => ?_)
              refine lv_iconst (v := 1) hx hb dX11_table_131 (by decide) ?_
              exact W.zret (v := 1) hx hb hr (by decide) (fun t1 ht hW => ⟨⟨1, (σ, I, J, r_36, rj, rq), rfl, ⟨r_36, rfl, (by unfold sp_table; rw [if_pos (show _ from ⟨⟨hr_4_0, hr_4_1⟩, ⟨⟨hr_9_0, hr_9_1⟩, ⟨⟨hr_14_0, hr_14_1⟩, ⟨⟨hr_19_0, hr_19_1⟩, ⟨⟨hr_24_0, hr_24_1⟩, ⟨hr_29_0, hr_29_1⟩⟩⟩⟩⟩⟩)])⟩, by rw [ht]; exact hP, va_K.moved hW.alike hK, hD⟩, hS.F ht⟩) hS.2.2 dX11_table_132
            · refine lv_if_eq (tgt := 69) hx hb dX11_table_62 (by decide) (fun c_37 => ?_) (fun c_37 => absurd c_37 (by decide))
              refine lv_iconst (v := 0) hx hb dX11_table_69 (by decide) ?_
              refine lv_istore (lv' := [(7, .int 0), (0, .ref this), (1, .int pl), (2, .int lo), (3, .int hi), (4, .int wm), (5, .int dr), (6, .int ra)]) hx hb dX11_table_70 hl (by decide) rfl (fun ls hl => ?_)
              refine lv_iload hx hb dX11_table_72 (lv_at hl 0 rfl) ?_
              refine lv_if_ne (tgt := 79) hx hb dX11_table_74 (by decide) (fun c_38 => absurd c_38 (by decide)) (fun c_38 => ?_)
              refine lv_iconst (v := 0) hx hb dX11_table_77 (by decide) ?_
              exact W.zret (v := 0) hx hb hr (by decide) (fun t1 ht hW => ⟨⟨0, (σ, I, J, ri, rj, rq), rfl, ⟨ri, rfl, (by unfold sp_table; rw [if_neg (fun q => hr_29_0 q.2.2.2.2.2)])⟩, by rw [ht]; exact hP, va_K.moved hW.alike hK, hD⟩, hS.F ht⟩) hS.2.2 dX11_table_78
          · refine lv_if_eq (tgt := 69) hx hb dX11_table_51 (by decide) (fun c_39 => ?_) (fun c_39 => absurd c_39 (by decide))
            refine lv_iconst (v := 0) hx hb dX11_table_69 (by decide) ?_
            refine lv_istore (lv' := [(7, .int 0), (0, .ref this), (1, .int pl), (2, .int lo), (3, .int hi), (4, .int wm), (5, .int dr), (6, .int ra)]) hx hb dX11_table_70 hl (by decide) rfl (fun ls hl => ?_)
            refine lv_iload hx hb dX11_table_72 (lv_at hl 0 rfl) ?_
            refine lv_if_ne (tgt := 79) hx hb dX11_table_74 (by decide) (fun c_40 => absurd c_40 (by decide)) (fun c_40 => ?_)
            refine lv_iconst (v := 0) hx hb dX11_table_77 (by decide) ?_
            exact W.zret (v := 0) hx hb hr (by decide) (fun t1 ht hW => ⟨⟨0, (σ, I, J, ri, rj, rq), rfl, ⟨ri, rfl, (by unfold sp_table; rw [if_neg (fun q => hr_24_0 q.2.2.2.2.1)])⟩, by rw [ht]; exact hP, va_K.moved hW.alike hK, hD⟩, hS.F ht⟩) hS.2.2 dX11_table_78
        · refine lv_if_eq (tgt := 69) hx hb dX11_table_40 (by decide) (fun c_41 => ?_) (fun c_41 => absurd c_41 (by decide))
          refine lv_iconst (v := 0) hx hb dX11_table_69 (by decide) ?_
          refine lv_istore (lv' := [(7, .int 0), (0, .ref this), (1, .int pl), (2, .int lo), (3, .int hi), (4, .int wm), (5, .int dr), (6, .int ra)]) hx hb dX11_table_70 hl (by decide) rfl (fun ls hl => ?_)
          refine lv_iload hx hb dX11_table_72 (lv_at hl 0 rfl) ?_
          refine lv_if_ne (tgt := 79) hx hb dX11_table_74 (by decide) (fun c_42 => absurd c_42 (by decide)) (fun c_42 => ?_)
          refine lv_iconst (v := 0) hx hb dX11_table_77 (by decide) ?_
          exact W.zret (v := 0) hx hb hr (by decide) (fun t1 ht hW => ⟨⟨0, (σ, I, J, ri, rj, rq), rfl, ⟨ri, rfl, (by unfold sp_table; rw [if_neg (fun q => hr_19_0 q.2.2.2.1)])⟩, by rw [ht]; exact hP, va_K.moved hW.alike hK, hD⟩, hS.F ht⟩) hS.2.2 dX11_table_78
      · refine lv_if_eq (tgt := 69) hx hb dX11_table_29 (by decide) (fun c_43 => ?_) (fun c_43 => absurd c_43 (by decide))
        refine lv_iconst (v := 0) hx hb dX11_table_69 (by decide) ?_
        refine lv_istore (lv' := [(7, .int 0), (0, .ref this), (1, .int pl), (2, .int lo), (3, .int hi), (4, .int wm), (5, .int dr), (6, .int ra)]) hx hb dX11_table_70 hl (by decide) rfl (fun ls hl => ?_)
        refine lv_iload hx hb dX11_table_72 (lv_at hl 0 rfl) ?_
        refine lv_if_ne (tgt := 79) hx hb dX11_table_74 (by decide) (fun c_44 => absurd c_44 (by decide)) (fun c_44 => ?_)
        refine lv_iconst (v := 0) hx hb dX11_table_77 (by decide) ?_
        exact W.zret (v := 0) hx hb hr (by decide) (fun t1 ht hW => ⟨⟨0, (σ, I, J, ri, rj, rq), rfl, ⟨ri, rfl, (by unfold sp_table; rw [if_neg (fun q => hr_14_0 q.2.2.1)])⟩, by rw [ht]; exact hP, va_K.moved hW.alike hK, hD⟩, hS.F ht⟩) hS.2.2 dX11_table_78
    · refine lv_if_eq (tgt := 69) hx hb dX11_table_18 (by decide) (fun c_45 => ?_) (fun c_45 => absurd c_45 (by decide))
      refine lv_iconst (v := 0) hx hb dX11_table_69 (by decide) ?_
      refine lv_istore (lv' := [(7, .int 0), (0, .ref this), (1, .int pl), (2, .int lo), (3, .int hi), (4, .int wm), (5, .int dr), (6, .int ra)]) hx hb dX11_table_70 hl (by decide) rfl (fun ls hl => ?_)
      refine lv_iload hx hb dX11_table_72 (lv_at hl 0 rfl) ?_
      refine lv_if_ne (tgt := 79) hx hb dX11_table_74 (by decide) (fun c_46 => absurd c_46 (by decide)) (fun c_46 => ?_)
      refine lv_iconst (v := 0) hx hb dX11_table_77 (by decide) ?_
      exact W.zret (v := 0) hx hb hr (by decide) (fun t1 ht hW => ⟨⟨0, (σ, I, J, ri, rj, rq), rfl, ⟨ri, rfl, (by unfold sp_table; rw [if_neg (fun q => hr_9_0 q.2.1)])⟩, by rw [ht]; exact hP, va_K.moved hW.alike hK, hD⟩, hS.F ht⟩) hS.2.2 dX11_table_78
  · refine lv_if_eq (tgt := 69) hx hb dX11_table_7 (by decide) (fun c_47 => ?_) (fun c_47 => absurd c_47 (by decide))
    refine lv_iconst (v := 0) hx hb dX11_table_69 (by decide) ?_
    refine lv_istore (lv' := [(7, .int 0), (0, .ref this), (1, .int pl), (2, .int lo), (3, .int hi), (4, .int wm), (5, .int dr), (6, .int ra)]) hx hb dX11_table_70 hl (by decide) rfl (fun ls hl => ?_)
    refine lv_iload hx hb dX11_table_72 (lv_at hl 0 rfl) ?_
    refine lv_if_ne (tgt := 79) hx hb dX11_table_74 (by decide) (fun c_48 => absurd c_48 (by decide)) (fun c_48 => ?_)
    refine lv_iconst (v := 0) hx hb dX11_table_77 (by decide) ?_
    exact W.zret (v := 0) hx hb hr (by decide) (fun t1 ht hW => ⟨⟨0, (σ, I, J, ri, rj, rq), rfl, ⟨ri, rfl, (by unfold sp_table; rw [if_neg (fun q => hr_4_0 q.1)])⟩, by rw [ht]; exact hP, va_K.moved hW.alike hK, hD⟩, hS.F ht⟩) hS.2.2 dX11_table_78

def sp_rules (be : Int32) (gr : Int32) (di : Int32) (re : Int32) (co : Int32) : Int32 := if (0 ≤ be ∧ be ≤ 40) ∧ (0 ≤ gr ∧ gr ≤ 5) ∧ (0 ≤ di ∧ di ≤ 50) ∧ (1 ≤ re ∧ re ≤ 20) ∧ (0 ≤ co ∧ co ≤ 100) then 1 else 0

set_option maxHeartbeats 4000000 in
set_option maxRecDepth 100000 in
theorem c_X11_rules (l : Launch) (D : va_G) (t : pq_T) (σ : pq_S) (I : Nat → Nat → Int32) (J : Nat → Nat → Int64) (ri : Nat → Nat → Int32) (rj : Nat → Nat → Int64) (rq : Nat → Nat → Option Nat) (sz : Nat) (this : Nat) (be : Int32) (gr : Int32) (di : Int32) (re : Int32) (co : Int32) (hL_this : this ∈ σ.1) (hK_this : σ.2.1 this = 11) (this_now : Nat) (hR_this_now : σ.2.2.1 352 this = some this_now) (hL_this_now : this_now ∈ σ.1) (hK_this_now : σ.2.1 this_now = 10) (this_now_seas : Nat) (hR_this_now_seas : σ.2.2.1 326 this_now = some this_now_seas) (hL_this_now_seas : this_now_seas ∈ σ.1) (hK_this_now_seas : σ.2.1 this_now_seas = 7) : MetI l yX11_rules (wa yX11_rules cX11_rules 8 (some .boolean)) ({ frames := 1, cells := 0, slots := 0, locals := 22 }) [.ref this, .int be, .int gr, .int di, .int re, .int co] D t σ (I, J, ri, rj, rq) sz 0 0 (fun (r : Int32) (u : pq_S × pq_M) => ∃ I' : Nat → Nat → Int32, u = (σ, I', J, ri, rj, rq) ∧ (∀ f, f ∉ ([234, 235, 236, 237, 238] : List Nat) → I' f = I f) ∧ (r = sp_rules be gr di re co)) := by
  refine Met.ofW (cc := cX11_rules) (maxL := 8) (ret := (some .boolean)) (by decide) rfl ?_
  intro p e s m args below meth c s₁ B hml hv
  obtain ⟨rfl, hsz, hP, hK, hD0, hN⟩ := hv
  have hx := B.exec
  have hb := B.bytes
  have hr := B.returns
  have hts := atoms_spec (ws := (wa yX11_rules cX11_rules 8 (some .boolean))) B.pre
  have hown : s.vm.findClass RX11 = some m.cls := findClass_of_methodNamed B.named
  have hlocks := B.notSynchronized
  subst hsz
  have hD : va_D (pq_B t σ (I, J, ri, rj, rq) s.heap.size) (pq_P t σ (I, J, ri, rj, rq)) := hD0.self
  generalize hAe : pq_B t σ (I, J, ri, rj, rq) s.heap.size = A at hD ⊢
  have hA : ∀ q : Nat, s.heap.size ≤ q → A q := fun q h => by rw [← hAe]; exact Or.inr h
  have hS : va_S A s.heap s.heap [] := va_S.rf
  have hl := lv_entry ([.ref this, .int be, .int gr, .int di, .int re, .int co]) (n := 8) (Nat.le_of_ble_eq_true rfl)
  rw [lg_entry_eq]
  generalize (lg_sl ([.ref this, .int be, .int gr, .int di, .int re, .int co]) ++ List.replicate (8 - (lg_sl ([.ref this, .int be, .int gr, .int di, .int re, .int co])).length) Slot.unset).toArray = ls at hl ⊢
  have hl : lv_has ls 8 [(0, .ref this), (1, .int be), (2, .int gr), (3, .int di), (4, .int re), (5, .int co)] := hl
  refine lv_iload_n hx hb dX11_rules_0 rfl (lv_at hl 1 rfl) ?_
  refine lv_iconst (v := 0) hx hb dX11_rules_1 (by decide) ?_
  refine lv_bipush (v := 40) hx hb dX11_rules_2 (by decide) ?_
  refine pk_i (va_runS (As := [.int be, .int 0, .int 40]) (rest := []) ⟨hx, hb, hml, hown, hts⟩ (c_X11_between l D t σ I J ri rj rq (Array.size s.heap) be (0 : Int32) (40 : Int32)) (va_cwS 3 hts (tw_S tw_215 tw_216 tw_2 tw_217) rfl rfl rfl (by decide +kernel) ⟨Nat.le_of_ble_eq_true rfl, Nat.le_of_ble_eq_true rfl⟩) ⟨pq_blind, pq_pre hK hN hP hD⟩ rfl rfl hl.1 rfl (lv_room (Nat.le_of_ble_eq_true rfl)) dX11_rules_4 ⟨Nat.le_of_ble_eq_true rfl, Nat.le_of_ble_eq_true rfl⟩) hD hS hA (fun r_1 σ1 μ1 H locs hw_2 hP hD hS => ?_)
  obtain ⟨hu_3, hr_4⟩ := hw_2
  obtain ⟨hu_3a, hu_3b⟩ := Prod.mk.inj hu_3
  rw [hu_3a, hu_3b] at hP hD
  rcases hr_4 with ⟨rfl, hr_4_0, hr_4_1⟩ | ⟨rfl, hr_4_0⟩
  · refine lv_if_eq (tgt := 55) hx hb dX11_rules_7 (by decide) (fun c_5 => absurd c_5 (by decide)) (fun c_5 => ?_)
    refine lv_iload_n hx hb dX11_rules_10 rfl (lv_at hl 2 rfl) ?_
    refine lv_iconst (v := 0) hx hb dX11_rules_11 (by decide) ?_
    refine lv_iconst (v := 5) hx hb dX11_rules_12 (by decide) ?_
    refine pk_i (va_runS (As := [.int gr, .int 0, .int 5]) (rest := []) ⟨hx, hb, hml, hown, hts⟩ (c_X11_between l D t σ I J ri rj rq H.size gr (0 : Int32) (5 : Int32)) (va_cwS 3 hts (tw_S tw_215 tw_216 tw_2 tw_217) rfl rfl rfl (by decide +kernel) ⟨Nat.le_of_ble_eq_true rfl, Nat.le_of_ble_eq_true rfl⟩) ⟨pq_blind, pq_pre hK hN hP hD⟩ rfl rfl hl.1 rfl (lv_room (Nat.le_of_ble_eq_true rfl)) dX11_rules_13 ⟨Nat.le_of_ble_eq_true rfl, Nat.le_of_ble_eq_true rfl⟩) hD hS hA (fun r_6 σ1 μ1 H locs hw_7 hP hD hS => ?_)
    obtain ⟨hu_8, hr_9⟩ := hw_7
    obtain ⟨hu_8a, hu_8b⟩ := Prod.mk.inj hu_8
    rw [hu_8a, hu_8b] at hP hD
    rcases hr_9 with ⟨rfl, hr_9_0, hr_9_1⟩ | ⟨rfl, hr_9_0⟩
    · refine lv_if_eq (tgt := 55) hx hb dX11_rules_16 (by decide) (fun c_10 => absurd c_10 (by decide)) (fun c_10 => ?_)
      refine lv_iload_n hx hb dX11_rules_19 rfl (lv_at hl 3 rfl) ?_
      refine lv_iconst (v := 0) hx hb dX11_rules_20 (by decide) ?_
      refine lv_bipush (v := 50) hx hb dX11_rules_21 (by decide) ?_
      refine pk_i (va_runS (As := [.int di, .int 0, .int 50]) (rest := []) ⟨hx, hb, hml, hown, hts⟩ (c_X11_between l D t σ I J ri rj rq H.size di (0 : Int32) (50 : Int32)) (va_cwS 3 hts (tw_S tw_215 tw_216 tw_2 tw_217) rfl rfl rfl (by decide +kernel) ⟨Nat.le_of_ble_eq_true rfl, Nat.le_of_ble_eq_true rfl⟩) ⟨pq_blind, pq_pre hK hN hP hD⟩ rfl rfl hl.1 rfl (lv_room (Nat.le_of_ble_eq_true rfl)) dX11_rules_23 ⟨Nat.le_of_ble_eq_true rfl, Nat.le_of_ble_eq_true rfl⟩) hD hS hA (fun r_11 σ1 μ1 H locs hw_12 hP hD hS => ?_)
      obtain ⟨hu_13, hr_14⟩ := hw_12
      obtain ⟨hu_13a, hu_13b⟩ := Prod.mk.inj hu_13
      rw [hu_13a, hu_13b] at hP hD
      rcases hr_14 with ⟨rfl, hr_14_0, hr_14_1⟩ | ⟨rfl, hr_14_0⟩
      · refine lv_if_eq (tgt := 55) hx hb dX11_rules_26 (by decide) (fun c_15 => absurd c_15 (by decide)) (fun c_15 => ?_)
        refine lv_iload hx hb dX11_rules_29 (lv_at hl 4 rfl) ?_
        refine lv_iconst (v := 1) hx hb dX11_rules_31 (by decide) ?_
        refine lv_bipush (v := 20) hx hb dX11_rules_32 (by decide) ?_
        refine pk_i (va_runS (As := [.int re, .int 1, .int 20]) (rest := []) ⟨hx, hb, hml, hown, hts⟩ (c_X11_between l D t σ I J ri rj rq H.size re (1 : Int32) (20 : Int32)) (va_cwS 3 hts (tw_S tw_215 tw_216 tw_2 tw_217) rfl rfl rfl (by decide +kernel) ⟨Nat.le_of_ble_eq_true rfl, Nat.le_of_ble_eq_true rfl⟩) ⟨pq_blind, pq_pre hK hN hP hD⟩ rfl rfl hl.1 rfl (lv_room (Nat.le_of_ble_eq_true rfl)) dX11_rules_34 ⟨Nat.le_of_ble_eq_true rfl, Nat.le_of_ble_eq_true rfl⟩) hD hS hA (fun r_16 σ1 μ1 H locs hw_17 hP hD hS => ?_)
        obtain ⟨hu_18, hr_19⟩ := hw_17
        obtain ⟨hu_18a, hu_18b⟩ := Prod.mk.inj hu_18
        rw [hu_18a, hu_18b] at hP hD
        rcases hr_19 with ⟨rfl, hr_19_0, hr_19_1⟩ | ⟨rfl, hr_19_0⟩
        · refine lv_if_eq (tgt := 55) hx hb dX11_rules_37 (by decide) (fun c_20 => absurd c_20 (by decide)) (fun c_20 => ?_)
          refine lv_iload hx hb dX11_rules_40 (lv_at hl 5 rfl) ?_
          refine lv_iconst (v := 0) hx hb dX11_rules_42 (by decide) ?_
          refine lv_bipush (v := 100) hx hb dX11_rules_43 (by decide) ?_
          refine pk_i (va_runS (As := [.int co, .int 0, .int 100]) (rest := []) ⟨hx, hb, hml, hown, hts⟩ (c_X11_between l D t σ I J ri rj rq H.size co (0 : Int32) (100 : Int32)) (va_cwS 3 hts (tw_S tw_215 tw_216 tw_2 tw_217) rfl rfl rfl (by decide +kernel) ⟨Nat.le_of_ble_eq_true rfl, Nat.le_of_ble_eq_true rfl⟩) ⟨pq_blind, pq_pre hK hN hP hD⟩ rfl rfl hl.1 rfl (lv_room (Nat.le_of_ble_eq_true rfl)) dX11_rules_45 ⟨Nat.le_of_ble_eq_true rfl, Nat.le_of_ble_eq_true rfl⟩) hD hS hA (fun r_21 σ1 μ1 H locs hw_22 hP hD hS => ?_)
          obtain ⟨hu_23, hr_24⟩ := hw_22
          obtain ⟨hu_23a, hu_23b⟩ := Prod.mk.inj hu_23
          rw [hu_23a, hu_23b] at hP hD
          rcases hr_24 with ⟨rfl, hr_24_0, hr_24_1⟩ | ⟨rfl, hr_24_0⟩
          · refine lv_if_eq (tgt := 55) hx hb dX11_rules_48 (by decide) (fun c_25 => absurd c_25 (by decide)) (fun c_25 => ?_)
            refine lv_iconst (v := 1) hx hb dX11_rules_51 (by decide) ?_
            refine lv_goto (tgt := 56) hx hb dX11_rules_52 (by decide) ?_
            refine lv_istore (lv' := [(6, .int 1), (0, .ref this), (1, .int be), (2, .int gr), (3, .int di), (4, .int re), (5, .int co)]) hx hb dX11_rules_56 hl (by decide) rfl (fun ls hl => ?_)
            refine lv_iload hx hb dX11_rules_58 (lv_at hl 0 rfl) ?_
            refine lv_if_ne (tgt := 65) hx hb dX11_rules_60 (by decide) (fun c_26 => ?_) (fun c_26 => absurd c_26 (by decide))
            refine lv_aload_n hx hb dX11_rules_65 rfl (lv_at hl 1 rfl) ?_
            refine pg_f (v := .ref this_now) (C := RX11) (T := TX11) (N := 5) hx hb hts (tw_i inlX11) hown hK hP hL_this hK_this (by decide) rfl 0 (by decide) (hts _ (tw_c tw_16)) (pq_hv rfl hR_this_now) dX11_rules_66 ?_
            refine pg_f (v := .ref this_now_seas) (C := RX10) (T := TX10) (N := 13) hx hb hts (tw_i inlX10) hown hK hP hL_this_now hK_this_now (by decide) rfl 6 (by decide) (hts _ (tw_c tw_242)) (pq_hv rfl hR_this_now_seas) dX11_rules_69 ?_
            refine lv_astore (lv' := [(7, .ref this_now_seas), (6, .int 1), (0, .ref this), (1, .int be), (2, .int gr), (3, .int di), (4, .int re), (5, .int co)]) hx hb dX11_rules_72 hl (by decide) rfl (fun ls hl => ?_)
            refine lv_aload hx hb dX11_rules_74 (lv_at hl 0 rfl) ?_
            refine lv_iload_n hx hb dX11_rules_76 rfl (lv_at hl 3 rfl) ?_
            refine pp_i (v := be) (ty := .int) (C := RX7) (T := TX7) (N := 15) hx hb hts (tw_i inlX7) tyX7 tyX7_ok nmX7 hown hK hP hD hS hL_this_now_seas hK_this_now_seas (by decide) rfl 10 234 (by decide) (hts _ (tw_c tw_318)) rfl (by decide +kernel) rfl rfl (Nat.le_of_ble_eq_true rfl) (ps_234 _ _ _ _ _) dX11_rules_77 (fun I_27 H locs eI_27 hP hD hS => ?_)
            refine lv_aload hx hb dX11_rules_80 (lv_at hl 0 rfl) ?_
            refine lv_iload_n hx hb dX11_rules_82 rfl (lv_at hl 4 rfl) ?_
            refine pp_i (v := gr) (ty := .int) (C := RX7) (T := TX7) (N := 15) hx hb hts (tw_i inlX7) tyX7 tyX7_ok nmX7 hown hK hP hD hS hL_this_now_seas hK_this_now_seas (by decide) rfl 11 235 (by decide) (hts _ (tw_c tw_319)) rfl (by decide +kernel) rfl rfl (Nat.le_of_ble_eq_true rfl) (ps_235 _ _ _ _ _) dX11_rules_83 (fun I_28 H locs eI_28 hP hD hS => ?_)
            refine lv_aload hx hb dX11_rules_86 (lv_at hl 0 rfl) ?_
            refine lv_iload_n hx hb dX11_rules_88 rfl (lv_at hl 5 rfl) ?_
            refine pp_i (v := di) (ty := .int) (C := RX7) (T := TX7) (N := 15) hx hb hts (tw_i inlX7) tyX7 tyX7_ok nmX7 hown hK hP hD hS hL_this_now_seas hK_this_now_seas (by decide) rfl 12 236 (by decide) (hts _ (tw_c tw_320)) rfl (by decide +kernel) rfl rfl (Nat.le_of_ble_eq_true rfl) (ps_236 _ _ _ _ _) dX11_rules_89 (fun I_29 H locs eI_29 hP hD hS => ?_)
            refine lv_aload hx hb dX11_rules_92 (lv_at hl 0 rfl) ?_
            refine lv_iload hx hb dX11_rules_94 (lv_at hl 6 rfl) ?_
            refine pp_i (v := re) (ty := .int) (C := RX7) (T := TX7) (N := 15) hx hb hts (tw_i inlX7) tyX7 tyX7_ok nmX7 hown hK hP hD hS hL_this_now_seas hK_this_now_seas (by decide) rfl 13 237 (by decide) (hts _ (tw_c tw_321)) rfl (by decide +kernel) rfl rfl (Nat.le_of_ble_eq_true rfl) (ps_237 _ _ _ _ _) dX11_rules_96 (fun I_30 H locs eI_30 hP hD hS => ?_)
            refine lv_aload hx hb dX11_rules_99 (lv_at hl 0 rfl) ?_
            refine lv_iload hx hb dX11_rules_101 (lv_at hl 7 rfl) ?_
            refine pp_i (v := co) (ty := .int) (C := RX7) (T := TX7) (N := 15) hx hb hts (tw_i inlX7) tyX7 tyX7_ok nmX7 hown hK hP hD hS hL_this_now_seas hK_this_now_seas (by decide) rfl 14 238 (by decide) (hts _ (tw_c tw_322)) rfl (by decide +kernel) rfl rfl (Nat.le_of_ble_eq_true rfl) (ps_238 _ _ _ _ _) dX11_rules_103 (fun I_31 H locs eI_31 hP hD hS => ?_)
            refine lv_iconst (v := 1) hx hb dX11_rules_106 (by decide) ?_
            exact W.zret (v := 1) hx hb hr (by decide) (fun t1 ht hW => ⟨⟨1, (σ, I_31, J, ri, rj, rq), rfl, ⟨I_31, rfl, (fun f hg => by rw [eI_31, pq_uf _ _ _ (by intro q; subst q; exact hg (by decide)), eI_30, pq_uf _ _ _ (by intro q; subst q; exact hg (by decide)), eI_29, pq_uf _ _ _ (by intro q; subst q; exact hg (by decide)), eI_28, pq_uf _ _ _ (by intro q; subst q; exact hg (by decide)), eI_27, pq_uf _ _ _ (by intro q; subst q; exact hg (by decide))]), (by unfold sp_rules; rw [if_pos (show _ from ⟨⟨hr_4_0, hr_4_1⟩, ⟨⟨hr_9_0, hr_9_1⟩, ⟨⟨hr_14_0, hr_14_1⟩, ⟨⟨hr_19_0, hr_19_1⟩, ⟨hr_24_0, hr_24_1⟩⟩⟩⟩⟩)])⟩, by rw [ht]; exact hP, va_K.moved hW.alike hK, hD⟩, hS.F ht⟩) hS.2.2 dX11_rules_107
          · refine lv_if_eq (tgt := 55) hx hb dX11_rules_48 (by decide) (fun c_32 => ?_) (fun c_32 => absurd c_32 (by decide))
            refine lv_iconst (v := 0) hx hb dX11_rules_55 (by decide) ?_
            refine lv_istore (lv' := [(6, .int 0), (0, .ref this), (1, .int be), (2, .int gr), (3, .int di), (4, .int re), (5, .int co)]) hx hb dX11_rules_56 hl (by decide) rfl (fun ls hl => ?_)
            refine lv_iload hx hb dX11_rules_58 (lv_at hl 0 rfl) ?_
            refine lv_if_ne (tgt := 65) hx hb dX11_rules_60 (by decide) (fun c_33 => absurd c_33 (by decide)) (fun c_33 => ?_)
            refine lv_iconst (v := 0) hx hb dX11_rules_63 (by decide) ?_
            exact W.zret (v := 0) hx hb hr (by decide) (fun t1 ht hW => ⟨⟨0, (σ, I, J, ri, rj, rq), rfl, ⟨I, rfl, (fun f hg => rfl), (by unfold sp_rules; rw [if_neg (fun q => hr_24_0 q.2.2.2.2)])⟩, by rw [ht]; exact hP, va_K.moved hW.alike hK, hD⟩, hS.F ht⟩) hS.2.2 dX11_rules_64
        · refine lv_if_eq (tgt := 55) hx hb dX11_rules_37 (by decide) (fun c_34 => ?_) (fun c_34 => absurd c_34 (by decide))
          refine lv_iconst (v := 0) hx hb dX11_rules_55 (by decide) ?_
          refine lv_istore (lv' := [(6, .int 0), (0, .ref this), (1, .int be), (2, .int gr), (3, .int di), (4, .int re), (5, .int co)]) hx hb dX11_rules_56 hl (by decide) rfl (fun ls hl => ?_)
          refine lv_iload hx hb dX11_rules_58 (lv_at hl 0 rfl) ?_
          refine lv_if_ne (tgt := 65) hx hb dX11_rules_60 (by decide) (fun c_35 => absurd c_35 (by decide)) (fun c_35 => ?_)
          refine lv_iconst (v := 0) hx hb dX11_rules_63 (by decide) ?_
          exact W.zret (v := 0) hx hb hr (by decide) (fun t1 ht hW => ⟨⟨0, (σ, I, J, ri, rj, rq), rfl, ⟨I, rfl, (fun f hg => rfl), (by unfold sp_rules; rw [if_neg (fun q => hr_19_0 q.2.2.2.1)])⟩, by rw [ht]; exact hP, va_K.moved hW.alike hK, hD⟩, hS.F ht⟩) hS.2.2 dX11_rules_64
      · refine lv_if_eq (tgt := 55) hx hb dX11_rules_26 (by decide) (fun c_36 => ?_) (fun c_36 => absurd c_36 (by decide))
        refine lv_iconst (v := 0) hx hb dX11_rules_55 (by decide) ?_
        refine lv_istore (lv' := [(6, .int 0), (0, .ref this), (1, .int be), (2, .int gr), (3, .int di), (4, .int re), (5, .int co)]) hx hb dX11_rules_56 hl (by decide) rfl (fun ls hl => ?_)
        refine lv_iload hx hb dX11_rules_58 (lv_at hl 0 rfl) ?_
        refine lv_if_ne (tgt := 65) hx hb dX11_rules_60 (by decide) (fun c_37 => absurd c_37 (by decide)) (fun c_37 => ?_)
        refine lv_iconst (v := 0) hx hb dX11_rules_63 (by decide) ?_
        exact W.zret (v := 0) hx hb hr (by decide) (fun t1 ht hW => ⟨⟨0, (σ, I, J, ri, rj, rq), rfl, ⟨I, rfl, (fun f hg => rfl), (by unfold sp_rules; rw [if_neg (fun q => hr_14_0 q.2.2.1)])⟩, by rw [ht]; exact hP, va_K.moved hW.alike hK, hD⟩, hS.F ht⟩) hS.2.2 dX11_rules_64
    · refine lv_if_eq (tgt := 55) hx hb dX11_rules_16 (by decide) (fun c_38 => ?_) (fun c_38 => absurd c_38 (by decide))
      refine lv_iconst (v := 0) hx hb dX11_rules_55 (by decide) ?_
      refine lv_istore (lv' := [(6, .int 0), (0, .ref this), (1, .int be), (2, .int gr), (3, .int di), (4, .int re), (5, .int co)]) hx hb dX11_rules_56 hl (by decide) rfl (fun ls hl => ?_)
      refine lv_iload hx hb dX11_rules_58 (lv_at hl 0 rfl) ?_
      refine lv_if_ne (tgt := 65) hx hb dX11_rules_60 (by decide) (fun c_39 => absurd c_39 (by decide)) (fun c_39 => ?_)
      refine lv_iconst (v := 0) hx hb dX11_rules_63 (by decide) ?_
      exact W.zret (v := 0) hx hb hr (by decide) (fun t1 ht hW => ⟨⟨0, (σ, I, J, ri, rj, rq), rfl, ⟨I, rfl, (fun f hg => rfl), (by unfold sp_rules; rw [if_neg (fun q => hr_9_0 q.2.1)])⟩, by rw [ht]; exact hP, va_K.moved hW.alike hK, hD⟩, hS.F ht⟩) hS.2.2 dX11_rules_64
  · refine lv_if_eq (tgt := 55) hx hb dX11_rules_7 (by decide) (fun c_40 => ?_) (fun c_40 => absurd c_40 (by decide))
    refine lv_iconst (v := 0) hx hb dX11_rules_55 (by decide) ?_
    refine lv_istore (lv' := [(6, .int 0), (0, .ref this), (1, .int be), (2, .int gr), (3, .int di), (4, .int re), (5, .int co)]) hx hb dX11_rules_56 hl (by decide) rfl (fun ls hl => ?_)
    refine lv_iload hx hb dX11_rules_58 (lv_at hl 0 rfl) ?_
    refine lv_if_ne (tgt := 65) hx hb dX11_rules_60 (by decide) (fun c_41 => absurd c_41 (by decide)) (fun c_41 => ?_)
    refine lv_iconst (v := 0) hx hb dX11_rules_63 (by decide) ?_
    exact W.zret (v := 0) hx hb hr (by decide) (fun t1 ht hW => ⟨⟨0, (σ, I, J, ri, rj, rq), rfl, ⟨I, rfl, (fun f hg => rfl), (by unfold sp_rules; rw [if_neg (fun q => hr_4_0 q.1)])⟩, by rw [ht]; exact hP, va_K.moved hW.alike hK, hD⟩, hS.F ht⟩) hS.2.2 dX11_rules_64

def sp_lot (bd : Int32) : Int32 := if (0 ≤ bd ∧ bd ≤ 60) then 0 else (-1)

set_option maxHeartbeats 4000000 in
set_option maxRecDepth 100000 in
theorem c_X11_lot (l : Launch) (D : va_G) (t : pq_T) (σ : pq_S) (I : Nat → Nat → Int32) (J : Nat → Nat → Int64) (ri : Nat → Nat → Int32) (rj : Nat → Nat → Int64) (rq : Nat → Nat → Option Nat) (sz : Nat) (this : Nat) (bd : Int32) (hL_this : this ∈ σ.1) (hK_this : σ.2.1 this = 11) (this_now : Nat) (hR_this_now : σ.2.2.1 352 this = some this_now) (hL_this_now : this_now ∈ σ.1) (hK_this_now : σ.2.1 this_now = 10) (this_now_folk : Nat) (hR_this_now_folk : σ.2.2.1 328 this_now = some this_now_folk) (hL_this_now_folk : this_now_folk ∈ σ.1) (hK_this_now_folk : σ.2.1 this_now_folk = 0) (this_now_folk_lotBeds : Nat) (hR_this_now_folk_lotBeds : σ.2.2.1 11 this_now_folk = some this_now_folk_lotBeds) (hL_this_now_folk_lotBeds : this_now_folk_lotBeds ∈ σ.1) (hK_this_now_folk_lotBeds : σ.2.1 this_now_folk_lotBeds = 13) (hN_this_now_folk_lotBeds : σ.2.2.2 this_now_folk_lotBeds = 5) (hZ : pq_Z I) : MetI l yX11_lot (wa yX11_lot cX11_lot 3 (some .int)) ({ frames := 1, cells := 0, slots := 0, locals := 22 }) [.ref this, .int bd] D t σ (I, J, ri, rj, rq) sz 0 0 (fun (r : Int32) (u : pq_S × pq_M) => ∃ I' : Nat → Nat → Int32, ∃ ri' : Nat → Nat → Int32, u = (σ, I', J, ri', rj, rq) ∧ (∀ f, f ∉ ([10] : List Nat) → I' f = I f) ∧ (r = sp_lot bd)) := by
  refine Met.ofW (cc := cX11_lot) (maxL := 3) (ret := (some .int)) (by decide) rfl ?_
  intro p e s m args below meth c s₁ B hml hv
  obtain ⟨rfl, hsz, hP, hK, hD0, hN⟩ := hv
  have hx := B.exec
  have hb := B.bytes
  have hr := B.returns
  have hts := atoms_spec (ws := (wa yX11_lot cX11_lot 3 (some .int))) B.pre
  have hown : s.vm.findClass RX11 = some m.cls := findClass_of_methodNamed B.named
  have hlocks := B.notSynchronized
  subst hsz
  have hD : va_D (pq_B t σ (I, J, ri, rj, rq) s.heap.size) (pq_P t σ (I, J, ri, rj, rq)) := hD0.self
  generalize hAe : pq_B t σ (I, J, ri, rj, rq) s.heap.size = A at hD ⊢
  have hA : ∀ q : Nat, s.heap.size ≤ q → A q := fun q h => by rw [← hAe]; exact Or.inr h
  have hS : va_S A s.heap s.heap [] := va_S.rf
  have hl := lv_entry ([.ref this, .int bd]) (n := 3) (Nat.le_of_ble_eq_true rfl)
  rw [lg_entry_eq]
  generalize (lg_sl ([.ref this, .int bd]) ++ List.replicate (3 - (lg_sl ([.ref this, .int bd])).length) Slot.unset).toArray = ls at hl ⊢
  have hl : lv_has ls 3 [(0, .ref this), (1, .int bd)] := hl
  refine lv_aload_n hx hb dX11_lot_0 rfl (lv_at hl 0 rfl) ?_
  refine pg_f (v := .ref this_now) (C := RX11) (T := TX11) (N := 5) hx hb hts (tw_i inlX11) hown hK hP hL_this hK_this (by decide) rfl 0 (by decide) (hts _ (tw_c tw_16)) (pq_hv rfl hR_this_now) dX11_lot_1 ?_
  refine pg_f (v := .ref this_now_folk) (C := RX10) (T := TX10) (N := 13) hx hb hts (tw_i inlX10) hown hK hP hL_this_now hK_this_now (by decide) rfl 8 (by decide) (hts _ (tw_c tw_379)) (pq_hv rfl hR_this_now_folk) dX11_lot_4 ?_
  refine lv_astore_n (lv' := [(2, .ref this_now_folk), (0, .ref this), (1, .int bd)]) hx hb dX11_lot_7 rfl hl (by decide) rfl (fun ls hl => ?_)
  refine lv_iload_n hx hb dX11_lot_8 rfl (lv_at hl 2 rfl) ?_
  refine lv_iconst (v := 0) hx hb dX11_lot_9 (by decide) ?_
  refine lv_bipush (v := 60) hx hb dX11_lot_10 (by decide) ?_
  refine pk_i (va_runS (As := [.int bd, .int 0, .int 60]) (rest := []) ⟨hx, hb, hml, hown, hts⟩ (c_X11_between l D t σ I J ri rj rq (Array.size s.heap) bd (0 : Int32) (60 : Int32)) (va_cwS 3 hts (tw_S tw_215 tw_216 tw_2 tw_217) rfl rfl rfl (by decide +kernel) ⟨Nat.le_of_ble_eq_true rfl, Nat.le_of_ble_eq_true rfl⟩) ⟨pq_blind, pq_pre hK hN hP hD⟩ rfl rfl hl.1 rfl (lv_room (Nat.le_of_ble_eq_true rfl)) dX11_lot_12 ⟨Nat.le_of_ble_eq_true rfl, Nat.le_of_ble_eq_true rfl⟩) hD hS hA (fun r_1 σ1 μ1 H locs hw_2 hP hD hS => ?_)
  obtain ⟨hu_3, hr_4⟩ := hw_2
  obtain ⟨hu_3a, hu_3b⟩ := Prod.mk.inj hu_3
  rw [hu_3a, hu_3b] at hP hD
  rcases hr_4 with ⟨rfl, hr_4_0, hr_4_1⟩ | ⟨rfl, hr_4_0⟩
  · refine lv_if_eq (tgt := 26) hx hb dX11_lot_15 (by decide) (fun c_5 => absurd c_5 (by decide)) (fun c_5 => ?_)
    refine lv_aload_n hx hb dX11_lot_18 rfl (lv_at hl 0 rfl) ?_
    refine pg_f (v := .int (I 10 this_now_folk)) (C := RX0) (T := TX0) (N := 16) hx hb hts (tw_i inlX0) hown hK hP hL_this_now_folk hK_this_now_folk (by decide) rfl 10 (by decide) (hts _ (tw_c tw_380)) rfl dX11_lot_19 ?_
    refine lv_tov 0 (congrFun (hZ 10 (by decide)) this_now_folk) ?_
    refine lv_iconst (v := 5) hx hb dX11_lot_22 (by decide) ?_
    refine lv_icmp_lt (tgt := 28) hx hb dX11_lot_23 (by decide) (fun c_6 => ?_) (fun c_6 => absurd c_6 (by decide))
    refine lv_aload_n hx hb dX11_lot_28 rfl (lv_at hl 0 rfl) ?_
    refine pg_f (v := .ref this_now_folk_lotBeds) (C := RX0) (T := TX0) (N := 16) hx hb hts (tw_i inlX0) hown hK hP hL_this_now_folk hK_this_now_folk (by decide) rfl 11 (by decide) (hts _ (tw_c tw_381)) (pq_hv rfl hR_this_now_folk_lotBeds) dX11_lot_29 ?_
    refine lv_aload_n hx hb dX11_lot_32 rfl (lv_at hl 0 rfl) ?_
    refine pg_f (v := .int (I 10 this_now_folk)) (C := RX0) (T := TX0) (N := 16) hx hb hts (tw_i inlX0) hown hK hP hL_this_now_folk hK_this_now_folk (by decide) rfl 10 (by decide) (hts _ (tw_c tw_380)) rfl dX11_lot_33 ?_
    refine lv_tov 0 (congrFun (hZ 10 (by decide)) this_now_folk) ?_
    refine lv_iload_n hx hb dX11_lot_36 rfl (lv_at hl 2 rfl) ?_
    refine pt_i hx hb hK hP hD hS hL_this_now_folk_lotBeds hK_this_now_folk_lotBeds hN_this_now_folk_lotBeds (vp_in_iff.mpr (by decide)) dX11_lot_37 (fun r_7 H locs er_7 hP hD hS => ?_)
    refine lv_aload_n hx hb dX11_lot_38 rfl (lv_at hl 0 rfl) ?_
    refine lv_dup hx hb dX11_lot_39 rfl ?_
    refine pg_f (v := .int (I 10 this_now_folk)) (C := RX0) (T := TX0) (N := 16) hx hb hts (tw_i inlX0) hown hK hP hL_this_now_folk hK_this_now_folk (by decide) rfl 10 (by decide) (hts _ (tw_c tw_380)) rfl dX11_lot_40 ?_
    refine lv_tov 0 (congrFun (hZ 10 (by decide)) this_now_folk) ?_
    refine lv_iconst (v := 1) hx hb dX11_lot_43 (by decide) ?_
    refine lv_iadd hx hb dX11_lot_44 ?_
    refine lv_tov 1 (by decide) ?_
    refine pp_i (v := 1) (ty := .int) (C := RX0) (T := TX0) (N := 16) hx hb hts (tw_i inlX0) tyX0 tyX0_ok nmX0 hown hK hP hD hS hL_this_now_folk hK_this_now_folk (by decide) rfl 10 10 (by decide) (hts _ (tw_c tw_380)) rfl (by decide +kernel) rfl rfl (Nat.le_of_ble_eq_true rfl) (ps_10 _ _ _ _ _) dX11_lot_45 (fun I_8 H locs eI_8 hP hD hS => ?_)
    refine lv_aload_n hx hb dX11_lot_48 rfl (lv_at hl 0 rfl) ?_
    refine pg_f (v := .int (I_8 10 this_now_folk)) (C := RX0) (T := TX0) (N := 16) hx hb hts (tw_i inlX0) hown hK hP hL_this_now_folk hK_this_now_folk (by decide) rfl 10 (by decide) (hts _ (tw_c tw_380)) rfl dX11_lot_49 ?_
    refine lv_tov 1 (by rw [eI_8]; exact pq_us _ _ _ _) ?_
    refine lv_iconst (v := 1) hx hb dX11_lot_52 (by decide) ?_
    refine lv_isub hx hb dX11_lot_53 ?_
    refine lv_tov 0 (by decide) ?_
    exact W.iret (v := 0) hx hb hr (fun t1 ht hW => ⟨⟨0, (σ, I_8, J, r_7, rj, rq), rfl, ⟨I_8, r_7, rfl, (fun f hg => by rw [eI_8, pq_uf _ _ _ (by intro q; subst q; exact hg (by decide))]), (by unfold sp_lot; rw [if_pos (show _ from ⟨hr_4_0, hr_4_1⟩)])⟩, by rw [ht]; exact hP, va_K.moved hW.alike hK, hD⟩, hS.F ht⟩) hS.2.2 dX11_lot_54
  · refine lv_if_eq (tgt := 26) hx hb dX11_lot_15 (by decide) (fun c_9 => ?_) (fun c_9 => absurd c_9 (by decide))
    refine lv_iconst (v := (-1)) hx hb dX11_lot_26 (by decide) ?_
    exact W.iret (v := (-1)) hx hb hr (fun t1 ht hW => ⟨⟨(-1), (σ, I, J, ri, rj, rq), rfl, ⟨I, ri, rfl, (fun f hg => rfl), (by unfold sp_lot; rw [if_neg (fun q => hr_4_0 q)])⟩, by rw [ht]; exact hP, va_K.moved hW.alike hK, hD⟩, hS.F ht⟩) hS.2.2 dX11_lot_27

def sp_sail (bo : Int32) (co : Int32) : Int32 := if (0 ≤ bo ∧ bo ≤ 40) ∧ (0 ≤ co ∧ co ≤ 100000) then 1 else 0

set_option maxHeartbeats 4000000 in
set_option maxRecDepth 100000 in
theorem c_X11_sail (l : Launch) (D : va_G) (t : pq_T) (σ : pq_S) (I : Nat → Nat → Int32) (J : Nat → Nat → Int64) (ri : Nat → Nat → Int32) (rj : Nat → Nat → Int64) (rq : Nat → Nat → Option Nat) (sz : Nat) (this : Nat) (bo : Int32) (co : Int32) (hL_this : this ∈ σ.1) (hK_this : σ.2.1 this = 11) (this_now : Nat) (hR_this_now : σ.2.2.1 352 this = some this_now) (hL_this_now : this_now ∈ σ.1) (hK_this_now : σ.2.1 this_now = 10) (hZ : pq_Z I) : MetI l yX11_sail (wa yX11_sail cX11_sail 3 (some .boolean)) ({ frames := 1, cells := 0, slots := 0, locals := 22 }) [.ref this, .int bo, .int co] D t σ (I, J, ri, rj, rq) sz 0 0 (fun (r : Int32) (u : pq_S × pq_M) => ∃ I' : Nat → Nat → Int32, u = (σ, I', J, ri, rj, rq) ∧ (∀ f, f ∉ ([321, 322] : List Nat) → I' f = I f) ∧ (r = sp_sail bo co)) := by
  refine Met.ofW (cc := cX11_sail) (maxL := 3) (ret := (some .boolean)) (by decide) rfl ?_
  intro p e s m args below meth c s₁ B hml hv
  obtain ⟨rfl, hsz, hP, hK, hD0, hN⟩ := hv
  have hx := B.exec
  have hb := B.bytes
  have hr := B.returns
  have hts := atoms_spec (ws := (wa yX11_sail cX11_sail 3 (some .boolean))) B.pre
  have hown : s.vm.findClass RX11 = some m.cls := findClass_of_methodNamed B.named
  have hlocks := B.notSynchronized
  subst hsz
  have hD : va_D (pq_B t σ (I, J, ri, rj, rq) s.heap.size) (pq_P t σ (I, J, ri, rj, rq)) := hD0.self
  generalize hAe : pq_B t σ (I, J, ri, rj, rq) s.heap.size = A at hD ⊢
  have hA : ∀ q : Nat, s.heap.size ≤ q → A q := fun q h => by rw [← hAe]; exact Or.inr h
  have hS : va_S A s.heap s.heap [] := va_S.rf
  have hl := lv_entry ([.ref this, .int bo, .int co]) (n := 3) (Nat.le_of_ble_eq_true rfl)
  rw [lg_entry_eq]
  generalize (lg_sl ([.ref this, .int bo, .int co]) ++ List.replicate (3 - (lg_sl ([.ref this, .int bo, .int co])).length) Slot.unset).toArray = ls at hl ⊢
  have hl : lv_has ls 3 [(0, .ref this), (1, .int bo), (2, .int co)] := hl
  refine lv_iload_n hx hb dX11_sail_0 rfl (lv_at hl 1 rfl) ?_
  refine lv_iconst (v := 0) hx hb dX11_sail_1 (by decide) ?_
  refine lv_bipush (v := 40) hx hb dX11_sail_2 (by decide) ?_
  refine pk_i (va_runS (As := [.int bo, .int 0, .int 40]) (rest := []) ⟨hx, hb, hml, hown, hts⟩ (c_X11_between l D t σ I J ri rj rq (Array.size s.heap) bo (0 : Int32) (40 : Int32)) (va_cwS 3 hts (tw_S tw_215 tw_216 tw_2 tw_217) rfl rfl rfl (by decide +kernel) ⟨Nat.le_of_ble_eq_true rfl, Nat.le_of_ble_eq_true rfl⟩) ⟨pq_blind, pq_pre hK hN hP hD⟩ rfl rfl hl.1 rfl (lv_room (Nat.le_of_ble_eq_true rfl)) dX11_sail_4 ⟨Nat.le_of_ble_eq_true rfl, Nat.le_of_ble_eq_true rfl⟩) hD hS hA (fun r_1 σ1 μ1 H locs hw_2 hP hD hS => ?_)
  obtain ⟨hu_3, hr_4⟩ := hw_2
  obtain ⟨hu_3a, hu_3b⟩ := Prod.mk.inj hu_3
  rw [hu_3a, hu_3b] at hP hD
  rcases hr_4 with ⟨rfl, hr_4_0, hr_4_1⟩ | ⟨rfl, hr_4_0⟩
  · refine lv_if_eq (tgt := 20) hx hb dX11_sail_7 (by decide) (fun c_5 => absurd c_5 (by decide)) (fun c_5 => ?_)
    refine lv_iload_n hx hb dX11_sail_10 rfl (lv_at hl 2 rfl) ?_
    refine lv_iconst (v := 0) hx hb dX11_sail_11 (by decide) ?_
    refine lv_ldc hx hb hown (hts _ (tw_c tw_1024)) dX11_sail_12 ?_
    refine pk_i (va_runS (As := [.int co, .int 0, .int 100000]) (rest := []) ⟨hx, hb, hml, hown, hts⟩ (c_X11_between l D t σ I J ri rj rq H.size co (0 : Int32) (100000 : Int32)) (va_cwS 3 hts (tw_S tw_215 tw_216 tw_2 tw_217) rfl rfl rfl (by decide +kernel) ⟨Nat.le_of_ble_eq_true rfl, Nat.le_of_ble_eq_true rfl⟩) ⟨pq_blind, pq_pre hK hN hP hD⟩ rfl rfl hl.1 rfl (lv_room (Nat.le_of_ble_eq_true rfl)) dX11_sail_14 ⟨Nat.le_of_ble_eq_true rfl, Nat.le_of_ble_eq_true rfl⟩) hD hS hA (fun r_6 σ1 μ1 H locs hw_7 hP hD hS => ?_)
    obtain ⟨hu_8, hr_9⟩ := hw_7
    obtain ⟨hu_8a, hu_8b⟩ := Prod.mk.inj hu_8
    rw [hu_8a, hu_8b] at hP hD
    rcases hr_9 with ⟨rfl, hr_9_0, hr_9_1⟩ | ⟨rfl, hr_9_0⟩
    · refine lv_if_ne (tgt := 22) hx hb dX11_sail_17 (by decide) (fun c_10 => ?_) (fun c_10 => absurd c_10 (by decide))
      refine lv_aload_n hx hb dX11_sail_22 rfl (lv_at hl 0 rfl) ?_
      refine pg_f (v := .ref this_now) (C := RX11) (T := TX11) (N := 5) hx hb hts (tw_i inlX11) hown hK hP hL_this hK_this (by decide) rfl 0 (by decide) (hts _ (tw_c tw_16)) (pq_hv rfl hR_this_now) dX11_sail_23 ?_
      refine lv_iload_n hx hb dX11_sail_26 rfl (lv_at hl 1 rfl) ?_
      refine pp_i (v := bo) (ty := .int) (C := RX10) (T := TX10) (N := 13) hx hb hts (tw_i inlX10) tyX10 tyX10_ok nmX10 hown hK hP hD hS hL_this_now hK_this_now (by decide) rfl 2 322 (by decide) (hts _ (tw_c tw_1025)) rfl (by decide +kernel) rfl rfl (Nat.le_of_ble_eq_true rfl) (ps_322 _ _ _ _ _) dX11_sail_27 (fun I_11 H locs eI_11 hP hD hS => ?_)
      refine lv_aload_n hx hb dX11_sail_30 rfl (lv_at hl 0 rfl) ?_
      refine pg_f (v := .ref this_now) (C := RX11) (T := TX11) (N := 5) hx hb hts (tw_i inlX11) hown hK hP hL_this hK_this (by decide) rfl 0 (by decide) (hts _ (tw_c tw_16)) (pq_hv rfl hR_this_now) dX11_sail_31 ?_
      refine lv_dup hx hb dX11_sail_34 rfl ?_
      refine pg_f (v := .int (I_11 321 this_now)) (C := RX10) (T := TX10) (N := 13) hx hb hts (tw_i inlX10) hown hK hP hL_this_now hK_this_now (by decide) rfl 1 (by decide) (hts _ (tw_c tw_1026)) rfl dX11_sail_35 ?_
      refine lv_tov 0 (by rw [eI_11, pq_uf _ _ _ (by decide)]; exact (congrFun (hZ 321 (by decide)) this_now)) ?_
      refine lv_iload_n hx hb dX11_sail_38 rfl (lv_at hl 2 rfl) ?_
      refine lv_iadd hx hb dX11_sail_39 ?_
      refine lv_tov co (Int32.zero_add _) ?_
      refine pp_i (v := co) (ty := .int) (C := RX10) (T := TX10) (N := 13) hx hb hts (tw_i inlX10) tyX10 tyX10_ok nmX10 hown hK hP hD hS hL_this_now hK_this_now (by decide) rfl 1 321 (by decide) (hts _ (tw_c tw_1026)) rfl (by decide +kernel) rfl rfl (Nat.le_of_ble_eq_true rfl) (ps_321 _ _ _ _ _) dX11_sail_40 (fun I_12 H locs eI_12 hP hD hS => ?_)
      refine lv_iconst (v := 1) hx hb dX11_sail_43 (by decide) ?_
      exact W.zret (v := 1) hx hb hr (by decide) (fun t1 ht hW => ⟨⟨1, (σ, I_12, J, ri, rj, rq), rfl, ⟨I_12, rfl, (fun f hg => by rw [eI_12, pq_uf _ _ _ (by intro q; subst q; exact hg (by decide)), eI_11, pq_uf _ _ _ (by intro q; subst q; exact hg (by decide))]), (by unfold sp_sail; rw [if_pos (show _ from ⟨⟨hr_4_0, hr_4_1⟩, ⟨hr_9_0, hr_9_1⟩⟩)])⟩, by rw [ht]; exact hP, va_K.moved hW.alike hK, hD⟩, hS.F ht⟩) hS.2.2 dX11_sail_44
    · refine lv_if_ne (tgt := 22) hx hb dX11_sail_17 (by decide) (fun c_13 => absurd c_13 (by decide)) (fun c_13 => ?_)
      refine lv_iconst (v := 0) hx hb dX11_sail_20 (by decide) ?_
      exact W.zret (v := 0) hx hb hr (by decide) (fun t1 ht hW => ⟨⟨0, (σ, I, J, ri, rj, rq), rfl, ⟨I, rfl, (fun f hg => rfl), (by unfold sp_sail; rw [if_neg (fun q => hr_9_0 q.2)])⟩, by rw [ht]; exact hP, va_K.moved hW.alike hK, hD⟩, hS.F ht⟩) hS.2.2 dX11_sail_21
  · refine lv_if_eq (tgt := 20) hx hb dX11_sail_7 (by decide) (fun c_14 => ?_) (fun c_14 => absurd c_14 (by decide))
    refine lv_iconst (v := 0) hx hb dX11_sail_20 (by decide) ?_
    exact W.zret (v := 0) hx hb hr (by decide) (fun t1 ht hW => ⟨⟨0, (σ, I, J, ri, rj, rq), rfl, ⟨I, rfl, (fun f hg => rfl), (by unfold sp_sail; rw [if_neg (fun q => hr_4_0 q.1)])⟩, by rw [ht]; exact hP, va_K.moved hW.alike hK, hD⟩, hS.F ht⟩) hS.2.2 dX11_sail_21

set_option maxHeartbeats 4000000 in
set_option maxRecDepth 100000 in
theorem c_X7_tell (l : Launch) (D : va_G) (t : pq_T) (σ : pq_S) (I : Nat → Nat → Int32) (J : Nat → Nat → Int64) (ri : Nat → Nat → Int32) (rj : Nat → Nat → Int64) (rq : Nat → Nat → Option Nat) (sz : Nat) (this : Nat) (ri_ : Int32) (mo : Int32) (v : Int32) (cl : Int32) (hL_this : this ∈ σ.1) (hK_this : σ.2.1 this = 7) (this_rise : Nat) (hR_this_rise : σ.2.2.1 225 this = some this_rise) (hL_this_rise : this_rise ∈ σ.1) (hK_this_rise : σ.2.1 this_rise = 13) (hN_this_rise : σ.2.2.2 this_rise = 200) (this_month : Nat) (hR_this_month : σ.2.2.1 226 this = some this_month) (hL_this_month : this_month ∈ σ.1) (hK_this_month : σ.2.1 this_month = 13) (hN_this_month : σ.2.2.2 this_month = 200) (this_value : Nat) (hR_this_value : σ.2.2.1 227 this = some this_value) (hL_this_value : this_value ∈ σ.1) (hK_this_value : σ.2.1 this_value = 13) (hN_this_value : σ.2.2.2 this_value = 200) (this_told : Nat) (hR_this_told : σ.2.2.1 228 this = some this_told) (hL_this_told : this_told ∈ σ.1) (hK_this_told : σ.2.1 this_told = 13) (hN_this_told : σ.2.2.2 this_told = 200) (hZ : pq_Z I) : MetI l yX7_tell (wa yX7_tell cX7_tell 5 (some .int)) ({ frames := 0, cells := 0, slots := 0, locals := 0 }) [.ref this, .int ri_, .int mo, .int v, .int cl] D t σ (I, J, ri, rj, rq) sz 0 0 (fun (r : Int32) (u : pq_S × pq_M) => ∃ I' : Nat → Nat → Int32, ∃ ri' : Nat → Nat → Int32, u = (σ, I', J, ri', rj, rq) ∧ (∀ f, f ∉ ([224] : List Nat) → I' f = I f) ∧ ((r = 1))) := by
  refine Met.ofW (cc := cX7_tell) (maxL := 5) (ret := (some .int)) (by decide) rfl ?_
  intro p e s m args below meth c s₁ B hml hv
  obtain ⟨rfl, hsz, hP, hK, hD0, hN⟩ := hv
  have hx := B.exec
  have hb := B.bytes
  have hr := B.returns
  have hts := atoms_spec (ws := (wa yX7_tell cX7_tell 5 (some .int))) B.pre
  have hown : s.vm.findClass RX7 = some m.cls := findClass_of_methodNamed B.named
  have hlocks := B.notSynchronized
  subst hsz
  have hD : va_D (pq_B t σ (I, J, ri, rj, rq) s.heap.size) (pq_P t σ (I, J, ri, rj, rq)) := hD0.self
  generalize hAe : pq_B t σ (I, J, ri, rj, rq) s.heap.size = A at hD ⊢
  have hA : ∀ q : Nat, s.heap.size ≤ q → A q := fun q h => by rw [← hAe]; exact Or.inr h
  have hS : va_S A s.heap s.heap [] := va_S.rf
  have hl := lv_entry ([.ref this, .int ri_, .int mo, .int v, .int cl]) (n := 5) (Nat.le_of_ble_eq_true rfl)
  rw [lg_entry_eq]
  generalize (lg_sl ([.ref this, .int ri_, .int mo, .int v, .int cl]) ++ List.replicate (5 - (lg_sl ([.ref this, .int ri_, .int mo, .int v, .int cl])).length) Slot.unset).toArray = ls at hl ⊢
  have hl : lv_has ls 5 [(0, .ref this), (1, .int ri_), (2, .int mo), (3, .int v), (4, .int cl)] := hl
  refine lv_aload_n hx hb dX7_tell_0 rfl (lv_at hl 0 rfl) ?_
  refine pg_f (v := .int (I 224 this)) (C := RX7) (T := TX7) (N := 15) hx hb hts (tw_i inlX7) hown hK hP hL_this hK_this (by decide) rfl 0 (by decide) (hts _ (tw_c tw_254)) rfl dX7_tell_1 ?_
  refine lv_tov 0 (congrFun (hZ 224 (by decide)) this) ?_
  refine lv_sipush (v := 200) hx hb dX7_tell_4 (by decide) ?_
  refine lv_icmp_lt (tgt := 12) hx hb dX7_tell_7 (by decide) (fun c_1 => ?_) (fun c_1 => absurd c_1 (by decide))
  refine lv_aload_n hx hb dX7_tell_12 rfl (lv_at hl 0 rfl) ?_
  refine pg_f (v := .ref this_rise) (C := RX7) (T := TX7) (N := 15) hx hb hts (tw_i inlX7) hown hK hP hL_this hK_this (by decide) rfl 1 (by decide) (hts _ (tw_c tw_61)) (pq_hv rfl hR_this_rise) dX7_tell_13 ?_
  refine lv_aload_n hx hb dX7_tell_16 rfl (lv_at hl 0 rfl) ?_
  refine pg_f (v := .int (I 224 this)) (C := RX7) (T := TX7) (N := 15) hx hb hts (tw_i inlX7) hown hK hP hL_this hK_this (by decide) rfl 0 (by decide) (hts _ (tw_c tw_254)) rfl dX7_tell_17 ?_
  refine lv_tov 0 (congrFun (hZ 224 (by decide)) this) ?_
  refine lv_iload_n hx hb dX7_tell_20 rfl (lv_at hl 1 rfl) ?_
  refine pt_i hx hb hK hP hD hS hL_this_rise hK_this_rise hN_this_rise (vp_in_iff.mpr (by decide)) dX7_tell_21 (fun r_2 H locs er_2 hP hD hS => ?_)
  refine lv_aload_n hx hb dX7_tell_22 rfl (lv_at hl 0 rfl) ?_
  refine pg_f (v := .ref this_month) (C := RX7) (T := TX7) (N := 15) hx hb hts (tw_i inlX7) hown hK hP hL_this hK_this (by decide) rfl 2 (by decide) (hts _ (tw_c tw_62)) (pq_hv rfl hR_this_month) dX7_tell_23 ?_
  refine lv_aload_n hx hb dX7_tell_26 rfl (lv_at hl 0 rfl) ?_
  refine pg_f (v := .int (I 224 this)) (C := RX7) (T := TX7) (N := 15) hx hb hts (tw_i inlX7) hown hK hP hL_this hK_this (by decide) rfl 0 (by decide) (hts _ (tw_c tw_254)) rfl dX7_tell_27 ?_
  refine lv_tov 0 (congrFun (hZ 224 (by decide)) this) ?_
  refine lv_iload_n hx hb dX7_tell_30 rfl (lv_at hl 2 rfl) ?_
  refine pt_i hx hb hK hP hD hS hL_this_month hK_this_month hN_this_month (vp_in_iff.mpr (by decide)) dX7_tell_31 (fun r_3 H locs er_3 hP hD hS => ?_)
  refine lv_aload_n hx hb dX7_tell_32 rfl (lv_at hl 0 rfl) ?_
  refine pg_f (v := .ref this_value) (C := RX7) (T := TX7) (N := 15) hx hb hts (tw_i inlX7) hown hK hP hL_this hK_this (by decide) rfl 3 (by decide) (hts _ (tw_c tw_63)) (pq_hv rfl hR_this_value) dX7_tell_33 ?_
  refine lv_aload_n hx hb dX7_tell_36 rfl (lv_at hl 0 rfl) ?_
  refine pg_f (v := .int (I 224 this)) (C := RX7) (T := TX7) (N := 15) hx hb hts (tw_i inlX7) hown hK hP hL_this hK_this (by decide) rfl 0 (by decide) (hts _ (tw_c tw_254)) rfl dX7_tell_37 ?_
  refine lv_tov 0 (congrFun (hZ 224 (by decide)) this) ?_
  refine lv_iload_n hx hb dX7_tell_40 rfl (lv_at hl 3 rfl) ?_
  refine pt_i hx hb hK hP hD hS hL_this_value hK_this_value hN_this_value (vp_in_iff.mpr (by decide)) dX7_tell_41 (fun r_4 H locs er_4 hP hD hS => ?_)
  refine lv_aload_n hx hb dX7_tell_42 rfl (lv_at hl 0 rfl) ?_
  refine pg_f (v := .ref this_told) (C := RX7) (T := TX7) (N := 15) hx hb hts (tw_i inlX7) hown hK hP hL_this hK_this (by decide) rfl 4 (by decide) (hts _ (tw_c tw_64)) (pq_hv rfl hR_this_told) dX7_tell_43 ?_
  refine lv_aload_n hx hb dX7_tell_46 rfl (lv_at hl 0 rfl) ?_
  refine pg_f (v := .int (I 224 this)) (C := RX7) (T := TX7) (N := 15) hx hb hts (tw_i inlX7) hown hK hP hL_this hK_this (by decide) rfl 0 (by decide) (hts _ (tw_c tw_254)) rfl dX7_tell_47 ?_
  refine lv_tov 0 (congrFun (hZ 224 (by decide)) this) ?_
  refine lv_iload hx hb dX7_tell_50 (lv_at hl 4 rfl) ?_
  refine pt_i hx hb hK hP hD hS hL_this_told hK_this_told hN_this_told (vp_in_iff.mpr (by decide)) dX7_tell_52 (fun r_5 H locs er_5 hP hD hS => ?_)
  refine lv_aload_n hx hb dX7_tell_53 rfl (lv_at hl 0 rfl) ?_
  refine lv_dup hx hb dX7_tell_54 rfl ?_
  refine pg_f (v := .int (I 224 this)) (C := RX7) (T := TX7) (N := 15) hx hb hts (tw_i inlX7) hown hK hP hL_this hK_this (by decide) rfl 0 (by decide) (hts _ (tw_c tw_254)) rfl dX7_tell_55 ?_
  refine lv_tov 0 (congrFun (hZ 224 (by decide)) this) ?_
  refine lv_iconst (v := 1) hx hb dX7_tell_58 (by decide) ?_
  refine lv_iadd hx hb dX7_tell_59 ?_
  refine lv_tov 1 (by decide) ?_
  refine pp_i (v := 1) (ty := .int) (C := RX7) (T := TX7) (N := 15) hx hb hts (tw_i inlX7) tyX7 tyX7_ok nmX7 hown hK hP hD hS hL_this hK_this (by decide) rfl 0 224 (by decide) (hts _ (tw_c tw_254)) rfl (by decide +kernel) rfl rfl (Nat.le_of_ble_eq_true rfl) (ps_224 _ _ _ _ _) dX7_tell_60 (fun I_6 H locs eI_6 hP hD hS => ?_)
  refine lv_aload_n hx hb dX7_tell_63 rfl (lv_at hl 0 rfl) ?_
  refine pg_f (v := .int (I_6 224 this)) (C := RX7) (T := TX7) (N := 15) hx hb hts (tw_i inlX7) hown hK hP hL_this hK_this (by decide) rfl 0 (by decide) (hts _ (tw_c tw_254)) rfl dX7_tell_64 ?_
  refine lv_tov 1 (by rw [eI_6]; exact pq_us _ _ _ _) ?_
  exact W.iret (v := 1) hx hb hr (fun t1 ht hW => ⟨⟨1, (σ, I_6, J, r_5, rj, rq), rfl, ⟨I_6, r_5, rfl, (fun f hg => by rw [eI_6, pq_uf _ _ _ (by intro q; subst q; exact hg (by decide))]), rfl⟩, by rw [ht]; exact hP, va_K.moved hW.alike hK, hD⟩, hS.F ht⟩) hS.2.2 dX7_tell_67

def sp_level (ri_ mo b v : Int32) : Int32 := if (0 ≤ ri_ ∧ ri_ ≤ 2) ∧ (0 ≤ mo ∧ mo ≤ 599) ∧ (b = 0 ∨ (-1000) ≤ v ∧ v ≤ 5000) then 1 else (-1)

set_option maxHeartbeats 4000000 in
set_option maxRecDepth 100000 in
theorem c_X11_level (l : Launch) (D : va_G) (t : pq_T) (σ : pq_S) (I : Nat → Nat → Int32) (J : Nat → Nat → Int64) (ri : Nat → Nat → Int32) (rj : Nat → Nat → Int64) (rq : Nat → Nat → Option Nat) (sz : Nat) (this : Nat) (ri_ : Int32) (mo : Int32) (b : Int32) (v : Int32) (hL_this : this ∈ σ.1) (hK_this : σ.2.1 this = 11) (this_now : Nat) (hR_this_now : σ.2.2.1 352 this = some this_now) (hL_this_now : this_now ∈ σ.1) (hK_this_now : σ.2.1 this_now = 10) (this_now_seas : Nat) (hR_this_now_seas : σ.2.2.1 326 this_now = some this_now_seas) (hL_this_now_seas : this_now_seas ∈ σ.1) (hK_this_now_seas : σ.2.1 this_now_seas = 7) (this_now_seas_rise : Nat) (hR_this_now_seas_rise : σ.2.2.1 225 this_now_seas = some this_now_seas_rise) (hL_this_now_seas_rise : this_now_seas_rise ∈ σ.1) (hK_this_now_seas_rise : σ.2.1 this_now_seas_rise = 13) (hN_this_now_seas_rise : σ.2.2.2 this_now_seas_rise = 200) (this_now_seas_month : Nat) (hR_this_now_seas_month : σ.2.2.1 226 this_now_seas = some this_now_seas_month) (hL_this_now_seas_month : this_now_seas_month ∈ σ.1) (hK_this_now_seas_month : σ.2.1 this_now_seas_month = 13) (hN_this_now_seas_month : σ.2.2.2 this_now_seas_month = 200) (this_now_seas_value : Nat) (hR_this_now_seas_value : σ.2.2.1 227 this_now_seas = some this_now_seas_value) (hL_this_now_seas_value : this_now_seas_value ∈ σ.1) (hK_this_now_seas_value : σ.2.1 this_now_seas_value = 13) (hN_this_now_seas_value : σ.2.2.2 this_now_seas_value = 200) (this_now_seas_told : Nat) (hR_this_now_seas_told : σ.2.2.1 228 this_now_seas = some this_now_seas_told) (hL_this_now_seas_told : this_now_seas_told ∈ σ.1) (hK_this_now_seas_told : σ.2.1 this_now_seas_told = 13) (hN_this_now_seas_told : σ.2.2.2 this_now_seas_told = 200) (hZ : pq_Z I) : MetI l yX11_level (wa yX11_level cX11_level 5 (some .int)) ({ frames := 2, cells := 0, slots := 0, locals := 42 }) [.ref this, .int ri_, .int mo, .int b, .int v] D t σ (I, J, ri, rj, rq) sz 0 0 (fun (r : Int32) (u : pq_S × pq_M) => ∃ I' : Nat → Nat → Int32, ∃ ri' : Nat → Nat → Int32, u = (σ, I', J, ri', rj, rq) ∧ (∀ f, f ∉ ([224] : List Nat) → I' f = I f) ∧ (r = sp_level ri_ mo b v)) := by
  refine Met.ofW (cc := cX11_level) (maxL := 5) (ret := (some .int)) (by decide) rfl ?_
  intro p e s m args below meth c s₁ B hml hv
  obtain ⟨rfl, hsz, hP, hK, hD0, hN⟩ := hv
  have hx := B.exec
  have hb := B.bytes
  have hr := B.returns
  have hts := atoms_spec (ws := (wa yX11_level cX11_level 5 (some .int))) B.pre
  have hown : s.vm.findClass RX11 = some m.cls := findClass_of_methodNamed B.named
  have hlocks := B.notSynchronized
  subst hsz
  have hD : va_D (pq_B t σ (I, J, ri, rj, rq) s.heap.size) (pq_P t σ (I, J, ri, rj, rq)) := hD0.self
  generalize hAe : pq_B t σ (I, J, ri, rj, rq) s.heap.size = A at hD ⊢
  have hA : ∀ q : Nat, s.heap.size ≤ q → A q := fun q h => by rw [← hAe]; exact Or.inr h
  have hS : va_S A s.heap s.heap [] := va_S.rf
  have hl := lv_entry ([.ref this, .int ri_, .int mo, .int b, .int v]) (n := 5) (Nat.le_of_ble_eq_true rfl)
  rw [lg_entry_eq]
  generalize (lg_sl ([.ref this, .int ri_, .int mo, .int b, .int v]) ++ List.replicate (5 - (lg_sl ([.ref this, .int ri_, .int mo, .int b, .int v])).length) Slot.unset).toArray = ls at hl ⊢
  have hl : lv_has ls 5 [(0, .ref this), (1, .int ri_), (2, .int mo), (3, .int b), (4, .int v)] := hl
  refine lv_iload_n hx hb dX11_level_0 rfl (lv_at hl 1 rfl) ?_
  refine pk_i (va_runS (As := [.int ri_]) (rest := []) ⟨hx, hb, hml, hown, hts⟩ (c_X11_isRise l D t σ I J ri rj rq (Array.size s.heap) ri_) (va_cwS 1 hts (tw_S tw_244 tw_245 tw_2 tw_246) rfl rfl rfl (by decide +kernel) ⟨Nat.le_of_ble_eq_true rfl, Nat.le_of_ble_eq_true rfl⟩) ⟨pq_blind, pq_pre hK hN hP hD⟩ rfl rfl hl.1 rfl (lv_room (Nat.le_of_ble_eq_true rfl)) dX11_level_1 ⟨Nat.le_of_ble_eq_true rfl, Nat.le_of_ble_eq_true rfl⟩) hD hS hA (fun r_1 σ1 μ1 H locs hw_2 hP hD hS => ?_)
  obtain ⟨hu_3, hr_4⟩ := hw_2
  obtain ⟨hu_3a, hu_3b⟩ := Prod.mk.inj hu_3
  rw [hu_3a, hu_3b] at hP hD
  rcases hr_4 with ⟨rfl, hr_4_0, hr_4_1⟩ | ⟨rfl, hr_4_0⟩
  · refine lv_if_eq (tgt := 32) hx hb dX11_level_4 (by decide) (fun c_5 => absurd c_5 (by decide)) (fun c_5 => ?_)
    refine lv_iload_n hx hb dX11_level_7 rfl (lv_at hl 2 rfl) ?_
    refine pk_i (va_runS (As := [.int mo]) (rest := []) ⟨hx, hb, hml, hown, hts⟩ (c_X11_isMonth l D t σ I J ri rj rq H.size mo) (va_cwS 1 hts (tw_S tw_247 tw_248 tw_2 tw_249) rfl rfl rfl (by decide +kernel) ⟨Nat.le_of_ble_eq_true rfl, Nat.le_of_ble_eq_true rfl⟩) ⟨pq_blind, pq_pre hK hN hP hD⟩ rfl rfl hl.1 rfl (lv_room (Nat.le_of_ble_eq_true rfl)) dX11_level_8 ⟨Nat.le_of_ble_eq_true rfl, Nat.le_of_ble_eq_true rfl⟩) hD hS hA (fun r_6 σ1 μ1 H locs hw_7 hP hD hS => ?_)
    obtain ⟨hu_8, hr_9⟩ := hw_7
    obtain ⟨hu_8a, hu_8b⟩ := Prod.mk.inj hu_8
    rw [hu_8a, hu_8b] at hP hD
    rcases hr_9 with ⟨rfl, hr_9_0, hr_9_1⟩ | ⟨rfl, hr_9_0⟩
    · refine lv_if_eq (tgt := 32) hx hb dX11_level_11 (by decide) (fun c_10 => absurd c_10 (by decide)) (fun c_10 => ?_)
      refine lv_iload_n hx hb dX11_level_14 rfl (lv_at hl 3 rfl) ?_
      refine lv_if_eq (tgt := 34) hx hb dX11_level_15 (by decide) (fun c_11 => ?_) (fun c_11 => ?_)
      · refine lv_aload_n hx hb dX11_level_34 rfl (lv_at hl 0 rfl) ?_
        refine pg_f (v := .ref this_now) (C := RX11) (T := TX11) (N := 5) hx hb hts (tw_i inlX11) hown hK hP hL_this hK_this (by decide) rfl 0 (by decide) (hts _ (tw_c tw_16)) (pq_hv rfl hR_this_now) dX11_level_35 ?_
        refine pg_f (v := .ref this_now_seas) (C := RX10) (T := TX10) (N := 13) hx hb hts (tw_i inlX10) hown hK hP hL_this_now hK_this_now (by decide) rfl 6 (by decide) (hts _ (tw_c tw_242)) (pq_hv rfl hR_this_now_seas) dX11_level_38 ?_
        refine pg_f (v := .int (I 224 this_now_seas)) (C := RX7) (T := TX7) (N := 15) hx hb hts (tw_i inlX7) hown hK hP hL_this_now_seas hK_this_now_seas (by decide) rfl 0 (by decide) (hts _ (tw_c tw_243)) rfl dX11_level_41 ?_
        refine lv_tov 0 (congrFun (hZ 224 (by decide)) this_now_seas) ?_
        refine lv_sipush (v := 200) hx hb dX11_level_44 (by decide) ?_
        refine lv_icmp_lt (tgt := 52) hx hb dX11_level_47 (by decide) (fun c_12 => ?_) (fun c_12 => absurd c_12 (by decide))
        refine lv_aload_n hx hb dX11_level_52 rfl (lv_at hl 0 rfl) ?_
        refine pg_f (v := .ref this_now) (C := RX11) (T := TX11) (N := 5) hx hb hts (tw_i inlX11) hown hK hP hL_this hK_this (by decide) rfl 0 (by decide) (hts _ (tw_c tw_16)) (pq_hv rfl hR_this_now) dX11_level_53 ?_
        refine pg_f (v := .ref this_now_seas) (C := RX10) (T := TX10) (N := 13) hx hb hts (tw_i inlX10) hown hK hP hL_this_now hK_this_now (by decide) rfl 6 (by decide) (hts _ (tw_c tw_242)) (pq_hv rfl hR_this_now_seas) dX11_level_56 ?_
        refine lv_iload_n hx hb dX11_level_59 rfl (lv_at hl 1 rfl) ?_
        refine lv_iload_n hx hb dX11_level_60 rfl (lv_at hl 2 rfl) ?_
        refine lv_iload_n hx hb dX11_level_61 rfl (lv_at hl 3 rfl) ?_
        refine lv_if_eq (tgt := 70) hx hb dX11_level_62 (by decide) (fun c_13 => ?_) (fun c_13 => ?_)
        · refine lv_sipush (v := (-5000)) hx hb dX11_level_70 (by decide) ?_
          refine lv_aload_n hx hb dX11_level_73 rfl (lv_at hl 0 rfl) ?_
          refine pg_f (v := .ref this_now) (C := RX11) (T := TX11) (N := 5) hx hb hts (tw_i inlX11) hown hK hP hL_this hK_this (by decide) rfl 0 (by decide) (hts _ (tw_c tw_16)) (pq_hv rfl hR_this_now) dX11_level_74 ?_
          refine pg_f (v := .int (I 320 this_now)) (C := RX10) (T := TX10) (N := 13) hx hb hts (tw_i inlX10) hown hK hP hL_this_now hK_this_now (by decide) rfl 0 (by decide) (hts _ (tw_c tw_209)) rfl dX11_level_77 ?_
          refine pk_i (va_runV (As := [.int ri_, .int mo, .int (-5000), .int (I 320 this_now)]) (rest := []) ⟨hx, hb, hml, hown, hts⟩ (c_X7_tell l D t σ I J ri rj rq H.size this_now_seas ri_ mo (-5000 : Int32) (I 320 this_now) hL_this_now_seas hK_this_now_seas this_now_seas_rise hR_this_now_seas_rise hL_this_now_seas_rise hK_this_now_seas_rise hN_this_now_seas_rise this_now_seas_month hR_this_now_seas_month hL_this_now_seas_month hK_this_now_seas_month hN_this_now_seas_month this_now_seas_value hR_this_now_seas_value hL_this_now_seas_value hK_this_now_seas_value hN_this_now_seas_value this_now_seas_told hR_this_now_seas_told hL_this_now_seas_told hK_this_now_seas_told hN_this_now_seas_told hZ) (cwV 4 hts (tw_V tw_250 tw_251 tw_252 tw_37 tw_253) rfl rfl rfl (by decide +kernel) ⟨Nat.le_of_ble_eq_true rfl, Nat.le_of_ble_eq_true rfl⟩) ⟨pq_blind, pq_recv hK hP hL_this_now_seas hK_this_now_seas (by decide) rfl, pq_pre hK hN hP hD⟩ rfl rfl hl.1 rfl (lv_room (Nat.le_of_ble_eq_true rfl)) dX11_level_80 ⟨Nat.le_of_ble_eq_true rfl, Nat.le_of_ble_eq_true rfl⟩) hD hS hA (fun r_14 σ1 μ1 H locs hw_15 hP hD hS => ?_)
          obtain ⟨I_16, ri_17, hu_18, hu_18f, hr_19⟩ := hw_15
          obtain ⟨hu_18a, hu_18b⟩ := Prod.mk.inj hu_18
          rw [hu_18a, hu_18b] at hP hD
          subst hr_19
          exact W.iret (v := 1) hx hb hr (fun t1 ht hW => ⟨⟨1, (σ, I_16, J, ri_17, rj, rq), rfl, ⟨I_16, ri_17, rfl, (fun f hg => by rw [hu_18f f (fun q => hg (by revert q; simp only [List.mem_cons, List.not_mem_nil, or_false]; omega))]), (by unfold sp_level; rw [if_pos (show _ from ⟨⟨hr_4_0, hr_4_1⟩, ⟨hr_9_0, hr_9_1⟩, Or.inl c_11⟩)])⟩, by rw [ht]; exact hP, va_K.moved hW.alike hK, hD⟩, hS.F ht⟩) hS.2.2 dX11_level_83
        · refine lv_iload hx hb dX11_level_65 (lv_at hl 4 rfl) ?_
          refine lv_goto (tgt := 73) hx hb dX11_level_67 (by decide) ?_
          refine lv_aload_n hx hb dX11_level_73 rfl (lv_at hl 0 rfl) ?_
          refine pg_f (v := .ref this_now) (C := RX11) (T := TX11) (N := 5) hx hb hts (tw_i inlX11) hown hK hP hL_this hK_this (by decide) rfl 0 (by decide) (hts _ (tw_c tw_16)) (pq_hv rfl hR_this_now) dX11_level_74 ?_
          refine pg_f (v := .int (I 320 this_now)) (C := RX10) (T := TX10) (N := 13) hx hb hts (tw_i inlX10) hown hK hP hL_this_now hK_this_now (by decide) rfl 0 (by decide) (hts _ (tw_c tw_209)) rfl dX11_level_77 ?_
          refine pk_i (va_runV (As := [.int ri_, .int mo, .int v, .int (I 320 this_now)]) (rest := []) ⟨hx, hb, hml, hown, hts⟩ (c_X7_tell l D t σ I J ri rj rq H.size this_now_seas ri_ mo v (I 320 this_now) hL_this_now_seas hK_this_now_seas this_now_seas_rise hR_this_now_seas_rise hL_this_now_seas_rise hK_this_now_seas_rise hN_this_now_seas_rise this_now_seas_month hR_this_now_seas_month hL_this_now_seas_month hK_this_now_seas_month hN_this_now_seas_month this_now_seas_value hR_this_now_seas_value hL_this_now_seas_value hK_this_now_seas_value hN_this_now_seas_value this_now_seas_told hR_this_now_seas_told hL_this_now_seas_told hK_this_now_seas_told hN_this_now_seas_told hZ) (cwV 4 hts (tw_V tw_250 tw_251 tw_252 tw_37 tw_253) rfl rfl rfl (by decide +kernel) ⟨Nat.le_of_ble_eq_true rfl, Nat.le_of_ble_eq_true rfl⟩) ⟨pq_blind, pq_recv hK hP hL_this_now_seas hK_this_now_seas (by decide) rfl, pq_pre hK hN hP hD⟩ rfl rfl hl.1 rfl (lv_room (Nat.le_of_ble_eq_true rfl)) dX11_level_80 ⟨Nat.le_of_ble_eq_true rfl, Nat.le_of_ble_eq_true rfl⟩) hD hS hA (fun r_20 σ1 μ1 H locs hw_21 hP hD hS => ?_)
          obtain ⟨I_22, ri_23, hu_24, hu_24f, hr_25⟩ := hw_21
          obtain ⟨hu_24a, hu_24b⟩ := Prod.mk.inj hu_24
          rw [hu_24a, hu_24b] at hP hD
          subst hr_25
          exact W.iret (v := 1) hx hb hr (fun t1 ht hW => ⟨⟨1, (σ, I_22, J, ri_23, rj, rq), rfl, ⟨I_22, ri_23, rfl, (fun f hg => by rw [hu_24f f (fun q => hg (by revert q; simp only [List.mem_cons, List.not_mem_nil, or_false]; omega))]), (by unfold sp_level; rw [if_pos (show _ from ⟨⟨hr_4_0, hr_4_1⟩, ⟨hr_9_0, hr_9_1⟩, Or.inl c_11⟩)])⟩, by rw [ht]; exact hP, va_K.moved hW.alike hK, hD⟩, hS.F ht⟩) hS.2.2 dX11_level_83
      · refine lv_iload hx hb dX11_level_18 (lv_at hl 4 rfl) ?_
        refine lv_sipush (v := (-1000)) hx hb dX11_level_20 (by decide) ?_
        refine lv_sipush (v := 5000) hx hb dX11_level_23 (by decide) ?_
        refine pk_i (va_runS (As := [.int v, .int (-1000), .int 5000]) (rest := []) ⟨hx, hb, hml, hown, hts⟩ (c_X11_between l D t σ I J ri rj rq H.size v (-1000 : Int32) (5000 : Int32)) (va_cwS 3 hts (tw_S tw_215 tw_216 tw_2 tw_217) rfl rfl rfl (by decide +kernel) ⟨Nat.le_of_ble_eq_true rfl, Nat.le_of_ble_eq_true rfl⟩) ⟨pq_blind, pq_pre hK hN hP hD⟩ rfl rfl hl.1 rfl (lv_room (Nat.le_of_ble_eq_true rfl)) dX11_level_26 ⟨Nat.le_of_ble_eq_true rfl, Nat.le_of_ble_eq_true rfl⟩) hD hS hA (fun r_26 σ1 μ1 H locs hw_27 hP hD hS => ?_)
        obtain ⟨hu_28, hr_29⟩ := hw_27
        obtain ⟨hu_28a, hu_28b⟩ := Prod.mk.inj hu_28
        rw [hu_28a, hu_28b] at hP hD
        rcases hr_29 with ⟨rfl, hr_29_0, hr_29_1⟩ | ⟨rfl, hr_29_0⟩
        · refine lv_if_ne (tgt := 34) hx hb dX11_level_29 (by decide) (fun c_30 => ?_) (fun c_30 => absurd c_30 (by decide))
          refine lv_aload_n hx hb dX11_level_34 rfl (lv_at hl 0 rfl) ?_
          refine pg_f (v := .ref this_now) (C := RX11) (T := TX11) (N := 5) hx hb hts (tw_i inlX11) hown hK hP hL_this hK_this (by decide) rfl 0 (by decide) (hts _ (tw_c tw_16)) (pq_hv rfl hR_this_now) dX11_level_35 ?_
          refine pg_f (v := .ref this_now_seas) (C := RX10) (T := TX10) (N := 13) hx hb hts (tw_i inlX10) hown hK hP hL_this_now hK_this_now (by decide) rfl 6 (by decide) (hts _ (tw_c tw_242)) (pq_hv rfl hR_this_now_seas) dX11_level_38 ?_
          refine pg_f (v := .int (I 224 this_now_seas)) (C := RX7) (T := TX7) (N := 15) hx hb hts (tw_i inlX7) hown hK hP hL_this_now_seas hK_this_now_seas (by decide) rfl 0 (by decide) (hts _ (tw_c tw_243)) rfl dX11_level_41 ?_
          refine lv_tov 0 (congrFun (hZ 224 (by decide)) this_now_seas) ?_
          refine lv_sipush (v := 200) hx hb dX11_level_44 (by decide) ?_
          refine lv_icmp_lt (tgt := 52) hx hb dX11_level_47 (by decide) (fun c_31 => ?_) (fun c_31 => absurd c_31 (by decide))
          refine lv_aload_n hx hb dX11_level_52 rfl (lv_at hl 0 rfl) ?_
          refine pg_f (v := .ref this_now) (C := RX11) (T := TX11) (N := 5) hx hb hts (tw_i inlX11) hown hK hP hL_this hK_this (by decide) rfl 0 (by decide) (hts _ (tw_c tw_16)) (pq_hv rfl hR_this_now) dX11_level_53 ?_
          refine pg_f (v := .ref this_now_seas) (C := RX10) (T := TX10) (N := 13) hx hb hts (tw_i inlX10) hown hK hP hL_this_now hK_this_now (by decide) rfl 6 (by decide) (hts _ (tw_c tw_242)) (pq_hv rfl hR_this_now_seas) dX11_level_56 ?_
          refine lv_iload_n hx hb dX11_level_59 rfl (lv_at hl 1 rfl) ?_
          refine lv_iload_n hx hb dX11_level_60 rfl (lv_at hl 2 rfl) ?_
          refine lv_iload_n hx hb dX11_level_61 rfl (lv_at hl 3 rfl) ?_
          refine lv_if_eq (tgt := 70) hx hb dX11_level_62 (by decide) (fun c_32 => ?_) (fun c_32 => ?_)
          · refine lv_sipush (v := (-5000)) hx hb dX11_level_70 (by decide) ?_
            refine lv_aload_n hx hb dX11_level_73 rfl (lv_at hl 0 rfl) ?_
            refine pg_f (v := .ref this_now) (C := RX11) (T := TX11) (N := 5) hx hb hts (tw_i inlX11) hown hK hP hL_this hK_this (by decide) rfl 0 (by decide) (hts _ (tw_c tw_16)) (pq_hv rfl hR_this_now) dX11_level_74 ?_
            refine pg_f (v := .int (I 320 this_now)) (C := RX10) (T := TX10) (N := 13) hx hb hts (tw_i inlX10) hown hK hP hL_this_now hK_this_now (by decide) rfl 0 (by decide) (hts _ (tw_c tw_209)) rfl dX11_level_77 ?_
            refine pk_i (va_runV (As := [.int ri_, .int mo, .int (-5000), .int (I 320 this_now)]) (rest := []) ⟨hx, hb, hml, hown, hts⟩ (c_X7_tell l D t σ I J ri rj rq H.size this_now_seas ri_ mo (-5000 : Int32) (I 320 this_now) hL_this_now_seas hK_this_now_seas this_now_seas_rise hR_this_now_seas_rise hL_this_now_seas_rise hK_this_now_seas_rise hN_this_now_seas_rise this_now_seas_month hR_this_now_seas_month hL_this_now_seas_month hK_this_now_seas_month hN_this_now_seas_month this_now_seas_value hR_this_now_seas_value hL_this_now_seas_value hK_this_now_seas_value hN_this_now_seas_value this_now_seas_told hR_this_now_seas_told hL_this_now_seas_told hK_this_now_seas_told hN_this_now_seas_told hZ) (cwV 4 hts (tw_V tw_250 tw_251 tw_252 tw_37 tw_253) rfl rfl rfl (by decide +kernel) ⟨Nat.le_of_ble_eq_true rfl, Nat.le_of_ble_eq_true rfl⟩) ⟨pq_blind, pq_recv hK hP hL_this_now_seas hK_this_now_seas (by decide) rfl, pq_pre hK hN hP hD⟩ rfl rfl hl.1 rfl (lv_room (Nat.le_of_ble_eq_true rfl)) dX11_level_80 ⟨Nat.le_of_ble_eq_true rfl, Nat.le_of_ble_eq_true rfl⟩) hD hS hA (fun r_33 σ1 μ1 H locs hw_34 hP hD hS => ?_)
            obtain ⟨I_35, ri_36, hu_37, hu_37f, hr_38⟩ := hw_34
            obtain ⟨hu_37a, hu_37b⟩ := Prod.mk.inj hu_37
            rw [hu_37a, hu_37b] at hP hD
            subst hr_38
            exact W.iret (v := 1) hx hb hr (fun t1 ht hW => ⟨⟨1, (σ, I_35, J, ri_36, rj, rq), rfl, ⟨I_35, ri_36, rfl, (fun f hg => by rw [hu_37f f (fun q => hg (by revert q; simp only [List.mem_cons, List.not_mem_nil, or_false]; omega))]), (by unfold sp_level; rw [if_pos (show _ from ⟨⟨hr_4_0, hr_4_1⟩, ⟨hr_9_0, hr_9_1⟩, Or.inr ⟨hr_29_0, hr_29_1⟩⟩)])⟩, by rw [ht]; exact hP, va_K.moved hW.alike hK, hD⟩, hS.F ht⟩) hS.2.2 dX11_level_83
          · refine lv_iload hx hb dX11_level_65 (lv_at hl 4 rfl) ?_
            refine lv_goto (tgt := 73) hx hb dX11_level_67 (by decide) ?_
            refine lv_aload_n hx hb dX11_level_73 rfl (lv_at hl 0 rfl) ?_
            refine pg_f (v := .ref this_now) (C := RX11) (T := TX11) (N := 5) hx hb hts (tw_i inlX11) hown hK hP hL_this hK_this (by decide) rfl 0 (by decide) (hts _ (tw_c tw_16)) (pq_hv rfl hR_this_now) dX11_level_74 ?_
            refine pg_f (v := .int (I 320 this_now)) (C := RX10) (T := TX10) (N := 13) hx hb hts (tw_i inlX10) hown hK hP hL_this_now hK_this_now (by decide) rfl 0 (by decide) (hts _ (tw_c tw_209)) rfl dX11_level_77 ?_
            refine pk_i (va_runV (As := [.int ri_, .int mo, .int v, .int (I 320 this_now)]) (rest := []) ⟨hx, hb, hml, hown, hts⟩ (c_X7_tell l D t σ I J ri rj rq H.size this_now_seas ri_ mo v (I 320 this_now) hL_this_now_seas hK_this_now_seas this_now_seas_rise hR_this_now_seas_rise hL_this_now_seas_rise hK_this_now_seas_rise hN_this_now_seas_rise this_now_seas_month hR_this_now_seas_month hL_this_now_seas_month hK_this_now_seas_month hN_this_now_seas_month this_now_seas_value hR_this_now_seas_value hL_this_now_seas_value hK_this_now_seas_value hN_this_now_seas_value this_now_seas_told hR_this_now_seas_told hL_this_now_seas_told hK_this_now_seas_told hN_this_now_seas_told hZ) (cwV 4 hts (tw_V tw_250 tw_251 tw_252 tw_37 tw_253) rfl rfl rfl (by decide +kernel) ⟨Nat.le_of_ble_eq_true rfl, Nat.le_of_ble_eq_true rfl⟩) ⟨pq_blind, pq_recv hK hP hL_this_now_seas hK_this_now_seas (by decide) rfl, pq_pre hK hN hP hD⟩ rfl rfl hl.1 rfl (lv_room (Nat.le_of_ble_eq_true rfl)) dX11_level_80 ⟨Nat.le_of_ble_eq_true rfl, Nat.le_of_ble_eq_true rfl⟩) hD hS hA (fun r_39 σ1 μ1 H locs hw_40 hP hD hS => ?_)
            obtain ⟨I_41, ri_42, hu_43, hu_43f, hr_44⟩ := hw_40
            obtain ⟨hu_43a, hu_43b⟩ := Prod.mk.inj hu_43
            rw [hu_43a, hu_43b] at hP hD
            subst hr_44
            exact W.iret (v := 1) hx hb hr (fun t1 ht hW => ⟨⟨1, (σ, I_41, J, ri_42, rj, rq), rfl, ⟨I_41, ri_42, rfl, (fun f hg => by rw [hu_43f f (fun q => hg (by revert q; simp only [List.mem_cons, List.not_mem_nil, or_false]; omega))]), (by unfold sp_level; rw [if_pos (show _ from ⟨⟨hr_4_0, hr_4_1⟩, ⟨hr_9_0, hr_9_1⟩, Or.inr ⟨hr_29_0, hr_29_1⟩⟩)])⟩, by rw [ht]; exact hP, va_K.moved hW.alike hK, hD⟩, hS.F ht⟩) hS.2.2 dX11_level_83
        · refine lv_if_ne (tgt := 34) hx hb dX11_level_29 (by decide) (fun c_45 => absurd c_45 (by decide)) (fun c_45 => ?_)
          refine lv_iconst (v := (-1)) hx hb dX11_level_32 (by decide) ?_
          exact W.iret (v := (-1)) hx hb hr (fun t1 ht hW => ⟨⟨(-1), (σ, I, J, ri, rj, rq), rfl, ⟨I, ri, rfl, (fun f hg => rfl), (by unfold sp_level; rw [if_neg (fun q => q.2.2.elim c_11 hr_29_0)])⟩, by rw [ht]; exact hP, va_K.moved hW.alike hK, hD⟩, hS.F ht⟩) hS.2.2 dX11_level_33
    · refine lv_if_eq (tgt := 32) hx hb dX11_level_11 (by decide) (fun c_46 => ?_) (fun c_46 => absurd c_46 (by decide))
      refine lv_iconst (v := (-1)) hx hb dX11_level_32 (by decide) ?_
      exact W.iret (v := (-1)) hx hb hr (fun t1 ht hW => ⟨⟨(-1), (σ, I, J, ri, rj, rq), rfl, ⟨I, ri, rfl, (fun f hg => rfl), (by unfold sp_level; rw [if_neg (fun q => hr_9_0 q.2.1)])⟩, by rw [ht]; exact hP, va_K.moved hW.alike hK, hD⟩, hS.F ht⟩) hS.2.2 dX11_level_33
  · refine lv_if_eq (tgt := 32) hx hb dX11_level_4 (by decide) (fun c_47 => ?_) (fun c_47 => absurd c_47 (by decide))
    refine lv_iconst (v := (-1)) hx hb dX11_level_32 (by decide) ?_
    exact W.iret (v := (-1)) hx hb hr (fun t1 ht hW => ⟨⟨(-1), (σ, I, J, ri, rj, rq), rfl, ⟨I, ri, rfl, (fun f hg => rfl), (by unfold sp_level; rw [if_neg (fun q => hr_4_0 q.1)])⟩, by rw [ht]; exact hP, va_K.moved hW.alike hK, hD⟩, hS.F ht⟩) hS.2.2 dX11_level_33

set_option maxHeartbeats 4000000 in
set_option maxRecDepth 100000 in
theorem c_X6_append (l : Launch) (D : va_G) (t : pq_T) (σ : pq_S) (I : Nat → Nat → Int32) (J : Nat → Nat → Int64) (ri : Nat → Nat → Int32) (rj : Nat → Nat → Int64) (rq : Nat → Nat → Option Nat) (sz : Nat) (this : Nat) (four : Int32) (hL_this : this ∈ σ.1) (hK_this : σ.2.1 this = 6) (this_tape : Nat) (hR_this_tape : σ.2.2.1 192 this = some this_tape) (hL_this_tape : this_tape ∈ σ.1) (hK_this_tape : σ.2.1 this_tape = 13) (hN_this_tape : σ.2.2.2 this_tape = 300) (g : Nat) (hg : g ≤ 296) (hI : I 193 this = nI g) : MetV l yX6_append (wa yX6_append cX6_append 3 none) ({ frames := 0, cells := 0, slots := 0, locals := 0 }) [.ref this, .int four] D t σ (I, J, ri, rj, rq) sz 0 0 (fun (u : pq_S × pq_M) => ∃ I' : Nat → Nat → Int32, ∃ ri' : Nat → Nat → Int32, u = (σ, I', J, ri', rj, rq) ∧ (∀ f, f ∉ ([193] : List Nat) → I' f = I f) ∧ (I' 193 this = nI (g + 4))) := by
  refine Met.ofW (cc := cX6_append) (maxL := 3) (ret := none) (by decide) rfl ?_
  intro p e s m args below meth c s₁ B hml hv
  obtain ⟨rfl, hsz, hP, hK, hD0, hN⟩ := hv
  have hx := B.exec
  have hb := B.bytes
  have hr := B.returns
  have hts := atoms_spec (ws := (wa yX6_append cX6_append 3 none)) B.pre
  have hown : s.vm.findClass RX6 = some m.cls := findClass_of_methodNamed B.named
  have hlocks := B.notSynchronized
  subst hsz
  have hD : va_D (pq_B t σ (I, J, ri, rj, rq) s.heap.size) (pq_P t σ (I, J, ri, rj, rq)) := hD0.self
  generalize hAe : pq_B t σ (I, J, ri, rj, rq) s.heap.size = A at hD ⊢
  have hA : ∀ q : Nat, s.heap.size ≤ q → A q := fun q h => by rw [← hAe]; exact Or.inr h
  have hS : va_S A s.heap s.heap [] := va_S.rf
  have hl := lv_entry ([.ref this, .int four]) (n := 3) (Nat.le_of_ble_eq_true rfl)
  rw [lg_entry_eq]
  generalize (lg_sl ([.ref this, .int four]) ++ List.replicate (3 - (lg_sl ([.ref this, .int four])).length) Slot.unset).toArray = ls at hl ⊢
  have hl : lv_has ls 3 [(0, .ref this), (1, .int four)] := hl
  refine lv_bipush (v := 24) hx hb dX6_append_0 (by decide) ?_
  refine lv_istore_n (lv' := [(2, .int 24), (0, .ref this), (1, .int four)]) hx hb dX6_append_2 rfl hl (by decide) rfl (fun ls hl => ?_)
  refine lv_iload_n hx hb dX6_append_3 rfl (lv_at hl 0 rfl) ?_
  refine lv_if_lt (tgt := 49) hx hb dX6_append_4 (by decide) (fun c_1 => absurd c_1 (by decide)) (fun c_1 => ?_)
  refine lv_aload_n hx hb dX6_append_7 rfl (lv_at hl 1 rfl) ?_
  refine pg_f (v := .int (I 193 this)) (C := RX6) (T := TX6) (N := 6) hx hb hts (tw_i inlX6) hown hK hP hL_this hK_this (by decide) rfl 1 (by decide) (hts _ (tw_c tw_626)) rfl dX6_append_8 ?_
  refine lv_tov (nI g) hI ?_
  refine lv_sipush (v := 300) hx hb dX6_append_11 (by decide) ?_
  refine lv_icmp_ge (tgt := 49) hx hb dX6_append_14 (by decide) (fun c_2 => (nI_ge (a := g) (b := 300) (by omega) (by omega) c_2).elim) (fun c_2 => ?_)
  refine lv_aload_n hx hb dX6_append_17 rfl (lv_at hl 1 rfl) ?_
  refine pg_f (v := .ref this_tape) (C := RX6) (T := TX6) (N := 6) hx hb hts (tw_i inlX6) hown hK hP hL_this hK_this (by decide) rfl 0 (by decide) (hts _ (tw_c tw_165)) (pq_hv rfl hR_this_tape) dX6_append_18 ?_
  refine lv_aload_n hx hb dX6_append_21 rfl (lv_at hl 1 rfl) ?_
  refine pg_f (v := .int (I 193 this)) (C := RX6) (T := TX6) (N := 6) hx hb hts (tw_i inlX6) hown hK hP hL_this hK_this (by decide) rfl 1 (by decide) (hts _ (tw_c tw_626)) rfl dX6_append_22 ?_
  refine lv_tov (nI g) hI ?_
  refine lv_iload_n hx hb dX6_append_25 rfl (lv_at hl 2 rfl) ?_
  refine lv_iload_n hx hb dX6_append_26 rfl (lv_at hl 0 rfl) ?_
  refine lv_iushr hx hb dX6_append_27 rfl ?_
  refine lv_topi (fun x_4 ex_4 => ?_)
  refine lv_sipush (v := 255) hx hb dX6_append_28 (by decide) ?_
  refine lv_iand hx hb dX6_append_31 ?_
  refine lv_topi (fun x_5 ex_5 => ?_)
  refine pt_i hx hb hK hP hD hS hL_this_tape hK_this_tape hN_this_tape (nI_in (c := g) (by omega) (by omega)) dX6_append_32 (fun r_6 H locs er_6 hP hD hS => ?_)
  refine lv_aload_n hx hb dX6_append_33 rfl (lv_at hl 1 rfl) ?_
  refine lv_dup hx hb dX6_append_34 rfl ?_
  refine pg_f (v := .int (I 193 this)) (C := RX6) (T := TX6) (N := 6) hx hb hts (tw_i inlX6) hown hK hP hL_this hK_this (by decide) rfl 1 (by decide) (hts _ (tw_c tw_626)) rfl dX6_append_35 ?_
  refine lv_tov (nI g) hI ?_
  refine lv_iconst (v := 1) hx hb dX6_append_38 (by decide) ?_
  refine lv_iadd hx hb dX6_append_39 ?_
  refine lv_tov (nI (g + 1)) (nI_add g 1) ?_
  refine pp_i (v := (nI (g + 1))) (ty := .int) (C := RX6) (T := TX6) (N := 6) hx hb hts (tw_i inlX6) tyX6 tyX6_ok nmX6 hown hK hP hD hS hL_this hK_this (by decide) rfl 1 193 (by decide) (hts _ (tw_c tw_626)) rfl (by decide +kernel) rfl rfl (Nat.le_of_ble_eq_true rfl) (ps_193 _ _ _ _ _) dX6_append_40 (fun I_7 H locs eI_7 hP hD hS => ?_)
  refine lv_iinc (v := 16) (lv' := [(2, .int 16), (0, .ref this), (1, .int four)]) hx hb dX6_append_43 hl (k := 0) rfl (by decide) (by decide) rfl (fun ls hl => ?_)
  refine lv_goto (tgt := 3) hx hb dX6_append_46 (by decide) ?_
  refine lv_iload_n hx hb dX6_append_3 rfl (lv_at hl 0 rfl) ?_
  refine lv_if_lt (tgt := 49) hx hb dX6_append_4 (by decide) (fun c_8 => absurd c_8 (by decide)) (fun c_8 => ?_)
  refine lv_aload_n hx hb dX6_append_7 rfl (lv_at hl 1 rfl) ?_
  refine pg_f (v := .int (I_7 193 this)) (C := RX6) (T := TX6) (N := 6) hx hb hts (tw_i inlX6) hown hK hP hL_this hK_this (by decide) rfl 1 (by decide) (hts _ (tw_c tw_626)) rfl dX6_append_8 ?_
  refine lv_tov (nI (g + 1)) (by rw [eI_7]; exact pq_us _ _ _ _) ?_
  refine lv_sipush (v := 300) hx hb dX6_append_11 (by decide) ?_
  refine lv_icmp_ge (tgt := 49) hx hb dX6_append_14 (by decide) (fun c_9 => (nI_ge (a := (g + 1)) (b := 300) (by omega) (by omega) c_9).elim) (fun c_9 => ?_)
  refine lv_aload_n hx hb dX6_append_17 rfl (lv_at hl 1 rfl) ?_
  refine pg_f (v := .ref this_tape) (C := RX6) (T := TX6) (N := 6) hx hb hts (tw_i inlX6) hown hK hP hL_this hK_this (by decide) rfl 0 (by decide) (hts _ (tw_c tw_165)) (pq_hv rfl hR_this_tape) dX6_append_18 ?_
  refine lv_aload_n hx hb dX6_append_21 rfl (lv_at hl 1 rfl) ?_
  refine pg_f (v := .int (I_7 193 this)) (C := RX6) (T := TX6) (N := 6) hx hb hts (tw_i inlX6) hown hK hP hL_this hK_this (by decide) rfl 1 (by decide) (hts _ (tw_c tw_626)) rfl dX6_append_22 ?_
  refine lv_tov (nI (g + 1)) (by rw [eI_7]; exact pq_us _ _ _ _) ?_
  refine lv_iload_n hx hb dX6_append_25 rfl (lv_at hl 2 rfl) ?_
  refine lv_iload_n hx hb dX6_append_26 rfl (lv_at hl 0 rfl) ?_
  refine lv_iushr hx hb dX6_append_27 rfl ?_
  refine lv_topi (fun x_11 ex_11 => ?_)
  refine lv_sipush (v := 255) hx hb dX6_append_28 (by decide) ?_
  refine lv_iand hx hb dX6_append_31 ?_
  refine lv_topi (fun x_12 ex_12 => ?_)
  refine pt_i hx hb hK hP hD hS hL_this_tape hK_this_tape hN_this_tape (nI_in (c := (g + 1)) (by omega) (by omega)) dX6_append_32 (fun r_13 H locs er_13 hP hD hS => ?_)
  refine lv_aload_n hx hb dX6_append_33 rfl (lv_at hl 1 rfl) ?_
  refine lv_dup hx hb dX6_append_34 rfl ?_
  refine pg_f (v := .int (I_7 193 this)) (C := RX6) (T := TX6) (N := 6) hx hb hts (tw_i inlX6) hown hK hP hL_this hK_this (by decide) rfl 1 (by decide) (hts _ (tw_c tw_626)) rfl dX6_append_35 ?_
  refine lv_tov (nI (g + 1)) (by rw [eI_7]; exact pq_us _ _ _ _) ?_
  refine lv_iconst (v := 1) hx hb dX6_append_38 (by decide) ?_
  refine lv_iadd hx hb dX6_append_39 ?_
  refine lv_tov (nI ((g + 1) + 1)) (nI_add (g + 1) 1) ?_
  refine pp_i (v := (nI ((g + 1) + 1))) (ty := .int) (C := RX6) (T := TX6) (N := 6) hx hb hts (tw_i inlX6) tyX6 tyX6_ok nmX6 hown hK hP hD hS hL_this hK_this (by decide) rfl 1 193 (by decide) (hts _ (tw_c tw_626)) rfl (by decide +kernel) rfl rfl (Nat.le_of_ble_eq_true rfl) (ps_193 _ _ _ _ _) dX6_append_40 (fun I_14 H locs eI_14 hP hD hS => ?_)
  refine lv_iinc (v := 8) (lv' := [(2, .int 8), (0, .ref this), (1, .int four)]) hx hb dX6_append_43 hl (k := 0) rfl (by decide) (by decide) rfl (fun ls hl => ?_)
  refine lv_goto (tgt := 3) hx hb dX6_append_46 (by decide) ?_
  refine lv_iload_n hx hb dX6_append_3 rfl (lv_at hl 0 rfl) ?_
  refine lv_if_lt (tgt := 49) hx hb dX6_append_4 (by decide) (fun c_15 => absurd c_15 (by decide)) (fun c_15 => ?_)
  refine lv_aload_n hx hb dX6_append_7 rfl (lv_at hl 1 rfl) ?_
  refine pg_f (v := .int (I_14 193 this)) (C := RX6) (T := TX6) (N := 6) hx hb hts (tw_i inlX6) hown hK hP hL_this hK_this (by decide) rfl 1 (by decide) (hts _ (tw_c tw_626)) rfl dX6_append_8 ?_
  refine lv_tov (nI ((g + 1) + 1)) (by rw [eI_14]; exact pq_us _ _ _ _) ?_
  refine lv_sipush (v := 300) hx hb dX6_append_11 (by decide) ?_
  refine lv_icmp_ge (tgt := 49) hx hb dX6_append_14 (by decide) (fun c_16 => (nI_ge (a := ((g + 1) + 1)) (b := 300) (by omega) (by omega) c_16).elim) (fun c_16 => ?_)
  refine lv_aload_n hx hb dX6_append_17 rfl (lv_at hl 1 rfl) ?_
  refine pg_f (v := .ref this_tape) (C := RX6) (T := TX6) (N := 6) hx hb hts (tw_i inlX6) hown hK hP hL_this hK_this (by decide) rfl 0 (by decide) (hts _ (tw_c tw_165)) (pq_hv rfl hR_this_tape) dX6_append_18 ?_
  refine lv_aload_n hx hb dX6_append_21 rfl (lv_at hl 1 rfl) ?_
  refine pg_f (v := .int (I_14 193 this)) (C := RX6) (T := TX6) (N := 6) hx hb hts (tw_i inlX6) hown hK hP hL_this hK_this (by decide) rfl 1 (by decide) (hts _ (tw_c tw_626)) rfl dX6_append_22 ?_
  refine lv_tov (nI ((g + 1) + 1)) (by rw [eI_14]; exact pq_us _ _ _ _) ?_
  refine lv_iload_n hx hb dX6_append_25 rfl (lv_at hl 2 rfl) ?_
  refine lv_iload_n hx hb dX6_append_26 rfl (lv_at hl 0 rfl) ?_
  refine lv_iushr hx hb dX6_append_27 rfl ?_
  refine lv_topi (fun x_18 ex_18 => ?_)
  refine lv_sipush (v := 255) hx hb dX6_append_28 (by decide) ?_
  refine lv_iand hx hb dX6_append_31 ?_
  refine lv_topi (fun x_19 ex_19 => ?_)
  refine pt_i hx hb hK hP hD hS hL_this_tape hK_this_tape hN_this_tape (nI_in (c := ((g + 1) + 1)) (by omega) (by omega)) dX6_append_32 (fun r_20 H locs er_20 hP hD hS => ?_)
  refine lv_aload_n hx hb dX6_append_33 rfl (lv_at hl 1 rfl) ?_
  refine lv_dup hx hb dX6_append_34 rfl ?_
  refine pg_f (v := .int (I_14 193 this)) (C := RX6) (T := TX6) (N := 6) hx hb hts (tw_i inlX6) hown hK hP hL_this hK_this (by decide) rfl 1 (by decide) (hts _ (tw_c tw_626)) rfl dX6_append_35 ?_
  refine lv_tov (nI ((g + 1) + 1)) (by rw [eI_14]; exact pq_us _ _ _ _) ?_
  refine lv_iconst (v := 1) hx hb dX6_append_38 (by decide) ?_
  refine lv_iadd hx hb dX6_append_39 ?_
  refine lv_tov (nI (((g + 1) + 1) + 1)) (nI_add ((g + 1) + 1) 1) ?_
  refine pp_i (v := (nI (((g + 1) + 1) + 1))) (ty := .int) (C := RX6) (T := TX6) (N := 6) hx hb hts (tw_i inlX6) tyX6 tyX6_ok nmX6 hown hK hP hD hS hL_this hK_this (by decide) rfl 1 193 (by decide) (hts _ (tw_c tw_626)) rfl (by decide +kernel) rfl rfl (Nat.le_of_ble_eq_true rfl) (ps_193 _ _ _ _ _) dX6_append_40 (fun I_21 H locs eI_21 hP hD hS => ?_)
  refine lv_iinc (v := 0) (lv' := [(2, .int 0), (0, .ref this), (1, .int four)]) hx hb dX6_append_43 hl (k := 0) rfl (by decide) (by decide) rfl (fun ls hl => ?_)
  refine lv_goto (tgt := 3) hx hb dX6_append_46 (by decide) ?_
  refine lv_iload_n hx hb dX6_append_3 rfl (lv_at hl 0 rfl) ?_
  refine lv_if_lt (tgt := 49) hx hb dX6_append_4 (by decide) (fun c_22 => absurd c_22 (by decide)) (fun c_22 => ?_)
  refine lv_aload_n hx hb dX6_append_7 rfl (lv_at hl 1 rfl) ?_
  refine pg_f (v := .int (I_21 193 this)) (C := RX6) (T := TX6) (N := 6) hx hb hts (tw_i inlX6) hown hK hP hL_this hK_this (by decide) rfl 1 (by decide) (hts _ (tw_c tw_626)) rfl dX6_append_8 ?_
  refine lv_tov (nI (((g + 1) + 1) + 1)) (by rw [eI_21]; exact pq_us _ _ _ _) ?_
  refine lv_sipush (v := 300) hx hb dX6_append_11 (by decide) ?_
  refine lv_icmp_ge (tgt := 49) hx hb dX6_append_14 (by decide) (fun c_23 => (nI_ge (a := (((g + 1) + 1) + 1)) (b := 300) (by omega) (by omega) c_23).elim) (fun c_23 => ?_)
  refine lv_aload_n hx hb dX6_append_17 rfl (lv_at hl 1 rfl) ?_
  refine pg_f (v := .ref this_tape) (C := RX6) (T := TX6) (N := 6) hx hb hts (tw_i inlX6) hown hK hP hL_this hK_this (by decide) rfl 0 (by decide) (hts _ (tw_c tw_165)) (pq_hv rfl hR_this_tape) dX6_append_18 ?_
  refine lv_aload_n hx hb dX6_append_21 rfl (lv_at hl 1 rfl) ?_
  refine pg_f (v := .int (I_21 193 this)) (C := RX6) (T := TX6) (N := 6) hx hb hts (tw_i inlX6) hown hK hP hL_this hK_this (by decide) rfl 1 (by decide) (hts _ (tw_c tw_626)) rfl dX6_append_22 ?_
  refine lv_tov (nI (((g + 1) + 1) + 1)) (by rw [eI_21]; exact pq_us _ _ _ _) ?_
  refine lv_iload_n hx hb dX6_append_25 rfl (lv_at hl 2 rfl) ?_
  refine lv_iload_n hx hb dX6_append_26 rfl (lv_at hl 0 rfl) ?_
  refine lv_iushr hx hb dX6_append_27 rfl ?_
  refine lv_topi (fun x_25 ex_25 => ?_)
  refine lv_sipush (v := 255) hx hb dX6_append_28 (by decide) ?_
  refine lv_iand hx hb dX6_append_31 ?_
  refine lv_topi (fun x_26 ex_26 => ?_)
  refine pt_i hx hb hK hP hD hS hL_this_tape hK_this_tape hN_this_tape (nI_in (c := (((g + 1) + 1) + 1)) (by omega) (by omega)) dX6_append_32 (fun r_27 H locs er_27 hP hD hS => ?_)
  refine lv_aload_n hx hb dX6_append_33 rfl (lv_at hl 1 rfl) ?_
  refine lv_dup hx hb dX6_append_34 rfl ?_
  refine pg_f (v := .int (I_21 193 this)) (C := RX6) (T := TX6) (N := 6) hx hb hts (tw_i inlX6) hown hK hP hL_this hK_this (by decide) rfl 1 (by decide) (hts _ (tw_c tw_626)) rfl dX6_append_35 ?_
  refine lv_tov (nI (((g + 1) + 1) + 1)) (by rw [eI_21]; exact pq_us _ _ _ _) ?_
  refine lv_iconst (v := 1) hx hb dX6_append_38 (by decide) ?_
  refine lv_iadd hx hb dX6_append_39 ?_
  refine lv_tov (nI ((((g + 1) + 1) + 1) + 1)) (nI_add (((g + 1) + 1) + 1) 1) ?_
  refine pp_i (v := (nI ((((g + 1) + 1) + 1) + 1))) (ty := .int) (C := RX6) (T := TX6) (N := 6) hx hb hts (tw_i inlX6) tyX6 tyX6_ok nmX6 hown hK hP hD hS hL_this hK_this (by decide) rfl 1 193 (by decide) (hts _ (tw_c tw_626)) rfl (by decide +kernel) rfl rfl (Nat.le_of_ble_eq_true rfl) (ps_193 _ _ _ _ _) dX6_append_40 (fun I_28 H locs eI_28 hP hD hS => ?_)
  refine lv_iinc (v := (-8)) (lv' := [(2, .int (-8)), (0, .ref this), (1, .int four)]) hx hb dX6_append_43 hl (k := 0) rfl (by decide) (by decide) rfl (fun ls hl => ?_)
  refine lv_goto (tgt := 3) hx hb dX6_append_46 (by decide) ?_
  refine lv_iload_n hx hb dX6_append_3 rfl (lv_at hl 0 rfl) ?_
  refine lv_if_lt (tgt := 49) hx hb dX6_append_4 (by decide) (fun c_29 => ?_) (fun c_29 => absurd c_29 (by decide))
  exact W.vret hx hb hr (fun t1 ht hW => ⟨⟨(σ, I_28, J, r_27, rj, rq), rfl, ⟨I_28, r_27, rfl, (fun f hg => by rw [eI_28, pq_uf _ _ _ (by intro q; subst q; exact hg (by decide)), eI_21, pq_uf _ _ _ (by intro q; subst q; exact hg (by decide)), eI_14, pq_uf _ _ _ (by intro q; subst q; exact hg (by decide)), eI_7, pq_uf _ _ _ (by intro q; subst q; exact hg (by decide))]), (by rw [eI_28]; exact pq_us _ _ _ _)⟩, by rw [ht]; exact hP, va_K.moved hW.alike hK, hD⟩, hS.F ht⟩) hS.2.2 dX6_append_49

set_option maxHeartbeats 4000000 in
set_option maxRecDepth 100000 in
theorem c_X11_feed (l : Launch) (D : va_G) (t : pq_T) (σ : pq_S) (I : Nat → Nat → Int32) (J : Nat → Nat → Int64) (ri : Nat → Nat → Int32) (rj : Nat → Nat → Int64) (rq : Nat → Nat → Option Nat) (sz : Nat) (this : Nat) (a : Int32) (b : Int32) (c_ : Int32) (d : Int32) (e_ : Int32) (hL_this : this ∈ σ.1) (hK_this : σ.2.1 this = 11) (this_reader : Nat) (hR_this_reader : σ.2.2.1 356 this = some this_reader) (hL_this_reader : this_reader ∈ σ.1) (hK_this_reader : σ.2.1 this_reader = 4) (this_reader_scanner : Nat) (hR_this_reader_scanner : σ.2.2.1 128 this_reader = some this_reader_scanner) (hL_this_reader_scanner : this_reader_scanner ∈ σ.1) (hK_this_reader_scanner : σ.2.1 this_reader_scanner = 6) (this_reader_scanner_tape : Nat) (hR_this_reader_scanner_tape : σ.2.2.1 192 this_reader_scanner = some this_reader_scanner_tape) (hL_this_reader_scanner_tape : this_reader_scanner_tape ∈ σ.1) (hK_this_reader_scanner_tape : σ.2.1 this_reader_scanner_tape = 13) (hN_this_reader_scanner_tape : σ.2.2.2 this_reader_scanner_tape = 300) (hZ : pq_Z I) : MetI l yX11_feed (wa yX11_feed cX11_feed 7 (some .int)) ({ frames := 1, cells := 0, slots := 0, locals := 22 }) [.ref this, .int a, .int b, .int c_, .int d, .int e_] D t σ (I, J, ri, rj, rq) sz 0 0 (fun (r : Int32) (u : pq_S × pq_M) => ∃ I' : Nat → Nat → Int32, ∃ ri' : Nat → Nat → Int32, u = (σ, I', J, ri', rj, rq) ∧ (∀ f, f ∉ ([193] : List Nat) → I' f = I f) ∧ (r = 20)) := by
  refine Met.ofW (cc := cX11_feed) (maxL := 7) (ret := (some .int)) (by decide) rfl ?_
  intro p e s m args below meth c s₁ B hml hv
  obtain ⟨rfl, hsz, hP, hK, hD0, hN⟩ := hv
  have hx := B.exec
  have hb := B.bytes
  have hr := B.returns
  have hts := atoms_spec (ws := (wa yX11_feed cX11_feed 7 (some .int))) B.pre
  have hown : s.vm.findClass RX11 = some m.cls := findClass_of_methodNamed B.named
  have hlocks := B.notSynchronized
  subst hsz
  have hD : va_D (pq_B t σ (I, J, ri, rj, rq) s.heap.size) (pq_P t σ (I, J, ri, rj, rq)) := hD0.self
  generalize hAe : pq_B t σ (I, J, ri, rj, rq) s.heap.size = A at hD ⊢
  have hA : ∀ q : Nat, s.heap.size ≤ q → A q := fun q h => by rw [← hAe]; exact Or.inr h
  have hS : va_S A s.heap s.heap [] := va_S.rf
  have hl := lv_entry ([.ref this, .int a, .int b, .int c_, .int d, .int e_]) (n := 7) (Nat.le_of_ble_eq_true rfl)
  rw [lg_entry_eq]
  generalize (lg_sl ([.ref this, .int a, .int b, .int c_, .int d, .int e_]) ++ List.replicate (7 - (lg_sl ([.ref this, .int a, .int b, .int c_, .int d, .int e_])).length) Slot.unset).toArray = ls at hl ⊢
  have hl : lv_has ls 7 [(0, .ref this), (1, .int a), (2, .int b), (3, .int c_), (4, .int d), (5, .int e_)] := hl
  refine lv_aload_n hx hb dX11_feed_0 rfl (lv_at hl 0 rfl) ?_
  refine pg_f (v := .ref this_reader) (C := RX11) (T := TX11) (N := 5) hx hb hts (tw_i inlX11) hown hK hP hL_this hK_this (by decide) rfl 4 (by decide) (hts _ (tw_c tw_26)) (pq_hv rfl hR_this_reader) dX11_feed_1 ?_
  refine pg_f (v := .ref this_reader_scanner) (C := RX4) (T := TX4) (N := 12) hx hb hts (tw_i inlX4) hown hK hP hL_this_reader hK_this_reader (by decide) rfl 0 (by decide) (hts _ (tw_c tw_620)) (pq_hv rfl hR_this_reader_scanner) dX11_feed_4 ?_
  refine lv_astore (lv' := [(6, .ref this_reader_scanner), (0, .ref this), (1, .int a), (2, .int b), (3, .int c_), (4, .int d), (5, .int e_)]) hx hb dX11_feed_7 hl (by decide) rfl (fun ls hl => ?_)
  refine lv_aload hx hb dX11_feed_9 (lv_at hl 0 rfl) ?_
  refine pg_f (v := .int (I 193 this_reader_scanner)) (C := RX6) (T := TX6) (N := 6) hx hb hts (tw_i inlX6) hown hK hP hL_this_reader_scanner hK_this_reader_scanner (by decide) rfl 1 (by decide) (hts _ (tw_c tw_621)) rfl dX11_feed_11 ?_
  refine lv_tov 0 (congrFun (hZ 193 (by decide)) this_reader_scanner) ?_
  refine lv_sipush (v := 280) hx hb dX11_feed_14 (by decide) ?_
  refine lv_icmp_le (tgt := 22) hx hb dX11_feed_17 (by decide) (fun c_1 => ?_) (fun c_1 => absurd c_1 (by decide))
  refine lv_aload hx hb dX11_feed_22 (lv_at hl 0 rfl) ?_
  refine lv_iload_n hx hb dX11_feed_24 rfl (lv_at hl 2 rfl) ?_
  refine pk_v (va_runV (As := [.int a]) (rest := []) ⟨hx, hb, hml, hown, hts⟩ (c_X6_append l D t σ I J ri rj rq (Array.size s.heap) this_reader_scanner a hL_this_reader_scanner hK_this_reader_scanner this_reader_scanner_tape hR_this_reader_scanner_tape hL_this_reader_scanner_tape hK_this_reader_scanner_tape hN_this_reader_scanner_tape 0 (by decide) ((congrFun (hZ 193 (by decide)) this_reader_scanner).trans nI_0.symm)) (cwV 1 hts (tw_V tw_622 tw_623 tw_624 tw_153 tw_625) rfl rfl rfl (by decide +kernel) ⟨Nat.le_of_ble_eq_true rfl, Nat.le_of_ble_eq_true rfl⟩) ⟨pq_blind, pq_recv hK hP hL_this_reader_scanner hK_this_reader_scanner (by decide) rfl, pq_pre hK hN hP hD⟩ rfl rfl hl.1 rfl (lv_room (Nat.le_of_ble_eq_true rfl)) dX11_feed_25 ⟨Nat.le_of_ble_eq_true rfl, Nat.le_of_ble_eq_true rfl⟩) hD hS hA (fun σ1 μ1 H locs hw_3 hP hD hS => ?_)
  obtain ⟨I_4, ri_5, hu_6, hu_6f, hu_6p0⟩ := hw_3
  obtain ⟨hu_6a, hu_6b⟩ := Prod.mk.inj hu_6
  rw [hu_6a, hu_6b] at hP hD
  refine lv_aload hx hb dX11_feed_28 (lv_at hl 0 rfl) ?_
  refine lv_iload_n hx hb dX11_feed_30 rfl (lv_at hl 3 rfl) ?_
  refine pk_v (va_runV (As := [.int b]) (rest := []) ⟨hx, hb, hml, hown, hts⟩ (c_X6_append l D t σ I_4 J ri_5 rj rq H.size this_reader_scanner b hL_this_reader_scanner hK_this_reader_scanner this_reader_scanner_tape hR_this_reader_scanner_tape hL_this_reader_scanner_tape hK_this_reader_scanner_tape hN_this_reader_scanner_tape (0 + 4) (by decide) hu_6p0) (cwV 1 hts (tw_V tw_622 tw_623 tw_624 tw_153 tw_625) rfl rfl rfl (by decide +kernel) ⟨Nat.le_of_ble_eq_true rfl, Nat.le_of_ble_eq_true rfl⟩) ⟨pq_blind, pq_recv hK hP hL_this_reader_scanner hK_this_reader_scanner (by decide) rfl, pq_pre hK hN hP hD⟩ rfl rfl hl.1 rfl (lv_room (Nat.le_of_ble_eq_true rfl)) dX11_feed_31 ⟨Nat.le_of_ble_eq_true rfl, Nat.le_of_ble_eq_true rfl⟩) hD hS hA (fun σ1 μ1 H locs hw_9 hP hD hS => ?_)
  obtain ⟨I_10, ri_11, hu_12, hu_12f, hu_12p0⟩ := hw_9
  obtain ⟨hu_12a, hu_12b⟩ := Prod.mk.inj hu_12
  rw [hu_12a, hu_12b] at hP hD
  refine lv_aload hx hb dX11_feed_34 (lv_at hl 0 rfl) ?_
  refine lv_iload_n hx hb dX11_feed_36 rfl (lv_at hl 4 rfl) ?_
  refine pk_v (va_runV (As := [.int c_]) (rest := []) ⟨hx, hb, hml, hown, hts⟩ (c_X6_append l D t σ I_10 J ri_11 rj rq H.size this_reader_scanner c_ hL_this_reader_scanner hK_this_reader_scanner this_reader_scanner_tape hR_this_reader_scanner_tape hL_this_reader_scanner_tape hK_this_reader_scanner_tape hN_this_reader_scanner_tape ((0 + 4) + 4) (by decide) hu_12p0) (cwV 1 hts (tw_V tw_622 tw_623 tw_624 tw_153 tw_625) rfl rfl rfl (by decide +kernel) ⟨Nat.le_of_ble_eq_true rfl, Nat.le_of_ble_eq_true rfl⟩) ⟨pq_blind, pq_recv hK hP hL_this_reader_scanner hK_this_reader_scanner (by decide) rfl, pq_pre hK hN hP hD⟩ rfl rfl hl.1 rfl (lv_room (Nat.le_of_ble_eq_true rfl)) dX11_feed_37 ⟨Nat.le_of_ble_eq_true rfl, Nat.le_of_ble_eq_true rfl⟩) hD hS hA (fun σ1 μ1 H locs hw_15 hP hD hS => ?_)
  obtain ⟨I_16, ri_17, hu_18, hu_18f, hu_18p0⟩ := hw_15
  obtain ⟨hu_18a, hu_18b⟩ := Prod.mk.inj hu_18
  rw [hu_18a, hu_18b] at hP hD
  refine lv_aload hx hb dX11_feed_40 (lv_at hl 0 rfl) ?_
  refine lv_iload hx hb dX11_feed_42 (lv_at hl 5 rfl) ?_
  refine pk_v (va_runV (As := [.int d]) (rest := []) ⟨hx, hb, hml, hown, hts⟩ (c_X6_append l D t σ I_16 J ri_17 rj rq H.size this_reader_scanner d hL_this_reader_scanner hK_this_reader_scanner this_reader_scanner_tape hR_this_reader_scanner_tape hL_this_reader_scanner_tape hK_this_reader_scanner_tape hN_this_reader_scanner_tape (((0 + 4) + 4) + 4) (by decide) hu_18p0) (cwV 1 hts (tw_V tw_622 tw_623 tw_624 tw_153 tw_625) rfl rfl rfl (by decide +kernel) ⟨Nat.le_of_ble_eq_true rfl, Nat.le_of_ble_eq_true rfl⟩) ⟨pq_blind, pq_recv hK hP hL_this_reader_scanner hK_this_reader_scanner (by decide) rfl, pq_pre hK hN hP hD⟩ rfl rfl hl.1 rfl (lv_room (Nat.le_of_ble_eq_true rfl)) dX11_feed_44 ⟨Nat.le_of_ble_eq_true rfl, Nat.le_of_ble_eq_true rfl⟩) hD hS hA (fun σ1 μ1 H locs hw_21 hP hD hS => ?_)
  obtain ⟨I_22, ri_23, hu_24, hu_24f, hu_24p0⟩ := hw_21
  obtain ⟨hu_24a, hu_24b⟩ := Prod.mk.inj hu_24
  rw [hu_24a, hu_24b] at hP hD
  refine lv_aload hx hb dX11_feed_47 (lv_at hl 0 rfl) ?_
  refine lv_iload hx hb dX11_feed_49 (lv_at hl 6 rfl) ?_
  refine pk_v (va_runV (As := [.int e_]) (rest := []) ⟨hx, hb, hml, hown, hts⟩ (c_X6_append l D t σ I_22 J ri_23 rj rq H.size this_reader_scanner e_ hL_this_reader_scanner hK_this_reader_scanner this_reader_scanner_tape hR_this_reader_scanner_tape hL_this_reader_scanner_tape hK_this_reader_scanner_tape hN_this_reader_scanner_tape ((((0 + 4) + 4) + 4) + 4) (by decide) hu_24p0) (cwV 1 hts (tw_V tw_622 tw_623 tw_624 tw_153 tw_625) rfl rfl rfl (by decide +kernel) ⟨Nat.le_of_ble_eq_true rfl, Nat.le_of_ble_eq_true rfl⟩) ⟨pq_blind, pq_recv hK hP hL_this_reader_scanner hK_this_reader_scanner (by decide) rfl, pq_pre hK hN hP hD⟩ rfl rfl hl.1 rfl (lv_room (Nat.le_of_ble_eq_true rfl)) dX11_feed_51 ⟨Nat.le_of_ble_eq_true rfl, Nat.le_of_ble_eq_true rfl⟩) hD hS hA (fun σ1 μ1 H locs hw_27 hP hD hS => ?_)
  obtain ⟨I_28, ri_29, hu_30, hu_30f, hu_30p0⟩ := hw_27
  obtain ⟨hu_30a, hu_30b⟩ := Prod.mk.inj hu_30
  rw [hu_30a, hu_30b] at hP hD
  refine lv_aload hx hb dX11_feed_54 (lv_at hl 0 rfl) ?_
  refine pg_f (v := .int (I_28 193 this_reader_scanner)) (C := RX6) (T := TX6) (N := 6) hx hb hts (tw_i inlX6) hown hK hP hL_this_reader_scanner hK_this_reader_scanner (by decide) rfl 1 (by decide) (hts _ (tw_c tw_621)) rfl dX11_feed_56 ?_
  refine lv_tov (nI (((((0 + 4) + 4) + 4) + 4) + 4)) hu_30p0 ?_
  exact W.iret (v := (nI (((((0 + 4) + 4) + 4) + 4) + 4))) hx hb hr (fun t1 ht hW => ⟨⟨(nI (((((0 + 4) + 4) + 4) + 4) + 4)), (σ, I_28, J, ri_29, rj, rq), rfl, ⟨I_28, ri_29, rfl, (fun f hg => by rw [hu_30f f (fun q => hg (by revert q; simp only [List.mem_cons, List.not_mem_nil, or_false]; omega)), hu_24f f (fun q => hg (by revert q; simp only [List.mem_cons, List.not_mem_nil, or_false]; omega)), hu_18f f (fun q => hg (by revert q; simp only [List.mem_cons, List.not_mem_nil, or_false]; omega)), hu_12f f (fun q => hg (by revert q; simp only [List.mem_cons, List.not_mem_nil, or_false]; omega)), hu_6f f (fun q => hg (by revert q; simp only [List.mem_cons, List.not_mem_nil, or_false]; omega))]), (show (nI (((((0 + 4) + 4) + 4) + 4) + 4)) = 20 from rfl)⟩, by rw [ht]; exact hP, va_K.moved hW.alike hK, hD⟩, hS.F ht⟩) hS.2.2 dX11_feed_59

def sp_end (n : Int32) : Int32 := if n = 0 then 0 else (-1)

theorem bt_e1 {n : Int32} (h0 : 0 ≤ n) (h1 : n ≤ 0) : n = sp_end n := by
  have h : n = 0 := Int32.le_antisymm h1 h0
  rw [h]; rfl
theorem bt_e0 {n : Int32} (h : ¬ (0 ≤ n ∧ n ≤ 0)) : (-1 : Int32) = sp_end n := by
  unfold sp_end
  rw [if_neg]
  intro q
  rw [q] at h
  exact h (by decide)

set_option maxHeartbeats 4000000 in
set_option maxRecDepth 100000 in
theorem c_X11_end (l : Launch) (D : va_G) (t : pq_T) (σ : pq_S) (I : Nat → Nat → Int32) (J : Nat → Nat → Int64) (ri : Nat → Nat → Int32) (rj : Nat → Nat → Int64) (rq : Nat → Nat → Option Nat) (sz : Nat) (this : Nat) (n : Int32) (hL_this : this ∈ σ.1) (hK_this : σ.2.1 this = 11) (this_reader : Nat) (hR_this_reader : σ.2.2.1 356 this = some this_reader) (hL_this_reader : this_reader ∈ σ.1) (hK_this_reader : σ.2.1 this_reader = 4) (this_reader_scanner : Nat) (hR_this_reader_scanner : σ.2.2.1 128 this_reader = some this_reader_scanner) (hL_this_reader_scanner : this_reader_scanner ∈ σ.1) (hK_this_reader_scanner : σ.2.1 this_reader_scanner = 6) (hZ : pq_Z I) : MetI l yX11_end (wa yX11_end cX11_end 2 (some .int)) ({ frames := 1, cells := 0, slots := 0, locals := 22 }) [.ref this, .int n] D t σ (I, J, ri, rj, rq) sz 0 0 (fun (r : Int32) (u : pq_S × pq_M) => ∃ I' : Nat → Nat → Int32, u = (σ, I', J, ri, rj, rq) ∧ (∀ f, f ∉ ([193] : List Nat) → I' f = I f) ∧ (r = sp_end n)) := by
  refine Met.ofW (cc := cX11_end) (maxL := 2) (ret := (some .int)) (by decide) rfl ?_
  intro p e s m args below meth c s₁ B hml hv
  obtain ⟨rfl, hsz, hP, hK, hD0, hN⟩ := hv
  have hx := B.exec
  have hb := B.bytes
  have hr := B.returns
  have hts := atoms_spec (ws := (wa yX11_end cX11_end 2 (some .int))) B.pre
  have hown : s.vm.findClass RX11 = some m.cls := findClass_of_methodNamed B.named
  have hlocks := B.notSynchronized
  subst hsz
  have hD : va_D (pq_B t σ (I, J, ri, rj, rq) s.heap.size) (pq_P t σ (I, J, ri, rj, rq)) := hD0.self
  generalize hAe : pq_B t σ (I, J, ri, rj, rq) s.heap.size = A at hD ⊢
  have hA : ∀ q : Nat, s.heap.size ≤ q → A q := fun q h => by rw [← hAe]; exact Or.inr h
  have hS : va_S A s.heap s.heap [] := va_S.rf
  have hl := lv_entry ([.ref this, .int n]) (n := 2) (Nat.le_of_ble_eq_true rfl)
  rw [lg_entry_eq]
  generalize (lg_sl ([.ref this, .int n]) ++ List.replicate (2 - (lg_sl ([.ref this, .int n])).length) Slot.unset).toArray = ls at hl ⊢
  have hl : lv_has ls 2 [(0, .ref this), (1, .int n)] := hl
  refine lv_iload_n hx hb dX11_end_0 rfl (lv_at hl 1 rfl) ?_
  refine lv_iconst (v := 0) hx hb dX11_end_1 (by decide) ?_
  refine lv_aload_n hx hb dX11_end_2 rfl (lv_at hl 0 rfl) ?_
  refine pg_f (v := .ref this_reader) (C := RX11) (T := TX11) (N := 5) hx hb hts (tw_i inlX11) hown hK hP hL_this hK_this (by decide) rfl 4 (by decide) (hts _ (tw_c tw_26)) (pq_hv rfl hR_this_reader) dX11_end_3 ?_
  refine pg_f (v := .ref this_reader_scanner) (C := RX4) (T := TX4) (N := 12) hx hb hts (tw_i inlX4) hown hK hP hL_this_reader hK_this_reader (by decide) rfl 0 (by decide) (hts _ (tw_c tw_620)) (pq_hv rfl hR_this_reader_scanner) dX11_end_6 ?_
  refine pg_f (v := .int (I 193 this_reader_scanner)) (C := RX6) (T := TX6) (N := 6) hx hb hts (tw_i inlX6) hown hK hP hL_this_reader_scanner hK_this_reader_scanner (by decide) rfl 1 (by decide) (hts _ (tw_c tw_621)) rfl dX11_end_9 ?_
  refine lv_tov 0 (congrFun (hZ 193 (by decide)) this_reader_scanner) ?_
  refine pk_i (va_runS (As := [.int n, .int 0, .int 0]) (rest := []) ⟨hx, hb, hml, hown, hts⟩ (c_X11_between l D t σ I J ri rj rq (Array.size s.heap) n (0 : Int32) (0 : Int32)) (va_cwS 3 hts (tw_S tw_215 tw_216 tw_2 tw_217) rfl rfl rfl (by decide +kernel) ⟨Nat.le_of_ble_eq_true rfl, Nat.le_of_ble_eq_true rfl⟩) ⟨pq_blind, pq_pre hK hN hP hD⟩ rfl rfl hl.1 rfl (lv_room (Nat.le_of_ble_eq_true rfl)) dX11_end_12 ⟨Nat.le_of_ble_eq_true rfl, Nat.le_of_ble_eq_true rfl⟩) hD hS hA (fun r_1 σ1 μ1 H locs hw_2 hP hD hS => ?_)
  obtain ⟨hu_3, hr_4⟩ := hw_2
  obtain ⟨hu_3a, hu_3b⟩ := Prod.mk.inj hu_3
  rw [hu_3a, hu_3b] at hP hD
  rcases hr_4 with ⟨rfl, hr_4_0, hr_4_1⟩ | ⟨rfl, hr_4_0⟩
  · refine lv_if_ne (tgt := 20) hx hb dX11_end_15 (by decide) (fun c_5 => ?_) (fun c_5 => absurd c_5 (by decide))
    refine lv_aload_n hx hb dX11_end_20 rfl (lv_at hl 0 rfl) ?_
    refine pg_f (v := .ref this_reader) (C := RX11) (T := TX11) (N := 5) hx hb hts (tw_i inlX11) hown hK hP hL_this hK_this (by decide) rfl 4 (by decide) (hts _ (tw_c tw_26)) (pq_hv rfl hR_this_reader) dX11_end_21 ?_
    refine pg_f (v := .ref this_reader_scanner) (C := RX4) (T := TX4) (N := 12) hx hb hts (tw_i inlX4) hown hK hP hL_this_reader hK_this_reader (by decide) rfl 0 (by decide) (hts _ (tw_c tw_620)) (pq_hv rfl hR_this_reader_scanner) dX11_end_24 ?_
    refine lv_iload_n hx hb dX11_end_27 rfl (lv_at hl 1 rfl) ?_
    refine pp_i (v := n) (ty := .int) (C := RX6) (T := TX6) (N := 6) hx hb hts (tw_i inlX6) tyX6 tyX6_ok nmX6 hown hK hP hD hS hL_this_reader_scanner hK_this_reader_scanner (by decide) rfl 1 193 (by decide) (hts _ (tw_c tw_621)) rfl (by decide +kernel) rfl rfl (Nat.le_of_ble_eq_true rfl) (ps_193 _ _ _ _ _) dX11_end_28 (fun I_6 H locs eI_6 hP hD hS => ?_)
    refine lv_iload_n hx hb dX11_end_31 rfl (lv_at hl 1 rfl) ?_
    exact W.iret (v := n) hx hb hr (fun t1 ht hW => ⟨⟨n, (σ, I_6, J, ri, rj, rq), rfl, ⟨I_6, rfl, (fun f hg => by rw [eI_6, pq_uf _ _ _ (by intro q; subst q; exact hg (by decide))]), (bt_e1 hr_4_0 hr_4_1)⟩, by rw [ht]; exact hP, va_K.moved hW.alike hK, hD⟩, hS.F ht⟩) hS.2.2 dX11_end_32
  · refine lv_if_ne (tgt := 20) hx hb dX11_end_15 (by decide) (fun c_7 => absurd c_7 (by decide)) (fun c_7 => ?_)
    refine lv_iconst (v := (-1)) hx hb dX11_end_18 (by decide) ?_
    exact W.iret (v := (-1)) hx hb hr (fun t1 ht hW => ⟨⟨(-1), (σ, I, J, ri, rj, rq), rfl, ⟨I, rfl, (fun f hg => rfl), (bt_e0 hr_4_0)⟩, by rw [ht]; exact hP, va_K.moved hW.alike hK, hD⟩, hS.F ht⟩) hS.2.2 dX11_end_19

def sp_says (mo wh : Int32) : Int32 := if ¬ (0 ≤ mo ∧ mo ≤ 599) then (-1) else if wh = 0 then 50 else if wh = 1 then 10 else (-1)

set_option maxHeartbeats 4000000 in
set_option maxRecDepth 100000 in
theorem c_X11_says (l : Launch) (D : va_G) (t : pq_T) (σ : pq_S) (I : Nat → Nat → Int32) (J : Nat → Nat → Int64) (ri : Nat → Nat → Int32) (rj : Nat → Nat → Int64) (rq : Nat → Nat → Option Nat) (sz : Nat) (this : Nat) (mo : Int32) (wh : Int32) (hL_this : this ∈ σ.1) (hK_this : σ.2.1 this = 11) (this_now : Nat) (hR_this_now : σ.2.2.1 352 this = some this_now) (hL_this_now : this_now ∈ σ.1) (hK_this_now : σ.2.1 this_now = 10) (this_now_law : Nat) (hR_this_now_law : σ.2.2.1 329 this_now = some this_now_law) (hL_this_now_law : this_now_law ∈ σ.1) (hK_this_now_law : σ.2.1 this_now_law = 3) (hZ : pq_Z I) : MetI l yX11_says (wa yX11_says cX11_says 3 (some .int)) ({ frames := 3, cells := 0, slots := 0, locals := 69 }) [.ref this, .int mo, .int wh] D t σ (I, J, ri, rj, rq) sz 0 0 (fun (r : Int32) (u : pq_S × pq_M) => u = (σ, I, J, ri, rj, rq) ∧ (r = sp_says mo wh)) := by
  refine Met.ofW (cc := cX11_says) (maxL := 3) (ret := (some .int)) (by decide) rfl ?_
  intro p e s m args below meth c s₁ B hml hv
  obtain ⟨rfl, hsz, hP, hK, hD0, hN⟩ := hv
  have hx := B.exec
  have hb := B.bytes
  have hr := B.returns
  have hts := atoms_spec (ws := (wa yX11_says cX11_says 3 (some .int))) B.pre
  have hown : s.vm.findClass RX11 = some m.cls := findClass_of_methodNamed B.named
  have hlocks := B.notSynchronized
  subst hsz
  have hD : va_D (pq_B t σ (I, J, ri, rj, rq) s.heap.size) (pq_P t σ (I, J, ri, rj, rq)) := hD0.self
  generalize hAe : pq_B t σ (I, J, ri, rj, rq) s.heap.size = A at hD ⊢
  have hA : ∀ q : Nat, s.heap.size ≤ q → A q := fun q h => by rw [← hAe]; exact Or.inr h
  have hS : va_S A s.heap s.heap [] := va_S.rf
  have hl := lv_entry ([.ref this, .int mo, .int wh]) (n := 3) (Nat.le_of_ble_eq_true rfl)
  rw [lg_entry_eq]
  generalize (lg_sl ([.ref this, .int mo, .int wh]) ++ List.replicate (3 - (lg_sl ([.ref this, .int mo, .int wh])).length) Slot.unset).toArray = ls at hl ⊢
  have hl : lv_has ls 3 [(0, .ref this), (1, .int mo), (2, .int wh)] := hl
  refine lv_iload_n hx hb dX11_says_0 rfl (lv_at hl 1 rfl) ?_
  refine pk_i (va_runS (As := [.int mo]) (rest := []) ⟨hx, hb, hml, hown, hts⟩ (c_X11_isMonth l D t σ I J ri rj rq (Array.size s.heap) mo) (va_cwS 1 hts (tw_S tw_247 tw_248 tw_2 tw_249) rfl rfl rfl (by decide +kernel) ⟨Nat.le_of_ble_eq_true rfl, Nat.le_of_ble_eq_true rfl⟩) ⟨pq_blind, pq_pre hK hN hP hD⟩ rfl rfl hl.1 rfl (lv_room (Nat.le_of_ble_eq_true rfl)) dX11_says_1 ⟨Nat.le_of_ble_eq_true rfl, Nat.le_of_ble_eq_true rfl⟩) hD hS hA (fun r_1 σ1 μ1 H locs hw_2 hP hD hS => ?_)
  obtain ⟨hu_3, hr_4⟩ := hw_2
  obtain ⟨hu_3a, hu_3b⟩ := Prod.mk.inj hu_3
  rw [hu_3a, hu_3b] at hP hD
  rcases hr_4 with ⟨rfl, hr_4_0, hr_4_1⟩ | ⟨rfl, hr_4_0⟩
  · refine lv_if_ne (tgt := 9) hx hb dX11_says_4 (by decide) (fun c_5 => ?_) (fun c_5 => absurd c_5 (by decide))
    refine lv_iload_n hx hb dX11_says_9 rfl (lv_at hl 2 rfl) ?_
    by_cases k_6 : wh = (0 : Int32)
    · refine lv_tov (0) k_6 ?_
      refine lv_tableIn (tgt := 36) hx hb dX11_says_10 (by decide) (by decide) rfl (by decide) ?_
      refine lv_aload_n hx hb dX11_says_36 rfl (lv_at hl 0 rfl) ?_
      refine pg_f (v := .ref this_now) (C := RX11) (T := TX11) (N := 5) hx hb hts (tw_i inlX11) hown hK hP hL_this hK_this (by decide) rfl 0 (by decide) (hts _ (tw_c tw_16)) (pq_hv rfl hR_this_now) dX11_says_37 ?_
      refine pg_f (v := .ref this_now_law) (C := RX10) (T := TX10) (N := 13) hx hb hts (tw_i inlX10) hown hK hP hL_this_now hK_this_now (by decide) rfl 9 (by decide) (hts _ (tw_c tw_648)) (pq_hv rfl hR_this_now_law) dX11_says_40 ?_
      refine lv_iload_n hx hb dX11_says_43 rfl (lv_at hl 1 rfl) ?_
      refine pk_i (va_runV (As := [.int mo]) (rest := []) ⟨hx, hb, hml, hown, hts⟩ (c_X3_councilIn l D t σ I J ri rj rq H.size this_now_law mo hL_this_now_law hK_this_now_law hZ) (cwV 1 hts (tw_V tw_991 tw_992 tw_993 tw_49 tw_994) rfl rfl rfl (by decide +kernel) ⟨Nat.le_of_ble_eq_true rfl, Nat.le_of_ble_eq_true rfl⟩) ⟨pq_blind, pq_recv hK hP hL_this_now_law hK_this_now_law (by decide) rfl, pq_pre hK hN hP hD⟩ rfl rfl hl.1 rfl (lv_room (Nat.le_of_ble_eq_true rfl)) dX11_says_44 ⟨Nat.le_of_ble_eq_true rfl, Nat.le_of_ble_eq_true rfl⟩) hD hS hA (fun r_7 σ1 μ1 H locs hw_8 hP hD hS => ?_)
      obtain ⟨hu_9, hr_10⟩ := hw_8
      obtain ⟨hu_9a, hu_9b⟩ := Prod.mk.inj hu_9
      rw [hu_9a, hu_9b] at hP hD
      subst hr_10
      exact W.iret (v := 50) hx hb hr (fun t1 ht hW => ⟨⟨50, (σ, I, J, ri, rj, rq), rfl, ⟨rfl, (by unfold sp_says; rw [if_neg (show ¬ ¬ (0 ≤ mo ∧ mo ≤ 599) from fun q => q ⟨hr_4_0, hr_4_1⟩), if_pos k_6])⟩, by rw [ht]; exact hP, va_K.moved hW.alike hK, hD⟩, hS.F ht⟩) hS.2.2 dX11_says_47
    by_cases k_11 : wh = (1 : Int32)
    · refine lv_tov (1) k_11 ?_
      refine lv_tableIn (tgt := 48) hx hb dX11_says_10 (by decide) (by decide) rfl (by decide) ?_
      refine lv_aload_n hx hb dX11_says_48 rfl (lv_at hl 0 rfl) ?_
      refine pg_f (v := .ref this_now) (C := RX11) (T := TX11) (N := 5) hx hb hts (tw_i inlX11) hown hK hP hL_this hK_this (by decide) rfl 0 (by decide) (hts _ (tw_c tw_16)) (pq_hv rfl hR_this_now) dX11_says_49 ?_
      refine pg_f (v := .ref this_now_law) (C := RX10) (T := TX10) (N := 13) hx hb hts (tw_i inlX10) hown hK hP hL_this_now hK_this_now (by decide) rfl 9 (by decide) (hts _ (tw_c tw_648)) (pq_hv rfl hR_this_now_law) dX11_says_52 ?_
      refine lv_iload_n hx hb dX11_says_55 rfl (lv_at hl 1 rfl) ?_
      refine pk_i (va_runV (As := [.int mo]) (rest := []) ⟨hx, hb, hml, hown, hts⟩ (c_X3_leaveIn l D t σ I J ri rj rq H.size this_now_law mo hL_this_now_law hK_this_now_law hZ) (cwV 1 hts (tw_V tw_1004 tw_1005 tw_1006 tw_49 tw_1007) rfl rfl rfl (by decide +kernel) ⟨Nat.le_of_ble_eq_true rfl, Nat.le_of_ble_eq_true rfl⟩) ⟨pq_blind, pq_recv hK hP hL_this_now_law hK_this_now_law (by decide) rfl, pq_pre hK hN hP hD⟩ rfl rfl hl.1 rfl (lv_room (Nat.le_of_ble_eq_true rfl)) dX11_says_56 ⟨Nat.le_of_ble_eq_true rfl, Nat.le_of_ble_eq_true rfl⟩) hD hS hA (fun r_12 σ1 μ1 H locs hw_13 hP hD hS => ?_)
      obtain ⟨hu_14, hr_15⟩ := hw_13
      obtain ⟨hu_14a, hu_14b⟩ := Prod.mk.inj hu_14
      rw [hu_14a, hu_14b] at hP hD
      subst hr_15
      exact W.iret (v := 10) hx hb hr (fun t1 ht hW => ⟨⟨10, (σ, I, J, ri, rj, rq), rfl, ⟨rfl, (by unfold sp_says; rw [if_neg (show ¬ ¬ (0 ≤ mo ∧ mo ≤ 599) from fun q => q ⟨hr_4_0, hr_4_1⟩), if_neg k_6, if_pos k_11])⟩, by rw [ht]; exact hP, va_K.moved hW.alike hK, hD⟩, hS.F ht⟩) hS.2.2 dX11_says_59
    by_cases k_16 : wh = (2 : Int32)
    · refine lv_tov (2) k_16 ?_
      refine lv_tableIn (tgt := 60) hx hb dX11_says_10 (by decide) (by decide) rfl (by decide) ?_
      refine lv_aload_n hx hb dX11_says_60 rfl (lv_at hl 0 rfl) ?_
      refine pg_f (v := .ref this_now) (C := RX11) (T := TX11) (N := 5) hx hb hts (tw_i inlX11) hown hK hP hL_this hK_this (by decide) rfl 0 (by decide) (hts _ (tw_c tw_16)) (pq_hv rfl hR_this_now) dX11_says_61 ?_
      refine pg_f (v := .ref this_now_law) (C := RX10) (T := TX10) (N := 13) hx hb hts (tw_i inlX10) hown hK hP hL_this_now hK_this_now (by decide) rfl 9 (by decide) (hts _ (tw_c tw_648)) (pq_hv rfl hR_this_now_law) dX11_says_64 ?_
      refine lv_iload_n hx hb dX11_says_67 rfl (lv_at hl 1 rfl) ?_
      refine pk_i (va_runV (As := [.int mo]) (rest := []) ⟨hx, hb, hml, hown, hts⟩ (c_X3_fixIn l D t σ I J ri rj rq H.size this_now_law mo hL_this_now_law hK_this_now_law hZ) (cwV 1 hts (tw_V tw_1008 tw_1009 tw_1010 tw_49 tw_1011) rfl rfl rfl (by decide +kernel) ⟨Nat.le_of_ble_eq_true rfl, Nat.le_of_ble_eq_true rfl⟩) ⟨pq_blind, pq_recv hK hP hL_this_now_law hK_this_now_law (by decide) rfl, pq_pre hK hN hP hD⟩ rfl rfl hl.1 rfl (lv_room (Nat.le_of_ble_eq_true rfl)) dX11_says_68 ⟨Nat.le_of_ble_eq_true rfl, Nat.le_of_ble_eq_true rfl⟩) hD hS hA (fun r_17 σ1 μ1 H locs hw_18 hP hD hS => ?_)
      obtain ⟨hu_19, hr_20⟩ := hw_18
      obtain ⟨hu_19a, hu_19b⟩ := Prod.mk.inj hu_19
      rw [hu_19a, hu_19b] at hP hD
      subst hr_20
      exact W.iret (v := (-1)) hx hb hr (fun t1 ht hW => ⟨⟨(-1), (σ, I, J, ri, rj, rq), rfl, ⟨rfl, (by unfold sp_says; rw [if_neg (show ¬ ¬ (0 ≤ mo ∧ mo ≤ 599) from fun q => q ⟨hr_4_0, hr_4_1⟩)]; simp [k_6, k_11, k_16])⟩, by rw [ht]; exact hP, va_K.moved hW.alike hK, hD⟩, hS.F ht⟩) hS.2.2 dX11_says_71
    refine lv_tableOut (tgt := 72) hx hb dX11_says_10 (by have := sw_ne k_6 (n := 0) rfl; have := sw_ne k_11 (n := 1) rfl; have := sw_ne k_16 (n := 2) rfl; omega) (by decide) ?_
    refine lv_iconst (v := (-1)) hx hb dX11_says_72 (by decide) ?_
    exact W.iret (v := (-1)) hx hb hr (fun t1 ht hW => ⟨⟨(-1), (σ, I, J, ri, rj, rq), rfl, ⟨rfl, (by unfold sp_says; rw [if_neg (show ¬ ¬ (0 ≤ mo ∧ mo ≤ 599) from fun q => q ⟨hr_4_0, hr_4_1⟩)]; simp [k_6, k_11, k_16])⟩, by rw [ht]; exact hP, va_K.moved hW.alike hK, hD⟩, hS.F ht⟩) hS.2.2 dX11_says_73
  · refine lv_if_ne (tgt := 9) hx hb dX11_says_4 (by decide) (fun c_21 => absurd c_21 (by decide)) (fun c_21 => ?_)
    refine lv_iconst (v := (-1)) hx hb dX11_says_7 (by decide) ?_
    exact W.iret (v := (-1)) hx hb hr (fun t1 ht hW => ⟨⟨(-1), (σ, I, J, ri, rj, rq), rfl, ⟨rfl, (by unfold sp_says; rw [if_pos hr_4_0])⟩, by rw [ht]; exact hP, va_K.moved hW.alike hK, hD⟩, hS.F ht⟩) hS.2.2 dX11_says_8

def sp_at (pl : Int32) : Int32 := if pl = 200 ∨ pl = 300 then 0 else (-1)

set_option maxHeartbeats 4000000 in
set_option maxRecDepth 100000 in
theorem c_X11_at (l : Launch) (D : va_G) (t : pq_T) (σ : pq_S) (I : Nat → Nat → Int32) (J : Nat → Nat → Int64) (ri : Nat → Nat → Int32) (rj : Nat → Nat → Int64) (rq : Nat → Nat → Option Nat) (sz : Nat) (this : Nat) (pl : Int32) (hL_this : this ∈ σ.1) (hK_this : σ.2.1 this = 11) (this_now : Nat) (hR_this_now : σ.2.2.1 352 this = some this_now) (hL_this_now : this_now ∈ σ.1) (hK_this_now : σ.2.1 this_now = 10) (this_now_land : Nat) (hR_this_now_land : σ.2.2.1 327 this_now = some this_now_land) (hL_this_now_land : this_now_land ∈ σ.1) (hK_this_now_land : σ.2.1 this_now_land = 2) (this_now_folk : Nat) (hR_this_now_folk : σ.2.2.1 328 this_now = some this_now_folk) (hL_this_now_folk : this_now_folk ∈ σ.1) (hK_this_now_folk : σ.2.1 this_now_folk = 0) (hZ : pq_Z I) : MetI l yX11_at (wa yX11_at cX11_at 3 (some .int)) ({ frames := 2, cells := 0, slots := 0, locals := 43 }) [.ref this, .int pl] D t σ (I, J, ri, rj, rq) sz 0 0 (fun (r : Int32) (u : pq_S × pq_M) => u = (σ, I, J, ri, rj, rq) ∧ (r = sp_at pl)) := by
  refine Met.ofW (cc := cX11_at) (maxL := 3) (ret := (some .int)) (by decide) rfl ?_
  intro p e s m args below meth c s₁ B hml hv
  obtain ⟨rfl, hsz, hP, hK, hD0, hN⟩ := hv
  have hx := B.exec
  have hb := B.bytes
  have hr := B.returns
  have hts := atoms_spec (ws := (wa yX11_at cX11_at 3 (some .int))) B.pre
  have hown : s.vm.findClass RX11 = some m.cls := findClass_of_methodNamed B.named
  have hlocks := B.notSynchronized
  subst hsz
  have hD : va_D (pq_B t σ (I, J, ri, rj, rq) s.heap.size) (pq_P t σ (I, J, ri, rj, rq)) := hD0.self
  generalize hAe : pq_B t σ (I, J, ri, rj, rq) s.heap.size = A at hD ⊢
  have hA : ∀ q : Nat, s.heap.size ≤ q → A q := fun q h => by rw [← hAe]; exact Or.inr h
  have hS : va_S A s.heap s.heap [] := va_S.rf
  have hl := lv_entry ([.ref this, .int pl]) (n := 3) (Nat.le_of_ble_eq_true rfl)
  rw [lg_entry_eq]
  generalize (lg_sl ([.ref this, .int pl]) ++ List.replicate (3 - (lg_sl ([.ref this, .int pl])).length) Slot.unset).toArray = ls at hl ⊢
  have hl : lv_has ls 3 [(0, .ref this), (1, .int pl)] := hl
  refine lv_aload_n hx hb dX11_at_0 rfl (lv_at hl 0 rfl) ?_
  refine lv_iload_n hx hb dX11_at_1 rfl (lv_at hl 1 rfl) ?_
  refine pk_i (va_runV (As := [.int pl]) (rest := []) ⟨hx, hb, hml, hown, hts⟩ (c_X11_isRing l D t σ I J ri rj rq (Array.size s.heap) this pl hL_this hK_this this_now hR_this_now hL_this_now hK_this_now this_now_land hR_this_now_land hL_this_now_land hK_this_now_land hZ) (cwV 1 hts (tw_V tw_211 tw_212 tw_213 tw_2 tw_214) rfl rfl rfl (by decide +kernel) ⟨Nat.le_of_ble_eq_true rfl, Nat.le_of_ble_eq_true rfl⟩) ⟨pq_blind, pq_recv hK hP hL_this hK_this (by decide) rfl, pq_pre hK hN hP hD⟩ rfl rfl hl.1 rfl (lv_room (Nat.le_of_ble_eq_true rfl)) dX11_at_2 ⟨Nat.le_of_ble_eq_true rfl, Nat.le_of_ble_eq_true rfl⟩) hD hS hA (fun r_1 σ1 μ1 H locs hw_2 hP hD hS => ?_)
  obtain ⟨hu_3, hr_4⟩ := hw_2
  obtain ⟨hu_3a, hu_3b⟩ := Prod.mk.inj hu_3
  rw [hu_3a, hu_3b] at hP hD
  subst hr_4
  refine lv_if_ne (tgt := 30) hx hb dX11_at_5 (by decide) (fun c_5 => absurd c_5 (by decide)) (fun c_5 => ?_)
  refine lv_aload_n hx hb dX11_at_8 rfl (lv_at hl 0 rfl) ?_
  refine lv_iload_n hx hb dX11_at_9 rfl (lv_at hl 1 rfl) ?_
  refine pk_i (va_runV (As := [.int pl]) (rest := []) ⟨hx, hb, hml, hown, hts⟩ (c_X11_isLot l D t σ I J ri rj rq H.size this pl hL_this hK_this this_now hR_this_now hL_this_now hK_this_now this_now_folk hR_this_now_folk hL_this_now_folk hK_this_now_folk hZ) (cwV 1 hts (tw_V tw_409 tw_410 tw_411 tw_2 tw_412) rfl rfl rfl (by decide +kernel) ⟨Nat.le_of_ble_eq_true rfl, Nat.le_of_ble_eq_true rfl⟩) ⟨pq_blind, pq_recv hK hP hL_this hK_this (by decide) rfl, pq_pre hK hN hP hD⟩ rfl rfl hl.1 rfl (lv_room (Nat.le_of_ble_eq_true rfl)) dX11_at_10 ⟨Nat.le_of_ble_eq_true rfl, Nat.le_of_ble_eq_true rfl⟩) hD hS hA (fun r_6 σ1 μ1 H locs hw_7 hP hD hS => ?_)
  obtain ⟨hu_8, hr_9⟩ := hw_7
  obtain ⟨hu_8a, hu_8b⟩ := Prod.mk.inj hu_8
  rw [hu_8a, hu_8b] at hP hD
  subst hr_9
  refine lv_if_ne (tgt := 30) hx hb dX11_at_13 (by decide) (fun c_10 => absurd c_10 (by decide)) (fun c_10 => ?_)
  refine lv_iload_n hx hb dX11_at_16 rfl (lv_at hl 1 rfl) ?_
  refine lv_sipush (v := 200) hx hb dX11_at_17 (by decide) ?_
  refine lv_icmp_eq (tgt := 30) hx hb dX11_at_20 (by decide) (fun c_11 => ?_) (fun c_11 => ?_)
  · refine lv_iconst (v := 1) hx hb dX11_at_30 (by decide) ?_
    refine lv_goto (tgt := 35) hx hb dX11_at_31 (by decide) ?_
    refine lv_istore_n (lv' := [(2, .int 1), (0, .ref this), (1, .int pl)]) hx hb dX11_at_35 rfl hl (by decide) rfl (fun ls hl => ?_)
    refine lv_iload_n hx hb dX11_at_36 rfl (lv_at hl 0 rfl) ?_
    refine lv_if_eq (tgt := 54) hx hb dX11_at_37 (by decide) (fun c_12 => absurd c_12 (by decide)) (fun c_12 => ?_)
    refine lv_aload_n hx hb dX11_at_40 rfl (lv_at hl 1 rfl) ?_
    refine pg_f (v := .ref this_now) (C := RX11) (T := TX11) (N := 5) hx hb hts (tw_i inlX11) hown hK hP hL_this hK_this (by decide) rfl 0 (by decide) (hts _ (tw_c tw_16)) (pq_hv rfl hR_this_now) dX11_at_41 ?_
    refine pg_f (v := .ref this_now_folk) (C := RX10) (T := TX10) (N := 13) hx hb hts (tw_i inlX10) hown hK hP hL_this_now hK_this_now (by decide) rfl 8 (by decide) (hts _ (tw_c tw_379)) (pq_hv rfl hR_this_now_folk) dX11_at_44 ?_
    refine lv_iload_n hx hb dX11_at_47 rfl (lv_at hl 2 rfl) ?_
    refine pk_i (va_runV (As := [.int pl]) (rest := []) ⟨hx, hb, hml, hown, hts⟩ (c_X0_countAt l D t σ I J ri rj rq H.size this_now_folk pl hL_this_now_folk hK_this_now_folk hZ) (cwV 1 hts (tw_V tw_1307 tw_418 tw_419 tw_45 tw_420) rfl rfl rfl (by decide +kernel) ⟨Nat.le_of_ble_eq_true rfl, Nat.le_of_ble_eq_true rfl⟩) ⟨pq_blind, pq_recv hK hP hL_this_now_folk hK_this_now_folk (by decide) rfl, pq_pre hK hN hP hD⟩ rfl rfl hl.1 rfl (lv_room (Nat.le_of_ble_eq_true rfl)) dX11_at_48 ⟨Nat.le_of_ble_eq_true rfl, Nat.le_of_ble_eq_true rfl⟩) hD hS hA (fun r_13 σ1 μ1 H locs hw_14 hP hD hS => ?_)
    obtain ⟨hu_15, hr_16⟩ := hw_14
    obtain ⟨hu_15a, hu_15b⟩ := Prod.mk.inj hu_15
    rw [hu_15a, hu_15b] at hP hD
    subst hr_16
    refine lv_goto (tgt := 55) hx hb dX11_at_51 (by decide) ?_
    exact W.iret (v := 0) hx hb hr (fun t1 ht hW => ⟨⟨0, (σ, I, J, ri, rj, rq), rfl, ⟨rfl, (by unfold sp_at; rw [if_pos (Or.inl c_11)])⟩, by rw [ht]; exact hP, va_K.moved hW.alike hK, hD⟩, hS.F ht⟩) hS.2.2 dX11_at_55
  · refine lv_iload_n hx hb dX11_at_23 rfl (lv_at hl 1 rfl) ?_
    refine lv_sipush (v := 300) hx hb dX11_at_24 (by decide) ?_
    refine lv_icmp_ne (tgt := 34) hx hb dX11_at_27 (by decide) (fun c_17 => ?_) (fun c_17 => ?_)
    · refine lv_iconst (v := 0) hx hb dX11_at_34 (by decide) ?_
      refine lv_istore_n (lv' := [(2, .int 0), (0, .ref this), (1, .int pl)]) hx hb dX11_at_35 rfl hl (by decide) rfl (fun ls hl => ?_)
      refine lv_iload_n hx hb dX11_at_36 rfl (lv_at hl 0 rfl) ?_
      refine lv_if_eq (tgt := 54) hx hb dX11_at_37 (by decide) (fun c_18 => ?_) (fun c_18 => absurd c_18 (by decide))
      refine lv_iconst (v := (-1)) hx hb dX11_at_54 (by decide) ?_
      exact W.iret (v := (-1)) hx hb hr (fun t1 ht hW => ⟨⟨(-1), (σ, I, J, ri, rj, rq), rfl, ⟨rfl, (by unfold sp_at; rw [if_neg (fun q => q.elim c_11 c_17)])⟩, by rw [ht]; exact hP, va_K.moved hW.alike hK, hD⟩, hS.F ht⟩) hS.2.2 dX11_at_55
    · refine lv_iconst (v := 1) hx hb dX11_at_30 (by decide) ?_
      refine lv_goto (tgt := 35) hx hb dX11_at_31 (by decide) ?_
      refine lv_istore_n (lv' := [(2, .int 1), (0, .ref this), (1, .int pl)]) hx hb dX11_at_35 rfl hl (by decide) rfl (fun ls hl => ?_)
      refine lv_iload_n hx hb dX11_at_36 rfl (lv_at hl 0 rfl) ?_
      refine lv_if_eq (tgt := 54) hx hb dX11_at_37 (by decide) (fun c_19 => absurd c_19 (by decide)) (fun c_19 => ?_)
      refine lv_aload_n hx hb dX11_at_40 rfl (lv_at hl 1 rfl) ?_
      refine pg_f (v := .ref this_now) (C := RX11) (T := TX11) (N := 5) hx hb hts (tw_i inlX11) hown hK hP hL_this hK_this (by decide) rfl 0 (by decide) (hts _ (tw_c tw_16)) (pq_hv rfl hR_this_now) dX11_at_41 ?_
      refine pg_f (v := .ref this_now_folk) (C := RX10) (T := TX10) (N := 13) hx hb hts (tw_i inlX10) hown hK hP hL_this_now hK_this_now (by decide) rfl 8 (by decide) (hts _ (tw_c tw_379)) (pq_hv rfl hR_this_now_folk) dX11_at_44 ?_
      refine lv_iload_n hx hb dX11_at_47 rfl (lv_at hl 2 rfl) ?_
      refine pk_i (va_runV (As := [.int pl]) (rest := []) ⟨hx, hb, hml, hown, hts⟩ (c_X0_countAt l D t σ I J ri rj rq H.size this_now_folk pl hL_this_now_folk hK_this_now_folk hZ) (cwV 1 hts (tw_V tw_1307 tw_418 tw_419 tw_45 tw_420) rfl rfl rfl (by decide +kernel) ⟨Nat.le_of_ble_eq_true rfl, Nat.le_of_ble_eq_true rfl⟩) ⟨pq_blind, pq_recv hK hP hL_this_now_folk hK_this_now_folk (by decide) rfl, pq_pre hK hN hP hD⟩ rfl rfl hl.1 rfl (lv_room (Nat.le_of_ble_eq_true rfl)) dX11_at_48 ⟨Nat.le_of_ble_eq_true rfl, Nat.le_of_ble_eq_true rfl⟩) hD hS hA (fun r_20 σ1 μ1 H locs hw_21 hP hD hS => ?_)
      obtain ⟨hu_22, hr_23⟩ := hw_21
      obtain ⟨hu_22a, hu_22b⟩ := Prod.mk.inj hu_22
      rw [hu_22a, hu_22b] at hP hD
      subst hr_23
      refine lv_goto (tgt := 55) hx hb dX11_at_51 (by decide) ?_
      exact W.iret (v := 0) hx hb hr (fun t1 ht hW => ⟨⟨0, (σ, I, J, ri, rj, rq), rfl, ⟨rfl, (by unfold sp_at; rw [if_pos (Or.inr c_17)])⟩, by rw [ht]; exact hP, va_K.moved hW.alike hK, hD⟩, hS.F ht⟩) hS.2.2 dX11_at_55

set_option maxHeartbeats 4000000 in
set_option maxRecDepth 100000 in
theorem c_X11_area (l : Launch) (D : va_G) (t : pq_T) (σ : pq_S) (I : Nat → Nat → Int32) (J : Nat → Nat → Int64) (ri : Nat → Nat → Int32) (rj : Nat → Nat → Int64) (rq : Nat → Nat → Option Nat) (sz : Nat) (this : Nat) (hL_this : this ∈ σ.1) (hK_this : σ.2.1 this = 11) (this_now : Nat) (hR_this_now : σ.2.2.1 352 this = some this_now) (hL_this_now : this_now ∈ σ.1) (hK_this_now : σ.2.1 this_now = 10) (hAr : I 324 this_now = (-1)) : MetI l yX11_area (wa yX11_area cX11_area 1 (some .int)) ({ frames := 0, cells := 0, slots := 0, locals := 0 }) [.ref this] D t σ (I, J, ri, rj, rq) sz 0 0 (fun (r : Int32) (u : pq_S × pq_M) => u = (σ, I, J, ri, rj, rq) ∧ ((r = (-1)))) := by
  refine Met.ofW (cc := cX11_area) (maxL := 1) (ret := (some .int)) (by decide) rfl ?_
  intro p e s m args below meth c s₁ B hml hv
  obtain ⟨rfl, hsz, hP, hK, hD0, hN⟩ := hv
  have hx := B.exec
  have hb := B.bytes
  have hr := B.returns
  have hts := atoms_spec (ws := (wa yX11_area cX11_area 1 (some .int))) B.pre
  have hown : s.vm.findClass RX11 = some m.cls := findClass_of_methodNamed B.named
  have hlocks := B.notSynchronized
  subst hsz
  have hD : va_D (pq_B t σ (I, J, ri, rj, rq) s.heap.size) (pq_P t σ (I, J, ri, rj, rq)) := hD0.self
  generalize hAe : pq_B t σ (I, J, ri, rj, rq) s.heap.size = A at hD ⊢
  have hA : ∀ q : Nat, s.heap.size ≤ q → A q := fun q h => by rw [← hAe]; exact Or.inr h
  have hS : va_S A s.heap s.heap [] := va_S.rf
  have hl := lv_entry ([.ref this]) (n := 1) (Nat.le_of_ble_eq_true rfl)
  rw [lg_entry_eq]
  generalize (lg_sl ([.ref this]) ++ List.replicate (1 - (lg_sl ([.ref this])).length) Slot.unset).toArray = ls at hl ⊢
  have hl : lv_has ls 1 [(0, .ref this)] := hl
  refine lv_aload_n hx hb dX11_area_0 rfl (lv_at hl 0 rfl) ?_
  refine pg_f (v := .ref this_now) (C := RX11) (T := TX11) (N := 5) hx hb hts (tw_i inlX11) hown hK hP hL_this hK_this (by decide) rfl 0 (by decide) (hts _ (tw_c tw_16)) (pq_hv rfl hR_this_now) dX11_area_1 ?_
  refine pg_f (v := .int (I 324 this_now)) (C := RX10) (T := TX10) (N := 13) hx hb hts (tw_i inlX10) hown hK hP hL_this_now hK_this_now (by decide) rfl 4 (by decide) (hts _ (tw_c tw_1316)) rfl dX11_area_4 ?_
  refine lv_tov (-1) hAr ?_
  exact W.iret (v := (-1)) hx hb hr (fun t1 ht hW => ⟨⟨(-1), (σ, I, J, ri, rj, rq), rfl, ⟨rfl, rfl⟩, by rw [ht]; exact hP, va_K.moved hW.alike hK, hD⟩, hS.F ht⟩) hS.2.2 dX11_area_7

set_option maxHeartbeats 4000000 in
set_option maxRecDepth 100000 in
theorem c_X11_fault (l : Launch) (D : va_G) (t : pq_T) (σ : pq_S) (I : Nat → Nat → Int32) (J : Nat → Nat → Int64) (ri : Nat → Nat → Int32) (rj : Nat → Nat → Int64) (rq : Nat → Nat → Option Nat) (sz : Nat) (this : Nat) (wh : Int32) (hL_this : this ∈ σ.1) (hK_this : σ.2.1 this = 11) (this_reader : Nat) (hR_this_reader : σ.2.2.1 356 this = some this_reader) (hL_this_reader : this_reader ∈ σ.1) (hK_this_reader : σ.2.1 this_reader = 4) (hF1 : I 129 this_reader = (-1)) (hF2 : I 130 this_reader = (-1)) : MetI l yX11_fault (wa yX11_fault cX11_fault 2 (some .int)) ({ frames := 0, cells := 0, slots := 0, locals := 0 }) [.ref this, .int wh] D t σ (I, J, ri, rj, rq) sz 0 0 (fun (r : Int32) (u : pq_S × pq_M) => u = (σ, I, J, ri, rj, rq) ∧ ((r = (-1)))) := by
  refine Met.ofW (cc := cX11_fault) (maxL := 2) (ret := (some .int)) (by decide) rfl ?_
  intro p e s m args below meth c s₁ B hml hv
  obtain ⟨rfl, hsz, hP, hK, hD0, hN⟩ := hv
  have hx := B.exec
  have hb := B.bytes
  have hr := B.returns
  have hts := atoms_spec (ws := (wa yX11_fault cX11_fault 2 (some .int))) B.pre
  have hown : s.vm.findClass RX11 = some m.cls := findClass_of_methodNamed B.named
  have hlocks := B.notSynchronized
  subst hsz
  have hD : va_D (pq_B t σ (I, J, ri, rj, rq) s.heap.size) (pq_P t σ (I, J, ri, rj, rq)) := hD0.self
  generalize hAe : pq_B t σ (I, J, ri, rj, rq) s.heap.size = A at hD ⊢
  have hA : ∀ q : Nat, s.heap.size ≤ q → A q := fun q h => by rw [← hAe]; exact Or.inr h
  have hS : va_S A s.heap s.heap [] := va_S.rf
  have hl := lv_entry ([.ref this, .int wh]) (n := 2) (Nat.le_of_ble_eq_true rfl)
  rw [lg_entry_eq]
  generalize (lg_sl ([.ref this, .int wh]) ++ List.replicate (2 - (lg_sl ([.ref this, .int wh])).length) Slot.unset).toArray = ls at hl ⊢
  have hl : lv_has ls 2 [(0, .ref this), (1, .int wh)] := hl
  refine lv_iload_n hx hb dX11_fault_0 rfl (lv_at hl 1 rfl) ?_
  by_cases k_1 : wh = (0 : Int32)
  · refine lv_tov (0) k_1 ?_
    refine lv_lookup (tgt := 28) hx hb dX11_fault_1 (by decide) rfl (by decide) ?_
    refine lv_aload_n hx hb dX11_fault_28 rfl (lv_at hl 0 rfl) ?_
    refine pg_f (v := .ref this_reader) (C := RX11) (T := TX11) (N := 5) hx hb hts (tw_i inlX11) hown hK hP hL_this hK_this (by decide) rfl 4 (by decide) (hts _ (tw_c tw_26)) (pq_hv rfl hR_this_reader) dX11_fault_29 ?_
    refine pg_f (v := .int (I 129 this_reader)) (C := RX4) (T := TX4) (N := 12) hx hb hts (tw_i inlX4) hown hK hP hL_this_reader hK_this_reader (by decide) rfl 1 (by decide) (hts _ (tw_c tw_650)) rfl dX11_fault_32 ?_
    refine lv_tov (-1) hF1 ?_
    exact W.iret (v := (-1)) hx hb hr (fun t1 ht hW => ⟨⟨(-1), (σ, I, J, ri, rj, rq), rfl, ⟨rfl, rfl⟩, by rw [ht]; exact hP, va_K.moved hW.alike hK, hD⟩, hS.F ht⟩) hS.2.2 dX11_fault_35
  by_cases k_2 : wh = (1 : Int32)
  · refine lv_tov (1) k_2 ?_
    refine lv_lookup (tgt := 36) hx hb dX11_fault_1 (by decide) rfl (by decide) ?_
    refine lv_aload_n hx hb dX11_fault_36 rfl (lv_at hl 0 rfl) ?_
    refine pg_f (v := .ref this_reader) (C := RX11) (T := TX11) (N := 5) hx hb hts (tw_i inlX11) hown hK hP hL_this hK_this (by decide) rfl 4 (by decide) (hts _ (tw_c tw_26)) (pq_hv rfl hR_this_reader) dX11_fault_37 ?_
    refine pg_f (v := .int (I 130 this_reader)) (C := RX4) (T := TX4) (N := 12) hx hb hts (tw_i inlX4) hown hK hP hL_this_reader hK_this_reader (by decide) rfl 2 (by decide) (hts _ (tw_c tw_941)) rfl dX11_fault_40 ?_
    refine lv_tov (-1) hF2 ?_
    exact W.iret (v := (-1)) hx hb hr (fun t1 ht hW => ⟨⟨(-1), (σ, I, J, ri, rj, rq), rfl, ⟨rfl, rfl⟩, by rw [ht]; exact hP, va_K.moved hW.alike hK, hD⟩, hS.F ht⟩) hS.2.2 dX11_fault_43
  refine lv_lookup (tgt := 44) (off := (43)) hx hb dX11_fault_1 (by decide) (by have z_k_1 := (sw_ne k_1 (n := 0) rfl).symm; have z_k_2 := (sw_ne k_2 (n := 1) rfl).symm; simp [Op.lookupswitch.offset, z_k_1, z_k_2]) (by decide) ?_
  refine lv_iconst (v := (-1)) hx hb dX11_fault_44 (by decide) ?_
  exact W.iret (v := (-1)) hx hb hr (fun t1 ht hW => ⟨⟨(-1), (σ, I, J, ri, rj, rq), rfl, ⟨rfl, rfl⟩, by rw [ht]; exact hP, va_K.moved hW.alike hK, hD⟩, hS.F ht⟩) hS.2.2 dX11_fault_45

def sp_council (th : Int64) : Int32 := if th = 0 then 0 else (-1)
