theorem dX12_levelOf_0 : decode cX12_levelOf 0 = .ok (.iload_n 1, 1) := by decide +kernel
theorem tw_259 : Cond.methodLink RX12 70 yX12_isRise ∈ wsL_law := List.mem_of_getElem? (i := 259) (by decide +kernel)
theorem tw_260 : Cond.static yX12_isRise ∈ wsL_law := List.mem_of_getElem? (i := 260) (by decide +kernel)
theorem tw_261 : Cond.code yX12_isRise cX12_isRise 1 (some .boolean) ∈ wsL_law := List.mem_of_getElem? (i := 261) (by decide +kernel)
theorem dX12_levelOf_1 : decode cX12_levelOf 1 = .ok (.invokestatic 70, 3) := by decide +kernel
theorem dX12_levelOf_4 : decode cX12_levelOf 4 = .ok (.ifCond .eq 31, 3) := by decide +kernel
theorem dX12_levelOf_7 : decode cX12_levelOf 7 = .ok (.iload_n 2, 1) := by decide +kernel
theorem tw_262 : Cond.methodLink RX12 73 yX12_isMonth ∈ wsL_law := List.mem_of_getElem? (i := 262) (by decide +kernel)
theorem tw_263 : Cond.static yX12_isMonth ∈ wsL_law := List.mem_of_getElem? (i := 263) (by decide +kernel)
theorem tw_264 : Cond.code yX12_isMonth cX12_isMonth 1 (some .boolean) ∈ wsL_law := List.mem_of_getElem? (i := 264) (by decide +kernel)
theorem dX12_levelOf_8 : decode cX12_levelOf 8 = .ok (.invokestatic 73, 3) := by decide +kernel
theorem dX12_levelOf_11 : decode cX12_levelOf 11 = .ok (.ifCond .eq 24, 3) := by decide +kernel
theorem dX12_levelOf_14 : decode cX12_levelOf 14 = .ok (.iload_n 3, 1) := by decide +kernel
theorem dX12_levelOf_15 : decode cX12_levelOf 15 = .ok (.iconst 0, 1) := by decide +kernel
theorem dX12_levelOf_16 : decode cX12_levelOf 16 = .ok (.sipush 600, 3) := by decide +kernel
theorem dX12_levelOf_19 : decode cX12_levelOf 19 = .ok (.invokestatic 62, 3) := by decide +kernel
theorem dX12_levelOf_22 : decode cX12_levelOf 22 = .ok (.ifCond .eq 13, 3) := by decide +kernel
theorem dX12_levelOf_25 : decode cX12_levelOf 25 = .ok (.aload_n 0, 1) := by decide +kernel
theorem dX12_levelOf_26 : decode cX12_levelOf 26 = .ok (.iload_n 1, 1) := by decide +kernel
theorem dX12_levelOf_27 : decode cX12_levelOf 27 = .ok (.iload_n 2, 1) := by decide +kernel
theorem dX12_levelOf_28 : decode cX12_levelOf 28 = .ok (.iload_n 3, 1) := by decide +kernel
theorem dX12_levelOf_29 : decode cX12_levelOf 29 = .ok (.invokevirtual 84, 3) := by decide +kernel
theorem dX12_levelOf_32 : decode cX12_levelOf 32 = .ok (.goto 5, 3) := by decide +kernel
theorem dX12_levelOf_37 : decode cX12_levelOf 37 = .ok (.ireturn, 1) := by decide +kernel
theorem dX12_levelOf_35 : decode cX12_levelOf 35 = .ok (.ldc 87, 2) := by decide +kernel
theorem dX12_table_0 : decode cX12_table 0 = .ok (.iload_n 1, 1) := by decide +kernel
theorem dX12_table_1 : decode cX12_table 1 = .ok (.iconst 0, 1) := by decide +kernel
theorem dX12_table_2 : decode cX12_table 2 = .ok (.bipush 11, 2) := by decide +kernel
theorem dX12_table_4 : decode cX12_table 4 = .ok (.invokestatic 62, 3) := by decide +kernel
theorem dX12_table_7 : decode cX12_table 7 = .ok (.ifCond .eq 58, 3) := by decide +kernel
theorem dX12_table_10 : decode cX12_table 10 = .ok (.iload_n 2, 1) := by decide +kernel
theorem dX12_table_11 : decode cX12_table 11 = .ok (.iconst 0, 1) := by decide +kernel
theorem dX12_table_12 : decode cX12_table 12 = .ok (.sipush 2000, 3) := by decide +kernel
theorem dX12_table_15 : decode cX12_table 15 = .ok (.invokestatic 62, 3) := by decide +kernel
theorem dX12_table_18 : decode cX12_table 18 = .ok (.ifCond .eq 47, 3) := by decide +kernel
theorem dX12_table_21 : decode cX12_table 21 = .ok (.iload_n 3, 1) := by decide +kernel
theorem dX12_table_22 : decode cX12_table 22 = .ok (.iload_n 2, 1) := by decide +kernel
theorem dX12_table_23 : decode cX12_table 23 = .ok (.sipush 2000, 3) := by decide +kernel
theorem dX12_table_26 : decode cX12_table 26 = .ok (.invokestatic 62, 3) := by decide +kernel
theorem dX12_table_29 : decode cX12_table 29 = .ok (.ifCond .eq 36, 3) := by decide +kernel
theorem dX12_table_32 : decode cX12_table 32 = .ok (.iload 4, 2) := by decide +kernel
theorem dX12_table_34 : decode cX12_table 34 = .ok (.iconst 0, 1) := by decide +kernel
theorem dX12_table_35 : decode cX12_table 35 = .ok (.bipush 40, 2) := by decide +kernel
theorem dX12_table_37 : decode cX12_table 37 = .ok (.invokestatic 62, 3) := by decide +kernel
theorem dX12_table_40 : decode cX12_table 40 = .ok (.ifCond .eq 25, 3) := by decide +kernel
theorem dX12_table_43 : decode cX12_table 43 = .ok (.iload 5, 2) := by decide +kernel
theorem dX12_table_45 : decode cX12_table 45 = .ok (.iconst 0, 1) := by decide +kernel
theorem dX12_table_46 : decode cX12_table 46 = .ok (.bipush 50, 2) := by decide +kernel
theorem dX12_table_48 : decode cX12_table 48 = .ok (.invokestatic 62, 3) := by decide +kernel
theorem dX12_table_51 : decode cX12_table 51 = .ok (.ifCond .eq 14, 3) := by decide +kernel
theorem dX12_table_54 : decode cX12_table 54 = .ok (.iload 6, 2) := by decide +kernel
theorem dX12_table_56 : decode cX12_table 56 = .ok (.iconst 0, 1) := by decide +kernel
theorem dX12_table_57 : decode cX12_table 57 = .ok (.bipush 100, 2) := by decide +kernel
theorem dX12_table_59 : decode cX12_table 59 = .ok (.invokestatic 62, 3) := by decide +kernel
theorem dX12_table_62 : decode cX12_table 62 = .ok (.ifCond .ne 5, 3) := by decide +kernel
theorem dX12_table_67 : decode cX12_table 67 = .ok (.bipush 20, 2) := by decide +kernel
theorem dX12_table_69 : decode cX12_table 69 = .ok (.iconst 5, 1) := by decide +kernel
theorem dX12_table_70 : decode cX12_table 70 = .ok (.iload_n 1, 1) := by decide +kernel
theorem dX12_table_71 : decode cX12_table 71 = .ok (.imul, 1) := by decide +kernel
theorem dX12_table_72 : decode cX12_table 72 = .ok (.iadd, 1) := by decide +kernel
theorem dX12_table_73 : decode cX12_table 73 = .ok (.istore 7, 2) := by decide +kernel
theorem dX12_table_75 : decode cX12_table 75 = .ok (.aload_n 0, 1) := by decide +kernel
theorem dX12_table_76 : decode cX12_table 76 = .ok (.getfield 7, 3) := by decide +kernel
theorem dX12_table_79 : decode cX12_table 79 = .ok (.iload 7, 2) := by decide +kernel
theorem dX12_table_81 : decode cX12_table 81 = .ok (.iconst 0, 1) := by decide +kernel
theorem dX12_table_82 : decode cX12_table 82 = .ok (.iadd, 1) := by decide +kernel
theorem dX12_table_83 : decode cX12_table 83 = .ok (.iload_n 2, 1) := by decide +kernel
theorem dX12_table_84 : decode cX12_table 84 = .ok (.iastore, 1) := by decide +kernel
theorem dX12_table_85 : decode cX12_table 85 = .ok (.aload_n 0, 1) := by decide +kernel
theorem dX12_table_86 : decode cX12_table 86 = .ok (.getfield 7, 3) := by decide +kernel
theorem dX12_table_89 : decode cX12_table 89 = .ok (.iload 7, 2) := by decide +kernel
theorem dX12_table_91 : decode cX12_table 91 = .ok (.iconst 1, 1) := by decide +kernel
theorem dX12_table_92 : decode cX12_table 92 = .ok (.iadd, 1) := by decide +kernel
theorem dX12_table_93 : decode cX12_table 93 = .ok (.iload_n 3, 1) := by decide +kernel
theorem dX12_table_94 : decode cX12_table 94 = .ok (.iastore, 1) := by decide +kernel
theorem dX12_table_95 : decode cX12_table 95 = .ok (.aload_n 0, 1) := by decide +kernel
theorem dX12_table_96 : decode cX12_table 96 = .ok (.getfield 7, 3) := by decide +kernel
theorem dX12_table_99 : decode cX12_table 99 = .ok (.iload 7, 2) := by decide +kernel
theorem dX12_table_101 : decode cX12_table 101 = .ok (.iconst 2, 1) := by decide +kernel
theorem dX12_table_102 : decode cX12_table 102 = .ok (.iadd, 1) := by decide +kernel
theorem dX12_table_103 : decode cX12_table 103 = .ok (.iload 4, 2) := by decide +kernel
theorem dX12_table_105 : decode cX12_table 105 = .ok (.iastore, 1) := by decide +kernel
theorem dX12_table_106 : decode cX12_table 106 = .ok (.aload_n 0, 1) := by decide +kernel
theorem dX12_table_107 : decode cX12_table 107 = .ok (.getfield 7, 3) := by decide +kernel
theorem dX12_table_110 : decode cX12_table 110 = .ok (.iload 7, 2) := by decide +kernel
theorem dX12_table_112 : decode cX12_table 112 = .ok (.iconst 3, 1) := by decide +kernel
theorem dX12_table_113 : decode cX12_table 113 = .ok (.iadd, 1) := by decide +kernel
theorem dX12_table_114 : decode cX12_table 114 = .ok (.iload 5, 2) := by decide +kernel
theorem dX12_table_116 : decode cX12_table 116 = .ok (.iastore, 1) := by decide +kernel
theorem dX12_table_117 : decode cX12_table 117 = .ok (.aload_n 0, 1) := by decide +kernel
theorem dX12_table_118 : decode cX12_table 118 = .ok (.getfield 7, 3) := by decide +kernel
theorem dX12_table_121 : decode cX12_table 121 = .ok (.iload 7, 2) := by decide +kernel
theorem dX12_table_123 : decode cX12_table 123 = .ok (.iconst 4, 1) := by decide +kernel
theorem dX12_table_124 : decode cX12_table 124 = .ok (.iadd, 1) := by decide +kernel
theorem dX12_table_125 : decode cX12_table 125 = .ok (.iload 6, 2) := by decide +kernel
theorem dX12_table_127 : decode cX12_table 127 = .ok (.iastore, 1) := by decide +kernel
theorem dX12_table_128 : decode cX12_table 128 = .ok (.iconst 1, 1) := by decide +kernel
theorem dX12_table_129 : decode cX12_table 129 = .ok (.ireturn, 1) := by decide +kernel
theorem dX12_table_65 : decode cX12_table 65 = .ok (.iconst 0, 1) := by decide +kernel
theorem dX12_table_66 : decode cX12_table 66 = .ok (.ireturn, 1) := by decide +kernel
theorem dX12_rules_0 : decode cX12_rules 0 = .ok (.iload_n 1, 1) := by decide +kernel
theorem dX12_rules_1 : decode cX12_rules 1 = .ok (.iconst 0, 1) := by decide +kernel
theorem dX12_rules_2 : decode cX12_rules 2 = .ok (.bipush 40, 2) := by decide +kernel
theorem dX12_rules_4 : decode cX12_rules 4 = .ok (.invokestatic 62, 3) := by decide +kernel
theorem dX12_rules_7 : decode cX12_rules 7 = .ok (.ifCond .eq 44, 3) := by decide +kernel
theorem dX12_rules_10 : decode cX12_rules 10 = .ok (.iload_n 2, 1) := by decide +kernel
theorem dX12_rules_11 : decode cX12_rules 11 = .ok (.iconst 0, 1) := by decide +kernel
theorem dX12_rules_12 : decode cX12_rules 12 = .ok (.iconst 5, 1) := by decide +kernel
theorem dX12_rules_13 : decode cX12_rules 13 = .ok (.invokestatic 62, 3) := by decide +kernel
theorem dX12_rules_16 : decode cX12_rules 16 = .ok (.ifCond .eq 35, 3) := by decide +kernel
theorem dX12_rules_19 : decode cX12_rules 19 = .ok (.iload_n 3, 1) := by decide +kernel
theorem dX12_rules_20 : decode cX12_rules 20 = .ok (.iconst 0, 1) := by decide +kernel
theorem dX12_rules_21 : decode cX12_rules 21 = .ok (.bipush 50, 2) := by decide +kernel
theorem dX12_rules_23 : decode cX12_rules 23 = .ok (.invokestatic 62, 3) := by decide +kernel
theorem dX12_rules_26 : decode cX12_rules 26 = .ok (.ifCond .eq 25, 3) := by decide +kernel
theorem dX12_rules_29 : decode cX12_rules 29 = .ok (.iload 4, 2) := by decide +kernel
theorem dX12_rules_31 : decode cX12_rules 31 = .ok (.iconst 1, 1) := by decide +kernel
theorem dX12_rules_32 : decode cX12_rules 32 = .ok (.bipush 20, 2) := by decide +kernel
theorem dX12_rules_34 : decode cX12_rules 34 = .ok (.invokestatic 62, 3) := by decide +kernel
theorem dX12_rules_37 : decode cX12_rules 37 = .ok (.ifCond .eq 14, 3) := by decide +kernel
theorem dX12_rules_40 : decode cX12_rules 40 = .ok (.iload 5, 2) := by decide +kernel
theorem dX12_rules_42 : decode cX12_rules 42 = .ok (.iconst 0, 1) := by decide +kernel
theorem dX12_rules_43 : decode cX12_rules 43 = .ok (.bipush 100, 2) := by decide +kernel
theorem dX12_rules_45 : decode cX12_rules 45 = .ok (.invokestatic 62, 3) := by decide +kernel
theorem dX12_rules_48 : decode cX12_rules 48 = .ok (.ifCond .ne 5, 3) := by decide +kernel
theorem dX12_rules_53 : decode cX12_rules 53 = .ok (.aload_n 0, 1) := by decide +kernel
theorem dX12_rules_54 : decode cX12_rules 54 = .ok (.getfield 7, 3) := by decide +kernel
theorem dX12_rules_57 : decode cX12_rules 57 = .ok (.bipush 13, 2) := by decide +kernel
theorem dX12_rules_59 : decode cX12_rules 59 = .ok (.iload_n 1, 1) := by decide +kernel
theorem dX12_rules_60 : decode cX12_rules 60 = .ok (.iastore, 1) := by decide +kernel
theorem dX12_rules_61 : decode cX12_rules 61 = .ok (.aload_n 0, 1) := by decide +kernel
theorem dX12_rules_62 : decode cX12_rules 62 = .ok (.getfield 7, 3) := by decide +kernel
theorem dX12_rules_65 : decode cX12_rules 65 = .ok (.bipush 14, 2) := by decide +kernel
theorem dX12_rules_67 : decode cX12_rules 67 = .ok (.iload_n 2, 1) := by decide +kernel
theorem dX12_rules_68 : decode cX12_rules 68 = .ok (.iastore, 1) := by decide +kernel
theorem dX12_rules_69 : decode cX12_rules 69 = .ok (.aload_n 0, 1) := by decide +kernel
theorem dX12_rules_70 : decode cX12_rules 70 = .ok (.getfield 7, 3) := by decide +kernel
theorem dX12_rules_73 : decode cX12_rules 73 = .ok (.bipush 15, 2) := by decide +kernel
theorem dX12_rules_75 : decode cX12_rules 75 = .ok (.iload_n 3, 1) := by decide +kernel
theorem dX12_rules_76 : decode cX12_rules 76 = .ok (.iastore, 1) := by decide +kernel
theorem dX12_rules_77 : decode cX12_rules 77 = .ok (.aload_n 0, 1) := by decide +kernel
theorem dX12_rules_78 : decode cX12_rules 78 = .ok (.getfield 7, 3) := by decide +kernel
theorem dX12_rules_81 : decode cX12_rules 81 = .ok (.bipush 16, 2) := by decide +kernel
theorem dX12_rules_83 : decode cX12_rules 83 = .ok (.iload 4, 2) := by decide +kernel
theorem dX12_rules_85 : decode cX12_rules 85 = .ok (.iastore, 1) := by decide +kernel
theorem dX12_rules_86 : decode cX12_rules 86 = .ok (.aload_n 0, 1) := by decide +kernel
theorem dX12_rules_87 : decode cX12_rules 87 = .ok (.getfield 7, 3) := by decide +kernel
theorem dX12_rules_90 : decode cX12_rules 90 = .ok (.bipush 17, 2) := by decide +kernel
theorem dX12_rules_92 : decode cX12_rules 92 = .ok (.iload 5, 2) := by decide +kernel
theorem dX12_rules_94 : decode cX12_rules 94 = .ok (.iastore, 1) := by decide +kernel
theorem dX12_rules_95 : decode cX12_rules 95 = .ok (.iconst 1, 1) := by decide +kernel
theorem dX12_rules_96 : decode cX12_rules 96 = .ok (.ireturn, 1) := by decide +kernel
theorem dX12_rules_51 : decode cX12_rules 51 = .ok (.iconst 0, 1) := by decide +kernel
theorem dX12_rules_52 : decode cX12_rules 52 = .ok (.ireturn, 1) := by decide +kernel
theorem dX12_lot_0 : decode cX12_lot 0 = .ok (.iload_n 1, 1) := by decide +kernel
theorem dX12_lot_1 : decode cX12_lot 1 = .ok (.iconst 0, 1) := by decide +kernel
theorem dX12_lot_2 : decode cX12_lot 2 = .ok (.bipush 60, 2) := by decide +kernel
theorem dX12_lot_4 : decode cX12_lot 4 = .ok (.invokestatic 62, 3) := by decide +kernel
theorem dX12_lot_7 : decode cX12_lot 7 = .ok (.ifCond .eq 13, 3) := by decide +kernel
theorem dX12_lot_10 : decode cX12_lot 10 = .ok (.aload_n 0, 1) := by decide +kernel
theorem dX12_lot_11 : decode cX12_lot 11 = .ok (.getfield 7, 3) := by decide +kernel
theorem dX12_lot_14 : decode cX12_lot 14 = .ok (.iconst 4, 1) := by decide +kernel
theorem dX12_lot_15 : decode cX12_lot 15 = .ok (.iaload, 1) := by decide +kernel
theorem dX12_lot_16 : decode cX12_lot 16 = .ok (.iconst 5, 1) := by decide +kernel
theorem dX12_lot_17 : decode cX12_lot 17 = .ok (.if_icmp .ne 5, 3) := by decide +kernel
theorem dX12_lot_22 : decode cX12_lot 22 = .ok (.aload_n 0, 1) := by decide +kernel
theorem dX12_lot_23 : decode cX12_lot 23 = .ok (.getfield 7, 3) := by decide +kernel
theorem dX12_lot_26 : decode cX12_lot 26 = .ok (.bipush 80, 2) := by decide +kernel
theorem dX12_lot_28 : decode cX12_lot 28 = .ok (.aload_n 0, 1) := by decide +kernel
theorem dX12_lot_29 : decode cX12_lot 29 = .ok (.getfield 7, 3) := by decide +kernel
theorem dX12_lot_32 : decode cX12_lot 32 = .ok (.iconst 4, 1) := by decide +kernel
theorem dX12_lot_33 : decode cX12_lot 33 = .ok (.iaload, 1) := by decide +kernel
theorem dX12_lot_34 : decode cX12_lot 34 = .ok (.iadd, 1) := by decide +kernel
theorem dX12_lot_35 : decode cX12_lot 35 = .ok (.iload_n 1, 1) := by decide +kernel
theorem dX12_lot_36 : decode cX12_lot 36 = .ok (.iastore, 1) := by decide +kernel
theorem dX12_lot_37 : decode cX12_lot 37 = .ok (.aload_n 0, 1) := by decide +kernel
theorem dX12_lot_38 : decode cX12_lot 38 = .ok (.getfield 7, 3) := by decide +kernel
theorem dX12_lot_41 : decode cX12_lot 41 = .ok (.iconst 4, 1) := by decide +kernel
theorem dX12_lot_42 : decode cX12_lot 42 = .ok (.dup2, 1) := by decide +kernel
theorem dX12_lot_43 : decode cX12_lot 43 = .ok (.iaload, 1) := by decide +kernel
theorem dX12_lot_44 : decode cX12_lot 44 = .ok (.iconst 1, 1) := by decide +kernel
theorem dX12_lot_45 : decode cX12_lot 45 = .ok (.iadd, 1) := by decide +kernel
theorem dX12_lot_46 : decode cX12_lot 46 = .ok (.iastore, 1) := by decide +kernel
theorem dX12_lot_47 : decode cX12_lot 47 = .ok (.aload_n 0, 1) := by decide +kernel
theorem dX12_lot_48 : decode cX12_lot 48 = .ok (.getfield 7, 3) := by decide +kernel
theorem dX12_lot_51 : decode cX12_lot 51 = .ok (.iconst 4, 1) := by decide +kernel
theorem dX12_lot_52 : decode cX12_lot 52 = .ok (.iaload, 1) := by decide +kernel
theorem dX12_lot_53 : decode cX12_lot 53 = .ok (.iconst 1, 1) := by decide +kernel
theorem dX12_lot_54 : decode cX12_lot 54 = .ok (.isub, 1) := by decide +kernel
theorem dX12_lot_55 : decode cX12_lot 55 = .ok (.ireturn, 1) := by decide +kernel
theorem dX12_lot_20 : decode cX12_lot 20 = .ok (.iconst (-1), 1) := by decide +kernel
theorem dX12_lot_21 : decode cX12_lot 21 = .ok (.ireturn, 1) := by decide +kernel
theorem dX12_sail_0 : decode cX12_sail 0 = .ok (.iload_n 1, 1) := by decide +kernel
theorem dX12_sail_1 : decode cX12_sail 1 = .ok (.iconst 0, 1) := by decide +kernel
theorem dX12_sail_2 : decode cX12_sail 2 = .ok (.bipush 40, 2) := by decide +kernel
theorem dX12_sail_4 : decode cX12_sail 4 = .ok (.invokestatic 62, 3) := by decide +kernel
theorem dX12_sail_7 : decode cX12_sail 7 = .ok (.ifCond .eq 13, 3) := by decide +kernel
theorem dX12_sail_10 : decode cX12_sail 10 = .ok (.iload_n 2, 1) := by decide +kernel
theorem dX12_sail_11 : decode cX12_sail 11 = .ok (.iconst 0, 1) := by decide +kernel
theorem tw_837 : Cond.constant RX12 152 (100000) ∈ wsL_law := List.mem_of_getElem? (i := 837) (by decide +kernel)
theorem dX12_sail_12 : decode cX12_sail 12 = .ok (.ldc 152, 2) := by decide +kernel
theorem dX12_sail_14 : decode cX12_sail 14 = .ok (.invokestatic 62, 3) := by decide +kernel
theorem dX12_sail_17 : decode cX12_sail 17 = .ok (.ifCond .ne 5, 3) := by decide +kernel
theorem dX12_sail_22 : decode cX12_sail 22 = .ok (.aload_n 0, 1) := by decide +kernel
theorem dX12_sail_23 : decode cX12_sail 23 = .ok (.getfield 7, 3) := by decide +kernel
theorem dX12_sail_26 : decode cX12_sail 26 = .ok (.bipush 11, 2) := by decide +kernel
theorem dX12_sail_28 : decode cX12_sail 28 = .ok (.iload_n 1, 1) := by decide +kernel
theorem dX12_sail_29 : decode cX12_sail 29 = .ok (.iastore, 1) := by decide +kernel
theorem dX12_sail_30 : decode cX12_sail 30 = .ok (.aload_n 0, 1) := by decide +kernel
theorem dX12_sail_31 : decode cX12_sail 31 = .ok (.getfield 7, 3) := by decide +kernel
theorem dX12_sail_34 : decode cX12_sail 34 = .ok (.bipush 8, 2) := by decide +kernel
theorem dX12_sail_36 : decode cX12_sail 36 = .ok (.dup2, 1) := by decide +kernel
theorem dX12_sail_37 : decode cX12_sail 37 = .ok (.iaload, 1) := by decide +kernel
theorem dX12_sail_38 : decode cX12_sail 38 = .ok (.iload_n 2, 1) := by decide +kernel
theorem dX12_sail_39 : decode cX12_sail 39 = .ok (.iadd, 1) := by decide +kernel
theorem dX12_sail_40 : decode cX12_sail 40 = .ok (.iastore, 1) := by decide +kernel
theorem dX12_sail_41 : decode cX12_sail 41 = .ok (.iconst 1, 1) := by decide +kernel
theorem dX12_sail_42 : decode cX12_sail 42 = .ok (.ireturn, 1) := by decide +kernel
theorem dX12_sail_20 : decode cX12_sail 20 = .ok (.iconst 0, 1) := by decide +kernel
theorem dX12_sail_21 : decode cX12_sail 21 = .ok (.ireturn, 1) := by decide +kernel
theorem dX12_level_0 : decode cX12_level 0 = .ok (.iload_n 1, 1) := by decide +kernel
theorem dX12_level_1 : decode cX12_level 1 = .ok (.invokestatic 70, 3) := by decide +kernel
theorem dX12_level_4 : decode cX12_level 4 = .ok (.ifCond .eq 40, 3) := by decide +kernel
theorem dX12_level_7 : decode cX12_level 7 = .ok (.iload_n 2, 1) := by decide +kernel
theorem dX12_level_8 : decode cX12_level 8 = .ok (.invokestatic 73, 3) := by decide +kernel
theorem dX12_level_11 : decode cX12_level 11 = .ok (.ifCond .eq 33, 3) := by decide +kernel
theorem dX12_level_14 : decode cX12_level 14 = .ok (.iload_n 3, 1) := by decide +kernel
theorem dX12_level_15 : decode cX12_level 15 = .ok (.ifCond .eq 17, 3) := by decide +kernel
theorem dX12_level_32 : decode cX12_level 32 = .ok (.aload_n 0, 1) := by decide +kernel
theorem dX12_level_33 : decode cX12_level 33 = .ok (.getfield 7, 3) := by decide +kernel
theorem dX12_level_36 : decode cX12_level 36 = .ok (.iconst 3, 1) := by decide +kernel
theorem dX12_level_37 : decode cX12_level 37 = .ok (.iaload, 1) := by decide +kernel
theorem dX12_level_38 : decode cX12_level 38 = .ok (.sipush 200, 3) := by decide +kernel
theorem dX12_level_41 : decode cX12_level 41 = .ok (.if_icmp .ne 5, 3) := by decide +kernel
theorem dX12_level_46 : decode cX12_level 46 = .ok (.sipush 1220, 3) := by decide +kernel
theorem dX12_level_49 : decode cX12_level 49 = .ok (.iconst 5, 1) := by decide +kernel
theorem dX12_level_50 : decode cX12_level 50 = .ok (.aload_n 0, 1) := by decide +kernel
theorem dX12_level_51 : decode cX12_level 51 = .ok (.getfield 7, 3) := by decide +kernel
theorem dX12_level_54 : decode cX12_level 54 = .ok (.iconst 3, 1) := by decide +kernel
theorem dX12_level_55 : decode cX12_level 55 = .ok (.iaload, 1) := by decide +kernel
theorem dX12_level_56 : decode cX12_level 56 = .ok (.imul, 1) := by decide +kernel
theorem dX12_level_57 : decode cX12_level 57 = .ok (.iadd, 1) := by decide +kernel
theorem dX12_level_58 : decode cX12_level 58 = .ok (.istore 5, 2) := by decide +kernel
theorem dX12_level_60 : decode cX12_level 60 = .ok (.aload_n 0, 1) := by decide +kernel
theorem dX12_level_61 : decode cX12_level 61 = .ok (.getfield 7, 3) := by decide +kernel
theorem dX12_level_64 : decode cX12_level 64 = .ok (.iload 5, 2) := by decide +kernel
theorem dX12_level_66 : decode cX12_level 66 = .ok (.iload_n 1, 1) := by decide +kernel
theorem dX12_level_67 : decode cX12_level 67 = .ok (.iastore, 1) := by decide +kernel
theorem dX12_level_68 : decode cX12_level 68 = .ok (.aload_n 0, 1) := by decide +kernel
theorem dX12_level_69 : decode cX12_level 69 = .ok (.getfield 7, 3) := by decide +kernel
theorem dX12_level_72 : decode cX12_level 72 = .ok (.iload 5, 2) := by decide +kernel
theorem dX12_level_74 : decode cX12_level 74 = .ok (.iconst 1, 1) := by decide +kernel
theorem dX12_level_75 : decode cX12_level 75 = .ok (.iadd, 1) := by decide +kernel
theorem dX12_level_76 : decode cX12_level 76 = .ok (.iload_n 2, 1) := by decide +kernel
theorem dX12_level_77 : decode cX12_level 77 = .ok (.iastore, 1) := by decide +kernel
theorem dX12_level_78 : decode cX12_level 78 = .ok (.aload_n 0, 1) := by decide +kernel
theorem dX12_level_79 : decode cX12_level 79 = .ok (.getfield 7, 3) := by decide +kernel
theorem dX12_level_82 : decode cX12_level 82 = .ok (.iload 5, 2) := by decide +kernel
theorem dX12_level_84 : decode cX12_level 84 = .ok (.iconst 2, 1) := by decide +kernel
theorem dX12_level_85 : decode cX12_level 85 = .ok (.iadd, 1) := by decide +kernel
theorem dX12_level_86 : decode cX12_level 86 = .ok (.iload_n 3, 1) := by decide +kernel
theorem dX12_level_87 : decode cX12_level 87 = .ok (.ifCond .eq 7, 3) := by decide +kernel
theorem dX12_level_94 : decode cX12_level 94 = .ok (.iconst 0, 1) := by decide +kernel
theorem dX12_level_95 : decode cX12_level 95 = .ok (.iastore, 1) := by decide +kernel
theorem dX12_level_96 : decode cX12_level 96 = .ok (.aload_n 0, 1) := by decide +kernel
theorem dX12_level_97 : decode cX12_level 97 = .ok (.getfield 7, 3) := by decide +kernel
theorem dX12_level_100 : decode cX12_level 100 = .ok (.iload 5, 2) := by decide +kernel
theorem dX12_level_102 : decode cX12_level 102 = .ok (.iconst 3, 1) := by decide +kernel
theorem dX12_level_103 : decode cX12_level 103 = .ok (.iadd, 1) := by decide +kernel
theorem dX12_level_104 : decode cX12_level 104 = .ok (.iload_n 3, 1) := by decide +kernel
theorem dX12_level_105 : decode cX12_level 105 = .ok (.ifCond .eq 8, 3) := by decide +kernel
theorem dX12_level_113 : decode cX12_level 113 = .ok (.iconst 0, 1) := by decide +kernel
theorem dX12_level_114 : decode cX12_level 114 = .ok (.iastore, 1) := by decide +kernel
theorem dX12_level_115 : decode cX12_level 115 = .ok (.aload_n 0, 1) := by decide +kernel
theorem dX12_level_116 : decode cX12_level 116 = .ok (.getfield 7, 3) := by decide +kernel
theorem dX12_level_119 : decode cX12_level 119 = .ok (.iload 5, 2) := by decide +kernel
theorem dX12_level_121 : decode cX12_level 121 = .ok (.iconst 4, 1) := by decide +kernel
theorem dX12_level_122 : decode cX12_level 122 = .ok (.iadd, 1) := by decide +kernel
theorem dX12_level_123 : decode cX12_level 123 = .ok (.aload_n 0, 1) := by decide +kernel
theorem dX12_level_124 : decode cX12_level 124 = .ok (.getfield 7, 3) := by decide +kernel
theorem dX12_level_127 : decode cX12_level 127 = .ok (.iconst 0, 1) := by decide +kernel
theorem dX12_level_128 : decode cX12_level 128 = .ok (.iaload, 1) := by decide +kernel
theorem dX12_level_129 : decode cX12_level 129 = .ok (.iastore, 1) := by decide +kernel
theorem dX12_level_130 : decode cX12_level 130 = .ok (.aload_n 0, 1) := by decide +kernel
theorem dX12_level_131 : decode cX12_level 131 = .ok (.getfield 7, 3) := by decide +kernel
theorem dX12_level_134 : decode cX12_level 134 = .ok (.iconst 3, 1) := by decide +kernel
theorem dX12_level_135 : decode cX12_level 135 = .ok (.dup2, 1) := by decide +kernel
theorem dX12_level_136 : decode cX12_level 136 = .ok (.iaload, 1) := by decide +kernel
theorem dX12_level_137 : decode cX12_level 137 = .ok (.iconst 1, 1) := by decide +kernel
theorem dX12_level_138 : decode cX12_level 138 = .ok (.iadd, 1) := by decide +kernel
theorem dX12_level_139 : decode cX12_level 139 = .ok (.iastore, 1) := by decide +kernel
theorem dX12_level_140 : decode cX12_level 140 = .ok (.aload_n 0, 1) := by decide +kernel
theorem dX12_level_141 : decode cX12_level 141 = .ok (.getfield 7, 3) := by decide +kernel
theorem dX12_level_144 : decode cX12_level 144 = .ok (.iconst 3, 1) := by decide +kernel
theorem dX12_level_145 : decode cX12_level 145 = .ok (.iaload, 1) := by decide +kernel
theorem dX12_level_146 : decode cX12_level 146 = .ok (.ireturn, 1) := by decide +kernel
theorem dX12_level_108 : decode cX12_level 108 = .ok (.iload 4, 2) := by decide +kernel
theorem dX12_level_110 : decode cX12_level 110 = .ok (.goto 4, 3) := by decide +kernel
theorem dX12_level_90 : decode cX12_level 90 = .ok (.iconst 1, 1) := by decide +kernel
theorem dX12_level_91 : decode cX12_level 91 = .ok (.goto 4, 3) := by decide +kernel
theorem dX12_level_18 : decode cX12_level 18 = .ok (.iload 4, 2) := by decide +kernel
theorem dX12_level_20 : decode cX12_level 20 = .ok (.sipush (-1000), 3) := by decide +kernel
theorem dX12_level_23 : decode cX12_level 23 = .ok (.sipush 5000, 3) := by decide +kernel
theorem dX12_level_26 : decode cX12_level 26 = .ok (.invokestatic 62, 3) := by decide +kernel
theorem dX12_level_29 : decode cX12_level 29 = .ok (.ifCond .eq 15, 3) := by decide +kernel
theorem dX12_level_44 : decode cX12_level 44 = .ok (.iconst (-1), 1) := by decide +kernel
theorem dX12_level_45 : decode cX12_level 45 = .ok (.ireturn, 1) := by decide +kernel
theorem dX12_four_0 : decode cX12_four 0 = .ok (.bipush 24, 2) := by decide +kernel
theorem dX12_four_2 : decode cX12_four 2 = .ok (.istore_n 2, 1) := by decide +kernel
theorem dX12_four_3 : decode cX12_four 3 = .ok (.iload_n 2, 1) := by decide +kernel
theorem dX12_four_4 : decode cX12_four 4 = .ok (.ifCond .lt 35, 3) := by decide +kernel
theorem dX12_four_7 : decode cX12_four 7 = .ok (.aload_n 0, 1) := by decide +kernel
theorem tw_179 : Cond.fieldLink RX12 19 "RingsUnderModel" "tape" "[I" ∈ wsL_law := List.mem_of_getElem? (i := 179) (by decide +kernel)
theorem dX12_four_8 : decode cX12_four 8 = .ok (.getfield 19, 3) := by decide +kernel
theorem dX12_four_11 : decode cX12_four 11 = .ok (.aload_n 0, 1) := by decide +kernel
theorem tw_631 : Cond.fieldLink RX12 127 "RingsUnderModel" "taped" "I" ∈ wsL_law := List.mem_of_getElem? (i := 631) (by decide +kernel)
theorem dX12_four_12 : decode cX12_four 12 = .ok (.getfield 127, 3) := by decide +kernel
theorem dX12_four_15 : decode cX12_four 15 = .ok (.iload_n 1, 1) := by decide +kernel
theorem dX12_four_16 : decode cX12_four 16 = .ok (.iload_n 2, 1) := by decide +kernel
theorem dX12_four_17 : decode cX12_four 17 = .ok (.ishr, 1) := by decide +kernel
theorem dX12_four_18 : decode cX12_four 18 = .ok (.sipush 255, 3) := by decide +kernel
theorem dX12_four_21 : decode cX12_four 21 = .ok (.iand, 1) := by decide +kernel
theorem dX12_four_22 : decode cX12_four 22 = .ok (.iastore, 1) := by decide +kernel
theorem dX12_four_23 : decode cX12_four 23 = .ok (.aload_n 0, 1) := by decide +kernel
theorem dX12_four_24 : decode cX12_four 24 = .ok (.dup, 1) := by decide +kernel
theorem dX12_four_25 : decode cX12_four 25 = .ok (.getfield 127, 3) := by decide +kernel
theorem dX12_four_28 : decode cX12_four 28 = .ok (.iconst 1, 1) := by decide +kernel
theorem dX12_four_29 : decode cX12_four 29 = .ok (.iadd, 1) := by decide +kernel
theorem dX12_four_30 : decode cX12_four 30 = .ok (.putfield 127, 3) := by decide +kernel
theorem dX12_four_33 : decode cX12_four 33 = .ok (.iinc 2 (-8), 3) := by decide +kernel
theorem dX12_four_36 : decode cX12_four 36 = .ok (.goto (-33), 3) := by decide +kernel
theorem dX12_four_39 : decode cX12_four 39 = .ok (.return_, 1) := by decide +kernel
theorem dX12_feed_0 : decode cX12_feed 0 = .ok (.aload_n 0, 1) := by decide +kernel
theorem dX12_feed_1 : decode cX12_feed 1 = .ok (.getfield 127, 3) := by decide +kernel
theorem dX12_feed_4 : decode cX12_feed 4 = .ok (.bipush 20, 2) := by decide +kernel
theorem dX12_feed_6 : decode cX12_feed 6 = .ok (.iadd, 1) := by decide +kernel
theorem dX12_feed_7 : decode cX12_feed 7 = .ok (.sipush 300, 3) := by decide +kernel
theorem dX12_feed_10 : decode cX12_feed 10 = .ok (.if_icmp .le 5, 3) := by decide +kernel
theorem dX12_feed_15 : decode cX12_feed 15 = .ok (.aload_n 0, 1) := by decide +kernel
theorem dX12_feed_16 : decode cX12_feed 16 = .ok (.iload_n 1, 1) := by decide +kernel
theorem tw_632 : Cond.methodLink RX12 130 yX12_four ∈ wsL_law := List.mem_of_getElem? (i := 632) (by decide +kernel)
theorem tw_633 : Cond.instanceMethod yX12_four ∈ wsL_law := List.mem_of_getElem? (i := 633) (by decide +kernel)
theorem tw_634 : Cond.selects RX12 yX12_four yX12_four ∈ wsL_law := List.mem_of_getElem? (i := 634) (by decide +kernel)
theorem tw_635 : Cond.code yX12_four cX12_four 3 none ∈ wsL_law := List.mem_of_getElem? (i := 635) (by decide +kernel)
theorem dX12_feed_17 : decode cX12_feed 17 = .ok (.invokevirtual 130, 3) := by decide +kernel
theorem dX12_feed_20 : decode cX12_feed 20 = .ok (.aload_n 0, 1) := by decide +kernel
theorem dX12_feed_21 : decode cX12_feed 21 = .ok (.iload_n 2, 1) := by decide +kernel
theorem dX12_feed_22 : decode cX12_feed 22 = .ok (.invokevirtual 130, 3) := by decide +kernel
theorem dX12_feed_25 : decode cX12_feed 25 = .ok (.aload_n 0, 1) := by decide +kernel
theorem dX12_feed_26 : decode cX12_feed 26 = .ok (.iload_n 3, 1) := by decide +kernel
theorem dX12_feed_27 : decode cX12_feed 27 = .ok (.invokevirtual 130, 3) := by decide +kernel
theorem dX12_feed_30 : decode cX12_feed 30 = .ok (.aload_n 0, 1) := by decide +kernel
theorem dX12_feed_31 : decode cX12_feed 31 = .ok (.iload 4, 2) := by decide +kernel
theorem dX12_feed_33 : decode cX12_feed 33 = .ok (.invokevirtual 130, 3) := by decide +kernel
theorem dX12_feed_36 : decode cX12_feed 36 = .ok (.aload_n 0, 1) := by decide +kernel
theorem dX12_feed_37 : decode cX12_feed 37 = .ok (.iload 5, 2) := by decide +kernel
theorem dX12_feed_39 : decode cX12_feed 39 = .ok (.invokevirtual 130, 3) := by decide +kernel
theorem dX12_feed_42 : decode cX12_feed 42 = .ok (.aload_n 0, 1) := by decide +kernel
theorem dX12_feed_43 : decode cX12_feed 43 = .ok (.getfield 127, 3) := by decide +kernel
theorem dX12_feed_46 : decode cX12_feed 46 = .ok (.ireturn, 1) := by decide +kernel
theorem dX12_end_0 : decode cX12_end 0 = .ok (.iload_n 1, 1) := by decide +kernel
theorem dX12_end_1 : decode cX12_end 1 = .ok (.iconst 0, 1) := by decide +kernel
theorem dX12_end_2 : decode cX12_end 2 = .ok (.aload_n 0, 1) := by decide +kernel
theorem dX12_end_3 : decode cX12_end 3 = .ok (.getfield 127, 3) := by decide +kernel
theorem dX12_end_6 : decode cX12_end 6 = .ok (.invokestatic 62, 3) := by decide +kernel
theorem dX12_end_9 : decode cX12_end 9 = .ok (.ifCond .ne 5, 3) := by decide +kernel
theorem dX12_end_14 : decode cX12_end 14 = .ok (.aload_n 0, 1) := by decide +kernel
theorem dX12_end_15 : decode cX12_end 15 = .ok (.iload_n 1, 1) := by decide +kernel
theorem dX12_end_16 : decode cX12_end 16 = .ok (.putfield 127, 3) := by decide +kernel
theorem dX12_end_19 : decode cX12_end 19 = .ok (.iload_n 1, 1) := by decide +kernel
theorem dX12_end_20 : decode cX12_end 20 = .ok (.ireturn, 1) := by decide +kernel
theorem dX12_end_12 : decode cX12_end 12 = .ok (.iconst (-1), 1) := by decide +kernel
theorem dX12_end_13 : decode cX12_end 13 = .ok (.ireturn, 1) := by decide +kernel
theorem dX12_says_0 : decode cX12_says 0 = .ok (.iload_n 1, 1) := by decide +kernel
theorem dX12_says_1 : decode cX12_says 1 = .ok (.invokestatic 73, 3) := by decide +kernel
theorem dX12_says_4 : decode cX12_says 4 = .ok (.ifCond .ne 5, 3) := by decide +kernel
theorem dX12_says_9 : decode cX12_says 9 = .ok (.iload_n 2, 1) := by decide +kernel
theorem dX12_says_10 : decode cX12_says 10 = .ok (.ifCond .ne 15, 3) := by decide +kernel
theorem dX12_says_25 : decode cX12_says 25 = .ok (.iload_n 2, 1) := by decide +kernel
theorem dX12_says_26 : decode cX12_says 26 = .ok (.iconst 1, 1) := by decide +kernel
theorem dX12_says_27 : decode cX12_says 27 = .ok (.if_icmp .ne 15, 3) := by decide +kernel
theorem dX12_says_42 : decode cX12_says 42 = .ok (.iload_n 2, 1) := by decide +kernel
theorem dX12_says_43 : decode cX12_says 43 = .ok (.iconst 2, 1) := by decide +kernel
theorem dX12_says_44 : decode cX12_says 44 = .ok (.if_icmp .ne 14, 3) := by decide +kernel
theorem dX12_says_58 : decode cX12_says 58 = .ok (.iconst (-1), 1) := by decide +kernel
theorem dX12_says_59 : decode cX12_says 59 = .ok (.ireturn, 1) := by decide +kernel
theorem dX12_says_47 : decode cX12_says 47 = .ok (.aload_n 0, 1) := by decide +kernel
theorem dX12_says_48 : decode cX12_says 48 = .ok (.bipush 8, 2) := by decide +kernel
theorem dX12_says_50 : decode cX12_says 50 = .ok (.iload_n 1, 1) := by decide +kernel
theorem dX12_says_51 : decode cX12_says 51 = .ok (.iconst (-1), 1) := by decide +kernel
theorem dX12_says_52 : decode cX12_says 52 = .ok (.invokevirtual 304, 3) := by decide +kernel
theorem dX12_says_55 : decode cX12_says 55 = .ok (.goto 4, 3) := by decide +kernel
theorem dX12_says_30 : decode cX12_says 30 = .ok (.aload_n 0, 1) := by decide +kernel
theorem dX12_says_31 : decode cX12_says 31 = .ok (.bipush 9, 2) := by decide +kernel
theorem dX12_says_33 : decode cX12_says 33 = .ok (.iload_n 1, 1) := by decide +kernel
theorem dX12_says_34 : decode cX12_says 34 = .ok (.bipush 10, 2) := by decide +kernel
theorem dX12_says_36 : decode cX12_says 36 = .ok (.invokevirtual 304, 3) := by decide +kernel
theorem dX12_says_39 : decode cX12_says 39 = .ok (.goto 20, 3) := by decide +kernel
theorem dX12_says_13 : decode cX12_says 13 = .ok (.aload_n 0, 1) := by decide +kernel
theorem dX12_says_14 : decode cX12_says 14 = .ok (.bipush 7, 2) := by decide +kernel
theorem dX12_says_16 : decode cX12_says 16 = .ok (.iload_n 1, 1) := by decide +kernel
theorem dX12_says_17 : decode cX12_says 17 = .ok (.bipush 50, 2) := by decide +kernel
theorem dX12_says_19 : decode cX12_says 19 = .ok (.invokevirtual 304, 3) := by decide +kernel
theorem dX12_says_22 : decode cX12_says 22 = .ok (.goto 37, 3) := by decide +kernel
theorem dX12_says_7 : decode cX12_says 7 = .ok (.iconst (-1), 1) := by decide +kernel
theorem dX12_says_8 : decode cX12_says 8 = .ok (.ireturn, 1) := by decide +kernel
theorem dX12_isPlace_0 : decode cX12_isPlace 0 = .ok (.aload_n 0, 1) := by decide +kernel
theorem dX12_isPlace_1 : decode cX12_isPlace 1 = .ok (.iload_n 1, 1) := by decide +kernel
theorem dX12_isPlace_2 : decode cX12_isPlace 2 = .ok (.invokevirtual 66, 3) := by decide +kernel
theorem dX12_isPlace_5 : decode cX12_isPlace 5 = .ok (.ifCond .ne 18, 3) := by decide +kernel
theorem dX12_isPlace_8 : decode cX12_isPlace 8 = .ok (.aload_n 0, 1) := by decide +kernel
theorem dX12_isPlace_9 : decode cX12_isPlace 9 = .ok (.iload_n 1, 1) := by decide +kernel
theorem tw_433 : Cond.methodLink RX12 101 yX12_isLot ∈ wsL_law := List.mem_of_getElem? (i := 433) (by decide +kernel)
theorem tw_434 : Cond.instanceMethod yX12_isLot ∈ wsL_law := List.mem_of_getElem? (i := 434) (by decide +kernel)
theorem tw_435 : Cond.selects RX12 yX12_isLot yX12_isLot ∈ wsL_law := List.mem_of_getElem? (i := 435) (by decide +kernel)
theorem tw_436 : Cond.code yX12_isLot cX12_isLot 2 (some .boolean) ∈ wsL_law := List.mem_of_getElem? (i := 436) (by decide +kernel)
theorem dX12_isPlace_10 : decode cX12_isPlace 10 = .ok (.invokevirtual 101, 3) := by decide +kernel
theorem dX12_isPlace_13 : decode cX12_isPlace 13 = .ok (.ifCond .ne 10, 3) := by decide +kernel
theorem dX12_isPlace_16 : decode cX12_isPlace 16 = .ok (.iload_n 1, 1) := by decide +kernel
theorem dX12_isPlace_17 : decode cX12_isPlace 17 = .ok (.sipush 200, 3) := by decide +kernel
theorem dX12_isPlace_20 : decode cX12_isPlace 20 = .ok (.if_icmp .ne 7, 3) := by decide +kernel
theorem dX12_isPlace_27 : decode cX12_isPlace 27 = .ok (.iconst 0, 1) := by decide +kernel
theorem dX12_isPlace_28 : decode cX12_isPlace 28 = .ok (.ireturn, 1) := by decide +kernel
theorem dX12_isPlace_23 : decode cX12_isPlace 23 = .ok (.iconst 1, 1) := by decide +kernel
theorem dX12_isPlace_24 : decode cX12_isPlace 24 = .ok (.goto 4, 3) := by decide +kernel
theorem dX12_at_0 : decode cX12_at 0 = .ok (.aload_n 0, 1) := by decide +kernel
theorem dX12_at_1 : decode cX12_at 1 = .ok (.iload_n 1, 1) := by decide +kernel
theorem tw_429 : Cond.methodLink RX12 107 yX12_isPlace ∈ wsL_law := List.mem_of_getElem? (i := 429) (by decide +kernel)
theorem tw_430 : Cond.instanceMethod yX12_isPlace ∈ wsL_law := List.mem_of_getElem? (i := 430) (by decide +kernel)
theorem tw_431 : Cond.selects RX12 yX12_isPlace yX12_isPlace ∈ wsL_law := List.mem_of_getElem? (i := 431) (by decide +kernel)
theorem tw_432 : Cond.code yX12_isPlace cX12_isPlace 2 (some .boolean) ∈ wsL_law := List.mem_of_getElem? (i := 432) (by decide +kernel)
theorem dX12_at_2 : decode cX12_at 2 = .ok (.invokevirtual 107, 3) := by decide +kernel
theorem dX12_at_5 : decode cX12_at 5 = .ok (.ifCond .ne 10, 3) := by decide +kernel
theorem dX12_at_15 : decode cX12_at 15 = .ok (.aload_n 0, 1) := by decide +kernel
theorem dX12_at_16 : decode cX12_at 16 = .ok (.iload_n 1, 1) := by decide +kernel
theorem tw_445 : Cond.methodLink RX12 97 yX12_manyAt ∈ wsL_law := List.mem_of_getElem? (i := 445) (by decide +kernel)
theorem tw_446 : Cond.instanceMethod yX12_manyAt ∈ wsL_law := List.mem_of_getElem? (i := 446) (by decide +kernel)
theorem tw_447 : Cond.selects RX12 yX12_manyAt yX12_manyAt ∈ wsL_law := List.mem_of_getElem? (i := 447) (by decide +kernel)
theorem tw_448 : Cond.code yX12_manyAt cX12_manyAt 4 (some .int) ∈ wsL_law := List.mem_of_getElem? (i := 448) (by decide +kernel)
theorem dX12_at_17 : decode cX12_at 17 = .ok (.invokevirtual 97, 3) := by decide +kernel
theorem dX12_at_20 : decode cX12_at 20 = .ok (.goto 4, 3) := by decide +kernel
theorem dX12_at_24 : decode cX12_at 24 = .ok (.ireturn, 1) := by decide +kernel
theorem dX12_at_8 : decode cX12_at 8 = .ok (.iload_n 1, 1) := by decide +kernel
theorem dX12_at_9 : decode cX12_at 9 = .ok (.sipush 300, 3) := by decide +kernel
theorem dX12_at_12 : decode cX12_at 12 = .ok (.if_icmp .ne 11, 3) := by decide +kernel
theorem dX12_at_23 : decode cX12_at 23 = .ok (.iconst (-1), 1) := by decide +kernel
theorem dX12_area_0 : decode cX12_area 0 = .ok (.aload_n 0, 1) := by decide +kernel
theorem dX12_area_1 : decode cX12_area 1 = .ok (.getfield 7, 3) := by decide +kernel
theorem dX12_area_4 : decode cX12_area 4 = .ok (.iconst 0, 1) := by decide +kernel
theorem dX12_area_5 : decode cX12_area 5 = .ok (.iaload, 1) := by decide +kernel
theorem dX12_area_6 : decode cX12_area 6 = .ok (.ifCond .ne 7, 3) := by decide +kernel
theorem dX12_area_9 : decode cX12_area 9 = .ok (.iconst (-1), 1) := by decide +kernel
theorem dX12_area_10 : decode cX12_area 10 = .ok (.goto 10, 3) := by decide +kernel
theorem dX12_area_20 : decode cX12_area 20 = .ok (.ireturn, 1) := by decide +kernel
theorem dX12_fault_0 : decode cX12_fault 0 = .ok (.iload_n 1, 1) := by decide +kernel
theorem dX12_fault_1 : decode cX12_fault 1 = .ok (.ifCond .ne 10, 3) := by decide +kernel
theorem dX12_fault_11 : decode cX12_fault 11 = .ok (.iload_n 1, 1) := by decide +kernel
theorem dX12_fault_12 : decode cX12_fault 12 = .ok (.iconst 1, 1) := by decide +kernel
theorem dX12_fault_13 : decode cX12_fault 13 = .ok (.if_icmp .ne 10, 3) := by decide +kernel
theorem dX12_fault_23 : decode cX12_fault 23 = .ok (.iconst (-1), 1) := by decide +kernel
theorem dX12_fault_24 : decode cX12_fault 24 = .ok (.ireturn, 1) := by decide +kernel
theorem dX12_fault_16 : decode cX12_fault 16 = .ok (.aload_n 0, 1) := by decide +kernel
theorem tw_181 : Cond.fieldLink RX12 26 "RingsUnderModel" "faultPlace" "I" ∈ wsL_law := List.mem_of_getElem? (i := 181) (by decide +kernel)
theorem dX12_fault_17 : decode cX12_fault 17 = .ok (.getfield 26, 3) := by decide +kernel
theorem dX12_fault_20 : decode cX12_fault 20 = .ok (.goto 4, 3) := by decide +kernel
theorem dX12_fault_4 : decode cX12_fault 4 = .ok (.aload_n 0, 1) := by decide +kernel
theorem tw_180 : Cond.fieldLink RX12 22 "RingsUnderModel" "fault" "I" ∈ wsL_law := List.mem_of_getElem? (i := 180) (by decide +kernel)
theorem dX12_fault_5 : decode cX12_fault 5 = .ok (.getfield 22, 3) := by decide +kernel
theorem dX12_fault_8 : decode cX12_fault 8 = .ok (.goto 16, 3) := by decide +kernel
set_option maxHeartbeats 4000000 in
set_option maxRecDepth 100000 in
theorem c_X12_levelOf (l : Launch) (D : va_G) (t : pq_T) (σ : pq_S) (I : Nat → Nat → Int32) (J : Nat → Nat → Int64) (ri : Nat → Nat → Int32) (rj : Nat → Nat → Int64) (rq : Nat → Nat → Option Nat) (sz : Nat) (this : Nat) (ri_ : Int32) (mo : Int32) (kn : Int32) (hL_this : this ∈ σ.1) (hK_this : σ.2.1 this = 12) (this_a : Nat) (hR_this_a : σ.2.2.1 384 this = some this_a) (hL_this_a : this_a ∈ σ.1) (hK_this_a : σ.2.1 this_a = 13) (hN_this_a : σ.2.2.2 this_a = 12720) (hF : fm (ri this_a) 0) : MetI l yX12_levelOf (wa yX12_levelOf cX12_levelOf 4 (some .int)) ({ frames := 2, cells := 0, slots := 0, locals := 54 }) [.ref this, .int ri_, .int mo, .int kn] D t σ (I, J, ri, rj, rq) sz 0 0 (fun (r : Int32) (u : pq_S × pq_M) => u = (σ, I, J, ri, rj, rq) ∧ (r = sp_levelOf ri_ mo kn)) := by
  refine Met.ofW (cc := cX12_levelOf) (maxL := 4) (ret := (some .int)) (by decide) rfl ?_
  intro p e s m args below meth c s₁ B hml hv
  obtain ⟨rfl, hsz, hP, hK, hD0, hN⟩ := hv
  have hx := B.exec
  have hb := B.bytes
  have hr := B.returns
  have hts := atoms_spec (ws := (wa yX12_levelOf cX12_levelOf 4 (some .int))) B.pre
  have hown : s.vm.findClass RX12 = some m.cls := findClass_of_methodNamed B.named
  have hlocks := B.notSynchronized
  subst hsz
  have hD : va_D (pq_B t σ (I, J, ri, rj, rq) s.heap.size) (pq_P t σ (I, J, ri, rj, rq)) := hD0.self
  generalize hAe : pq_B t σ (I, J, ri, rj, rq) s.heap.size = A at hD ⊢
  have hA : ∀ q : Nat, s.heap.size ≤ q → A q := fun q h => by rw [← hAe]; exact Or.inr h
  have hS : va_S A s.heap s.heap [] := va_S.rf
  have hl := lv_entry ([.ref this, .int ri_, .int mo, .int kn]) (n := 4) (Nat.le_of_ble_eq_true rfl)
  rw [lg_entry_eq]
  generalize (lg_sl ([.ref this, .int ri_, .int mo, .int kn]) ++ List.replicate (4 - (lg_sl ([.ref this, .int ri_, .int mo, .int kn])).length) Slot.unset).toArray = ls at hl ⊢
  have hl : lv_has ls 4 [(0, .ref this), (1, .int ri_), (2, .int mo), (3, .int kn)] := hl
  refine lv_iload_n hx hb dX12_levelOf_0 rfl (lv_at hl 1 rfl) ?_
  refine pk_i (va_runS (As := [.int ri_]) (rest := []) ⟨hx, hb, hml, hown, hts⟩ (c_X12_isRise l D t σ I J ri rj rq (Array.size s.heap) ri_) (va_cwS 1 hts (tw_S tw_259 tw_260 tw_5 tw_261) rfl rfl rfl (by decide +kernel) ⟨Nat.le_of_ble_eq_true rfl, Nat.le_of_ble_eq_true rfl⟩) ⟨pq_blind, pq_pre hK hN hP hD⟩ rfl rfl hl.1 rfl (lv_room (Nat.le_of_ble_eq_true rfl)) dX12_levelOf_1 ⟨Nat.le_of_ble_eq_true rfl, Nat.le_of_ble_eq_true rfl⟩) hD hS hA (fun r_1 σ1 μ1 H locs hw_2 hP hD hS => ?_)
  obtain ⟨hu_3, hr_4⟩ := hw_2
  obtain ⟨hu_3a, hu_3b⟩ := Prod.mk.inj hu_3
  rw [hu_3a, hu_3b] at hP hD
  rcases hr_4 with ⟨rfl, hr_4_0, hr_4_1⟩ | ⟨rfl, hr_4_0⟩
  · refine lv_if_eq (tgt := 35) hx hb dX12_levelOf_4 (by decide) (fun c_5 => absurd c_5 (by decide)) (fun c_5 => ?_)
    refine lv_iload_n hx hb dX12_levelOf_7 rfl (lv_at hl 2 rfl) ?_
    refine pk_i (va_runS (As := [.int mo]) (rest := []) ⟨hx, hb, hml, hown, hts⟩ (c_X12_isMonth l D t σ I J ri rj rq H.size mo) (va_cwS 1 hts (tw_S tw_262 tw_263 tw_5 tw_264) rfl rfl rfl (by decide +kernel) ⟨Nat.le_of_ble_eq_true rfl, Nat.le_of_ble_eq_true rfl⟩) ⟨pq_blind, pq_pre hK hN hP hD⟩ rfl rfl hl.1 rfl (lv_room (Nat.le_of_ble_eq_true rfl)) dX12_levelOf_8 ⟨Nat.le_of_ble_eq_true rfl, Nat.le_of_ble_eq_true rfl⟩) hD hS hA (fun r_6 σ1 μ1 H locs hw_7 hP hD hS => ?_)
    obtain ⟨hu_8, hr_9⟩ := hw_7
    obtain ⟨hu_8a, hu_8b⟩ := Prod.mk.inj hu_8
    rw [hu_8a, hu_8b] at hP hD
    rcases hr_9 with ⟨rfl, hr_9_0, hr_9_1⟩ | ⟨rfl, hr_9_0⟩
    · refine lv_if_eq (tgt := 35) hx hb dX12_levelOf_11 (by decide) (fun c_10 => absurd c_10 (by decide)) (fun c_10 => ?_)
      refine lv_iload_n hx hb dX12_levelOf_14 rfl (lv_at hl 3 rfl) ?_
      refine lv_iconst (v := 0) hx hb dX12_levelOf_15 (by decide) ?_
      refine lv_sipush (v := 600) hx hb dX12_levelOf_16 (by decide) ?_
      refine pk_i (va_runS (As := [.int kn, .int 0, .int 600]) (rest := []) ⟨hx, hb, hml, hown, hts⟩ (c_X12_isIn l D t σ I J ri rj rq H.size kn (0 : Int32) (600 : Int32)) (va_cwS 3 hts (tw_S tw_235 tw_236 tw_5 tw_237) rfl rfl rfl (by decide +kernel) ⟨Nat.le_of_ble_eq_true rfl, Nat.le_of_ble_eq_true rfl⟩) ⟨pq_blind, pq_pre hK hN hP hD⟩ rfl rfl hl.1 rfl (lv_room (Nat.le_of_ble_eq_true rfl)) dX12_levelOf_19 ⟨Nat.le_of_ble_eq_true rfl, Nat.le_of_ble_eq_true rfl⟩) hD hS hA (fun r_11 σ1 μ1 H locs hw_12 hP hD hS => ?_)
      obtain ⟨hu_13, hr_14⟩ := hw_12
      obtain ⟨hu_13a, hu_13b⟩ := Prod.mk.inj hu_13
      rw [hu_13a, hu_13b] at hP hD
      rcases hr_14 with ⟨rfl, hr_14_0, hr_14_1⟩ | ⟨rfl, hr_14_0⟩
      · refine lv_if_eq (tgt := 35) hx hb dX12_levelOf_22 (by decide) (fun c_15 => absurd c_15 (by decide)) (fun c_15 => ?_)
        refine lv_aload_n hx hb dX12_levelOf_25 rfl (lv_at hl 0 rfl) ?_
        refine lv_iload_n hx hb dX12_levelOf_26 rfl (lv_at hl 1 rfl) ?_
        refine lv_iload_n hx hb dX12_levelOf_27 rfl (lv_at hl 2 rfl) ?_
        refine lv_iload_n hx hb dX12_levelOf_28 rfl (lv_at hl 3 rfl) ?_
        refine pk_i (va_runV (As := [.int ri_, .int mo, .int kn]) (rest := []) ⟨hx, hb, hml, hown, hts⟩ (c_X12_levelAt l D t σ I J ri rj rq H.size this ri_ mo kn hL_this hK_this this_a hR_this_a hL_this_a hK_this_a hN_this_a 0 (by decide) hF) (cwV 3 hts (tw_V tw_289 tw_290 tw_291 tw_5 tw_292) rfl rfl rfl (by decide +kernel) ⟨Nat.le_of_ble_eq_true rfl, Nat.le_of_ble_eq_true rfl⟩) ⟨pq_blind, pq_recv hK hP hL_this hK_this (by decide) rfl, pq_pre hK hN hP hD⟩ rfl rfl hl.1 rfl (lv_room (Nat.le_of_ble_eq_true rfl)) dX12_levelOf_29 ⟨Nat.le_of_ble_eq_true rfl, Nat.le_of_ble_eq_true rfl⟩) hD hS hA (fun r_16 σ1 μ1 H locs hw_17 hP hD hS => ?_)
        obtain ⟨hu_18, hr_19⟩ := hw_17
        obtain ⟨hu_18a, hu_18b⟩ := Prod.mk.inj hu_18
        rw [hu_18a, hu_18b] at hP hD
        subst hr_19
        refine lv_goto (tgt := 37) hx hb dX12_levelOf_32 (by decide) ?_
        exact W.iret (v := 0) hx hb hr (fun t1 ht hW => ⟨⟨0, (σ, I, J, ri, rj, rq), rfl, ⟨rfl, (by unfold sp_levelOf; rw [if_pos (show _ from ⟨⟨hr_4_0, hr_4_1⟩, ⟨⟨hr_9_0, hr_9_1⟩, ⟨hr_14_0, hr_14_1⟩⟩⟩)])⟩, by rw [ht]; exact hP, va_K.moved hW.alike hK, hD⟩, hS.F ht⟩) hS.2.2 dX12_levelOf_37
      · refine lv_if_eq (tgt := 35) hx hb dX12_levelOf_22 (by decide) (fun c_20 => ?_) (fun c_20 => absurd c_20 (by decide))
        refine lv_ldc hx hb hown (hts _ (tw_c tw_288)) dX12_levelOf_35 ?_
        exact W.iret (v := (-1000000)) hx hb hr (fun t1 ht hW => ⟨⟨(-1000000), (σ, I, J, ri, rj, rq), rfl, ⟨rfl, (by unfold sp_levelOf; rw [if_neg (fun q => hr_14_0 q.2.2)])⟩, by rw [ht]; exact hP, va_K.moved hW.alike hK, hD⟩, hS.F ht⟩) hS.2.2 dX12_levelOf_37
    · refine lv_if_eq (tgt := 35) hx hb dX12_levelOf_11 (by decide) (fun c_21 => ?_) (fun c_21 => absurd c_21 (by decide))
      refine lv_ldc hx hb hown (hts _ (tw_c tw_288)) dX12_levelOf_35 ?_
      exact W.iret (v := (-1000000)) hx hb hr (fun t1 ht hW => ⟨⟨(-1000000), (σ, I, J, ri, rj, rq), rfl, ⟨rfl, (by unfold sp_levelOf; rw [if_neg (fun q => hr_9_0 q.2.1)])⟩, by rw [ht]; exact hP, va_K.moved hW.alike hK, hD⟩, hS.F ht⟩) hS.2.2 dX12_levelOf_37
  · refine lv_if_eq (tgt := 35) hx hb dX12_levelOf_4 (by decide) (fun c_22 => ?_) (fun c_22 => absurd c_22 (by decide))
    refine lv_ldc hx hb hown (hts _ (tw_c tw_288)) dX12_levelOf_35 ?_
    exact W.iret (v := (-1000000)) hx hb hr (fun t1 ht hW => ⟨⟨(-1000000), (σ, I, J, ri, rj, rq), rfl, ⟨rfl, (by unfold sp_levelOf; rw [if_neg (fun q => hr_4_0 q.1)])⟩, by rw [ht]; exact hP, va_K.moved hW.alike hK, hD⟩, hS.F ht⟩) hS.2.2 dX12_levelOf_37

set_option maxHeartbeats 4000000 in
set_option maxRecDepth 100000 in
theorem c_X12_table (l : Launch) (D : va_G) (t : pq_T) (σ : pq_S) (I : Nat → Nat → Int32) (J : Nat → Nat → Int64) (ri : Nat → Nat → Int32) (rj : Nat → Nat → Int64) (rq : Nat → Nat → Option Nat) (sz : Nat) (this : Nat) (pl : Int32) (lo : Int32) (hi : Int32) (wm : Int32) (dr : Int32) (ra : Int32) (hL_this : this ∈ σ.1) (hK_this : σ.2.1 this = 12) (this_a : Nat) (hR_this_a : σ.2.2.1 384 this = some this_a) (hL_this_a : this_a ∈ σ.1) (hK_this_a : σ.2.1 this_a = 13) (hN_this_a : σ.2.2.2 this_a = 12720) (hF : fm (ri this_a) 0) : MetI l yX12_table (wa yX12_table cX12_table 8 (some .boolean)) ({ frames := 1, cells := 0, slots := 0, locals := 22 }) [.ref this, .int pl, .int lo, .int hi, .int wm, .int dr, .int ra] D t σ (I, J, ri, rj, rq) sz 0 0 (fun (r : Int32) (u : pq_S × pq_M) => ∃ ri' : Nat → Nat → Int32, u = (σ, I, J, ri', rj, rq) ∧ (r = sp_table pl lo hi wm dr ra)) := by
  refine Met.ofW (cc := cX12_table) (maxL := 8) (ret := (some .boolean)) (by decide) rfl ?_
  intro p e s m args below meth c s₁ B hml hv
  obtain ⟨rfl, hsz, hP, hK, hD0, hN⟩ := hv
  have hx := B.exec
  have hb := B.bytes
  have hr := B.returns
  have hts := atoms_spec (ws := (wa yX12_table cX12_table 8 (some .boolean))) B.pre
  have hown : s.vm.findClass RX12 = some m.cls := findClass_of_methodNamed B.named
  have hlocks := B.notSynchronized
  subst hsz
  have hD : va_D (pq_B t σ (I, J, ri, rj, rq) s.heap.size) (pq_P t σ (I, J, ri, rj, rq)) := hD0.self
  generalize hAe : pq_B t σ (I, J, ri, rj, rq) s.heap.size = A at hD ⊢
  have hA : ∀ q : Nat, s.heap.size ≤ q → A q := fun q h => by rw [← hAe]; exact Or.inr h
  have hS : va_S A s.heap s.heap [] := va_S.rf
  have hl := lv_entry ([.ref this, .int pl, .int lo, .int hi, .int wm, .int dr, .int ra]) (n := 8) (Nat.le_of_ble_eq_true rfl)
  rw [lg_entry_eq]
  generalize (lg_sl ([.ref this, .int pl, .int lo, .int hi, .int wm, .int dr, .int ra]) ++ List.replicate (8 - (lg_sl ([.ref this, .int pl, .int lo, .int hi, .int wm, .int dr, .int ra])).length) Slot.unset).toArray = ls at hl ⊢
  have hl : lv_has ls 8 [(0, .ref this), (1, .int pl), (2, .int lo), (3, .int hi), (4, .int wm), (5, .int dr), (6, .int ra)] := hl
  refine lv_iload_n hx hb dX12_table_0 rfl (lv_at hl 1 rfl) ?_
  refine lv_iconst (v := 0) hx hb dX12_table_1 (by decide) ?_
  refine lv_bipush (v := 11) hx hb dX12_table_2 (by decide) ?_
  refine pk_i (va_runS (As := [.int pl, .int 0, .int 11]) (rest := []) ⟨hx, hb, hml, hown, hts⟩ (c_X12_isIn l D t σ I J ri rj rq (Array.size s.heap) pl (0 : Int32) (11 : Int32)) (va_cwS 3 hts (tw_S tw_235 tw_236 tw_5 tw_237) rfl rfl rfl (by decide +kernel) ⟨Nat.le_of_ble_eq_true rfl, Nat.le_of_ble_eq_true rfl⟩) ⟨pq_blind, pq_pre hK hN hP hD⟩ rfl rfl hl.1 rfl (lv_room (Nat.le_of_ble_eq_true rfl)) dX12_table_4 ⟨Nat.le_of_ble_eq_true rfl, Nat.le_of_ble_eq_true rfl⟩) hD hS hA (fun r_1 σ1 μ1 H locs hw_2 hP hD hS => ?_)
  obtain ⟨hu_3, hr_4⟩ := hw_2
  obtain ⟨hu_3a, hu_3b⟩ := Prod.mk.inj hu_3
  rw [hu_3a, hu_3b] at hP hD
  rcases hr_4 with ⟨rfl, hr_4_0, hr_4_1⟩ | ⟨rfl, hr_4_0⟩
  · refine lv_if_eq (tgt := 65) hx hb dX12_table_7 (by decide) (fun c_5 => absurd c_5 (by decide)) (fun c_5 => ?_)
    refine lv_iload_n hx hb dX12_table_10 rfl (lv_at hl 2 rfl) ?_
    refine lv_iconst (v := 0) hx hb dX12_table_11 (by decide) ?_
    refine lv_sipush (v := 2000) hx hb dX12_table_12 (by decide) ?_
    refine pk_i (va_runS (As := [.int lo, .int 0, .int 2000]) (rest := []) ⟨hx, hb, hml, hown, hts⟩ (c_X12_isIn l D t σ I J ri rj rq H.size lo (0 : Int32) (2000 : Int32)) (va_cwS 3 hts (tw_S tw_235 tw_236 tw_5 tw_237) rfl rfl rfl (by decide +kernel) ⟨Nat.le_of_ble_eq_true rfl, Nat.le_of_ble_eq_true rfl⟩) ⟨pq_blind, pq_pre hK hN hP hD⟩ rfl rfl hl.1 rfl (lv_room (Nat.le_of_ble_eq_true rfl)) dX12_table_15 ⟨Nat.le_of_ble_eq_true rfl, Nat.le_of_ble_eq_true rfl⟩) hD hS hA (fun r_6 σ1 μ1 H locs hw_7 hP hD hS => ?_)
    obtain ⟨hu_8, hr_9⟩ := hw_7
    obtain ⟨hu_8a, hu_8b⟩ := Prod.mk.inj hu_8
    rw [hu_8a, hu_8b] at hP hD
    rcases hr_9 with ⟨rfl, hr_9_0, hr_9_1⟩ | ⟨rfl, hr_9_0⟩
    · refine lv_if_eq (tgt := 65) hx hb dX12_table_18 (by decide) (fun c_10 => absurd c_10 (by decide)) (fun c_10 => ?_)
      refine lv_iload_n hx hb dX12_table_21 rfl (lv_at hl 3 rfl) ?_
      refine lv_iload_n hx hb dX12_table_22 rfl (lv_at hl 2 rfl) ?_
      refine lv_sipush (v := 2000) hx hb dX12_table_23 (by decide) ?_
      refine pk_i (va_runS (As := [.int hi, .int lo, .int 2000]) (rest := []) ⟨hx, hb, hml, hown, hts⟩ (c_X12_isIn l D t σ I J ri rj rq H.size hi lo (2000 : Int32)) (va_cwS 3 hts (tw_S tw_235 tw_236 tw_5 tw_237) rfl rfl rfl (by decide +kernel) ⟨Nat.le_of_ble_eq_true rfl, Nat.le_of_ble_eq_true rfl⟩) ⟨pq_blind, pq_pre hK hN hP hD⟩ rfl rfl hl.1 rfl (lv_room (Nat.le_of_ble_eq_true rfl)) dX12_table_26 ⟨Nat.le_of_ble_eq_true rfl, Nat.le_of_ble_eq_true rfl⟩) hD hS hA (fun r_11 σ1 μ1 H locs hw_12 hP hD hS => ?_)
      obtain ⟨hu_13, hr_14⟩ := hw_12
      obtain ⟨hu_13a, hu_13b⟩ := Prod.mk.inj hu_13
      rw [hu_13a, hu_13b] at hP hD
      rcases hr_14 with ⟨rfl, hr_14_0, hr_14_1⟩ | ⟨rfl, hr_14_0⟩
      · refine lv_if_eq (tgt := 65) hx hb dX12_table_29 (by decide) (fun c_15 => absurd c_15 (by decide)) (fun c_15 => ?_)
        refine lv_iload hx hb dX12_table_32 (lv_at hl 4 rfl) ?_
        refine lv_iconst (v := 0) hx hb dX12_table_34 (by decide) ?_
        refine lv_bipush (v := 40) hx hb dX12_table_35 (by decide) ?_
        refine pk_i (va_runS (As := [.int wm, .int 0, .int 40]) (rest := []) ⟨hx, hb, hml, hown, hts⟩ (c_X12_isIn l D t σ I J ri rj rq H.size wm (0 : Int32) (40 : Int32)) (va_cwS 3 hts (tw_S tw_235 tw_236 tw_5 tw_237) rfl rfl rfl (by decide +kernel) ⟨Nat.le_of_ble_eq_true rfl, Nat.le_of_ble_eq_true rfl⟩) ⟨pq_blind, pq_pre hK hN hP hD⟩ rfl rfl hl.1 rfl (lv_room (Nat.le_of_ble_eq_true rfl)) dX12_table_37 ⟨Nat.le_of_ble_eq_true rfl, Nat.le_of_ble_eq_true rfl⟩) hD hS hA (fun r_16 σ1 μ1 H locs hw_17 hP hD hS => ?_)
        obtain ⟨hu_18, hr_19⟩ := hw_17
        obtain ⟨hu_18a, hu_18b⟩ := Prod.mk.inj hu_18
        rw [hu_18a, hu_18b] at hP hD
        rcases hr_19 with ⟨rfl, hr_19_0, hr_19_1⟩ | ⟨rfl, hr_19_0⟩
        · refine lv_if_eq (tgt := 65) hx hb dX12_table_40 (by decide) (fun c_20 => absurd c_20 (by decide)) (fun c_20 => ?_)
          refine lv_iload hx hb dX12_table_43 (lv_at hl 5 rfl) ?_
          refine lv_iconst (v := 0) hx hb dX12_table_45 (by decide) ?_
          refine lv_bipush (v := 50) hx hb dX12_table_46 (by decide) ?_
          refine pk_i (va_runS (As := [.int dr, .int 0, .int 50]) (rest := []) ⟨hx, hb, hml, hown, hts⟩ (c_X12_isIn l D t σ I J ri rj rq H.size dr (0 : Int32) (50 : Int32)) (va_cwS 3 hts (tw_S tw_235 tw_236 tw_5 tw_237) rfl rfl rfl (by decide +kernel) ⟨Nat.le_of_ble_eq_true rfl, Nat.le_of_ble_eq_true rfl⟩) ⟨pq_blind, pq_pre hK hN hP hD⟩ rfl rfl hl.1 rfl (lv_room (Nat.le_of_ble_eq_true rfl)) dX12_table_48 ⟨Nat.le_of_ble_eq_true rfl, Nat.le_of_ble_eq_true rfl⟩) hD hS hA (fun r_21 σ1 μ1 H locs hw_22 hP hD hS => ?_)
          obtain ⟨hu_23, hr_24⟩ := hw_22
          obtain ⟨hu_23a, hu_23b⟩ := Prod.mk.inj hu_23
          rw [hu_23a, hu_23b] at hP hD
          rcases hr_24 with ⟨rfl, hr_24_0, hr_24_1⟩ | ⟨rfl, hr_24_0⟩
          · refine lv_if_eq (tgt := 65) hx hb dX12_table_51 (by decide) (fun c_25 => absurd c_25 (by decide)) (fun c_25 => ?_)
            refine lv_iload hx hb dX12_table_54 (lv_at hl 6 rfl) ?_
            refine lv_iconst (v := 0) hx hb dX12_table_56 (by decide) ?_
            refine lv_bipush (v := 100) hx hb dX12_table_57 (by decide) ?_
            refine pk_i (va_runS (As := [.int ra, .int 0, .int 100]) (rest := []) ⟨hx, hb, hml, hown, hts⟩ (c_X12_isIn l D t σ I J ri rj rq H.size ra (0 : Int32) (100 : Int32)) (va_cwS 3 hts (tw_S tw_235 tw_236 tw_5 tw_237) rfl rfl rfl (by decide +kernel) ⟨Nat.le_of_ble_eq_true rfl, Nat.le_of_ble_eq_true rfl⟩) ⟨pq_blind, pq_pre hK hN hP hD⟩ rfl rfl hl.1 rfl (lv_room (Nat.le_of_ble_eq_true rfl)) dX12_table_59 ⟨Nat.le_of_ble_eq_true rfl, Nat.le_of_ble_eq_true rfl⟩) hD hS hA (fun r_26 σ1 μ1 H locs hw_27 hP hD hS => ?_)
            obtain ⟨hu_28, hr_29⟩ := hw_27
            obtain ⟨hu_28a, hu_28b⟩ := Prod.mk.inj hu_28
            rw [hu_28a, hu_28b] at hP hD
            rcases hr_29 with ⟨rfl, hr_29_0, hr_29_1⟩ | ⟨rfl, hr_29_0⟩
            · refine lv_if_ne (tgt := 67) hx hb dX12_table_62 (by decide) (fun c_30 => ?_) (fun c_30 => absurd c_30 (by decide))
              obtain ⟨nn, hnn0, hnn1, hnn2⟩ := nI_rg hr_4_0 hr_4_1 (by decide)
              have hnn2 : nn ≤ 11 := by have : (11 : Int32).toInt = 11 := rfl; omega
              rw [hnn0] at hl
              refine lv_bipush (v := 20) hx hb dX12_table_67 (by decide) ?_
              refine lv_iconst (v := 5) hx hb dX12_table_69 (by decide) ?_
              refine lv_iload_n hx hb dX12_table_70 rfl (lv_at hl 1 rfl) ?_
              refine lv_imul hx hb dX12_table_71 ?_
              refine lv_tov (nI (5 * nn)) (pk_mul 5 nn) ?_
              refine lv_iadd hx hb dX12_table_72 ?_
              refine lv_tov (nI (20 + (5 * nn))) (nI_add 20 (5 * nn)) ?_
              refine lv_istore (lv' := [(7, .int (nI (20 + (5 * nn)))), (0, .ref this), (1, .int (nI nn)), (2, .int lo), (3, .int hi), (4, .int wm), (5, .int dr), (6, .int ra)]) hx hb dX12_table_73 hl (by decide) rfl (fun ls hl => ?_)
              refine lv_aload_n hx hb dX12_table_75 rfl (lv_at hl 1 rfl) ?_
              refine pg_f (v := .ref this_a) (C := RX12) (T := TX12) (N := 31) hx hb hts (tw_i inlX12) hown hK hP hL_this hK_this (by decide) rfl 0 (by decide) (hts _ (tw_c tw_176)) (pq_hv rfl hR_this_a) dX12_table_76 ?_
              refine lv_iload hx hb dX12_table_79 (lv_at hl 0 rfl) ?_
              refine lv_iconst (v := 0) hx hb dX12_table_81 (by decide) ?_
              refine lv_iadd hx hb dX12_table_82 ?_
              refine lv_tov (nI (20 + (5 * nn))) (Int32.add_zero _) ?_
              refine lv_iload_n hx hb dX12_table_83 rfl (lv_at hl 3 rfl) ?_
              refine pt_i hx hb hK hP hD hS hL_this_a hK_this_a hN_this_a (nI_in (c := (20 + (5 * nn))) (by omega) (by omega)) dX12_table_84 (fun r_31 H locs er_31 hP hD hS => ?_)
              refine lv_aload_n hx hb dX12_table_85 rfl (lv_at hl 1 rfl) ?_
              refine pg_f (v := .ref this_a) (C := RX12) (T := TX12) (N := 31) hx hb hts (tw_i inlX12) hown hK hP hL_this hK_this (by decide) rfl 0 (by decide) (hts _ (tw_c tw_176)) (pq_hv rfl hR_this_a) dX12_table_86 ?_
              refine lv_iload hx hb dX12_table_89 (lv_at hl 0 rfl) ?_
              refine lv_iconst (v := 1) hx hb dX12_table_91 (by decide) ?_
              refine lv_iadd hx hb dX12_table_92 ?_
              refine lv_tov (nI ((20 + (5 * nn)) + 1)) (nI_add (20 + (5 * nn)) 1) ?_
              refine lv_iload_n hx hb dX12_table_93 rfl (lv_at hl 4 rfl) ?_
              refine pt_i hx hb hK hP hD hS hL_this_a hK_this_a hN_this_a (nI_in (c := ((20 + (5 * nn)) + 1)) (by omega) (by omega)) dX12_table_94 (fun r_32 H locs er_32 hP hD hS => ?_)
              refine lv_aload_n hx hb dX12_table_95 rfl (lv_at hl 1 rfl) ?_
              refine pg_f (v := .ref this_a) (C := RX12) (T := TX12) (N := 31) hx hb hts (tw_i inlX12) hown hK hP hL_this hK_this (by decide) rfl 0 (by decide) (hts _ (tw_c tw_176)) (pq_hv rfl hR_this_a) dX12_table_96 ?_
              refine lv_iload hx hb dX12_table_99 (lv_at hl 0 rfl) ?_
              refine lv_iconst (v := 2) hx hb dX12_table_101 (by decide) ?_
              refine lv_iadd hx hb dX12_table_102 ?_
              refine lv_tov (nI ((20 + (5 * nn)) + 2)) (nI_add (20 + (5 * nn)) 2) ?_
              refine lv_iload hx hb dX12_table_103 (lv_at hl 5 rfl) ?_
              refine pt_i hx hb hK hP hD hS hL_this_a hK_this_a hN_this_a (nI_in (c := ((20 + (5 * nn)) + 2)) (by omega) (by omega)) dX12_table_105 (fun r_33 H locs er_33 hP hD hS => ?_)
              refine lv_aload_n hx hb dX12_table_106 rfl (lv_at hl 1 rfl) ?_
              refine pg_f (v := .ref this_a) (C := RX12) (T := TX12) (N := 31) hx hb hts (tw_i inlX12) hown hK hP hL_this hK_this (by decide) rfl 0 (by decide) (hts _ (tw_c tw_176)) (pq_hv rfl hR_this_a) dX12_table_107 ?_
              refine lv_iload hx hb dX12_table_110 (lv_at hl 0 rfl) ?_
              refine lv_iconst (v := 3) hx hb dX12_table_112 (by decide) ?_
              refine lv_iadd hx hb dX12_table_113 ?_
              refine lv_tov (nI ((20 + (5 * nn)) + 3)) (nI_add (20 + (5 * nn)) 3) ?_
              refine lv_iload hx hb dX12_table_114 (lv_at hl 6 rfl) ?_
              refine pt_i hx hb hK hP hD hS hL_this_a hK_this_a hN_this_a (nI_in (c := ((20 + (5 * nn)) + 3)) (by omega) (by omega)) dX12_table_116 (fun r_34 H locs er_34 hP hD hS => ?_)
              refine lv_aload_n hx hb dX12_table_117 rfl (lv_at hl 1 rfl) ?_
              refine pg_f (v := .ref this_a) (C := RX12) (T := TX12) (N := 31) hx hb hts (tw_i inlX12) hown hK hP hL_this hK_this (by decide) rfl 0 (by decide) (hts _ (tw_c tw_176)) (pq_hv rfl hR_this_a) dX12_table_118 ?_
              refine lv_iload hx hb dX12_table_121 (lv_at hl 0 rfl) ?_
              refine lv_iconst (v := 4) hx hb dX12_table_123 (by decide) ?_
              refine lv_iadd hx hb dX12_table_124 ?_
              refine lv_tov (nI ((20 + (5 * nn)) + 4)) (nI_add (20 + (5 * nn)) 4) ?_
              refine lv_iload hx hb dX12_table_125 (lv_at hl 7 rfl) ?_
              refine pt_i hx hb hK hP hD hS hL_this_a hK_this_a hN_this_a (nI_in (c := ((20 + (5 * nn)) + 4)) (by omega) (by omega)) dX12_table_127 (fun r_35 H locs er_35 hP hD hS => ?_)
              refine lv_iconst (v := 1) hx hb dX12_table_128 (by decide) ?_
              exact W.zret (v := 1) hx hb hr (by decide) (fun t1 ht hW => ⟨⟨1, (σ, I, J, r_35, rj, rq), rfl, ⟨r_35, rfl, (by unfold sp_table; rw [if_pos (show _ from ⟨⟨hr_4_0, hr_4_1⟩, ⟨⟨hr_9_0, hr_9_1⟩, ⟨⟨hr_14_0, hr_14_1⟩, ⟨⟨hr_19_0, hr_19_1⟩, ⟨⟨hr_24_0, hr_24_1⟩, ⟨hr_29_0, hr_29_1⟩⟩⟩⟩⟩⟩)])⟩, by rw [ht]; exact hP, va_K.moved hW.alike hK, hD⟩, hS.F ht⟩) hS.2.2 dX12_table_129
            · refine lv_if_ne (tgt := 67) hx hb dX12_table_62 (by decide) (fun c_36 => absurd c_36 (by decide)) (fun c_36 => ?_)
              refine lv_iconst (v := 0) hx hb dX12_table_65 (by decide) ?_
              exact W.zret (v := 0) hx hb hr (by decide) (fun t1 ht hW => ⟨⟨0, (σ, I, J, ri, rj, rq), rfl, ⟨ri, rfl, (by unfold sp_table; rw [if_neg (fun q => hr_29_0 q.2.2.2.2.2)])⟩, by rw [ht]; exact hP, va_K.moved hW.alike hK, hD⟩, hS.F ht⟩) hS.2.2 dX12_table_66
          · refine lv_if_eq (tgt := 65) hx hb dX12_table_51 (by decide) (fun c_37 => ?_) (fun c_37 => absurd c_37 (by decide))
            refine lv_iconst (v := 0) hx hb dX12_table_65 (by decide) ?_
            exact W.zret (v := 0) hx hb hr (by decide) (fun t1 ht hW => ⟨⟨0, (σ, I, J, ri, rj, rq), rfl, ⟨ri, rfl, (by unfold sp_table; rw [if_neg (fun q => hr_24_0 q.2.2.2.2.1)])⟩, by rw [ht]; exact hP, va_K.moved hW.alike hK, hD⟩, hS.F ht⟩) hS.2.2 dX12_table_66
        · refine lv_if_eq (tgt := 65) hx hb dX12_table_40 (by decide) (fun c_38 => ?_) (fun c_38 => absurd c_38 (by decide))
          refine lv_iconst (v := 0) hx hb dX12_table_65 (by decide) ?_
          exact W.zret (v := 0) hx hb hr (by decide) (fun t1 ht hW => ⟨⟨0, (σ, I, J, ri, rj, rq), rfl, ⟨ri, rfl, (by unfold sp_table; rw [if_neg (fun q => hr_19_0 q.2.2.2.1)])⟩, by rw [ht]; exact hP, va_K.moved hW.alike hK, hD⟩, hS.F ht⟩) hS.2.2 dX12_table_66
      · refine lv_if_eq (tgt := 65) hx hb dX12_table_29 (by decide) (fun c_39 => ?_) (fun c_39 => absurd c_39 (by decide))
        refine lv_iconst (v := 0) hx hb dX12_table_65 (by decide) ?_
        exact W.zret (v := 0) hx hb hr (by decide) (fun t1 ht hW => ⟨⟨0, (σ, I, J, ri, rj, rq), rfl, ⟨ri, rfl, (by unfold sp_table; rw [if_neg (fun q => hr_14_0 q.2.2.1)])⟩, by rw [ht]; exact hP, va_K.moved hW.alike hK, hD⟩, hS.F ht⟩) hS.2.2 dX12_table_66
    · refine lv_if_eq (tgt := 65) hx hb dX12_table_18 (by decide) (fun c_40 => ?_) (fun c_40 => absurd c_40 (by decide))
      refine lv_iconst (v := 0) hx hb dX12_table_65 (by decide) ?_
      exact W.zret (v := 0) hx hb hr (by decide) (fun t1 ht hW => ⟨⟨0, (σ, I, J, ri, rj, rq), rfl, ⟨ri, rfl, (by unfold sp_table; rw [if_neg (fun q => hr_9_0 q.2.1)])⟩, by rw [ht]; exact hP, va_K.moved hW.alike hK, hD⟩, hS.F ht⟩) hS.2.2 dX12_table_66
  · refine lv_if_eq (tgt := 65) hx hb dX12_table_7 (by decide) (fun c_41 => ?_) (fun c_41 => absurd c_41 (by decide))
    refine lv_iconst (v := 0) hx hb dX12_table_65 (by decide) ?_
    exact W.zret (v := 0) hx hb hr (by decide) (fun t1 ht hW => ⟨⟨0, (σ, I, J, ri, rj, rq), rfl, ⟨ri, rfl, (by unfold sp_table; rw [if_neg (fun q => hr_4_0 q.1)])⟩, by rw [ht]; exact hP, va_K.moved hW.alike hK, hD⟩, hS.F ht⟩) hS.2.2 dX12_table_66

set_option maxHeartbeats 4000000 in
set_option maxRecDepth 100000 in
theorem c_X12_rules (l : Launch) (D : va_G) (t : pq_T) (σ : pq_S) (I : Nat → Nat → Int32) (J : Nat → Nat → Int64) (ri : Nat → Nat → Int32) (rj : Nat → Nat → Int64) (rq : Nat → Nat → Option Nat) (sz : Nat) (this : Nat) (be : Int32) (gr : Int32) (di : Int32) (re : Int32) (co : Int32) (hL_this : this ∈ σ.1) (hK_this : σ.2.1 this = 12) (this_a : Nat) (hR_this_a : σ.2.2.1 384 this = some this_a) (hL_this_a : this_a ∈ σ.1) (hK_this_a : σ.2.1 this_a = 13) (hN_this_a : σ.2.2.2 this_a = 12720) (hF : fm (ri this_a) 0) : MetI l yX12_rules (wa yX12_rules cX12_rules 6 (some .boolean)) ({ frames := 1, cells := 0, slots := 0, locals := 22 }) [.ref this, .int be, .int gr, .int di, .int re, .int co] D t σ (I, J, ri, rj, rq) sz 0 0 (fun (r : Int32) (u : pq_S × pq_M) => ∃ ri' : Nat → Nat → Int32, u = (σ, I, J, ri', rj, rq) ∧ (r = sp_rules be gr di re co)) := by
  refine Met.ofW (cc := cX12_rules) (maxL := 6) (ret := (some .boolean)) (by decide) rfl ?_
  intro p e s m args below meth c s₁ B hml hv
  obtain ⟨rfl, hsz, hP, hK, hD0, hN⟩ := hv
  have hx := B.exec
  have hb := B.bytes
  have hr := B.returns
  have hts := atoms_spec (ws := (wa yX12_rules cX12_rules 6 (some .boolean))) B.pre
  have hown : s.vm.findClass RX12 = some m.cls := findClass_of_methodNamed B.named
  have hlocks := B.notSynchronized
  subst hsz
  have hD : va_D (pq_B t σ (I, J, ri, rj, rq) s.heap.size) (pq_P t σ (I, J, ri, rj, rq)) := hD0.self
  generalize hAe : pq_B t σ (I, J, ri, rj, rq) s.heap.size = A at hD ⊢
  have hA : ∀ q : Nat, s.heap.size ≤ q → A q := fun q h => by rw [← hAe]; exact Or.inr h
  have hS : va_S A s.heap s.heap [] := va_S.rf
  have hl := lv_entry ([.ref this, .int be, .int gr, .int di, .int re, .int co]) (n := 6) (Nat.le_of_ble_eq_true rfl)
  rw [lg_entry_eq]
  generalize (lg_sl ([.ref this, .int be, .int gr, .int di, .int re, .int co]) ++ List.replicate (6 - (lg_sl ([.ref this, .int be, .int gr, .int di, .int re, .int co])).length) Slot.unset).toArray = ls at hl ⊢
  have hl : lv_has ls 6 [(0, .ref this), (1, .int be), (2, .int gr), (3, .int di), (4, .int re), (5, .int co)] := hl
  refine lv_iload_n hx hb dX12_rules_0 rfl (lv_at hl 1 rfl) ?_
  refine lv_iconst (v := 0) hx hb dX12_rules_1 (by decide) ?_
  refine lv_bipush (v := 40) hx hb dX12_rules_2 (by decide) ?_
  refine pk_i (va_runS (As := [.int be, .int 0, .int 40]) (rest := []) ⟨hx, hb, hml, hown, hts⟩ (c_X12_isIn l D t σ I J ri rj rq (Array.size s.heap) be (0 : Int32) (40 : Int32)) (va_cwS 3 hts (tw_S tw_235 tw_236 tw_5 tw_237) rfl rfl rfl (by decide +kernel) ⟨Nat.le_of_ble_eq_true rfl, Nat.le_of_ble_eq_true rfl⟩) ⟨pq_blind, pq_pre hK hN hP hD⟩ rfl rfl hl.1 rfl (lv_room (Nat.le_of_ble_eq_true rfl)) dX12_rules_4 ⟨Nat.le_of_ble_eq_true rfl, Nat.le_of_ble_eq_true rfl⟩) hD hS hA (fun r_1 σ1 μ1 H locs hw_2 hP hD hS => ?_)
  obtain ⟨hu_3, hr_4⟩ := hw_2
  obtain ⟨hu_3a, hu_3b⟩ := Prod.mk.inj hu_3
  rw [hu_3a, hu_3b] at hP hD
  rcases hr_4 with ⟨rfl, hr_4_0, hr_4_1⟩ | ⟨rfl, hr_4_0⟩
  · refine lv_if_eq (tgt := 51) hx hb dX12_rules_7 (by decide) (fun c_5 => absurd c_5 (by decide)) (fun c_5 => ?_)
    refine lv_iload_n hx hb dX12_rules_10 rfl (lv_at hl 2 rfl) ?_
    refine lv_iconst (v := 0) hx hb dX12_rules_11 (by decide) ?_
    refine lv_iconst (v := 5) hx hb dX12_rules_12 (by decide) ?_
    refine pk_i (va_runS (As := [.int gr, .int 0, .int 5]) (rest := []) ⟨hx, hb, hml, hown, hts⟩ (c_X12_isIn l D t σ I J ri rj rq H.size gr (0 : Int32) (5 : Int32)) (va_cwS 3 hts (tw_S tw_235 tw_236 tw_5 tw_237) rfl rfl rfl (by decide +kernel) ⟨Nat.le_of_ble_eq_true rfl, Nat.le_of_ble_eq_true rfl⟩) ⟨pq_blind, pq_pre hK hN hP hD⟩ rfl rfl hl.1 rfl (lv_room (Nat.le_of_ble_eq_true rfl)) dX12_rules_13 ⟨Nat.le_of_ble_eq_true rfl, Nat.le_of_ble_eq_true rfl⟩) hD hS hA (fun r_6 σ1 μ1 H locs hw_7 hP hD hS => ?_)
    obtain ⟨hu_8, hr_9⟩ := hw_7
    obtain ⟨hu_8a, hu_8b⟩ := Prod.mk.inj hu_8
    rw [hu_8a, hu_8b] at hP hD
    rcases hr_9 with ⟨rfl, hr_9_0, hr_9_1⟩ | ⟨rfl, hr_9_0⟩
    · refine lv_if_eq (tgt := 51) hx hb dX12_rules_16 (by decide) (fun c_10 => absurd c_10 (by decide)) (fun c_10 => ?_)
      refine lv_iload_n hx hb dX12_rules_19 rfl (lv_at hl 3 rfl) ?_
      refine lv_iconst (v := 0) hx hb dX12_rules_20 (by decide) ?_
      refine lv_bipush (v := 50) hx hb dX12_rules_21 (by decide) ?_
      refine pk_i (va_runS (As := [.int di, .int 0, .int 50]) (rest := []) ⟨hx, hb, hml, hown, hts⟩ (c_X12_isIn l D t σ I J ri rj rq H.size di (0 : Int32) (50 : Int32)) (va_cwS 3 hts (tw_S tw_235 tw_236 tw_5 tw_237) rfl rfl rfl (by decide +kernel) ⟨Nat.le_of_ble_eq_true rfl, Nat.le_of_ble_eq_true rfl⟩) ⟨pq_blind, pq_pre hK hN hP hD⟩ rfl rfl hl.1 rfl (lv_room (Nat.le_of_ble_eq_true rfl)) dX12_rules_23 ⟨Nat.le_of_ble_eq_true rfl, Nat.le_of_ble_eq_true rfl⟩) hD hS hA (fun r_11 σ1 μ1 H locs hw_12 hP hD hS => ?_)
      obtain ⟨hu_13, hr_14⟩ := hw_12
      obtain ⟨hu_13a, hu_13b⟩ := Prod.mk.inj hu_13
      rw [hu_13a, hu_13b] at hP hD
      rcases hr_14 with ⟨rfl, hr_14_0, hr_14_1⟩ | ⟨rfl, hr_14_0⟩
      · refine lv_if_eq (tgt := 51) hx hb dX12_rules_26 (by decide) (fun c_15 => absurd c_15 (by decide)) (fun c_15 => ?_)
        refine lv_iload hx hb dX12_rules_29 (lv_at hl 4 rfl) ?_
        refine lv_iconst (v := 1) hx hb dX12_rules_31 (by decide) ?_
        refine lv_bipush (v := 20) hx hb dX12_rules_32 (by decide) ?_
        refine pk_i (va_runS (As := [.int re, .int 1, .int 20]) (rest := []) ⟨hx, hb, hml, hown, hts⟩ (c_X12_isIn l D t σ I J ri rj rq H.size re (1 : Int32) (20 : Int32)) (va_cwS 3 hts (tw_S tw_235 tw_236 tw_5 tw_237) rfl rfl rfl (by decide +kernel) ⟨Nat.le_of_ble_eq_true rfl, Nat.le_of_ble_eq_true rfl⟩) ⟨pq_blind, pq_pre hK hN hP hD⟩ rfl rfl hl.1 rfl (lv_room (Nat.le_of_ble_eq_true rfl)) dX12_rules_34 ⟨Nat.le_of_ble_eq_true rfl, Nat.le_of_ble_eq_true rfl⟩) hD hS hA (fun r_16 σ1 μ1 H locs hw_17 hP hD hS => ?_)
        obtain ⟨hu_18, hr_19⟩ := hw_17
        obtain ⟨hu_18a, hu_18b⟩ := Prod.mk.inj hu_18
        rw [hu_18a, hu_18b] at hP hD
        rcases hr_19 with ⟨rfl, hr_19_0, hr_19_1⟩ | ⟨rfl, hr_19_0⟩
        · refine lv_if_eq (tgt := 51) hx hb dX12_rules_37 (by decide) (fun c_20 => absurd c_20 (by decide)) (fun c_20 => ?_)
          refine lv_iload hx hb dX12_rules_40 (lv_at hl 5 rfl) ?_
          refine lv_iconst (v := 0) hx hb dX12_rules_42 (by decide) ?_
          refine lv_bipush (v := 100) hx hb dX12_rules_43 (by decide) ?_
          refine pk_i (va_runS (As := [.int co, .int 0, .int 100]) (rest := []) ⟨hx, hb, hml, hown, hts⟩ (c_X12_isIn l D t σ I J ri rj rq H.size co (0 : Int32) (100 : Int32)) (va_cwS 3 hts (tw_S tw_235 tw_236 tw_5 tw_237) rfl rfl rfl (by decide +kernel) ⟨Nat.le_of_ble_eq_true rfl, Nat.le_of_ble_eq_true rfl⟩) ⟨pq_blind, pq_pre hK hN hP hD⟩ rfl rfl hl.1 rfl (lv_room (Nat.le_of_ble_eq_true rfl)) dX12_rules_45 ⟨Nat.le_of_ble_eq_true rfl, Nat.le_of_ble_eq_true rfl⟩) hD hS hA (fun r_21 σ1 μ1 H locs hw_22 hP hD hS => ?_)
          obtain ⟨hu_23, hr_24⟩ := hw_22
          obtain ⟨hu_23a, hu_23b⟩ := Prod.mk.inj hu_23
          rw [hu_23a, hu_23b] at hP hD
          rcases hr_24 with ⟨rfl, hr_24_0, hr_24_1⟩ | ⟨rfl, hr_24_0⟩
          · refine lv_if_ne (tgt := 53) hx hb dX12_rules_48 (by decide) (fun c_25 => ?_) (fun c_25 => absurd c_25 (by decide))
            refine lv_aload_n hx hb dX12_rules_53 rfl (lv_at hl 0 rfl) ?_
            refine pg_f (v := .ref this_a) (C := RX12) (T := TX12) (N := 31) hx hb hts (tw_i inlX12) hown hK hP hL_this hK_this (by decide) rfl 0 (by decide) (hts _ (tw_c tw_176)) (pq_hv rfl hR_this_a) dX12_rules_54 ?_
            refine lv_bipush (v := 13) hx hb dX12_rules_57 (by decide) ?_
            refine lv_iload_n hx hb dX12_rules_59 rfl (lv_at hl 1 rfl) ?_
            refine pt_i hx hb hK hP hD hS hL_this_a hK_this_a hN_this_a (vp_in_iff.mpr (by decide)) dX12_rules_60 (fun r_26 H locs er_26 hP hD hS => ?_)
            refine lv_aload_n hx hb dX12_rules_61 rfl (lv_at hl 0 rfl) ?_
            refine pg_f (v := .ref this_a) (C := RX12) (T := TX12) (N := 31) hx hb hts (tw_i inlX12) hown hK hP hL_this hK_this (by decide) rfl 0 (by decide) (hts _ (tw_c tw_176)) (pq_hv rfl hR_this_a) dX12_rules_62 ?_
            refine lv_bipush (v := 14) hx hb dX12_rules_65 (by decide) ?_
            refine lv_iload_n hx hb dX12_rules_67 rfl (lv_at hl 2 rfl) ?_
            refine pt_i hx hb hK hP hD hS hL_this_a hK_this_a hN_this_a (vp_in_iff.mpr (by decide)) dX12_rules_68 (fun r_27 H locs er_27 hP hD hS => ?_)
            refine lv_aload_n hx hb dX12_rules_69 rfl (lv_at hl 0 rfl) ?_
            refine pg_f (v := .ref this_a) (C := RX12) (T := TX12) (N := 31) hx hb hts (tw_i inlX12) hown hK hP hL_this hK_this (by decide) rfl 0 (by decide) (hts _ (tw_c tw_176)) (pq_hv rfl hR_this_a) dX12_rules_70 ?_
            refine lv_bipush (v := 15) hx hb dX12_rules_73 (by decide) ?_
            refine lv_iload_n hx hb dX12_rules_75 rfl (lv_at hl 3 rfl) ?_
            refine pt_i hx hb hK hP hD hS hL_this_a hK_this_a hN_this_a (vp_in_iff.mpr (by decide)) dX12_rules_76 (fun r_28 H locs er_28 hP hD hS => ?_)
            refine lv_aload_n hx hb dX12_rules_77 rfl (lv_at hl 0 rfl) ?_
            refine pg_f (v := .ref this_a) (C := RX12) (T := TX12) (N := 31) hx hb hts (tw_i inlX12) hown hK hP hL_this hK_this (by decide) rfl 0 (by decide) (hts _ (tw_c tw_176)) (pq_hv rfl hR_this_a) dX12_rules_78 ?_
            refine lv_bipush (v := 16) hx hb dX12_rules_81 (by decide) ?_
            refine lv_iload hx hb dX12_rules_83 (lv_at hl 4 rfl) ?_
            refine pt_i hx hb hK hP hD hS hL_this_a hK_this_a hN_this_a (vp_in_iff.mpr (by decide)) dX12_rules_85 (fun r_29 H locs er_29 hP hD hS => ?_)
            refine lv_aload_n hx hb dX12_rules_86 rfl (lv_at hl 0 rfl) ?_
            refine pg_f (v := .ref this_a) (C := RX12) (T := TX12) (N := 31) hx hb hts (tw_i inlX12) hown hK hP hL_this hK_this (by decide) rfl 0 (by decide) (hts _ (tw_c tw_176)) (pq_hv rfl hR_this_a) dX12_rules_87 ?_
            refine lv_bipush (v := 17) hx hb dX12_rules_90 (by decide) ?_
            refine lv_iload hx hb dX12_rules_92 (lv_at hl 5 rfl) ?_
            refine pt_i hx hb hK hP hD hS hL_this_a hK_this_a hN_this_a (vp_in_iff.mpr (by decide)) dX12_rules_94 (fun r_30 H locs er_30 hP hD hS => ?_)
            refine lv_iconst (v := 1) hx hb dX12_rules_95 (by decide) ?_
            exact W.zret (v := 1) hx hb hr (by decide) (fun t1 ht hW => ⟨⟨1, (σ, I, J, r_30, rj, rq), rfl, ⟨r_30, rfl, (by unfold sp_rules; rw [if_pos (show _ from ⟨⟨hr_4_0, hr_4_1⟩, ⟨⟨hr_9_0, hr_9_1⟩, ⟨⟨hr_14_0, hr_14_1⟩, ⟨⟨hr_19_0, hr_19_1⟩, ⟨hr_24_0, hr_24_1⟩⟩⟩⟩⟩)])⟩, by rw [ht]; exact hP, va_K.moved hW.alike hK, hD⟩, hS.F ht⟩) hS.2.2 dX12_rules_96
          · refine lv_if_ne (tgt := 53) hx hb dX12_rules_48 (by decide) (fun c_31 => absurd c_31 (by decide)) (fun c_31 => ?_)
            refine lv_iconst (v := 0) hx hb dX12_rules_51 (by decide) ?_
            exact W.zret (v := 0) hx hb hr (by decide) (fun t1 ht hW => ⟨⟨0, (σ, I, J, ri, rj, rq), rfl, ⟨ri, rfl, (by unfold sp_rules; rw [if_neg (fun q => hr_24_0 q.2.2.2.2)])⟩, by rw [ht]; exact hP, va_K.moved hW.alike hK, hD⟩, hS.F ht⟩) hS.2.2 dX12_rules_52
        · refine lv_if_eq (tgt := 51) hx hb dX12_rules_37 (by decide) (fun c_32 => ?_) (fun c_32 => absurd c_32 (by decide))
          refine lv_iconst (v := 0) hx hb dX12_rules_51 (by decide) ?_
          exact W.zret (v := 0) hx hb hr (by decide) (fun t1 ht hW => ⟨⟨0, (σ, I, J, ri, rj, rq), rfl, ⟨ri, rfl, (by unfold sp_rules; rw [if_neg (fun q => hr_19_0 q.2.2.2.1)])⟩, by rw [ht]; exact hP, va_K.moved hW.alike hK, hD⟩, hS.F ht⟩) hS.2.2 dX12_rules_52
      · refine lv_if_eq (tgt := 51) hx hb dX12_rules_26 (by decide) (fun c_33 => ?_) (fun c_33 => absurd c_33 (by decide))
        refine lv_iconst (v := 0) hx hb dX12_rules_51 (by decide) ?_
        exact W.zret (v := 0) hx hb hr (by decide) (fun t1 ht hW => ⟨⟨0, (σ, I, J, ri, rj, rq), rfl, ⟨ri, rfl, (by unfold sp_rules; rw [if_neg (fun q => hr_14_0 q.2.2.1)])⟩, by rw [ht]; exact hP, va_K.moved hW.alike hK, hD⟩, hS.F ht⟩) hS.2.2 dX12_rules_52
    · refine lv_if_eq (tgt := 51) hx hb dX12_rules_16 (by decide) (fun c_34 => ?_) (fun c_34 => absurd c_34 (by decide))
      refine lv_iconst (v := 0) hx hb dX12_rules_51 (by decide) ?_
      exact W.zret (v := 0) hx hb hr (by decide) (fun t1 ht hW => ⟨⟨0, (σ, I, J, ri, rj, rq), rfl, ⟨ri, rfl, (by unfold sp_rules; rw [if_neg (fun q => hr_9_0 q.2.1)])⟩, by rw [ht]; exact hP, va_K.moved hW.alike hK, hD⟩, hS.F ht⟩) hS.2.2 dX12_rules_52
  · refine lv_if_eq (tgt := 51) hx hb dX12_rules_7 (by decide) (fun c_35 => ?_) (fun c_35 => absurd c_35 (by decide))
    refine lv_iconst (v := 0) hx hb dX12_rules_51 (by decide) ?_
    exact W.zret (v := 0) hx hb hr (by decide) (fun t1 ht hW => ⟨⟨0, (σ, I, J, ri, rj, rq), rfl, ⟨ri, rfl, (by unfold sp_rules; rw [if_neg (fun q => hr_4_0 q.1)])⟩, by rw [ht]; exact hP, va_K.moved hW.alike hK, hD⟩, hS.F ht⟩) hS.2.2 dX12_rules_52

set_option maxHeartbeats 4000000 in
set_option maxRecDepth 100000 in
theorem c_X12_lot (l : Launch) (D : va_G) (t : pq_T) (σ : pq_S) (I : Nat → Nat → Int32) (J : Nat → Nat → Int64) (ri : Nat → Nat → Int32) (rj : Nat → Nat → Int64) (rq : Nat → Nat → Option Nat) (sz : Nat) (this : Nat) (bd : Int32) (hL_this : this ∈ σ.1) (hK_this : σ.2.1 this = 12) (this_a : Nat) (hR_this_a : σ.2.2.1 384 this = some this_a) (hL_this_a : this_a ∈ σ.1) (hK_this_a : σ.2.1 this_a = 13) (hN_this_a : σ.2.2.2 this_a = 12720) (hF : fm (ri this_a) 0) : MetI l yX12_lot (wa yX12_lot cX12_lot 2 (some .int)) ({ frames := 1, cells := 0, slots := 0, locals := 22 }) [.ref this, .int bd] D t σ (I, J, ri, rj, rq) sz 0 0 (fun (r : Int32) (u : pq_S × pq_M) => ∃ ri' : Nat → Nat → Int32, u = (σ, I, J, ri', rj, rq) ∧ (r = sp_lot bd)) := by
  refine Met.ofW (cc := cX12_lot) (maxL := 2) (ret := (some .int)) (by decide) rfl ?_
  intro p e s m args below meth c s₁ B hml hv
  obtain ⟨rfl, hsz, hP, hK, hD0, hN⟩ := hv
  have hx := B.exec
  have hb := B.bytes
  have hr := B.returns
  have hts := atoms_spec (ws := (wa yX12_lot cX12_lot 2 (some .int))) B.pre
  have hown : s.vm.findClass RX12 = some m.cls := findClass_of_methodNamed B.named
  have hlocks := B.notSynchronized
  subst hsz
  have hD : va_D (pq_B t σ (I, J, ri, rj, rq) s.heap.size) (pq_P t σ (I, J, ri, rj, rq)) := hD0.self
  generalize hAe : pq_B t σ (I, J, ri, rj, rq) s.heap.size = A at hD ⊢
  have hA : ∀ q : Nat, s.heap.size ≤ q → A q := fun q h => by rw [← hAe]; exact Or.inr h
  have hS : va_S A s.heap s.heap [] := va_S.rf
  have hl := lv_entry ([.ref this, .int bd]) (n := 2) (Nat.le_of_ble_eq_true rfl)
  rw [lg_entry_eq]
  generalize (lg_sl ([.ref this, .int bd]) ++ List.replicate (2 - (lg_sl ([.ref this, .int bd])).length) Slot.unset).toArray = ls at hl ⊢
  have hl : lv_has ls 2 [(0, .ref this), (1, .int bd)] := hl
  refine lv_iload_n hx hb dX12_lot_0 rfl (lv_at hl 1 rfl) ?_
  refine lv_iconst (v := 0) hx hb dX12_lot_1 (by decide) ?_
  refine lv_bipush (v := 60) hx hb dX12_lot_2 (by decide) ?_
  refine pk_i (va_runS (As := [.int bd, .int 0, .int 60]) (rest := []) ⟨hx, hb, hml, hown, hts⟩ (c_X12_isIn l D t σ I J ri rj rq (Array.size s.heap) bd (0 : Int32) (60 : Int32)) (va_cwS 3 hts (tw_S tw_235 tw_236 tw_5 tw_237) rfl rfl rfl (by decide +kernel) ⟨Nat.le_of_ble_eq_true rfl, Nat.le_of_ble_eq_true rfl⟩) ⟨pq_blind, pq_pre hK hN hP hD⟩ rfl rfl hl.1 rfl (lv_room (Nat.le_of_ble_eq_true rfl)) dX12_lot_4 ⟨Nat.le_of_ble_eq_true rfl, Nat.le_of_ble_eq_true rfl⟩) hD hS hA (fun r_1 σ1 μ1 H locs hw_2 hP hD hS => ?_)
  obtain ⟨hu_3, hr_4⟩ := hw_2
  obtain ⟨hu_3a, hu_3b⟩ := Prod.mk.inj hu_3
  rw [hu_3a, hu_3b] at hP hD
  rcases hr_4 with ⟨rfl, hr_4_0, hr_4_1⟩ | ⟨rfl, hr_4_0⟩
  · refine lv_if_eq (tgt := 20) hx hb dX12_lot_7 (by decide) (fun c_5 => absurd c_5 (by decide)) (fun c_5 => ?_)
    refine lv_aload_n hx hb dX12_lot_10 rfl (lv_at hl 0 rfl) ?_
    refine pg_f (v := .ref this_a) (C := RX12) (T := TX12) (N := 31) hx hb hts (tw_i inlX12) hown hK hP hL_this hK_this (by decide) rfl 0 (by decide) (hts _ (tw_c tw_176)) (pq_hv rfl hR_this_a) dX12_lot_11 ?_
    refine lv_iconst (v := 4) hx hb dX12_lot_14 (by decide) ?_
    refine pl_i hx hb hK hP hL_this_a hK_this_a hN_this_a (vp_in_iff.mpr (by decide)) dX12_lot_15 ?_
    refine lv_tov 0 (fm_at hF 4 (v := 0) (by decide)) ?_
    refine lv_iconst (v := 5) hx hb dX12_lot_16 (by decide) ?_
    refine lv_icmp_ne (tgt := 22) hx hb dX12_lot_17 (by decide) (fun c_6 => ?_) (fun c_6 => absurd c_6 (by decide))
    refine lv_aload_n hx hb dX12_lot_22 rfl (lv_at hl 0 rfl) ?_
    refine pg_f (v := .ref this_a) (C := RX12) (T := TX12) (N := 31) hx hb hts (tw_i inlX12) hown hK hP hL_this hK_this (by decide) rfl 0 (by decide) (hts _ (tw_c tw_176)) (pq_hv rfl hR_this_a) dX12_lot_23 ?_
    refine lv_bipush (v := 80) hx hb dX12_lot_26 (by decide) ?_
    refine lv_aload_n hx hb dX12_lot_28 rfl (lv_at hl 0 rfl) ?_
    refine pg_f (v := .ref this_a) (C := RX12) (T := TX12) (N := 31) hx hb hts (tw_i inlX12) hown hK hP hL_this hK_this (by decide) rfl 0 (by decide) (hts _ (tw_c tw_176)) (pq_hv rfl hR_this_a) dX12_lot_29 ?_
    refine lv_iconst (v := 4) hx hb dX12_lot_32 (by decide) ?_
    refine pl_i hx hb hK hP hL_this_a hK_this_a hN_this_a (vp_in_iff.mpr (by decide)) dX12_lot_33 ?_
    refine lv_tov 0 (fm_at hF 4 (v := 0) (by decide)) ?_
    refine lv_iadd hx hb dX12_lot_34 ?_
    refine lv_tov 80 (by decide) ?_
    refine lv_iload_n hx hb dX12_lot_35 rfl (lv_at hl 1 rfl) ?_
    refine pt_i hx hb hK hP hD hS hL_this_a hK_this_a hN_this_a (vp_in_iff.mpr (by decide)) dX12_lot_36 (fun r_7 H locs er_7 hP hD hS => ?_)
    refine lv_aload_n hx hb dX12_lot_37 rfl (lv_at hl 0 rfl) ?_
    refine pg_f (v := .ref this_a) (C := RX12) (T := TX12) (N := 31) hx hb hts (tw_i inlX12) hown hK hP hL_this hK_this (by decide) rfl 0 (by decide) (hts _ (tw_c tw_176)) (pq_hv rfl hR_this_a) dX12_lot_38 ?_
    refine lv_iconst (v := 4) hx hb dX12_lot_41 (by decide) ?_
    refine lv_dup2_11 hx hb dX12_lot_42 rfl rfl ?_
    refine pl_i hx hb hK hP hL_this_a hK_this_a hN_this_a (vp_in_iff.mpr (by decide)) dX12_lot_43 ?_
    refine lv_tov 0 (fm_at (fm_hi hF er_7 (Or.inr (by decide))) 4 (v := 0) (by decide)) ?_
    refine lv_iconst (v := 1) hx hb dX12_lot_44 (by decide) ?_
    refine lv_iadd hx hb dX12_lot_45 ?_
    refine lv_tov 1 (by decide) ?_
    refine pt_i hx hb hK hP hD hS hL_this_a hK_this_a hN_this_a (vp_in_iff.mpr (by decide)) dX12_lot_46 (fun r_8 H locs er_8 hP hD hS => ?_)
    refine lv_aload_n hx hb dX12_lot_47 rfl (lv_at hl 0 rfl) ?_
    refine pg_f (v := .ref this_a) (C := RX12) (T := TX12) (N := 31) hx hb hts (tw_i inlX12) hown hK hP hL_this hK_this (by decide) rfl 0 (by decide) (hts _ (tw_c tw_176)) (pq_hv rfl hR_this_a) dX12_lot_48 ?_
    refine lv_iconst (v := 4) hx hb dX12_lot_51 (by decide) ?_
    refine pl_i hx hb hK hP hL_this_a hK_this_a hN_this_a (vp_in_iff.mpr (by decide)) dX12_lot_52 ?_
    refine lv_tov 1 (rd_eq er_8) ?_
    refine lv_iconst (v := 1) hx hb dX12_lot_53 (by decide) ?_
    refine lv_isub hx hb dX12_lot_54 ?_
    refine lv_tov 0 (by decide) ?_
    exact W.iret (v := 0) hx hb hr (fun t1 ht hW => ⟨⟨0, (σ, I, J, r_8, rj, rq), rfl, ⟨r_8, rfl, (by unfold sp_lot; rw [if_pos (show _ from ⟨hr_4_0, hr_4_1⟩)])⟩, by rw [ht]; exact hP, va_K.moved hW.alike hK, hD⟩, hS.F ht⟩) hS.2.2 dX12_lot_55
  · refine lv_if_eq (tgt := 20) hx hb dX12_lot_7 (by decide) (fun c_9 => ?_) (fun c_9 => absurd c_9 (by decide))
    refine lv_iconst (v := (-1)) hx hb dX12_lot_20 (by decide) ?_
    exact W.iret (v := (-1)) hx hb hr (fun t1 ht hW => ⟨⟨(-1), (σ, I, J, ri, rj, rq), rfl, ⟨ri, rfl, (by unfold sp_lot; rw [if_neg (fun q => hr_4_0 q)])⟩, by rw [ht]; exact hP, va_K.moved hW.alike hK, hD⟩, hS.F ht⟩) hS.2.2 dX12_lot_21

set_option maxHeartbeats 4000000 in
set_option maxRecDepth 100000 in
theorem c_X12_sail (l : Launch) (D : va_G) (t : pq_T) (σ : pq_S) (I : Nat → Nat → Int32) (J : Nat → Nat → Int64) (ri : Nat → Nat → Int32) (rj : Nat → Nat → Int64) (rq : Nat → Nat → Option Nat) (sz : Nat) (this : Nat) (bo : Int32) (co : Int32) (hL_this : this ∈ σ.1) (hK_this : σ.2.1 this = 12) (this_a : Nat) (hR_this_a : σ.2.2.1 384 this = some this_a) (hL_this_a : this_a ∈ σ.1) (hK_this_a : σ.2.1 this_a = 13) (hN_this_a : σ.2.2.2 this_a = 12720) (hF : fm (ri this_a) 0) : MetI l yX12_sail (wa yX12_sail cX12_sail 3 (some .boolean)) ({ frames := 1, cells := 0, slots := 0, locals := 22 }) [.ref this, .int bo, .int co] D t σ (I, J, ri, rj, rq) sz 0 0 (fun (r : Int32) (u : pq_S × pq_M) => ∃ ri' : Nat → Nat → Int32, u = (σ, I, J, ri', rj, rq) ∧ (r = sp_sail bo co)) := by
  refine Met.ofW (cc := cX12_sail) (maxL := 3) (ret := (some .boolean)) (by decide) rfl ?_
  intro p e s m args below meth c s₁ B hml hv
  obtain ⟨rfl, hsz, hP, hK, hD0, hN⟩ := hv
  have hx := B.exec
  have hb := B.bytes
  have hr := B.returns
  have hts := atoms_spec (ws := (wa yX12_sail cX12_sail 3 (some .boolean))) B.pre
  have hown : s.vm.findClass RX12 = some m.cls := findClass_of_methodNamed B.named
  have hlocks := B.notSynchronized
  subst hsz
  have hD : va_D (pq_B t σ (I, J, ri, rj, rq) s.heap.size) (pq_P t σ (I, J, ri, rj, rq)) := hD0.self
  generalize hAe : pq_B t σ (I, J, ri, rj, rq) s.heap.size = A at hD ⊢
  have hA : ∀ q : Nat, s.heap.size ≤ q → A q := fun q h => by rw [← hAe]; exact Or.inr h
  have hS : va_S A s.heap s.heap [] := va_S.rf
  have hl := lv_entry ([.ref this, .int bo, .int co]) (n := 3) (Nat.le_of_ble_eq_true rfl)
  rw [lg_entry_eq]
  generalize (lg_sl ([.ref this, .int bo, .int co]) ++ List.replicate (3 - (lg_sl ([.ref this, .int bo, .int co])).length) Slot.unset).toArray = ls at hl ⊢
  have hl : lv_has ls 3 [(0, .ref this), (1, .int bo), (2, .int co)] := hl
  refine lv_iload_n hx hb dX12_sail_0 rfl (lv_at hl 1 rfl) ?_
  refine lv_iconst (v := 0) hx hb dX12_sail_1 (by decide) ?_
  refine lv_bipush (v := 40) hx hb dX12_sail_2 (by decide) ?_
  refine pk_i (va_runS (As := [.int bo, .int 0, .int 40]) (rest := []) ⟨hx, hb, hml, hown, hts⟩ (c_X12_isIn l D t σ I J ri rj rq (Array.size s.heap) bo (0 : Int32) (40 : Int32)) (va_cwS 3 hts (tw_S tw_235 tw_236 tw_5 tw_237) rfl rfl rfl (by decide +kernel) ⟨Nat.le_of_ble_eq_true rfl, Nat.le_of_ble_eq_true rfl⟩) ⟨pq_blind, pq_pre hK hN hP hD⟩ rfl rfl hl.1 rfl (lv_room (Nat.le_of_ble_eq_true rfl)) dX12_sail_4 ⟨Nat.le_of_ble_eq_true rfl, Nat.le_of_ble_eq_true rfl⟩) hD hS hA (fun r_1 σ1 μ1 H locs hw_2 hP hD hS => ?_)
  obtain ⟨hu_3, hr_4⟩ := hw_2
  obtain ⟨hu_3a, hu_3b⟩ := Prod.mk.inj hu_3
  rw [hu_3a, hu_3b] at hP hD
  rcases hr_4 with ⟨rfl, hr_4_0, hr_4_1⟩ | ⟨rfl, hr_4_0⟩
  · refine lv_if_eq (tgt := 20) hx hb dX12_sail_7 (by decide) (fun c_5 => absurd c_5 (by decide)) (fun c_5 => ?_)
    refine lv_iload_n hx hb dX12_sail_10 rfl (lv_at hl 2 rfl) ?_
    refine lv_iconst (v := 0) hx hb dX12_sail_11 (by decide) ?_
    refine lv_ldc hx hb hown (hts _ (tw_c tw_837)) dX12_sail_12 ?_
    refine pk_i (va_runS (As := [.int co, .int 0, .int 100000]) (rest := []) ⟨hx, hb, hml, hown, hts⟩ (c_X12_isIn l D t σ I J ri rj rq H.size co (0 : Int32) (100000 : Int32)) (va_cwS 3 hts (tw_S tw_235 tw_236 tw_5 tw_237) rfl rfl rfl (by decide +kernel) ⟨Nat.le_of_ble_eq_true rfl, Nat.le_of_ble_eq_true rfl⟩) ⟨pq_blind, pq_pre hK hN hP hD⟩ rfl rfl hl.1 rfl (lv_room (Nat.le_of_ble_eq_true rfl)) dX12_sail_14 ⟨Nat.le_of_ble_eq_true rfl, Nat.le_of_ble_eq_true rfl⟩) hD hS hA (fun r_6 σ1 μ1 H locs hw_7 hP hD hS => ?_)
    obtain ⟨hu_8, hr_9⟩ := hw_7
    obtain ⟨hu_8a, hu_8b⟩ := Prod.mk.inj hu_8
    rw [hu_8a, hu_8b] at hP hD
    rcases hr_9 with ⟨rfl, hr_9_0, hr_9_1⟩ | ⟨rfl, hr_9_0⟩
    · refine lv_if_ne (tgt := 22) hx hb dX12_sail_17 (by decide) (fun c_10 => ?_) (fun c_10 => absurd c_10 (by decide))
      refine lv_aload_n hx hb dX12_sail_22 rfl (lv_at hl 0 rfl) ?_
      refine pg_f (v := .ref this_a) (C := RX12) (T := TX12) (N := 31) hx hb hts (tw_i inlX12) hown hK hP hL_this hK_this (by decide) rfl 0 (by decide) (hts _ (tw_c tw_176)) (pq_hv rfl hR_this_a) dX12_sail_23 ?_
      refine lv_bipush (v := 11) hx hb dX12_sail_26 (by decide) ?_
      refine lv_iload_n hx hb dX12_sail_28 rfl (lv_at hl 1 rfl) ?_
      refine pt_i hx hb hK hP hD hS hL_this_a hK_this_a hN_this_a (vp_in_iff.mpr (by decide)) dX12_sail_29 (fun r_11 H locs er_11 hP hD hS => ?_)
      refine lv_aload_n hx hb dX12_sail_30 rfl (lv_at hl 0 rfl) ?_
      refine pg_f (v := .ref this_a) (C := RX12) (T := TX12) (N := 31) hx hb hts (tw_i inlX12) hown hK hP hL_this hK_this (by decide) rfl 0 (by decide) (hts _ (tw_c tw_176)) (pq_hv rfl hR_this_a) dX12_sail_31 ?_
      refine lv_bipush (v := 8) hx hb dX12_sail_34 (by decide) ?_
      refine lv_dup2_11 hx hb dX12_sail_36 rfl rfl ?_
      refine pl_i hx hb hK hP hL_this_a hK_this_a hN_this_a (vp_in_iff.mpr (by decide)) dX12_sail_37 ?_
      refine lv_tov 0 (rd_ne er_11 (by decide) (fm_at hF 8 (v := 0) (by decide))) ?_
      refine lv_iload_n hx hb dX12_sail_38 rfl (lv_at hl 2 rfl) ?_
      refine lv_iadd hx hb dX12_sail_39 ?_
      refine lv_tov co (Int32.zero_add _) ?_
      refine pt_i hx hb hK hP hD hS hL_this_a hK_this_a hN_this_a (vp_in_iff.mpr (by decide)) dX12_sail_40 (fun r_12 H locs er_12 hP hD hS => ?_)
      refine lv_iconst (v := 1) hx hb dX12_sail_41 (by decide) ?_
      exact W.zret (v := 1) hx hb hr (by decide) (fun t1 ht hW => ⟨⟨1, (σ, I, J, r_12, rj, rq), rfl, ⟨r_12, rfl, (by unfold sp_sail; rw [if_pos (show _ from ⟨⟨hr_4_0, hr_4_1⟩, ⟨hr_9_0, hr_9_1⟩⟩)])⟩, by rw [ht]; exact hP, va_K.moved hW.alike hK, hD⟩, hS.F ht⟩) hS.2.2 dX12_sail_42
    · refine lv_if_ne (tgt := 22) hx hb dX12_sail_17 (by decide) (fun c_13 => absurd c_13 (by decide)) (fun c_13 => ?_)
      refine lv_iconst (v := 0) hx hb dX12_sail_20 (by decide) ?_
      exact W.zret (v := 0) hx hb hr (by decide) (fun t1 ht hW => ⟨⟨0, (σ, I, J, ri, rj, rq), rfl, ⟨ri, rfl, (by unfold sp_sail; rw [if_neg (fun q => hr_9_0 q.2)])⟩, by rw [ht]; exact hP, va_K.moved hW.alike hK, hD⟩, hS.F ht⟩) hS.2.2 dX12_sail_21
  · refine lv_if_eq (tgt := 20) hx hb dX12_sail_7 (by decide) (fun c_14 => ?_) (fun c_14 => absurd c_14 (by decide))
    refine lv_iconst (v := 0) hx hb dX12_sail_20 (by decide) ?_
    exact W.zret (v := 0) hx hb hr (by decide) (fun t1 ht hW => ⟨⟨0, (σ, I, J, ri, rj, rq), rfl, ⟨ri, rfl, (by unfold sp_sail; rw [if_neg (fun q => hr_4_0 q.1)])⟩, by rw [ht]; exact hP, va_K.moved hW.alike hK, hD⟩, hS.F ht⟩) hS.2.2 dX12_sail_21

set_option maxHeartbeats 4000000 in
set_option maxRecDepth 100000 in
theorem c_X12_level (l : Launch) (D : va_G) (t : pq_T) (σ : pq_S) (I : Nat → Nat → Int32) (J : Nat → Nat → Int64) (ri : Nat → Nat → Int32) (rj : Nat → Nat → Int64) (rq : Nat → Nat → Option Nat) (sz : Nat) (this : Nat) (ri_ : Int32) (mo : Int32) (b : Int32) (v : Int32) (hL_this : this ∈ σ.1) (hK_this : σ.2.1 this = 12) (this_a : Nat) (hR_this_a : σ.2.2.1 384 this = some this_a) (hL_this_a : this_a ∈ σ.1) (hK_this_a : σ.2.1 this_a = 13) (hN_this_a : σ.2.2.2 this_a = 12720) (hF : fm (ri this_a) 0) : MetI l yX12_level (wa yX12_level cX12_level 6 (some .int)) ({ frames := 2, cells := 0, slots := 0, locals := 42 }) [.ref this, .int ri_, .int mo, .int b, .int v] D t σ (I, J, ri, rj, rq) sz 0 0 (fun (r : Int32) (u : pq_S × pq_M) => ∃ ri' : Nat → Nat → Int32, u = (σ, I, J, ri', rj, rq) ∧ (r = sp_level ri_ mo b v)) := by
  refine Met.ofW (cc := cX12_level) (maxL := 6) (ret := (some .int)) (by decide) rfl ?_
  intro p e s m args below meth c s₁ B hml hv
  obtain ⟨rfl, hsz, hP, hK, hD0, hN⟩ := hv
  have hx := B.exec
  have hb := B.bytes
  have hr := B.returns
  have hts := atoms_spec (ws := (wa yX12_level cX12_level 6 (some .int))) B.pre
  have hown : s.vm.findClass RX12 = some m.cls := findClass_of_methodNamed B.named
  have hlocks := B.notSynchronized
  subst hsz
  have hD : va_D (pq_B t σ (I, J, ri, rj, rq) s.heap.size) (pq_P t σ (I, J, ri, rj, rq)) := hD0.self
  generalize hAe : pq_B t σ (I, J, ri, rj, rq) s.heap.size = A at hD ⊢
  have hA : ∀ q : Nat, s.heap.size ≤ q → A q := fun q h => by rw [← hAe]; exact Or.inr h
  have hS : va_S A s.heap s.heap [] := va_S.rf
  have hl := lv_entry ([.ref this, .int ri_, .int mo, .int b, .int v]) (n := 6) (Nat.le_of_ble_eq_true rfl)
  rw [lg_entry_eq]
  generalize (lg_sl ([.ref this, .int ri_, .int mo, .int b, .int v]) ++ List.replicate (6 - (lg_sl ([.ref this, .int ri_, .int mo, .int b, .int v])).length) Slot.unset).toArray = ls at hl ⊢
  have hl : lv_has ls 6 [(0, .ref this), (1, .int ri_), (2, .int mo), (3, .int b), (4, .int v)] := hl
  refine lv_iload_n hx hb dX12_level_0 rfl (lv_at hl 1 rfl) ?_
  refine pk_i (va_runS (As := [.int ri_]) (rest := []) ⟨hx, hb, hml, hown, hts⟩ (c_X12_isRise l D t σ I J ri rj rq (Array.size s.heap) ri_) (va_cwS 1 hts (tw_S tw_259 tw_260 tw_5 tw_261) rfl rfl rfl (by decide +kernel) ⟨Nat.le_of_ble_eq_true rfl, Nat.le_of_ble_eq_true rfl⟩) ⟨pq_blind, pq_pre hK hN hP hD⟩ rfl rfl hl.1 rfl (lv_room (Nat.le_of_ble_eq_true rfl)) dX12_level_1 ⟨Nat.le_of_ble_eq_true rfl, Nat.le_of_ble_eq_true rfl⟩) hD hS hA (fun r_1 σ1 μ1 H locs hw_2 hP hD hS => ?_)
  obtain ⟨hu_3, hr_4⟩ := hw_2
  obtain ⟨hu_3a, hu_3b⟩ := Prod.mk.inj hu_3
  rw [hu_3a, hu_3b] at hP hD
  rcases hr_4 with ⟨rfl, hr_4_0, hr_4_1⟩ | ⟨rfl, hr_4_0⟩
  · refine lv_if_eq (tgt := 44) hx hb dX12_level_4 (by decide) (fun c_5 => absurd c_5 (by decide)) (fun c_5 => ?_)
    refine lv_iload_n hx hb dX12_level_7 rfl (lv_at hl 2 rfl) ?_
    refine pk_i (va_runS (As := [.int mo]) (rest := []) ⟨hx, hb, hml, hown, hts⟩ (c_X12_isMonth l D t σ I J ri rj rq H.size mo) (va_cwS 1 hts (tw_S tw_262 tw_263 tw_5 tw_264) rfl rfl rfl (by decide +kernel) ⟨Nat.le_of_ble_eq_true rfl, Nat.le_of_ble_eq_true rfl⟩) ⟨pq_blind, pq_pre hK hN hP hD⟩ rfl rfl hl.1 rfl (lv_room (Nat.le_of_ble_eq_true rfl)) dX12_level_8 ⟨Nat.le_of_ble_eq_true rfl, Nat.le_of_ble_eq_true rfl⟩) hD hS hA (fun r_6 σ1 μ1 H locs hw_7 hP hD hS => ?_)
    obtain ⟨hu_8, hr_9⟩ := hw_7
    obtain ⟨hu_8a, hu_8b⟩ := Prod.mk.inj hu_8
    rw [hu_8a, hu_8b] at hP hD
    rcases hr_9 with ⟨rfl, hr_9_0, hr_9_1⟩ | ⟨rfl, hr_9_0⟩
    · refine lv_if_eq (tgt := 44) hx hb dX12_level_11 (by decide) (fun c_10 => absurd c_10 (by decide)) (fun c_10 => ?_)
      refine lv_iload_n hx hb dX12_level_14 rfl (lv_at hl 3 rfl) ?_
      refine lv_if_eq (tgt := 32) hx hb dX12_level_15 (by decide) (fun c_11 => ?_) (fun c_11 => ?_)
      · refine lv_aload_n hx hb dX12_level_32 rfl (lv_at hl 0 rfl) ?_
        refine pg_f (v := .ref this_a) (C := RX12) (T := TX12) (N := 31) hx hb hts (tw_i inlX12) hown hK hP hL_this hK_this (by decide) rfl 0 (by decide) (hts _ (tw_c tw_176)) (pq_hv rfl hR_this_a) dX12_level_33 ?_
        refine lv_iconst (v := 3) hx hb dX12_level_36 (by decide) ?_
        refine pl_i hx hb hK hP hL_this_a hK_this_a hN_this_a (vp_in_iff.mpr (by decide)) dX12_level_37 ?_
        refine lv_tov 0 (fm_at hF 3 (v := 0) (by decide)) ?_
        refine lv_sipush (v := 200) hx hb dX12_level_38 (by decide) ?_
        refine lv_icmp_ne (tgt := 46) hx hb dX12_level_41 (by decide) (fun c_12 => ?_) (fun c_12 => absurd c_12 (by decide))
        refine lv_sipush (v := 1220) hx hb dX12_level_46 (by decide) ?_
        refine lv_iconst (v := 5) hx hb dX12_level_49 (by decide) ?_
        refine lv_aload_n hx hb dX12_level_50 rfl (lv_at hl 0 rfl) ?_
        refine pg_f (v := .ref this_a) (C := RX12) (T := TX12) (N := 31) hx hb hts (tw_i inlX12) hown hK hP hL_this hK_this (by decide) rfl 0 (by decide) (hts _ (tw_c tw_176)) (pq_hv rfl hR_this_a) dX12_level_51 ?_
        refine lv_iconst (v := 3) hx hb dX12_level_54 (by decide) ?_
        refine pl_i hx hb hK hP hL_this_a hK_this_a hN_this_a (vp_in_iff.mpr (by decide)) dX12_level_55 ?_
        refine lv_tov 0 (fm_at hF 3 (v := 0) (by decide)) ?_
        refine lv_imul hx hb dX12_level_56 ?_
        refine lv_tov 0 (by decide) ?_
        refine lv_iadd hx hb dX12_level_57 ?_
        refine lv_tov 1220 (by decide) ?_
        refine lv_istore (lv' := [(5, .int 1220), (0, .ref this), (1, .int ri_), (2, .int mo), (3, .int b), (4, .int v)]) hx hb dX12_level_58 hl (by decide) rfl (fun ls hl => ?_)
        refine lv_aload_n hx hb dX12_level_60 rfl (lv_at hl 1 rfl) ?_
        refine pg_f (v := .ref this_a) (C := RX12) (T := TX12) (N := 31) hx hb hts (tw_i inlX12) hown hK hP hL_this hK_this (by decide) rfl 0 (by decide) (hts _ (tw_c tw_176)) (pq_hv rfl hR_this_a) dX12_level_61 ?_
        refine lv_iload hx hb dX12_level_64 (lv_at hl 0 rfl) ?_
        refine lv_iload_n hx hb dX12_level_66 rfl (lv_at hl 2 rfl) ?_
        refine pt_i hx hb hK hP hD hS hL_this_a hK_this_a hN_this_a (vp_in_iff.mpr (by decide)) dX12_level_67 (fun r_13 H locs er_13 hP hD hS => ?_)
        refine lv_aload_n hx hb dX12_level_68 rfl (lv_at hl 1 rfl) ?_
        refine pg_f (v := .ref this_a) (C := RX12) (T := TX12) (N := 31) hx hb hts (tw_i inlX12) hown hK hP hL_this hK_this (by decide) rfl 0 (by decide) (hts _ (tw_c tw_176)) (pq_hv rfl hR_this_a) dX12_level_69 ?_
        refine lv_iload hx hb dX12_level_72 (lv_at hl 0 rfl) ?_
        refine lv_iconst (v := 1) hx hb dX12_level_74 (by decide) ?_
        refine lv_iadd hx hb dX12_level_75 ?_
        refine lv_tov 1221 (by decide) ?_
        refine lv_iload_n hx hb dX12_level_76 rfl (lv_at hl 3 rfl) ?_
        refine pt_i hx hb hK hP hD hS hL_this_a hK_this_a hN_this_a (vp_in_iff.mpr (by decide)) dX12_level_77 (fun r_14 H locs er_14 hP hD hS => ?_)
        refine lv_aload_n hx hb dX12_level_78 rfl (lv_at hl 1 rfl) ?_
        refine pg_f (v := .ref this_a) (C := RX12) (T := TX12) (N := 31) hx hb hts (tw_i inlX12) hown hK hP hL_this hK_this (by decide) rfl 0 (by decide) (hts _ (tw_c tw_176)) (pq_hv rfl hR_this_a) dX12_level_79 ?_
        refine lv_iload hx hb dX12_level_82 (lv_at hl 0 rfl) ?_
        refine lv_iconst (v := 2) hx hb dX12_level_84 (by decide) ?_
        refine lv_iadd hx hb dX12_level_85 ?_
        refine lv_tov 1222 (by decide) ?_
        refine lv_iload_n hx hb dX12_level_86 rfl (lv_at hl 4 rfl) ?_
        refine lv_if_eq (tgt := 94) hx hb dX12_level_87 (by decide) (fun c_15 => ?_) (fun c_15 => ?_)
        · refine lv_iconst (v := 0) hx hb dX12_level_94 (by decide) ?_
          refine pt_i hx hb hK hP hD hS hL_this_a hK_this_a hN_this_a (vp_in_iff.mpr (by decide)) dX12_level_95 (fun r_16 H locs er_16 hP hD hS => ?_)
          refine lv_aload_n hx hb dX12_level_96 rfl (lv_at hl 1 rfl) ?_
          refine pg_f (v := .ref this_a) (C := RX12) (T := TX12) (N := 31) hx hb hts (tw_i inlX12) hown hK hP hL_this hK_this (by decide) rfl 0 (by decide) (hts _ (tw_c tw_176)) (pq_hv rfl hR_this_a) dX12_level_97 ?_
          refine lv_iload hx hb dX12_level_100 (lv_at hl 0 rfl) ?_
          refine lv_iconst (v := 3) hx hb dX12_level_102 (by decide) ?_
          refine lv_iadd hx hb dX12_level_103 ?_
          refine lv_tov 1223 (by decide) ?_
          refine lv_iload_n hx hb dX12_level_104 rfl (lv_at hl 4 rfl) ?_
          refine lv_if_eq (tgt := 113) hx hb dX12_level_105 (by decide) (fun c_17 => ?_) (fun c_17 => ?_)
          · refine lv_iconst (v := 0) hx hb dX12_level_113 (by decide) ?_
            refine pt_i hx hb hK hP hD hS hL_this_a hK_this_a hN_this_a (vp_in_iff.mpr (by decide)) dX12_level_114 (fun r_18 H locs er_18 hP hD hS => ?_)
            refine lv_aload_n hx hb dX12_level_115 rfl (lv_at hl 1 rfl) ?_
            refine pg_f (v := .ref this_a) (C := RX12) (T := TX12) (N := 31) hx hb hts (tw_i inlX12) hown hK hP hL_this hK_this (by decide) rfl 0 (by decide) (hts _ (tw_c tw_176)) (pq_hv rfl hR_this_a) dX12_level_116 ?_
            refine lv_iload hx hb dX12_level_119 (lv_at hl 0 rfl) ?_
            refine lv_iconst (v := 4) hx hb dX12_level_121 (by decide) ?_
            refine lv_iadd hx hb dX12_level_122 ?_
            refine lv_tov 1224 (by decide) ?_
            refine lv_aload_n hx hb dX12_level_123 rfl (lv_at hl 1 rfl) ?_
            refine pg_f (v := .ref this_a) (C := RX12) (T := TX12) (N := 31) hx hb hts (tw_i inlX12) hown hK hP hL_this hK_this (by decide) rfl 0 (by decide) (hts _ (tw_c tw_176)) (pq_hv rfl hR_this_a) dX12_level_124 ?_
            refine lv_iconst (v := 0) hx hb dX12_level_127 (by decide) ?_
            refine pl_i hx hb hK hP hL_this_a hK_this_a hN_this_a (vp_in_iff.mpr (by decide)) dX12_level_128 ?_
            refine lv_tov 0 ((fm_hi (fm_hi (fm_hi (fm_hi hF er_13 (Or.inr (by decide))) er_14 (Or.inr (by decide))) er_16 (Or.inr (by decide))) er_18 (Or.inr (by decide))).1.trans nI_0) ?_
            refine pt_i hx hb hK hP hD hS hL_this_a hK_this_a hN_this_a (vp_in_iff.mpr (by decide)) dX12_level_129 (fun r_19 H locs er_19 hP hD hS => ?_)
            refine lv_aload_n hx hb dX12_level_130 rfl (lv_at hl 1 rfl) ?_
            refine pg_f (v := .ref this_a) (C := RX12) (T := TX12) (N := 31) hx hb hts (tw_i inlX12) hown hK hP hL_this hK_this (by decide) rfl 0 (by decide) (hts _ (tw_c tw_176)) (pq_hv rfl hR_this_a) dX12_level_131 ?_
            refine lv_iconst (v := 3) hx hb dX12_level_134 (by decide) ?_
            refine lv_dup2_11 hx hb dX12_level_135 rfl rfl ?_
            refine pl_i hx hb hK hP hL_this_a hK_this_a hN_this_a (vp_in_iff.mpr (by decide)) dX12_level_136 ?_
            refine lv_tov 0 (fm_at (fm_hi (fm_hi (fm_hi (fm_hi (fm_hi hF er_13 (Or.inr (by decide))) er_14 (Or.inr (by decide))) er_16 (Or.inr (by decide))) er_18 (Or.inr (by decide))) er_19 (Or.inr (by decide))) 3 (v := 0) (by decide)) ?_
            refine lv_iconst (v := 1) hx hb dX12_level_137 (by decide) ?_
            refine lv_iadd hx hb dX12_level_138 ?_
            refine lv_tov 1 (by decide) ?_
            refine pt_i hx hb hK hP hD hS hL_this_a hK_this_a hN_this_a (vp_in_iff.mpr (by decide)) dX12_level_139 (fun r_20 H locs er_20 hP hD hS => ?_)
            refine lv_aload_n hx hb dX12_level_140 rfl (lv_at hl 1 rfl) ?_
            refine pg_f (v := .ref this_a) (C := RX12) (T := TX12) (N := 31) hx hb hts (tw_i inlX12) hown hK hP hL_this hK_this (by decide) rfl 0 (by decide) (hts _ (tw_c tw_176)) (pq_hv rfl hR_this_a) dX12_level_141 ?_
            refine lv_iconst (v := 3) hx hb dX12_level_144 (by decide) ?_
            refine pl_i hx hb hK hP hL_this_a hK_this_a hN_this_a (vp_in_iff.mpr (by decide)) dX12_level_145 ?_
            refine lv_tov 1 (rd_eq er_20) ?_
            exact W.iret (v := 1) hx hb hr (fun t1 ht hW => ⟨⟨1, (σ, I, J, r_20, rj, rq), rfl, ⟨r_20, rfl, (by unfold sp_level; rw [if_pos (show _ from ⟨⟨hr_4_0, hr_4_1⟩, ⟨hr_9_0, hr_9_1⟩, Or.inl c_11⟩)])⟩, by rw [ht]; exact hP, va_K.moved hW.alike hK, hD⟩, hS.F ht⟩) hS.2.2 dX12_level_146
          · refine lv_iload hx hb dX12_level_108 (lv_at hl 5 rfl) ?_
            refine lv_goto (tgt := 114) hx hb dX12_level_110 (by decide) ?_
            refine pt_i hx hb hK hP hD hS hL_this_a hK_this_a hN_this_a (vp_in_iff.mpr (by decide)) dX12_level_114 (fun r_21 H locs er_21 hP hD hS => ?_)
            refine lv_aload_n hx hb dX12_level_115 rfl (lv_at hl 1 rfl) ?_
            refine pg_f (v := .ref this_a) (C := RX12) (T := TX12) (N := 31) hx hb hts (tw_i inlX12) hown hK hP hL_this hK_this (by decide) rfl 0 (by decide) (hts _ (tw_c tw_176)) (pq_hv rfl hR_this_a) dX12_level_116 ?_
            refine lv_iload hx hb dX12_level_119 (lv_at hl 0 rfl) ?_
            refine lv_iconst (v := 4) hx hb dX12_level_121 (by decide) ?_
            refine lv_iadd hx hb dX12_level_122 ?_
            refine lv_tov 1224 (by decide) ?_
            refine lv_aload_n hx hb dX12_level_123 rfl (lv_at hl 1 rfl) ?_
            refine pg_f (v := .ref this_a) (C := RX12) (T := TX12) (N := 31) hx hb hts (tw_i inlX12) hown hK hP hL_this hK_this (by decide) rfl 0 (by decide) (hts _ (tw_c tw_176)) (pq_hv rfl hR_this_a) dX12_level_124 ?_
            refine lv_iconst (v := 0) hx hb dX12_level_127 (by decide) ?_
            refine pl_i hx hb hK hP hL_this_a hK_this_a hN_this_a (vp_in_iff.mpr (by decide)) dX12_level_128 ?_
            refine lv_tov 0 ((fm_hi (fm_hi (fm_hi (fm_hi hF er_13 (Or.inr (by decide))) er_14 (Or.inr (by decide))) er_16 (Or.inr (by decide))) er_21 (Or.inr (by decide))).1.trans nI_0) ?_
            refine pt_i hx hb hK hP hD hS hL_this_a hK_this_a hN_this_a (vp_in_iff.mpr (by decide)) dX12_level_129 (fun r_22 H locs er_22 hP hD hS => ?_)
            refine lv_aload_n hx hb dX12_level_130 rfl (lv_at hl 1 rfl) ?_
            refine pg_f (v := .ref this_a) (C := RX12) (T := TX12) (N := 31) hx hb hts (tw_i inlX12) hown hK hP hL_this hK_this (by decide) rfl 0 (by decide) (hts _ (tw_c tw_176)) (pq_hv rfl hR_this_a) dX12_level_131 ?_
            refine lv_iconst (v := 3) hx hb dX12_level_134 (by decide) ?_
            refine lv_dup2_11 hx hb dX12_level_135 rfl rfl ?_
            refine pl_i hx hb hK hP hL_this_a hK_this_a hN_this_a (vp_in_iff.mpr (by decide)) dX12_level_136 ?_
            refine lv_tov 0 (fm_at (fm_hi (fm_hi (fm_hi (fm_hi (fm_hi hF er_13 (Or.inr (by decide))) er_14 (Or.inr (by decide))) er_16 (Or.inr (by decide))) er_21 (Or.inr (by decide))) er_22 (Or.inr (by decide))) 3 (v := 0) (by decide)) ?_
            refine lv_iconst (v := 1) hx hb dX12_level_137 (by decide) ?_
            refine lv_iadd hx hb dX12_level_138 ?_
            refine lv_tov 1 (by decide) ?_
            refine pt_i hx hb hK hP hD hS hL_this_a hK_this_a hN_this_a (vp_in_iff.mpr (by decide)) dX12_level_139 (fun r_23 H locs er_23 hP hD hS => ?_)
            refine lv_aload_n hx hb dX12_level_140 rfl (lv_at hl 1 rfl) ?_
            refine pg_f (v := .ref this_a) (C := RX12) (T := TX12) (N := 31) hx hb hts (tw_i inlX12) hown hK hP hL_this hK_this (by decide) rfl 0 (by decide) (hts _ (tw_c tw_176)) (pq_hv rfl hR_this_a) dX12_level_141 ?_
            refine lv_iconst (v := 3) hx hb dX12_level_144 (by decide) ?_
            refine pl_i hx hb hK hP hL_this_a hK_this_a hN_this_a (vp_in_iff.mpr (by decide)) dX12_level_145 ?_
            refine lv_tov 1 (rd_eq er_23) ?_
            exact W.iret (v := 1) hx hb hr (fun t1 ht hW => ⟨⟨1, (σ, I, J, r_23, rj, rq), rfl, ⟨r_23, rfl, (by unfold sp_level; rw [if_pos (show _ from ⟨⟨hr_4_0, hr_4_1⟩, ⟨hr_9_0, hr_9_1⟩, Or.inl c_11⟩)])⟩, by rw [ht]; exact hP, va_K.moved hW.alike hK, hD⟩, hS.F ht⟩) hS.2.2 dX12_level_146
        · refine lv_iconst (v := 1) hx hb dX12_level_90 (by decide) ?_
          refine lv_goto (tgt := 95) hx hb dX12_level_91 (by decide) ?_
          refine pt_i hx hb hK hP hD hS hL_this_a hK_this_a hN_this_a (vp_in_iff.mpr (by decide)) dX12_level_95 (fun r_24 H locs er_24 hP hD hS => ?_)
          refine lv_aload_n hx hb dX12_level_96 rfl (lv_at hl 1 rfl) ?_
          refine pg_f (v := .ref this_a) (C := RX12) (T := TX12) (N := 31) hx hb hts (tw_i inlX12) hown hK hP hL_this hK_this (by decide) rfl 0 (by decide) (hts _ (tw_c tw_176)) (pq_hv rfl hR_this_a) dX12_level_97 ?_
          refine lv_iload hx hb dX12_level_100 (lv_at hl 0 rfl) ?_
          refine lv_iconst (v := 3) hx hb dX12_level_102 (by decide) ?_
          refine lv_iadd hx hb dX12_level_103 ?_
          refine lv_tov 1223 (by decide) ?_
          refine lv_iload_n hx hb dX12_level_104 rfl (lv_at hl 4 rfl) ?_
          refine lv_if_eq (tgt := 113) hx hb dX12_level_105 (by decide) (fun c_25 => ?_) (fun c_25 => ?_)
          · refine lv_iconst (v := 0) hx hb dX12_level_113 (by decide) ?_
            refine pt_i hx hb hK hP hD hS hL_this_a hK_this_a hN_this_a (vp_in_iff.mpr (by decide)) dX12_level_114 (fun r_26 H locs er_26 hP hD hS => ?_)
            refine lv_aload_n hx hb dX12_level_115 rfl (lv_at hl 1 rfl) ?_
            refine pg_f (v := .ref this_a) (C := RX12) (T := TX12) (N := 31) hx hb hts (tw_i inlX12) hown hK hP hL_this hK_this (by decide) rfl 0 (by decide) (hts _ (tw_c tw_176)) (pq_hv rfl hR_this_a) dX12_level_116 ?_
            refine lv_iload hx hb dX12_level_119 (lv_at hl 0 rfl) ?_
            refine lv_iconst (v := 4) hx hb dX12_level_121 (by decide) ?_
            refine lv_iadd hx hb dX12_level_122 ?_
            refine lv_tov 1224 (by decide) ?_
            refine lv_aload_n hx hb dX12_level_123 rfl (lv_at hl 1 rfl) ?_
            refine pg_f (v := .ref this_a) (C := RX12) (T := TX12) (N := 31) hx hb hts (tw_i inlX12) hown hK hP hL_this hK_this (by decide) rfl 0 (by decide) (hts _ (tw_c tw_176)) (pq_hv rfl hR_this_a) dX12_level_124 ?_
            refine lv_iconst (v := 0) hx hb dX12_level_127 (by decide) ?_
            refine pl_i hx hb hK hP hL_this_a hK_this_a hN_this_a (vp_in_iff.mpr (by decide)) dX12_level_128 ?_
            refine lv_tov 0 ((fm_hi (fm_hi (fm_hi (fm_hi hF er_13 (Or.inr (by decide))) er_14 (Or.inr (by decide))) er_24 (Or.inr (by decide))) er_26 (Or.inr (by decide))).1.trans nI_0) ?_
            refine pt_i hx hb hK hP hD hS hL_this_a hK_this_a hN_this_a (vp_in_iff.mpr (by decide)) dX12_level_129 (fun r_27 H locs er_27 hP hD hS => ?_)
            refine lv_aload_n hx hb dX12_level_130 rfl (lv_at hl 1 rfl) ?_
            refine pg_f (v := .ref this_a) (C := RX12) (T := TX12) (N := 31) hx hb hts (tw_i inlX12) hown hK hP hL_this hK_this (by decide) rfl 0 (by decide) (hts _ (tw_c tw_176)) (pq_hv rfl hR_this_a) dX12_level_131 ?_
            refine lv_iconst (v := 3) hx hb dX12_level_134 (by decide) ?_
            refine lv_dup2_11 hx hb dX12_level_135 rfl rfl ?_
            refine pl_i hx hb hK hP hL_this_a hK_this_a hN_this_a (vp_in_iff.mpr (by decide)) dX12_level_136 ?_
            refine lv_tov 0 (fm_at (fm_hi (fm_hi (fm_hi (fm_hi (fm_hi hF er_13 (Or.inr (by decide))) er_14 (Or.inr (by decide))) er_24 (Or.inr (by decide))) er_26 (Or.inr (by decide))) er_27 (Or.inr (by decide))) 3 (v := 0) (by decide)) ?_
            refine lv_iconst (v := 1) hx hb dX12_level_137 (by decide) ?_
            refine lv_iadd hx hb dX12_level_138 ?_
            refine lv_tov 1 (by decide) ?_
            refine pt_i hx hb hK hP hD hS hL_this_a hK_this_a hN_this_a (vp_in_iff.mpr (by decide)) dX12_level_139 (fun r_28 H locs er_28 hP hD hS => ?_)
            refine lv_aload_n hx hb dX12_level_140 rfl (lv_at hl 1 rfl) ?_
            refine pg_f (v := .ref this_a) (C := RX12) (T := TX12) (N := 31) hx hb hts (tw_i inlX12) hown hK hP hL_this hK_this (by decide) rfl 0 (by decide) (hts _ (tw_c tw_176)) (pq_hv rfl hR_this_a) dX12_level_141 ?_
            refine lv_iconst (v := 3) hx hb dX12_level_144 (by decide) ?_
            refine pl_i hx hb hK hP hL_this_a hK_this_a hN_this_a (vp_in_iff.mpr (by decide)) dX12_level_145 ?_
            refine lv_tov 1 (rd_eq er_28) ?_
            exact W.iret (v := 1) hx hb hr (fun t1 ht hW => ⟨⟨1, (σ, I, J, r_28, rj, rq), rfl, ⟨r_28, rfl, (by unfold sp_level; rw [if_pos (show _ from ⟨⟨hr_4_0, hr_4_1⟩, ⟨hr_9_0, hr_9_1⟩, Or.inl c_11⟩)])⟩, by rw [ht]; exact hP, va_K.moved hW.alike hK, hD⟩, hS.F ht⟩) hS.2.2 dX12_level_146
          · refine lv_iload hx hb dX12_level_108 (lv_at hl 5 rfl) ?_
            refine lv_goto (tgt := 114) hx hb dX12_level_110 (by decide) ?_
            refine pt_i hx hb hK hP hD hS hL_this_a hK_this_a hN_this_a (vp_in_iff.mpr (by decide)) dX12_level_114 (fun r_29 H locs er_29 hP hD hS => ?_)
            refine lv_aload_n hx hb dX12_level_115 rfl (lv_at hl 1 rfl) ?_
            refine pg_f (v := .ref this_a) (C := RX12) (T := TX12) (N := 31) hx hb hts (tw_i inlX12) hown hK hP hL_this hK_this (by decide) rfl 0 (by decide) (hts _ (tw_c tw_176)) (pq_hv rfl hR_this_a) dX12_level_116 ?_
            refine lv_iload hx hb dX12_level_119 (lv_at hl 0 rfl) ?_
            refine lv_iconst (v := 4) hx hb dX12_level_121 (by decide) ?_
            refine lv_iadd hx hb dX12_level_122 ?_
            refine lv_tov 1224 (by decide) ?_
            refine lv_aload_n hx hb dX12_level_123 rfl (lv_at hl 1 rfl) ?_
            refine pg_f (v := .ref this_a) (C := RX12) (T := TX12) (N := 31) hx hb hts (tw_i inlX12) hown hK hP hL_this hK_this (by decide) rfl 0 (by decide) (hts _ (tw_c tw_176)) (pq_hv rfl hR_this_a) dX12_level_124 ?_
            refine lv_iconst (v := 0) hx hb dX12_level_127 (by decide) ?_
            refine pl_i hx hb hK hP hL_this_a hK_this_a hN_this_a (vp_in_iff.mpr (by decide)) dX12_level_128 ?_
            refine lv_tov 0 ((fm_hi (fm_hi (fm_hi (fm_hi hF er_13 (Or.inr (by decide))) er_14 (Or.inr (by decide))) er_24 (Or.inr (by decide))) er_29 (Or.inr (by decide))).1.trans nI_0) ?_
            refine pt_i hx hb hK hP hD hS hL_this_a hK_this_a hN_this_a (vp_in_iff.mpr (by decide)) dX12_level_129 (fun r_30 H locs er_30 hP hD hS => ?_)
            refine lv_aload_n hx hb dX12_level_130 rfl (lv_at hl 1 rfl) ?_
            refine pg_f (v := .ref this_a) (C := RX12) (T := TX12) (N := 31) hx hb hts (tw_i inlX12) hown hK hP hL_this hK_this (by decide) rfl 0 (by decide) (hts _ (tw_c tw_176)) (pq_hv rfl hR_this_a) dX12_level_131 ?_
            refine lv_iconst (v := 3) hx hb dX12_level_134 (by decide) ?_
            refine lv_dup2_11 hx hb dX12_level_135 rfl rfl ?_
            refine pl_i hx hb hK hP hL_this_a hK_this_a hN_this_a (vp_in_iff.mpr (by decide)) dX12_level_136 ?_
            refine lv_tov 0 (fm_at (fm_hi (fm_hi (fm_hi (fm_hi (fm_hi hF er_13 (Or.inr (by decide))) er_14 (Or.inr (by decide))) er_24 (Or.inr (by decide))) er_29 (Or.inr (by decide))) er_30 (Or.inr (by decide))) 3 (v := 0) (by decide)) ?_
            refine lv_iconst (v := 1) hx hb dX12_level_137 (by decide) ?_
            refine lv_iadd hx hb dX12_level_138 ?_
            refine lv_tov 1 (by decide) ?_
            refine pt_i hx hb hK hP hD hS hL_this_a hK_this_a hN_this_a (vp_in_iff.mpr (by decide)) dX12_level_139 (fun r_31 H locs er_31 hP hD hS => ?_)
            refine lv_aload_n hx hb dX12_level_140 rfl (lv_at hl 1 rfl) ?_
            refine pg_f (v := .ref this_a) (C := RX12) (T := TX12) (N := 31) hx hb hts (tw_i inlX12) hown hK hP hL_this hK_this (by decide) rfl 0 (by decide) (hts _ (tw_c tw_176)) (pq_hv rfl hR_this_a) dX12_level_141 ?_
            refine lv_iconst (v := 3) hx hb dX12_level_144 (by decide) ?_
            refine pl_i hx hb hK hP hL_this_a hK_this_a hN_this_a (vp_in_iff.mpr (by decide)) dX12_level_145 ?_
            refine lv_tov 1 (rd_eq er_31) ?_
            exact W.iret (v := 1) hx hb hr (fun t1 ht hW => ⟨⟨1, (σ, I, J, r_31, rj, rq), rfl, ⟨r_31, rfl, (by unfold sp_level; rw [if_pos (show _ from ⟨⟨hr_4_0, hr_4_1⟩, ⟨hr_9_0, hr_9_1⟩, Or.inl c_11⟩)])⟩, by rw [ht]; exact hP, va_K.moved hW.alike hK, hD⟩, hS.F ht⟩) hS.2.2 dX12_level_146
      · refine lv_iload hx hb dX12_level_18 (lv_at hl 4 rfl) ?_
        refine lv_sipush (v := (-1000)) hx hb dX12_level_20 (by decide) ?_
        refine lv_sipush (v := 5000) hx hb dX12_level_23 (by decide) ?_
        refine pk_i (va_runS (As := [.int v, .int (-1000), .int 5000]) (rest := []) ⟨hx, hb, hml, hown, hts⟩ (c_X12_isIn l D t σ I J ri rj rq H.size v (-1000 : Int32) (5000 : Int32)) (va_cwS 3 hts (tw_S tw_235 tw_236 tw_5 tw_237) rfl rfl rfl (by decide +kernel) ⟨Nat.le_of_ble_eq_true rfl, Nat.le_of_ble_eq_true rfl⟩) ⟨pq_blind, pq_pre hK hN hP hD⟩ rfl rfl hl.1 rfl (lv_room (Nat.le_of_ble_eq_true rfl)) dX12_level_26 ⟨Nat.le_of_ble_eq_true rfl, Nat.le_of_ble_eq_true rfl⟩) hD hS hA (fun r_32 σ1 μ1 H locs hw_33 hP hD hS => ?_)
        obtain ⟨hu_34, hr_35⟩ := hw_33
        obtain ⟨hu_34a, hu_34b⟩ := Prod.mk.inj hu_34
        rw [hu_34a, hu_34b] at hP hD
        rcases hr_35 with ⟨rfl, hr_35_0, hr_35_1⟩ | ⟨rfl, hr_35_0⟩
        · refine lv_if_eq (tgt := 44) hx hb dX12_level_29 (by decide) (fun c_36 => absurd c_36 (by decide)) (fun c_36 => ?_)
          refine lv_aload_n hx hb dX12_level_32 rfl (lv_at hl 0 rfl) ?_
          refine pg_f (v := .ref this_a) (C := RX12) (T := TX12) (N := 31) hx hb hts (tw_i inlX12) hown hK hP hL_this hK_this (by decide) rfl 0 (by decide) (hts _ (tw_c tw_176)) (pq_hv rfl hR_this_a) dX12_level_33 ?_
          refine lv_iconst (v := 3) hx hb dX12_level_36 (by decide) ?_
          refine pl_i hx hb hK hP hL_this_a hK_this_a hN_this_a (vp_in_iff.mpr (by decide)) dX12_level_37 ?_
          refine lv_tov 0 (fm_at hF 3 (v := 0) (by decide)) ?_
          refine lv_sipush (v := 200) hx hb dX12_level_38 (by decide) ?_
          refine lv_icmp_ne (tgt := 46) hx hb dX12_level_41 (by decide) (fun c_37 => ?_) (fun c_37 => absurd c_37 (by decide))
          refine lv_sipush (v := 1220) hx hb dX12_level_46 (by decide) ?_
          refine lv_iconst (v := 5) hx hb dX12_level_49 (by decide) ?_
          refine lv_aload_n hx hb dX12_level_50 rfl (lv_at hl 0 rfl) ?_
          refine pg_f (v := .ref this_a) (C := RX12) (T := TX12) (N := 31) hx hb hts (tw_i inlX12) hown hK hP hL_this hK_this (by decide) rfl 0 (by decide) (hts _ (tw_c tw_176)) (pq_hv rfl hR_this_a) dX12_level_51 ?_
          refine lv_iconst (v := 3) hx hb dX12_level_54 (by decide) ?_
          refine pl_i hx hb hK hP hL_this_a hK_this_a hN_this_a (vp_in_iff.mpr (by decide)) dX12_level_55 ?_
          refine lv_tov 0 (fm_at hF 3 (v := 0) (by decide)) ?_
          refine lv_imul hx hb dX12_level_56 ?_
          refine lv_tov 0 (by decide) ?_
          refine lv_iadd hx hb dX12_level_57 ?_
          refine lv_tov 1220 (by decide) ?_
          refine lv_istore (lv' := [(5, .int 1220), (0, .ref this), (1, .int ri_), (2, .int mo), (3, .int b), (4, .int v)]) hx hb dX12_level_58 hl (by decide) rfl (fun ls hl => ?_)
          refine lv_aload_n hx hb dX12_level_60 rfl (lv_at hl 1 rfl) ?_
          refine pg_f (v := .ref this_a) (C := RX12) (T := TX12) (N := 31) hx hb hts (tw_i inlX12) hown hK hP hL_this hK_this (by decide) rfl 0 (by decide) (hts _ (tw_c tw_176)) (pq_hv rfl hR_this_a) dX12_level_61 ?_
          refine lv_iload hx hb dX12_level_64 (lv_at hl 0 rfl) ?_
          refine lv_iload_n hx hb dX12_level_66 rfl (lv_at hl 2 rfl) ?_
          refine pt_i hx hb hK hP hD hS hL_this_a hK_this_a hN_this_a (vp_in_iff.mpr (by decide)) dX12_level_67 (fun r_38 H locs er_38 hP hD hS => ?_)
          refine lv_aload_n hx hb dX12_level_68 rfl (lv_at hl 1 rfl) ?_
          refine pg_f (v := .ref this_a) (C := RX12) (T := TX12) (N := 31) hx hb hts (tw_i inlX12) hown hK hP hL_this hK_this (by decide) rfl 0 (by decide) (hts _ (tw_c tw_176)) (pq_hv rfl hR_this_a) dX12_level_69 ?_
          refine lv_iload hx hb dX12_level_72 (lv_at hl 0 rfl) ?_
          refine lv_iconst (v := 1) hx hb dX12_level_74 (by decide) ?_
          refine lv_iadd hx hb dX12_level_75 ?_
          refine lv_tov 1221 (by decide) ?_
          refine lv_iload_n hx hb dX12_level_76 rfl (lv_at hl 3 rfl) ?_
          refine pt_i hx hb hK hP hD hS hL_this_a hK_this_a hN_this_a (vp_in_iff.mpr (by decide)) dX12_level_77 (fun r_39 H locs er_39 hP hD hS => ?_)
          refine lv_aload_n hx hb dX12_level_78 rfl (lv_at hl 1 rfl) ?_
          refine pg_f (v := .ref this_a) (C := RX12) (T := TX12) (N := 31) hx hb hts (tw_i inlX12) hown hK hP hL_this hK_this (by decide) rfl 0 (by decide) (hts _ (tw_c tw_176)) (pq_hv rfl hR_this_a) dX12_level_79 ?_
          refine lv_iload hx hb dX12_level_82 (lv_at hl 0 rfl) ?_
          refine lv_iconst (v := 2) hx hb dX12_level_84 (by decide) ?_
          refine lv_iadd hx hb dX12_level_85 ?_
          refine lv_tov 1222 (by decide) ?_
          refine lv_iload_n hx hb dX12_level_86 rfl (lv_at hl 4 rfl) ?_
          refine lv_if_eq (tgt := 94) hx hb dX12_level_87 (by decide) (fun c_40 => ?_) (fun c_40 => ?_)
          · refine lv_iconst (v := 0) hx hb dX12_level_94 (by decide) ?_
            refine pt_i hx hb hK hP hD hS hL_this_a hK_this_a hN_this_a (vp_in_iff.mpr (by decide)) dX12_level_95 (fun r_41 H locs er_41 hP hD hS => ?_)
            refine lv_aload_n hx hb dX12_level_96 rfl (lv_at hl 1 rfl) ?_
            refine pg_f (v := .ref this_a) (C := RX12) (T := TX12) (N := 31) hx hb hts (tw_i inlX12) hown hK hP hL_this hK_this (by decide) rfl 0 (by decide) (hts _ (tw_c tw_176)) (pq_hv rfl hR_this_a) dX12_level_97 ?_
            refine lv_iload hx hb dX12_level_100 (lv_at hl 0 rfl) ?_
            refine lv_iconst (v := 3) hx hb dX12_level_102 (by decide) ?_
            refine lv_iadd hx hb dX12_level_103 ?_
            refine lv_tov 1223 (by decide) ?_
            refine lv_iload_n hx hb dX12_level_104 rfl (lv_at hl 4 rfl) ?_
            refine lv_if_eq (tgt := 113) hx hb dX12_level_105 (by decide) (fun c_42 => ?_) (fun c_42 => ?_)
            · refine lv_iconst (v := 0) hx hb dX12_level_113 (by decide) ?_
              refine pt_i hx hb hK hP hD hS hL_this_a hK_this_a hN_this_a (vp_in_iff.mpr (by decide)) dX12_level_114 (fun r_43 H locs er_43 hP hD hS => ?_)
              refine lv_aload_n hx hb dX12_level_115 rfl (lv_at hl 1 rfl) ?_
              refine pg_f (v := .ref this_a) (C := RX12) (T := TX12) (N := 31) hx hb hts (tw_i inlX12) hown hK hP hL_this hK_this (by decide) rfl 0 (by decide) (hts _ (tw_c tw_176)) (pq_hv rfl hR_this_a) dX12_level_116 ?_
              refine lv_iload hx hb dX12_level_119 (lv_at hl 0 rfl) ?_
              refine lv_iconst (v := 4) hx hb dX12_level_121 (by decide) ?_
              refine lv_iadd hx hb dX12_level_122 ?_
              refine lv_tov 1224 (by decide) ?_
              refine lv_aload_n hx hb dX12_level_123 rfl (lv_at hl 1 rfl) ?_
              refine pg_f (v := .ref this_a) (C := RX12) (T := TX12) (N := 31) hx hb hts (tw_i inlX12) hown hK hP hL_this hK_this (by decide) rfl 0 (by decide) (hts _ (tw_c tw_176)) (pq_hv rfl hR_this_a) dX12_level_124 ?_
              refine lv_iconst (v := 0) hx hb dX12_level_127 (by decide) ?_
              refine pl_i hx hb hK hP hL_this_a hK_this_a hN_this_a (vp_in_iff.mpr (by decide)) dX12_level_128 ?_
              refine lv_tov 0 ((fm_hi (fm_hi (fm_hi (fm_hi hF er_38 (Or.inr (by decide))) er_39 (Or.inr (by decide))) er_41 (Or.inr (by decide))) er_43 (Or.inr (by decide))).1.trans nI_0) ?_
              refine pt_i hx hb hK hP hD hS hL_this_a hK_this_a hN_this_a (vp_in_iff.mpr (by decide)) dX12_level_129 (fun r_44 H locs er_44 hP hD hS => ?_)
              refine lv_aload_n hx hb dX12_level_130 rfl (lv_at hl 1 rfl) ?_
              refine pg_f (v := .ref this_a) (C := RX12) (T := TX12) (N := 31) hx hb hts (tw_i inlX12) hown hK hP hL_this hK_this (by decide) rfl 0 (by decide) (hts _ (tw_c tw_176)) (pq_hv rfl hR_this_a) dX12_level_131 ?_
              refine lv_iconst (v := 3) hx hb dX12_level_134 (by decide) ?_
              refine lv_dup2_11 hx hb dX12_level_135 rfl rfl ?_
              refine pl_i hx hb hK hP hL_this_a hK_this_a hN_this_a (vp_in_iff.mpr (by decide)) dX12_level_136 ?_
              refine lv_tov 0 (fm_at (fm_hi (fm_hi (fm_hi (fm_hi (fm_hi hF er_38 (Or.inr (by decide))) er_39 (Or.inr (by decide))) er_41 (Or.inr (by decide))) er_43 (Or.inr (by decide))) er_44 (Or.inr (by decide))) 3 (v := 0) (by decide)) ?_
              refine lv_iconst (v := 1) hx hb dX12_level_137 (by decide) ?_
              refine lv_iadd hx hb dX12_level_138 ?_
              refine lv_tov 1 (by decide) ?_
              refine pt_i hx hb hK hP hD hS hL_this_a hK_this_a hN_this_a (vp_in_iff.mpr (by decide)) dX12_level_139 (fun r_45 H locs er_45 hP hD hS => ?_)
              refine lv_aload_n hx hb dX12_level_140 rfl (lv_at hl 1 rfl) ?_
              refine pg_f (v := .ref this_a) (C := RX12) (T := TX12) (N := 31) hx hb hts (tw_i inlX12) hown hK hP hL_this hK_this (by decide) rfl 0 (by decide) (hts _ (tw_c tw_176)) (pq_hv rfl hR_this_a) dX12_level_141 ?_
              refine lv_iconst (v := 3) hx hb dX12_level_144 (by decide) ?_
              refine pl_i hx hb hK hP hL_this_a hK_this_a hN_this_a (vp_in_iff.mpr (by decide)) dX12_level_145 ?_
              refine lv_tov 1 (rd_eq er_45) ?_
              exact W.iret (v := 1) hx hb hr (fun t1 ht hW => ⟨⟨1, (σ, I, J, r_45, rj, rq), rfl, ⟨r_45, rfl, (by unfold sp_level; rw [if_pos (show _ from ⟨⟨hr_4_0, hr_4_1⟩, ⟨hr_9_0, hr_9_1⟩, Or.inr ⟨hr_35_0, hr_35_1⟩⟩)])⟩, by rw [ht]; exact hP, va_K.moved hW.alike hK, hD⟩, hS.F ht⟩) hS.2.2 dX12_level_146
            · refine lv_iload hx hb dX12_level_108 (lv_at hl 5 rfl) ?_
              refine lv_goto (tgt := 114) hx hb dX12_level_110 (by decide) ?_
              refine pt_i hx hb hK hP hD hS hL_this_a hK_this_a hN_this_a (vp_in_iff.mpr (by decide)) dX12_level_114 (fun r_46 H locs er_46 hP hD hS => ?_)
              refine lv_aload_n hx hb dX12_level_115 rfl (lv_at hl 1 rfl) ?_
              refine pg_f (v := .ref this_a) (C := RX12) (T := TX12) (N := 31) hx hb hts (tw_i inlX12) hown hK hP hL_this hK_this (by decide) rfl 0 (by decide) (hts _ (tw_c tw_176)) (pq_hv rfl hR_this_a) dX12_level_116 ?_
              refine lv_iload hx hb dX12_level_119 (lv_at hl 0 rfl) ?_
              refine lv_iconst (v := 4) hx hb dX12_level_121 (by decide) ?_
              refine lv_iadd hx hb dX12_level_122 ?_
              refine lv_tov 1224 (by decide) ?_
              refine lv_aload_n hx hb dX12_level_123 rfl (lv_at hl 1 rfl) ?_
              refine pg_f (v := .ref this_a) (C := RX12) (T := TX12) (N := 31) hx hb hts (tw_i inlX12) hown hK hP hL_this hK_this (by decide) rfl 0 (by decide) (hts _ (tw_c tw_176)) (pq_hv rfl hR_this_a) dX12_level_124 ?_
              refine lv_iconst (v := 0) hx hb dX12_level_127 (by decide) ?_
              refine pl_i hx hb hK hP hL_this_a hK_this_a hN_this_a (vp_in_iff.mpr (by decide)) dX12_level_128 ?_
              refine lv_tov 0 ((fm_hi (fm_hi (fm_hi (fm_hi hF er_38 (Or.inr (by decide))) er_39 (Or.inr (by decide))) er_41 (Or.inr (by decide))) er_46 (Or.inr (by decide))).1.trans nI_0) ?_
              refine pt_i hx hb hK hP hD hS hL_this_a hK_this_a hN_this_a (vp_in_iff.mpr (by decide)) dX12_level_129 (fun r_47 H locs er_47 hP hD hS => ?_)
              refine lv_aload_n hx hb dX12_level_130 rfl (lv_at hl 1 rfl) ?_
              refine pg_f (v := .ref this_a) (C := RX12) (T := TX12) (N := 31) hx hb hts (tw_i inlX12) hown hK hP hL_this hK_this (by decide) rfl 0 (by decide) (hts _ (tw_c tw_176)) (pq_hv rfl hR_this_a) dX12_level_131 ?_
              refine lv_iconst (v := 3) hx hb dX12_level_134 (by decide) ?_
              refine lv_dup2_11 hx hb dX12_level_135 rfl rfl ?_
              refine pl_i hx hb hK hP hL_this_a hK_this_a hN_this_a (vp_in_iff.mpr (by decide)) dX12_level_136 ?_
              refine lv_tov 0 (fm_at (fm_hi (fm_hi (fm_hi (fm_hi (fm_hi hF er_38 (Or.inr (by decide))) er_39 (Or.inr (by decide))) er_41 (Or.inr (by decide))) er_46 (Or.inr (by decide))) er_47 (Or.inr (by decide))) 3 (v := 0) (by decide)) ?_
              refine lv_iconst (v := 1) hx hb dX12_level_137 (by decide) ?_
              refine lv_iadd hx hb dX12_level_138 ?_
              refine lv_tov 1 (by decide) ?_
              refine pt_i hx hb hK hP hD hS hL_this_a hK_this_a hN_this_a (vp_in_iff.mpr (by decide)) dX12_level_139 (fun r_48 H locs er_48 hP hD hS => ?_)
              refine lv_aload_n hx hb dX12_level_140 rfl (lv_at hl 1 rfl) ?_
              refine pg_f (v := .ref this_a) (C := RX12) (T := TX12) (N := 31) hx hb hts (tw_i inlX12) hown hK hP hL_this hK_this (by decide) rfl 0 (by decide) (hts _ (tw_c tw_176)) (pq_hv rfl hR_this_a) dX12_level_141 ?_
              refine lv_iconst (v := 3) hx hb dX12_level_144 (by decide) ?_
              refine pl_i hx hb hK hP hL_this_a hK_this_a hN_this_a (vp_in_iff.mpr (by decide)) dX12_level_145 ?_
              refine lv_tov 1 (rd_eq er_48) ?_
              exact W.iret (v := 1) hx hb hr (fun t1 ht hW => ⟨⟨1, (σ, I, J, r_48, rj, rq), rfl, ⟨r_48, rfl, (by unfold sp_level; rw [if_pos (show _ from ⟨⟨hr_4_0, hr_4_1⟩, ⟨hr_9_0, hr_9_1⟩, Or.inr ⟨hr_35_0, hr_35_1⟩⟩)])⟩, by rw [ht]; exact hP, va_K.moved hW.alike hK, hD⟩, hS.F ht⟩) hS.2.2 dX12_level_146
          · refine lv_iconst (v := 1) hx hb dX12_level_90 (by decide) ?_
            refine lv_goto (tgt := 95) hx hb dX12_level_91 (by decide) ?_
            refine pt_i hx hb hK hP hD hS hL_this_a hK_this_a hN_this_a (vp_in_iff.mpr (by decide)) dX12_level_95 (fun r_49 H locs er_49 hP hD hS => ?_)
            refine lv_aload_n hx hb dX12_level_96 rfl (lv_at hl 1 rfl) ?_
            refine pg_f (v := .ref this_a) (C := RX12) (T := TX12) (N := 31) hx hb hts (tw_i inlX12) hown hK hP hL_this hK_this (by decide) rfl 0 (by decide) (hts _ (tw_c tw_176)) (pq_hv rfl hR_this_a) dX12_level_97 ?_
            refine lv_iload hx hb dX12_level_100 (lv_at hl 0 rfl) ?_
            refine lv_iconst (v := 3) hx hb dX12_level_102 (by decide) ?_
            refine lv_iadd hx hb dX12_level_103 ?_
            refine lv_tov 1223 (by decide) ?_
            refine lv_iload_n hx hb dX12_level_104 rfl (lv_at hl 4 rfl) ?_
            refine lv_if_eq (tgt := 113) hx hb dX12_level_105 (by decide) (fun c_50 => ?_) (fun c_50 => ?_)
            · refine lv_iconst (v := 0) hx hb dX12_level_113 (by decide) ?_
              refine pt_i hx hb hK hP hD hS hL_this_a hK_this_a hN_this_a (vp_in_iff.mpr (by decide)) dX12_level_114 (fun r_51 H locs er_51 hP hD hS => ?_)
              refine lv_aload_n hx hb dX12_level_115 rfl (lv_at hl 1 rfl) ?_
              refine pg_f (v := .ref this_a) (C := RX12) (T := TX12) (N := 31) hx hb hts (tw_i inlX12) hown hK hP hL_this hK_this (by decide) rfl 0 (by decide) (hts _ (tw_c tw_176)) (pq_hv rfl hR_this_a) dX12_level_116 ?_
              refine lv_iload hx hb dX12_level_119 (lv_at hl 0 rfl) ?_
              refine lv_iconst (v := 4) hx hb dX12_level_121 (by decide) ?_
              refine lv_iadd hx hb dX12_level_122 ?_
              refine lv_tov 1224 (by decide) ?_
              refine lv_aload_n hx hb dX12_level_123 rfl (lv_at hl 1 rfl) ?_
              refine pg_f (v := .ref this_a) (C := RX12) (T := TX12) (N := 31) hx hb hts (tw_i inlX12) hown hK hP hL_this hK_this (by decide) rfl 0 (by decide) (hts _ (tw_c tw_176)) (pq_hv rfl hR_this_a) dX12_level_124 ?_
              refine lv_iconst (v := 0) hx hb dX12_level_127 (by decide) ?_
              refine pl_i hx hb hK hP hL_this_a hK_this_a hN_this_a (vp_in_iff.mpr (by decide)) dX12_level_128 ?_
              refine lv_tov 0 ((fm_hi (fm_hi (fm_hi (fm_hi hF er_38 (Or.inr (by decide))) er_39 (Or.inr (by decide))) er_49 (Or.inr (by decide))) er_51 (Or.inr (by decide))).1.trans nI_0) ?_
              refine pt_i hx hb hK hP hD hS hL_this_a hK_this_a hN_this_a (vp_in_iff.mpr (by decide)) dX12_level_129 (fun r_52 H locs er_52 hP hD hS => ?_)
              refine lv_aload_n hx hb dX12_level_130 rfl (lv_at hl 1 rfl) ?_
              refine pg_f (v := .ref this_a) (C := RX12) (T := TX12) (N := 31) hx hb hts (tw_i inlX12) hown hK hP hL_this hK_this (by decide) rfl 0 (by decide) (hts _ (tw_c tw_176)) (pq_hv rfl hR_this_a) dX12_level_131 ?_
              refine lv_iconst (v := 3) hx hb dX12_level_134 (by decide) ?_
              refine lv_dup2_11 hx hb dX12_level_135 rfl rfl ?_
              refine pl_i hx hb hK hP hL_this_a hK_this_a hN_this_a (vp_in_iff.mpr (by decide)) dX12_level_136 ?_
              refine lv_tov 0 (fm_at (fm_hi (fm_hi (fm_hi (fm_hi (fm_hi hF er_38 (Or.inr (by decide))) er_39 (Or.inr (by decide))) er_49 (Or.inr (by decide))) er_51 (Or.inr (by decide))) er_52 (Or.inr (by decide))) 3 (v := 0) (by decide)) ?_
              refine lv_iconst (v := 1) hx hb dX12_level_137 (by decide) ?_
              refine lv_iadd hx hb dX12_level_138 ?_
              refine lv_tov 1 (by decide) ?_
              refine pt_i hx hb hK hP hD hS hL_this_a hK_this_a hN_this_a (vp_in_iff.mpr (by decide)) dX12_level_139 (fun r_53 H locs er_53 hP hD hS => ?_)
              refine lv_aload_n hx hb dX12_level_140 rfl (lv_at hl 1 rfl) ?_
              refine pg_f (v := .ref this_a) (C := RX12) (T := TX12) (N := 31) hx hb hts (tw_i inlX12) hown hK hP hL_this hK_this (by decide) rfl 0 (by decide) (hts _ (tw_c tw_176)) (pq_hv rfl hR_this_a) dX12_level_141 ?_
              refine lv_iconst (v := 3) hx hb dX12_level_144 (by decide) ?_
              refine pl_i hx hb hK hP hL_this_a hK_this_a hN_this_a (vp_in_iff.mpr (by decide)) dX12_level_145 ?_
              refine lv_tov 1 (rd_eq er_53) ?_
              exact W.iret (v := 1) hx hb hr (fun t1 ht hW => ⟨⟨1, (σ, I, J, r_53, rj, rq), rfl, ⟨r_53, rfl, (by unfold sp_level; rw [if_pos (show _ from ⟨⟨hr_4_0, hr_4_1⟩, ⟨hr_9_0, hr_9_1⟩, Or.inr ⟨hr_35_0, hr_35_1⟩⟩)])⟩, by rw [ht]; exact hP, va_K.moved hW.alike hK, hD⟩, hS.F ht⟩) hS.2.2 dX12_level_146
            · refine lv_iload hx hb dX12_level_108 (lv_at hl 5 rfl) ?_
              refine lv_goto (tgt := 114) hx hb dX12_level_110 (by decide) ?_
              refine pt_i hx hb hK hP hD hS hL_this_a hK_this_a hN_this_a (vp_in_iff.mpr (by decide)) dX12_level_114 (fun r_54 H locs er_54 hP hD hS => ?_)
              refine lv_aload_n hx hb dX12_level_115 rfl (lv_at hl 1 rfl) ?_
              refine pg_f (v := .ref this_a) (C := RX12) (T := TX12) (N := 31) hx hb hts (tw_i inlX12) hown hK hP hL_this hK_this (by decide) rfl 0 (by decide) (hts _ (tw_c tw_176)) (pq_hv rfl hR_this_a) dX12_level_116 ?_
              refine lv_iload hx hb dX12_level_119 (lv_at hl 0 rfl) ?_
              refine lv_iconst (v := 4) hx hb dX12_level_121 (by decide) ?_
              refine lv_iadd hx hb dX12_level_122 ?_
              refine lv_tov 1224 (by decide) ?_
              refine lv_aload_n hx hb dX12_level_123 rfl (lv_at hl 1 rfl) ?_
              refine pg_f (v := .ref this_a) (C := RX12) (T := TX12) (N := 31) hx hb hts (tw_i inlX12) hown hK hP hL_this hK_this (by decide) rfl 0 (by decide) (hts _ (tw_c tw_176)) (pq_hv rfl hR_this_a) dX12_level_124 ?_
              refine lv_iconst (v := 0) hx hb dX12_level_127 (by decide) ?_
              refine pl_i hx hb hK hP hL_this_a hK_this_a hN_this_a (vp_in_iff.mpr (by decide)) dX12_level_128 ?_
              refine lv_tov 0 ((fm_hi (fm_hi (fm_hi (fm_hi hF er_38 (Or.inr (by decide))) er_39 (Or.inr (by decide))) er_49 (Or.inr (by decide))) er_54 (Or.inr (by decide))).1.trans nI_0) ?_
              refine pt_i hx hb hK hP hD hS hL_this_a hK_this_a hN_this_a (vp_in_iff.mpr (by decide)) dX12_level_129 (fun r_55 H locs er_55 hP hD hS => ?_)
              refine lv_aload_n hx hb dX12_level_130 rfl (lv_at hl 1 rfl) ?_
              refine pg_f (v := .ref this_a) (C := RX12) (T := TX12) (N := 31) hx hb hts (tw_i inlX12) hown hK hP hL_this hK_this (by decide) rfl 0 (by decide) (hts _ (tw_c tw_176)) (pq_hv rfl hR_this_a) dX12_level_131 ?_
              refine lv_iconst (v := 3) hx hb dX12_level_134 (by decide) ?_
              refine lv_dup2_11 hx hb dX12_level_135 rfl rfl ?_
              refine pl_i hx hb hK hP hL_this_a hK_this_a hN_this_a (vp_in_iff.mpr (by decide)) dX12_level_136 ?_
              refine lv_tov 0 (fm_at (fm_hi (fm_hi (fm_hi (fm_hi (fm_hi hF er_38 (Or.inr (by decide))) er_39 (Or.inr (by decide))) er_49 (Or.inr (by decide))) er_54 (Or.inr (by decide))) er_55 (Or.inr (by decide))) 3 (v := 0) (by decide)) ?_
              refine lv_iconst (v := 1) hx hb dX12_level_137 (by decide) ?_
              refine lv_iadd hx hb dX12_level_138 ?_
              refine lv_tov 1 (by decide) ?_
              refine pt_i hx hb hK hP hD hS hL_this_a hK_this_a hN_this_a (vp_in_iff.mpr (by decide)) dX12_level_139 (fun r_56 H locs er_56 hP hD hS => ?_)
              refine lv_aload_n hx hb dX12_level_140 rfl (lv_at hl 1 rfl) ?_
              refine pg_f (v := .ref this_a) (C := RX12) (T := TX12) (N := 31) hx hb hts (tw_i inlX12) hown hK hP hL_this hK_this (by decide) rfl 0 (by decide) (hts _ (tw_c tw_176)) (pq_hv rfl hR_this_a) dX12_level_141 ?_
              refine lv_iconst (v := 3) hx hb dX12_level_144 (by decide) ?_
              refine pl_i hx hb hK hP hL_this_a hK_this_a hN_this_a (vp_in_iff.mpr (by decide)) dX12_level_145 ?_
              refine lv_tov 1 (rd_eq er_56) ?_
              exact W.iret (v := 1) hx hb hr (fun t1 ht hW => ⟨⟨1, (σ, I, J, r_56, rj, rq), rfl, ⟨r_56, rfl, (by unfold sp_level; rw [if_pos (show _ from ⟨⟨hr_4_0, hr_4_1⟩, ⟨hr_9_0, hr_9_1⟩, Or.inr ⟨hr_35_0, hr_35_1⟩⟩)])⟩, by rw [ht]; exact hP, va_K.moved hW.alike hK, hD⟩, hS.F ht⟩) hS.2.2 dX12_level_146
        · refine lv_if_eq (tgt := 44) hx hb dX12_level_29 (by decide) (fun c_57 => ?_) (fun c_57 => absurd c_57 (by decide))
          refine lv_iconst (v := (-1)) hx hb dX12_level_44 (by decide) ?_
          exact W.iret (v := (-1)) hx hb hr (fun t1 ht hW => ⟨⟨(-1), (σ, I, J, ri, rj, rq), rfl, ⟨ri, rfl, (by unfold sp_level; rw [if_neg (fun q => q.2.2.elim c_11 hr_35_0)])⟩, by rw [ht]; exact hP, va_K.moved hW.alike hK, hD⟩, hS.F ht⟩) hS.2.2 dX12_level_45
    · refine lv_if_eq (tgt := 44) hx hb dX12_level_11 (by decide) (fun c_58 => ?_) (fun c_58 => absurd c_58 (by decide))
      refine lv_iconst (v := (-1)) hx hb dX12_level_44 (by decide) ?_
      exact W.iret (v := (-1)) hx hb hr (fun t1 ht hW => ⟨⟨(-1), (σ, I, J, ri, rj, rq), rfl, ⟨ri, rfl, (by unfold sp_level; rw [if_neg (fun q => hr_9_0 q.2.1)])⟩, by rw [ht]; exact hP, va_K.moved hW.alike hK, hD⟩, hS.F ht⟩) hS.2.2 dX12_level_45
  · refine lv_if_eq (tgt := 44) hx hb dX12_level_4 (by decide) (fun c_59 => ?_) (fun c_59 => absurd c_59 (by decide))
    refine lv_iconst (v := (-1)) hx hb dX12_level_44 (by decide) ?_
    exact W.iret (v := (-1)) hx hb hr (fun t1 ht hW => ⟨⟨(-1), (σ, I, J, ri, rj, rq), rfl, ⟨ri, rfl, (by unfold sp_level; rw [if_neg (fun q => hr_4_0 q.1)])⟩, by rw [ht]; exact hP, va_K.moved hW.alike hK, hD⟩, hS.F ht⟩) hS.2.2 dX12_level_45

set_option maxHeartbeats 4000000 in
set_option maxRecDepth 100000 in
theorem c_X12_four (l : Launch) (D : va_G) (t : pq_T) (σ : pq_S) (I : Nat → Nat → Int32) (J : Nat → Nat → Int64) (ri : Nat → Nat → Int32) (rj : Nat → Nat → Int64) (rq : Nat → Nat → Option Nat) (sz : Nat) (this : Nat) (v : Int32) (hL_this : this ∈ σ.1) (hK_this : σ.2.1 this = 12) (this_tape : Nat) (hR_this_tape : σ.2.2.1 387 this = some this_tape) (hL_this_tape : this_tape ∈ σ.1) (hK_this_tape : σ.2.1 this_tape = 13) (hN_this_tape : σ.2.2.2 this_tape = 300) (g : Nat) (hg : g ≤ 296) (hI : I 388 this = nI g) : MetV l yX12_four (wa yX12_four cX12_four 3 none) ({ frames := 0, cells := 0, slots := 0, locals := 0 }) [.ref this, .int v] D t σ (I, J, ri, rj, rq) sz 0 0 (fun (u : pq_S × pq_M) => ∃ I' : Nat → Nat → Int32, ∃ ri' : Nat → Nat → Int32, u = (σ, I', J, ri', rj, rq) ∧ (∀ f, f ∉ ([388] : List Nat) → I' f = I f) ∧ (I' 388 this = nI (g + 4))) := by
  refine Met.ofW (cc := cX12_four) (maxL := 3) (ret := none) (by decide) rfl ?_
  intro p e s m args below meth c s₁ B hml hv
  obtain ⟨rfl, hsz, hP, hK, hD0, hN⟩ := hv
  have hx := B.exec
  have hb := B.bytes
  have hr := B.returns
  have hts := atoms_spec (ws := (wa yX12_four cX12_four 3 none)) B.pre
  have hown : s.vm.findClass RX12 = some m.cls := findClass_of_methodNamed B.named
  have hlocks := B.notSynchronized
  subst hsz
  have hD : va_D (pq_B t σ (I, J, ri, rj, rq) s.heap.size) (pq_P t σ (I, J, ri, rj, rq)) := hD0.self
  generalize hAe : pq_B t σ (I, J, ri, rj, rq) s.heap.size = A at hD ⊢
  have hA : ∀ q : Nat, s.heap.size ≤ q → A q := fun q h => by rw [← hAe]; exact Or.inr h
  have hS : va_S A s.heap s.heap [] := va_S.rf
  have hl := lv_entry ([.ref this, .int v]) (n := 3) (Nat.le_of_ble_eq_true rfl)
  rw [lg_entry_eq]
  generalize (lg_sl ([.ref this, .int v]) ++ List.replicate (3 - (lg_sl ([.ref this, .int v])).length) Slot.unset).toArray = ls at hl ⊢
  have hl : lv_has ls 3 [(0, .ref this), (1, .int v)] := hl
  refine lv_bipush (v := 24) hx hb dX12_four_0 (by decide) ?_
  refine lv_istore_n (lv' := [(2, .int 24), (0, .ref this), (1, .int v)]) hx hb dX12_four_2 rfl hl (by decide) rfl (fun ls hl => ?_)
  refine lv_iload_n hx hb dX12_four_3 rfl (lv_at hl 0 rfl) ?_
  refine lv_if_lt (tgt := 39) hx hb dX12_four_4 (by decide) (fun c_1 => absurd c_1 (by decide)) (fun c_1 => ?_)
  refine lv_aload_n hx hb dX12_four_7 rfl (lv_at hl 1 rfl) ?_
  refine pg_f (v := .ref this_tape) (C := RX12) (T := TX12) (N := 31) hx hb hts (tw_i inlX12) hown hK hP hL_this hK_this (by decide) rfl 3 (by decide) (hts _ (tw_c tw_179)) (pq_hv rfl hR_this_tape) dX12_four_8 ?_
  refine lv_aload_n hx hb dX12_four_11 rfl (lv_at hl 1 rfl) ?_
  refine pg_f (v := .int (I 388 this)) (C := RX12) (T := TX12) (N := 31) hx hb hts (tw_i inlX12) hown hK hP hL_this hK_this (by decide) rfl 4 (by decide) (hts _ (tw_c tw_631)) rfl dX12_four_12 ?_
  refine lv_tov (nI g) hI ?_
  refine lv_iload_n hx hb dX12_four_15 rfl (lv_at hl 2 rfl) ?_
  refine lv_iload_n hx hb dX12_four_16 rfl (lv_at hl 0 rfl) ?_
  refine lv_ishr hx hb dX12_four_17 ?_
  refine lv_topi (fun x_2 ex_2 => ?_)
  refine lv_sipush (v := 255) hx hb dX12_four_18 (by decide) ?_
  refine lv_iand hx hb dX12_four_21 ?_
  refine lv_topi (fun x_3 ex_3 => ?_)
  refine pt_i hx hb hK hP hD hS hL_this_tape hK_this_tape hN_this_tape (nI_in (c := g) (by omega) (by omega)) dX12_four_22 (fun r_4 H locs er_4 hP hD hS => ?_)
  refine lv_aload_n hx hb dX12_four_23 rfl (lv_at hl 1 rfl) ?_
  refine lv_dup hx hb dX12_four_24 rfl ?_
  refine pg_f (v := .int (I 388 this)) (C := RX12) (T := TX12) (N := 31) hx hb hts (tw_i inlX12) hown hK hP hL_this hK_this (by decide) rfl 4 (by decide) (hts _ (tw_c tw_631)) rfl dX12_four_25 ?_
  refine lv_tov (nI g) hI ?_
  refine lv_iconst (v := 1) hx hb dX12_four_28 (by decide) ?_
  refine lv_iadd hx hb dX12_four_29 ?_
  refine lv_tov (nI (g + 1)) (nI_add g 1) ?_
  refine pp_i (v := (nI (g + 1))) (ty := .int) (C := RX12) (T := TX12) (N := 31) hx hb hts (tw_i inlX12) tyX12 tyX12_ok nmX12 hown hK hP hD hS hL_this hK_this (by decide) rfl 4 388 (by decide) (hts _ (tw_c tw_631)) rfl (by decide +kernel) rfl rfl (Nat.le_of_ble_eq_true rfl) (ps_388 _ _ _ _ _) dX12_four_30 (fun I_5 H locs eI_5 hP hD hS => ?_)
  refine lv_iinc (v := 16) (lv' := [(2, .int 16), (0, .ref this), (1, .int v)]) hx hb dX12_four_33 hl (k := 0) rfl (by decide) (by decide) rfl (fun ls hl => ?_)
  refine lv_goto (tgt := 3) hx hb dX12_four_36 (by decide) ?_
  refine lv_iload_n hx hb dX12_four_3 rfl (lv_at hl 0 rfl) ?_
  refine lv_if_lt (tgt := 39) hx hb dX12_four_4 (by decide) (fun c_6 => absurd c_6 (by decide)) (fun c_6 => ?_)
  refine lv_aload_n hx hb dX12_four_7 rfl (lv_at hl 1 rfl) ?_
  refine pg_f (v := .ref this_tape) (C := RX12) (T := TX12) (N := 31) hx hb hts (tw_i inlX12) hown hK hP hL_this hK_this (by decide) rfl 3 (by decide) (hts _ (tw_c tw_179)) (pq_hv rfl hR_this_tape) dX12_four_8 ?_
  refine lv_aload_n hx hb dX12_four_11 rfl (lv_at hl 1 rfl) ?_
  refine pg_f (v := .int (I_5 388 this)) (C := RX12) (T := TX12) (N := 31) hx hb hts (tw_i inlX12) hown hK hP hL_this hK_this (by decide) rfl 4 (by decide) (hts _ (tw_c tw_631)) rfl dX12_four_12 ?_
  refine lv_tov (nI (g + 1)) (by rw [eI_5]; exact pq_us _ _ _ _) ?_
  refine lv_iload_n hx hb dX12_four_15 rfl (lv_at hl 2 rfl) ?_
  refine lv_iload_n hx hb dX12_four_16 rfl (lv_at hl 0 rfl) ?_
  refine lv_ishr hx hb dX12_four_17 ?_
  refine lv_topi (fun x_7 ex_7 => ?_)
  refine lv_sipush (v := 255) hx hb dX12_four_18 (by decide) ?_
  refine lv_iand hx hb dX12_four_21 ?_
  refine lv_topi (fun x_8 ex_8 => ?_)
  refine pt_i hx hb hK hP hD hS hL_this_tape hK_this_tape hN_this_tape (nI_in (c := (g + 1)) (by omega) (by omega)) dX12_four_22 (fun r_9 H locs er_9 hP hD hS => ?_)
  refine lv_aload_n hx hb dX12_four_23 rfl (lv_at hl 1 rfl) ?_
  refine lv_dup hx hb dX12_four_24 rfl ?_
  refine pg_f (v := .int (I_5 388 this)) (C := RX12) (T := TX12) (N := 31) hx hb hts (tw_i inlX12) hown hK hP hL_this hK_this (by decide) rfl 4 (by decide) (hts _ (tw_c tw_631)) rfl dX12_four_25 ?_
  refine lv_tov (nI (g + 1)) (by rw [eI_5]; exact pq_us _ _ _ _) ?_
  refine lv_iconst (v := 1) hx hb dX12_four_28 (by decide) ?_
  refine lv_iadd hx hb dX12_four_29 ?_
  refine lv_tov (nI ((g + 1) + 1)) (nI_add (g + 1) 1) ?_
  refine pp_i (v := (nI ((g + 1) + 1))) (ty := .int) (C := RX12) (T := TX12) (N := 31) hx hb hts (tw_i inlX12) tyX12 tyX12_ok nmX12 hown hK hP hD hS hL_this hK_this (by decide) rfl 4 388 (by decide) (hts _ (tw_c tw_631)) rfl (by decide +kernel) rfl rfl (Nat.le_of_ble_eq_true rfl) (ps_388 _ _ _ _ _) dX12_four_30 (fun I_10 H locs eI_10 hP hD hS => ?_)
  refine lv_iinc (v := 8) (lv' := [(2, .int 8), (0, .ref this), (1, .int v)]) hx hb dX12_four_33 hl (k := 0) rfl (by decide) (by decide) rfl (fun ls hl => ?_)
  refine lv_goto (tgt := 3) hx hb dX12_four_36 (by decide) ?_
  refine lv_iload_n hx hb dX12_four_3 rfl (lv_at hl 0 rfl) ?_
  refine lv_if_lt (tgt := 39) hx hb dX12_four_4 (by decide) (fun c_11 => absurd c_11 (by decide)) (fun c_11 => ?_)
  refine lv_aload_n hx hb dX12_four_7 rfl (lv_at hl 1 rfl) ?_
  refine pg_f (v := .ref this_tape) (C := RX12) (T := TX12) (N := 31) hx hb hts (tw_i inlX12) hown hK hP hL_this hK_this (by decide) rfl 3 (by decide) (hts _ (tw_c tw_179)) (pq_hv rfl hR_this_tape) dX12_four_8 ?_
  refine lv_aload_n hx hb dX12_four_11 rfl (lv_at hl 1 rfl) ?_
  refine pg_f (v := .int (I_10 388 this)) (C := RX12) (T := TX12) (N := 31) hx hb hts (tw_i inlX12) hown hK hP hL_this hK_this (by decide) rfl 4 (by decide) (hts _ (tw_c tw_631)) rfl dX12_four_12 ?_
  refine lv_tov (nI ((g + 1) + 1)) (by rw [eI_10]; exact pq_us _ _ _ _) ?_
  refine lv_iload_n hx hb dX12_four_15 rfl (lv_at hl 2 rfl) ?_
  refine lv_iload_n hx hb dX12_four_16 rfl (lv_at hl 0 rfl) ?_
  refine lv_ishr hx hb dX12_four_17 ?_
  refine lv_topi (fun x_12 ex_12 => ?_)
  refine lv_sipush (v := 255) hx hb dX12_four_18 (by decide) ?_
  refine lv_iand hx hb dX12_four_21 ?_
  refine lv_topi (fun x_13 ex_13 => ?_)
  refine pt_i hx hb hK hP hD hS hL_this_tape hK_this_tape hN_this_tape (nI_in (c := ((g + 1) + 1)) (by omega) (by omega)) dX12_four_22 (fun r_14 H locs er_14 hP hD hS => ?_)
  refine lv_aload_n hx hb dX12_four_23 rfl (lv_at hl 1 rfl) ?_
  refine lv_dup hx hb dX12_four_24 rfl ?_
  refine pg_f (v := .int (I_10 388 this)) (C := RX12) (T := TX12) (N := 31) hx hb hts (tw_i inlX12) hown hK hP hL_this hK_this (by decide) rfl 4 (by decide) (hts _ (tw_c tw_631)) rfl dX12_four_25 ?_
  refine lv_tov (nI ((g + 1) + 1)) (by rw [eI_10]; exact pq_us _ _ _ _) ?_
  refine lv_iconst (v := 1) hx hb dX12_four_28 (by decide) ?_
  refine lv_iadd hx hb dX12_four_29 ?_
  refine lv_tov (nI (((g + 1) + 1) + 1)) (nI_add ((g + 1) + 1) 1) ?_
  refine pp_i (v := (nI (((g + 1) + 1) + 1))) (ty := .int) (C := RX12) (T := TX12) (N := 31) hx hb hts (tw_i inlX12) tyX12 tyX12_ok nmX12 hown hK hP hD hS hL_this hK_this (by decide) rfl 4 388 (by decide) (hts _ (tw_c tw_631)) rfl (by decide +kernel) rfl rfl (Nat.le_of_ble_eq_true rfl) (ps_388 _ _ _ _ _) dX12_four_30 (fun I_15 H locs eI_15 hP hD hS => ?_)
  refine lv_iinc (v := 0) (lv' := [(2, .int 0), (0, .ref this), (1, .int v)]) hx hb dX12_four_33 hl (k := 0) rfl (by decide) (by decide) rfl (fun ls hl => ?_)
  refine lv_goto (tgt := 3) hx hb dX12_four_36 (by decide) ?_
  refine lv_iload_n hx hb dX12_four_3 rfl (lv_at hl 0 rfl) ?_
  refine lv_if_lt (tgt := 39) hx hb dX12_four_4 (by decide) (fun c_16 => absurd c_16 (by decide)) (fun c_16 => ?_)
  refine lv_aload_n hx hb dX12_four_7 rfl (lv_at hl 1 rfl) ?_
  refine pg_f (v := .ref this_tape) (C := RX12) (T := TX12) (N := 31) hx hb hts (tw_i inlX12) hown hK hP hL_this hK_this (by decide) rfl 3 (by decide) (hts _ (tw_c tw_179)) (pq_hv rfl hR_this_tape) dX12_four_8 ?_
  refine lv_aload_n hx hb dX12_four_11 rfl (lv_at hl 1 rfl) ?_
  refine pg_f (v := .int (I_15 388 this)) (C := RX12) (T := TX12) (N := 31) hx hb hts (tw_i inlX12) hown hK hP hL_this hK_this (by decide) rfl 4 (by decide) (hts _ (tw_c tw_631)) rfl dX12_four_12 ?_
  refine lv_tov (nI (((g + 1) + 1) + 1)) (by rw [eI_15]; exact pq_us _ _ _ _) ?_
  refine lv_iload_n hx hb dX12_four_15 rfl (lv_at hl 2 rfl) ?_
  refine lv_iload_n hx hb dX12_four_16 rfl (lv_at hl 0 rfl) ?_
  refine lv_ishr hx hb dX12_four_17 ?_
  refine lv_topi (fun x_17 ex_17 => ?_)
  refine lv_sipush (v := 255) hx hb dX12_four_18 (by decide) ?_
  refine lv_iand hx hb dX12_four_21 ?_
  refine lv_topi (fun x_18 ex_18 => ?_)
  refine pt_i hx hb hK hP hD hS hL_this_tape hK_this_tape hN_this_tape (nI_in (c := (((g + 1) + 1) + 1)) (by omega) (by omega)) dX12_four_22 (fun r_19 H locs er_19 hP hD hS => ?_)
  refine lv_aload_n hx hb dX12_four_23 rfl (lv_at hl 1 rfl) ?_
  refine lv_dup hx hb dX12_four_24 rfl ?_
  refine pg_f (v := .int (I_15 388 this)) (C := RX12) (T := TX12) (N := 31) hx hb hts (tw_i inlX12) hown hK hP hL_this hK_this (by decide) rfl 4 (by decide) (hts _ (tw_c tw_631)) rfl dX12_four_25 ?_
  refine lv_tov (nI (((g + 1) + 1) + 1)) (by rw [eI_15]; exact pq_us _ _ _ _) ?_
  refine lv_iconst (v := 1) hx hb dX12_four_28 (by decide) ?_
  refine lv_iadd hx hb dX12_four_29 ?_
  refine lv_tov (nI ((((g + 1) + 1) + 1) + 1)) (nI_add (((g + 1) + 1) + 1) 1) ?_
  refine pp_i (v := (nI ((((g + 1) + 1) + 1) + 1))) (ty := .int) (C := RX12) (T := TX12) (N := 31) hx hb hts (tw_i inlX12) tyX12 tyX12_ok nmX12 hown hK hP hD hS hL_this hK_this (by decide) rfl 4 388 (by decide) (hts _ (tw_c tw_631)) rfl (by decide +kernel) rfl rfl (Nat.le_of_ble_eq_true rfl) (ps_388 _ _ _ _ _) dX12_four_30 (fun I_20 H locs eI_20 hP hD hS => ?_)
  refine lv_iinc (v := (-8)) (lv' := [(2, .int (-8)), (0, .ref this), (1, .int v)]) hx hb dX12_four_33 hl (k := 0) rfl (by decide) (by decide) rfl (fun ls hl => ?_)
  refine lv_goto (tgt := 3) hx hb dX12_four_36 (by decide) ?_
  refine lv_iload_n hx hb dX12_four_3 rfl (lv_at hl 0 rfl) ?_
  refine lv_if_lt (tgt := 39) hx hb dX12_four_4 (by decide) (fun c_21 => ?_) (fun c_21 => absurd c_21 (by decide))
  exact W.vret hx hb hr (fun t1 ht hW => ⟨⟨(σ, I_20, J, r_19, rj, rq), rfl, ⟨I_20, r_19, rfl, (fun f hg => by rw [eI_20, pq_uf _ _ _ (by intro q; subst q; exact hg (by decide)), eI_15, pq_uf _ _ _ (by intro q; subst q; exact hg (by decide)), eI_10, pq_uf _ _ _ (by intro q; subst q; exact hg (by decide)), eI_5, pq_uf _ _ _ (by intro q; subst q; exact hg (by decide))]), (by rw [eI_20]; exact pq_us _ _ _ _)⟩, by rw [ht]; exact hP, va_K.moved hW.alike hK, hD⟩, hS.F ht⟩) hS.2.2 dX12_four_39

set_option maxHeartbeats 4000000 in
set_option maxRecDepth 100000 in
theorem c_X12_feed (l : Launch) (D : va_G) (t : pq_T) (σ : pq_S) (I : Nat → Nat → Int32) (J : Nat → Nat → Int64) (ri : Nat → Nat → Int32) (rj : Nat → Nat → Int64) (rq : Nat → Nat → Option Nat) (sz : Nat) (this : Nat) (a : Int32) (b : Int32) (c_ : Int32) (d : Int32) (e_ : Int32) (hL_this : this ∈ σ.1) (hK_this : σ.2.1 this = 12) (this_tape : Nat) (hR_this_tape : σ.2.2.1 387 this = some this_tape) (hL_this_tape : this_tape ∈ σ.1) (hK_this_tape : σ.2.1 this_tape = 13) (hN_this_tape : σ.2.2.2 this_tape = 300) (hT : I 388 this = 0) : MetI l yX12_feed (wa yX12_feed cX12_feed 6 (some .int)) ({ frames := 1, cells := 0, slots := 0, locals := 22 }) [.ref this, .int a, .int b, .int c_, .int d, .int e_] D t σ (I, J, ri, rj, rq) sz 0 0 (fun (r : Int32) (u : pq_S × pq_M) => ∃ I' : Nat → Nat → Int32, ∃ ri' : Nat → Nat → Int32, u = (σ, I', J, ri', rj, rq) ∧ (∀ f, f ∉ ([388] : List Nat) → I' f = I f) ∧ (r = 20)) := by
  refine Met.ofW (cc := cX12_feed) (maxL := 6) (ret := (some .int)) (by decide) rfl ?_
  intro p e s m args below meth c s₁ B hml hv
  obtain ⟨rfl, hsz, hP, hK, hD0, hN⟩ := hv
  have hx := B.exec
  have hb := B.bytes
  have hr := B.returns
  have hts := atoms_spec (ws := (wa yX12_feed cX12_feed 6 (some .int))) B.pre
  have hown : s.vm.findClass RX12 = some m.cls := findClass_of_methodNamed B.named
  have hlocks := B.notSynchronized
  subst hsz
  have hD : va_D (pq_B t σ (I, J, ri, rj, rq) s.heap.size) (pq_P t σ (I, J, ri, rj, rq)) := hD0.self
  generalize hAe : pq_B t σ (I, J, ri, rj, rq) s.heap.size = A at hD ⊢
  have hA : ∀ q : Nat, s.heap.size ≤ q → A q := fun q h => by rw [← hAe]; exact Or.inr h
  have hS : va_S A s.heap s.heap [] := va_S.rf
  have hl := lv_entry ([.ref this, .int a, .int b, .int c_, .int d, .int e_]) (n := 6) (Nat.le_of_ble_eq_true rfl)
  rw [lg_entry_eq]
  generalize (lg_sl ([.ref this, .int a, .int b, .int c_, .int d, .int e_]) ++ List.replicate (6 - (lg_sl ([.ref this, .int a, .int b, .int c_, .int d, .int e_])).length) Slot.unset).toArray = ls at hl ⊢
  have hl : lv_has ls 6 [(0, .ref this), (1, .int a), (2, .int b), (3, .int c_), (4, .int d), (5, .int e_)] := hl
  refine lv_aload_n hx hb dX12_feed_0 rfl (lv_at hl 0 rfl) ?_
  refine pg_f (v := .int (I 388 this)) (C := RX12) (T := TX12) (N := 31) hx hb hts (tw_i inlX12) hown hK hP hL_this hK_this (by decide) rfl 4 (by decide) (hts _ (tw_c tw_631)) rfl dX12_feed_1 ?_
  refine lv_tov 0 hT ?_
  refine lv_bipush (v := 20) hx hb dX12_feed_4 (by decide) ?_
  refine lv_iadd hx hb dX12_feed_6 ?_
  refine lv_tov 20 (by decide) ?_
  refine lv_sipush (v := 300) hx hb dX12_feed_7 (by decide) ?_
  refine lv_icmp_le (tgt := 15) hx hb dX12_feed_10 (by decide) (fun c_1 => ?_) (fun c_1 => absurd c_1 (by decide))
  refine lv_aload_n hx hb dX12_feed_15 rfl (lv_at hl 0 rfl) ?_
  refine lv_iload_n hx hb dX12_feed_16 rfl (lv_at hl 1 rfl) ?_
  refine pk_v (va_runV (As := [.int a]) (rest := []) ⟨hx, hb, hml, hown, hts⟩ (c_X12_four l D t σ I J ri rj rq (Array.size s.heap) this a hL_this hK_this this_tape hR_this_tape hL_this_tape hK_this_tape hN_this_tape 0 (by decide) (hT.trans nI_0.symm)) (cwV 1 hts (tw_V tw_632 tw_633 tw_634 tw_5 tw_635) rfl rfl rfl (by decide +kernel) ⟨Nat.le_of_ble_eq_true rfl, Nat.le_of_ble_eq_true rfl⟩) ⟨pq_blind, pq_recv hK hP hL_this hK_this (by decide) rfl, pq_pre hK hN hP hD⟩ rfl rfl hl.1 rfl (lv_room (Nat.le_of_ble_eq_true rfl)) dX12_feed_17 ⟨Nat.le_of_ble_eq_true rfl, Nat.le_of_ble_eq_true rfl⟩) hD hS hA (fun σ1 μ1 H locs hw_3 hP hD hS => ?_)
  obtain ⟨I_4, ri_5, hu_6, hu_6f, hu_6p0⟩ := hw_3
  obtain ⟨hu_6a, hu_6b⟩ := Prod.mk.inj hu_6
  rw [hu_6a, hu_6b] at hP hD
  refine lv_aload_n hx hb dX12_feed_20 rfl (lv_at hl 0 rfl) ?_
  refine lv_iload_n hx hb dX12_feed_21 rfl (lv_at hl 2 rfl) ?_
  refine pk_v (va_runV (As := [.int b]) (rest := []) ⟨hx, hb, hml, hown, hts⟩ (c_X12_four l D t σ I_4 J ri_5 rj rq H.size this b hL_this hK_this this_tape hR_this_tape hL_this_tape hK_this_tape hN_this_tape (0 + 4) (by decide) hu_6p0) (cwV 1 hts (tw_V tw_632 tw_633 tw_634 tw_5 tw_635) rfl rfl rfl (by decide +kernel) ⟨Nat.le_of_ble_eq_true rfl, Nat.le_of_ble_eq_true rfl⟩) ⟨pq_blind, pq_recv hK hP hL_this hK_this (by decide) rfl, pq_pre hK hN hP hD⟩ rfl rfl hl.1 rfl (lv_room (Nat.le_of_ble_eq_true rfl)) dX12_feed_22 ⟨Nat.le_of_ble_eq_true rfl, Nat.le_of_ble_eq_true rfl⟩) hD hS hA (fun σ1 μ1 H locs hw_9 hP hD hS => ?_)
  obtain ⟨I_10, ri_11, hu_12, hu_12f, hu_12p0⟩ := hw_9
  obtain ⟨hu_12a, hu_12b⟩ := Prod.mk.inj hu_12
  rw [hu_12a, hu_12b] at hP hD
  refine lv_aload_n hx hb dX12_feed_25 rfl (lv_at hl 0 rfl) ?_
  refine lv_iload_n hx hb dX12_feed_26 rfl (lv_at hl 3 rfl) ?_
  refine pk_v (va_runV (As := [.int c_]) (rest := []) ⟨hx, hb, hml, hown, hts⟩ (c_X12_four l D t σ I_10 J ri_11 rj rq H.size this c_ hL_this hK_this this_tape hR_this_tape hL_this_tape hK_this_tape hN_this_tape ((0 + 4) + 4) (by decide) hu_12p0) (cwV 1 hts (tw_V tw_632 tw_633 tw_634 tw_5 tw_635) rfl rfl rfl (by decide +kernel) ⟨Nat.le_of_ble_eq_true rfl, Nat.le_of_ble_eq_true rfl⟩) ⟨pq_blind, pq_recv hK hP hL_this hK_this (by decide) rfl, pq_pre hK hN hP hD⟩ rfl rfl hl.1 rfl (lv_room (Nat.le_of_ble_eq_true rfl)) dX12_feed_27 ⟨Nat.le_of_ble_eq_true rfl, Nat.le_of_ble_eq_true rfl⟩) hD hS hA (fun σ1 μ1 H locs hw_15 hP hD hS => ?_)
  obtain ⟨I_16, ri_17, hu_18, hu_18f, hu_18p0⟩ := hw_15
  obtain ⟨hu_18a, hu_18b⟩ := Prod.mk.inj hu_18
  rw [hu_18a, hu_18b] at hP hD
  refine lv_aload_n hx hb dX12_feed_30 rfl (lv_at hl 0 rfl) ?_
  refine lv_iload hx hb dX12_feed_31 (lv_at hl 4 rfl) ?_
  refine pk_v (va_runV (As := [.int d]) (rest := []) ⟨hx, hb, hml, hown, hts⟩ (c_X12_four l D t σ I_16 J ri_17 rj rq H.size this d hL_this hK_this this_tape hR_this_tape hL_this_tape hK_this_tape hN_this_tape (((0 + 4) + 4) + 4) (by decide) hu_18p0) (cwV 1 hts (tw_V tw_632 tw_633 tw_634 tw_5 tw_635) rfl rfl rfl (by decide +kernel) ⟨Nat.le_of_ble_eq_true rfl, Nat.le_of_ble_eq_true rfl⟩) ⟨pq_blind, pq_recv hK hP hL_this hK_this (by decide) rfl, pq_pre hK hN hP hD⟩ rfl rfl hl.1 rfl (lv_room (Nat.le_of_ble_eq_true rfl)) dX12_feed_33 ⟨Nat.le_of_ble_eq_true rfl, Nat.le_of_ble_eq_true rfl⟩) hD hS hA (fun σ1 μ1 H locs hw_21 hP hD hS => ?_)
  obtain ⟨I_22, ri_23, hu_24, hu_24f, hu_24p0⟩ := hw_21
  obtain ⟨hu_24a, hu_24b⟩ := Prod.mk.inj hu_24
  rw [hu_24a, hu_24b] at hP hD
  refine lv_aload_n hx hb dX12_feed_36 rfl (lv_at hl 0 rfl) ?_
  refine lv_iload hx hb dX12_feed_37 (lv_at hl 5 rfl) ?_
  refine pk_v (va_runV (As := [.int e_]) (rest := []) ⟨hx, hb, hml, hown, hts⟩ (c_X12_four l D t σ I_22 J ri_23 rj rq H.size this e_ hL_this hK_this this_tape hR_this_tape hL_this_tape hK_this_tape hN_this_tape ((((0 + 4) + 4) + 4) + 4) (by decide) hu_24p0) (cwV 1 hts (tw_V tw_632 tw_633 tw_634 tw_5 tw_635) rfl rfl rfl (by decide +kernel) ⟨Nat.le_of_ble_eq_true rfl, Nat.le_of_ble_eq_true rfl⟩) ⟨pq_blind, pq_recv hK hP hL_this hK_this (by decide) rfl, pq_pre hK hN hP hD⟩ rfl rfl hl.1 rfl (lv_room (Nat.le_of_ble_eq_true rfl)) dX12_feed_39 ⟨Nat.le_of_ble_eq_true rfl, Nat.le_of_ble_eq_true rfl⟩) hD hS hA (fun σ1 μ1 H locs hw_27 hP hD hS => ?_)
  obtain ⟨I_28, ri_29, hu_30, hu_30f, hu_30p0⟩ := hw_27
  obtain ⟨hu_30a, hu_30b⟩ := Prod.mk.inj hu_30
  rw [hu_30a, hu_30b] at hP hD
  refine lv_aload_n hx hb dX12_feed_42 rfl (lv_at hl 0 rfl) ?_
  refine pg_f (v := .int (I_28 388 this)) (C := RX12) (T := TX12) (N := 31) hx hb hts (tw_i inlX12) hown hK hP hL_this hK_this (by decide) rfl 4 (by decide) (hts _ (tw_c tw_631)) rfl dX12_feed_43 ?_
  refine lv_tov (nI (((((0 + 4) + 4) + 4) + 4) + 4)) hu_30p0 ?_
  exact W.iret (v := (nI (((((0 + 4) + 4) + 4) + 4) + 4))) hx hb hr (fun t1 ht hW => ⟨⟨(nI (((((0 + 4) + 4) + 4) + 4) + 4)), (σ, I_28, J, ri_29, rj, rq), rfl, ⟨I_28, ri_29, rfl, (fun f hg => by rw [hu_30f f (fun q => hg (by revert q; simp only [List.mem_cons, List.not_mem_nil, or_false]; omega)), hu_24f f (fun q => hg (by revert q; simp only [List.mem_cons, List.not_mem_nil, or_false]; omega)), hu_18f f (fun q => hg (by revert q; simp only [List.mem_cons, List.not_mem_nil, or_false]; omega)), hu_12f f (fun q => hg (by revert q; simp only [List.mem_cons, List.not_mem_nil, or_false]; omega)), hu_6f f (fun q => hg (by revert q; simp only [List.mem_cons, List.not_mem_nil, or_false]; omega))]), (show (nI (((((0 + 4) + 4) + 4) + 4) + 4)) = 20 from rfl)⟩, by rw [ht]; exact hP, va_K.moved hW.alike hK, hD⟩, hS.F ht⟩) hS.2.2 dX12_feed_46

set_option maxHeartbeats 4000000 in
set_option maxRecDepth 100000 in
theorem c_X12_end (l : Launch) (D : va_G) (t : pq_T) (σ : pq_S) (I : Nat → Nat → Int32) (J : Nat → Nat → Int64) (ri : Nat → Nat → Int32) (rj : Nat → Nat → Int64) (rq : Nat → Nat → Option Nat) (sz : Nat) (this : Nat) (n : Int32) (hL_this : this ∈ σ.1) (hK_this : σ.2.1 this = 12) (hT : I 388 this = 0) : MetI l yX12_end (wa yX12_end cX12_end 2 (some .int)) ({ frames := 1, cells := 0, slots := 0, locals := 22 }) [.ref this, .int n] D t σ (I, J, ri, rj, rq) sz 0 0 (fun (r : Int32) (u : pq_S × pq_M) => ∃ I' : Nat → Nat → Int32, u = (σ, I', J, ri, rj, rq) ∧ (∀ f, f ∉ ([388] : List Nat) → I' f = I f) ∧ (r = sp_end n)) := by
  refine Met.ofW (cc := cX12_end) (maxL := 2) (ret := (some .int)) (by decide) rfl ?_
  intro p e s m args below meth c s₁ B hml hv
  obtain ⟨rfl, hsz, hP, hK, hD0, hN⟩ := hv
  have hx := B.exec
  have hb := B.bytes
  have hr := B.returns
  have hts := atoms_spec (ws := (wa yX12_end cX12_end 2 (some .int))) B.pre
  have hown : s.vm.findClass RX12 = some m.cls := findClass_of_methodNamed B.named
  have hlocks := B.notSynchronized
  subst hsz
  have hD : va_D (pq_B t σ (I, J, ri, rj, rq) s.heap.size) (pq_P t σ (I, J, ri, rj, rq)) := hD0.self
  generalize hAe : pq_B t σ (I, J, ri, rj, rq) s.heap.size = A at hD ⊢
  have hA : ∀ q : Nat, s.heap.size ≤ q → A q := fun q h => by rw [← hAe]; exact Or.inr h
  have hS : va_S A s.heap s.heap [] := va_S.rf
  have hl := lv_entry ([.ref this, .int n]) (n := 2) (Nat.le_of_ble_eq_true rfl)
  rw [lg_entry_eq]
  generalize (lg_sl ([.ref this, .int n]) ++ List.replicate (2 - (lg_sl ([.ref this, .int n])).length) Slot.unset).toArray = ls at hl ⊢
  have hl : lv_has ls 2 [(0, .ref this), (1, .int n)] := hl
  refine lv_iload_n hx hb dX12_end_0 rfl (lv_at hl 1 rfl) ?_
  refine lv_iconst (v := 0) hx hb dX12_end_1 (by decide) ?_
  refine lv_aload_n hx hb dX12_end_2 rfl (lv_at hl 0 rfl) ?_
  refine pg_f (v := .int (I 388 this)) (C := RX12) (T := TX12) (N := 31) hx hb hts (tw_i inlX12) hown hK hP hL_this hK_this (by decide) rfl 4 (by decide) (hts _ (tw_c tw_631)) rfl dX12_end_3 ?_
  refine lv_tov 0 hT ?_
  refine pk_i (va_runS (As := [.int n, .int 0, .int 0]) (rest := []) ⟨hx, hb, hml, hown, hts⟩ (c_X12_isIn l D t σ I J ri rj rq (Array.size s.heap) n (0 : Int32) (0 : Int32)) (va_cwS 3 hts (tw_S tw_235 tw_236 tw_5 tw_237) rfl rfl rfl (by decide +kernel) ⟨Nat.le_of_ble_eq_true rfl, Nat.le_of_ble_eq_true rfl⟩) ⟨pq_blind, pq_pre hK hN hP hD⟩ rfl rfl hl.1 rfl (lv_room (Nat.le_of_ble_eq_true rfl)) dX12_end_6 ⟨Nat.le_of_ble_eq_true rfl, Nat.le_of_ble_eq_true rfl⟩) hD hS hA (fun r_1 σ1 μ1 H locs hw_2 hP hD hS => ?_)
  obtain ⟨hu_3, hr_4⟩ := hw_2
  obtain ⟨hu_3a, hu_3b⟩ := Prod.mk.inj hu_3
  rw [hu_3a, hu_3b] at hP hD
  rcases hr_4 with ⟨rfl, hr_4_0, hr_4_1⟩ | ⟨rfl, hr_4_0⟩
  · refine lv_if_ne (tgt := 14) hx hb dX12_end_9 (by decide) (fun c_5 => ?_) (fun c_5 => absurd c_5 (by decide))
    refine lv_aload_n hx hb dX12_end_14 rfl (lv_at hl 0 rfl) ?_
    refine lv_iload_n hx hb dX12_end_15 rfl (lv_at hl 1 rfl) ?_
    refine pp_i (v := n) (ty := .int) (C := RX12) (T := TX12) (N := 31) hx hb hts (tw_i inlX12) tyX12 tyX12_ok nmX12 hown hK hP hD hS hL_this hK_this (by decide) rfl 4 388 (by decide) (hts _ (tw_c tw_631)) rfl (by decide +kernel) rfl rfl (Nat.le_of_ble_eq_true rfl) (ps_388 _ _ _ _ _) dX12_end_16 (fun I_6 H locs eI_6 hP hD hS => ?_)
    refine lv_iload_n hx hb dX12_end_19 rfl (lv_at hl 1 rfl) ?_
    exact W.iret (v := n) hx hb hr (fun t1 ht hW => ⟨⟨n, (σ, I_6, J, ri, rj, rq), rfl, ⟨I_6, rfl, (fun f hg => by rw [eI_6, pq_uf _ _ _ (by intro q; subst q; exact hg (by decide))]), (bt_e1 hr_4_0 hr_4_1)⟩, by rw [ht]; exact hP, va_K.moved hW.alike hK, hD⟩, hS.F ht⟩) hS.2.2 dX12_end_20
  · refine lv_if_ne (tgt := 14) hx hb dX12_end_9 (by decide) (fun c_7 => absurd c_7 (by decide)) (fun c_7 => ?_)
    refine lv_iconst (v := (-1)) hx hb dX12_end_12 (by decide) ?_
    exact W.iret (v := (-1)) hx hb hr (fun t1 ht hW => ⟨⟨(-1), (σ, I, J, ri, rj, rq), rfl, ⟨I, rfl, (fun f hg => rfl), (bt_e0 hr_4_0)⟩, by rw [ht]; exact hP, va_K.moved hW.alike hK, hD⟩, hS.F ht⟩) hS.2.2 dX12_end_13

set_option maxHeartbeats 4000000 in
set_option maxRecDepth 100000 in
theorem c_X12_says (l : Launch) (D : va_G) (t : pq_T) (σ : pq_S) (I : Nat → Nat → Int32) (J : Nat → Nat → Int64) (ri : Nat → Nat → Int32) (rj : Nat → Nat → Int64) (rq : Nat → Nat → Option Nat) (sz : Nat) (this : Nat) (mo : Int32) (wh : Int32) (hL_this : this ∈ σ.1) (hK_this : σ.2.1 this = 12) (this_a : Nat) (hR_this_a : σ.2.2.1 384 this = some this_a) (hL_this_a : this_a ∈ σ.1) (hK_this_a : σ.2.1 this_a = 13) (hN_this_a : σ.2.2.2 this_a = 12720) (hF : fm (ri this_a) 0) : MetI l yX12_says (wa yX12_says cX12_says 3 (some .int)) ({ frames := 2, cells := 0, slots := 0, locals := 48 }) [.ref this, .int mo, .int wh] D t σ (I, J, ri, rj, rq) sz 0 0 (fun (r : Int32) (u : pq_S × pq_M) => u = (σ, I, J, ri, rj, rq) ∧ (r = sp_says mo wh)) := by
  refine Met.ofW (cc := cX12_says) (maxL := 3) (ret := (some .int)) (by decide) rfl ?_
  intro p e s m args below meth c s₁ B hml hv
  obtain ⟨rfl, hsz, hP, hK, hD0, hN⟩ := hv
  have hx := B.exec
  have hb := B.bytes
  have hr := B.returns
  have hts := atoms_spec (ws := (wa yX12_says cX12_says 3 (some .int))) B.pre
  have hown : s.vm.findClass RX12 = some m.cls := findClass_of_methodNamed B.named
  have hlocks := B.notSynchronized
  subst hsz
  have hD : va_D (pq_B t σ (I, J, ri, rj, rq) s.heap.size) (pq_P t σ (I, J, ri, rj, rq)) := hD0.self
  generalize hAe : pq_B t σ (I, J, ri, rj, rq) s.heap.size = A at hD ⊢
  have hA : ∀ q : Nat, s.heap.size ≤ q → A q := fun q h => by rw [← hAe]; exact Or.inr h
  have hS : va_S A s.heap s.heap [] := va_S.rf
  have hl := lv_entry ([.ref this, .int mo, .int wh]) (n := 3) (Nat.le_of_ble_eq_true rfl)
  rw [lg_entry_eq]
  generalize (lg_sl ([.ref this, .int mo, .int wh]) ++ List.replicate (3 - (lg_sl ([.ref this, .int mo, .int wh])).length) Slot.unset).toArray = ls at hl ⊢
  have hl : lv_has ls 3 [(0, .ref this), (1, .int mo), (2, .int wh)] := hl
  refine lv_iload_n hx hb dX12_says_0 rfl (lv_at hl 1 rfl) ?_
  refine pk_i (va_runS (As := [.int mo]) (rest := []) ⟨hx, hb, hml, hown, hts⟩ (c_X12_isMonth l D t σ I J ri rj rq (Array.size s.heap) mo) (va_cwS 1 hts (tw_S tw_262 tw_263 tw_5 tw_264) rfl rfl rfl (by decide +kernel) ⟨Nat.le_of_ble_eq_true rfl, Nat.le_of_ble_eq_true rfl⟩) ⟨pq_blind, pq_pre hK hN hP hD⟩ rfl rfl hl.1 rfl (lv_room (Nat.le_of_ble_eq_true rfl)) dX12_says_1 ⟨Nat.le_of_ble_eq_true rfl, Nat.le_of_ble_eq_true rfl⟩) hD hS hA (fun r_1 σ1 μ1 H locs hw_2 hP hD hS => ?_)
  obtain ⟨hu_3, hr_4⟩ := hw_2
  obtain ⟨hu_3a, hu_3b⟩ := Prod.mk.inj hu_3
  rw [hu_3a, hu_3b] at hP hD
  rcases hr_4 with ⟨rfl, hr_4_0, hr_4_1⟩ | ⟨rfl, hr_4_0⟩
  · refine lv_if_ne (tgt := 9) hx hb dX12_says_4 (by decide) (fun c_5 => ?_) (fun c_5 => absurd c_5 (by decide))
    refine lv_iload_n hx hb dX12_says_9 rfl (lv_at hl 2 rfl) ?_
    refine lv_if_ne (tgt := 25) hx hb dX12_says_10 (by decide) (fun c_6 => ?_) (fun c_6 => ?_)
    · refine lv_iload_n hx hb dX12_says_25 rfl (lv_at hl 2 rfl) ?_
      refine lv_iconst (v := 1) hx hb dX12_says_26 (by decide) ?_
      refine lv_icmp_ne (tgt := 42) hx hb dX12_says_27 (by decide) (fun c_7 => ?_) (fun c_7 => ?_)
      · refine lv_iload_n hx hb dX12_says_42 rfl (lv_at hl 2 rfl) ?_
        refine lv_iconst (v := 2) hx hb dX12_says_43 (by decide) ?_
        refine lv_icmp_ne (tgt := 58) hx hb dX12_says_44 (by decide) (fun c_8 => ?_) (fun c_8 => ?_)
        · refine lv_iconst (v := (-1)) hx hb dX12_says_58 (by decide) ?_
          exact W.iret (v := (-1)) hx hb hr (fun t1 ht hW => ⟨⟨(-1), (σ, I, J, ri, rj, rq), rfl, ⟨rfl, (by unfold sp_says; rw [if_neg (show ¬ ¬ (0 ≤ mo ∧ mo ≤ 599) from fun q => q ⟨hr_4_0, hr_4_1⟩), if_neg c_6, if_neg c_7])⟩, by rw [ht]; exact hP, va_K.moved hW.alike hK, hD⟩, hS.F ht⟩) hS.2.2 dX12_says_59
        · refine lv_aload_n hx hb dX12_says_47 rfl (lv_at hl 0 rfl) ?_
          refine lv_bipush (v := 8) hx hb dX12_says_48 (by decide) ?_
          refine lv_iload_n hx hb dX12_says_50 rfl (lv_at hl 1 rfl) ?_
          refine lv_iconst (v := (-1)) hx hb dX12_says_51 (by decide) ?_
          refine pk_i (va_runV (As := [.int 8, .int mo, .int (-1)]) (rest := []) ⟨hx, hb, hml, hown, hts⟩ (c_X12_numberOf l D t σ I J ri rj rq H.size this (8 : Int32) mo (-1 : Int32) hL_this hK_this this_a hR_this_a hL_this_a hK_this_a hN_this_a 0 (by decide) hF) (cwV 3 hts (tw_V tw_1016 tw_1017 tw_1018 tw_5 tw_1019) rfl rfl rfl (by decide +kernel) ⟨Nat.le_of_ble_eq_true rfl, Nat.le_of_ble_eq_true rfl⟩) ⟨pq_blind, pq_recv hK hP hL_this hK_this (by decide) rfl, pq_pre hK hN hP hD⟩ rfl rfl hl.1 rfl (lv_room (Nat.le_of_ble_eq_true rfl)) dX12_says_52 ⟨Nat.le_of_ble_eq_true rfl, Nat.le_of_ble_eq_true rfl⟩) hD hS hA (fun r_9 σ1 μ1 H locs hw_10 hP hD hS => ?_)
          obtain ⟨hu_11, hr_12⟩ := hw_10
          obtain ⟨hu_11a, hu_11b⟩ := Prod.mk.inj hu_11
          rw [hu_11a, hu_11b] at hP hD
          refine lv_tov (-1 : Int32) hr_12 ?_
          refine lv_goto (tgt := 59) hx hb dX12_says_55 (by decide) ?_
          exact W.iret (v := (-1)) hx hb hr (fun t1 ht hW => ⟨⟨(-1), (σ, I, J, ri, rj, rq), rfl, ⟨rfl, (by unfold sp_says; rw [if_neg (show ¬ ¬ (0 ≤ mo ∧ mo ≤ 599) from fun q => q ⟨hr_4_0, hr_4_1⟩), if_neg c_6, if_neg c_7])⟩, by rw [ht]; exact hP, va_K.moved hW.alike hK, hD⟩, hS.F ht⟩) hS.2.2 dX12_says_59
      · refine lv_aload_n hx hb dX12_says_30 rfl (lv_at hl 0 rfl) ?_
        refine lv_bipush (v := 9) hx hb dX12_says_31 (by decide) ?_
        refine lv_iload_n hx hb dX12_says_33 rfl (lv_at hl 1 rfl) ?_
        refine lv_bipush (v := 10) hx hb dX12_says_34 (by decide) ?_
        refine pk_i (va_runV (As := [.int 9, .int mo, .int 10]) (rest := []) ⟨hx, hb, hml, hown, hts⟩ (c_X12_numberOf l D t σ I J ri rj rq H.size this (9 : Int32) mo (10 : Int32) hL_this hK_this this_a hR_this_a hL_this_a hK_this_a hN_this_a 0 (by decide) hF) (cwV 3 hts (tw_V tw_1016 tw_1017 tw_1018 tw_5 tw_1019) rfl rfl rfl (by decide +kernel) ⟨Nat.le_of_ble_eq_true rfl, Nat.le_of_ble_eq_true rfl⟩) ⟨pq_blind, pq_recv hK hP hL_this hK_this (by decide) rfl, pq_pre hK hN hP hD⟩ rfl rfl hl.1 rfl (lv_room (Nat.le_of_ble_eq_true rfl)) dX12_says_36 ⟨Nat.le_of_ble_eq_true rfl, Nat.le_of_ble_eq_true rfl⟩) hD hS hA (fun r_13 σ1 μ1 H locs hw_14 hP hD hS => ?_)
        obtain ⟨hu_15, hr_16⟩ := hw_14
        obtain ⟨hu_15a, hu_15b⟩ := Prod.mk.inj hu_15
        rw [hu_15a, hu_15b] at hP hD
        refine lv_tov (10 : Int32) hr_16 ?_
        refine lv_goto (tgt := 59) hx hb dX12_says_39 (by decide) ?_
        exact W.iret (v := 10) hx hb hr (fun t1 ht hW => ⟨⟨10, (σ, I, J, ri, rj, rq), rfl, ⟨rfl, (by unfold sp_says; rw [if_neg (show ¬ ¬ (0 ≤ mo ∧ mo ≤ 599) from fun q => q ⟨hr_4_0, hr_4_1⟩), if_neg c_6, if_pos c_7])⟩, by rw [ht]; exact hP, va_K.moved hW.alike hK, hD⟩, hS.F ht⟩) hS.2.2 dX12_says_59
    · refine lv_aload_n hx hb dX12_says_13 rfl (lv_at hl 0 rfl) ?_
      refine lv_bipush (v := 7) hx hb dX12_says_14 (by decide) ?_
      refine lv_iload_n hx hb dX12_says_16 rfl (lv_at hl 1 rfl) ?_
      refine lv_bipush (v := 50) hx hb dX12_says_17 (by decide) ?_
      refine pk_i (va_runV (As := [.int 7, .int mo, .int 50]) (rest := []) ⟨hx, hb, hml, hown, hts⟩ (c_X12_numberOf l D t σ I J ri rj rq H.size this (7 : Int32) mo (50 : Int32) hL_this hK_this this_a hR_this_a hL_this_a hK_this_a hN_this_a 0 (by decide) hF) (cwV 3 hts (tw_V tw_1016 tw_1017 tw_1018 tw_5 tw_1019) rfl rfl rfl (by decide +kernel) ⟨Nat.le_of_ble_eq_true rfl, Nat.le_of_ble_eq_true rfl⟩) ⟨pq_blind, pq_recv hK hP hL_this hK_this (by decide) rfl, pq_pre hK hN hP hD⟩ rfl rfl hl.1 rfl (lv_room (Nat.le_of_ble_eq_true rfl)) dX12_says_19 ⟨Nat.le_of_ble_eq_true rfl, Nat.le_of_ble_eq_true rfl⟩) hD hS hA (fun r_17 σ1 μ1 H locs hw_18 hP hD hS => ?_)
      obtain ⟨hu_19, hr_20⟩ := hw_18
      obtain ⟨hu_19a, hu_19b⟩ := Prod.mk.inj hu_19
      rw [hu_19a, hu_19b] at hP hD
      refine lv_tov (50 : Int32) hr_20 ?_
      refine lv_goto (tgt := 59) hx hb dX12_says_22 (by decide) ?_
      exact W.iret (v := 50) hx hb hr (fun t1 ht hW => ⟨⟨50, (σ, I, J, ri, rj, rq), rfl, ⟨rfl, (by unfold sp_says; rw [if_neg (show ¬ ¬ (0 ≤ mo ∧ mo ≤ 599) from fun q => q ⟨hr_4_0, hr_4_1⟩), if_pos c_6])⟩, by rw [ht]; exact hP, va_K.moved hW.alike hK, hD⟩, hS.F ht⟩) hS.2.2 dX12_says_59
  · refine lv_if_ne (tgt := 9) hx hb dX12_says_4 (by decide) (fun c_21 => absurd c_21 (by decide)) (fun c_21 => ?_)
    refine lv_iconst (v := (-1)) hx hb dX12_says_7 (by decide) ?_
    exact W.iret (v := (-1)) hx hb hr (fun t1 ht hW => ⟨⟨(-1), (σ, I, J, ri, rj, rq), rfl, ⟨rfl, (by unfold sp_says; rw [if_pos hr_4_0])⟩, by rw [ht]; exact hP, va_K.moved hW.alike hK, hD⟩, hS.F ht⟩) hS.2.2 dX12_says_8

set_option maxHeartbeats 4000000 in
set_option maxRecDepth 100000 in
theorem c_X12_isPlace (l : Launch) (D : va_G) (t : pq_T) (σ : pq_S) (I : Nat → Nat → Int32) (J : Nat → Nat → Int64) (ri : Nat → Nat → Int32) (rj : Nat → Nat → Int64) (rq : Nat → Nat → Option Nat) (sz : Nat) (this : Nat) (v : Int32) (hL_this : this ∈ σ.1) (hK_this : σ.2.1 this = 12) (this_a : Nat) (hR_this_a : σ.2.2.1 384 this = some this_a) (hL_this_a : this_a ∈ σ.1) (hK_this_a : σ.2.1 this_a = 13) (hN_this_a : σ.2.2.2 this_a = 12720) (hF : fm (ri this_a) 0) : MetI l yX12_isPlace (wa yX12_isPlace cX12_isPlace 2 (some .boolean)) ({ frames := 2, cells := 0, slots := 0, locals := 43 }) [.ref this, .int v] D t σ (I, J, ri, rj, rq) sz 0 0 (fun (r : Int32) (u : pq_S × pq_M) => u = (σ, I, J, ri, rj, rq) ∧ ((r = 1 ∧ v = 200) ∨ (r = 0 ∧ ¬ v = 200))) := by
  refine Met.ofW (cc := cX12_isPlace) (maxL := 2) (ret := (some .boolean)) (by decide) rfl ?_
  intro p e s m args below meth c s₁ B hml hv
  obtain ⟨rfl, hsz, hP, hK, hD0, hN⟩ := hv
  have hx := B.exec
  have hb := B.bytes
  have hr := B.returns
  have hts := atoms_spec (ws := (wa yX12_isPlace cX12_isPlace 2 (some .boolean))) B.pre
  have hown : s.vm.findClass RX12 = some m.cls := findClass_of_methodNamed B.named
  have hlocks := B.notSynchronized
  subst hsz
  have hD : va_D (pq_B t σ (I, J, ri, rj, rq) s.heap.size) (pq_P t σ (I, J, ri, rj, rq)) := hD0.self
  generalize hAe : pq_B t σ (I, J, ri, rj, rq) s.heap.size = A at hD ⊢
  have hA : ∀ q : Nat, s.heap.size ≤ q → A q := fun q h => by rw [← hAe]; exact Or.inr h
  have hS : va_S A s.heap s.heap [] := va_S.rf
  have hl := lv_entry ([.ref this, .int v]) (n := 2) (Nat.le_of_ble_eq_true rfl)
  rw [lg_entry_eq]
  generalize (lg_sl ([.ref this, .int v]) ++ List.replicate (2 - (lg_sl ([.ref this, .int v])).length) Slot.unset).toArray = ls at hl ⊢
  have hl : lv_has ls 2 [(0, .ref this), (1, .int v)] := hl
  refine lv_aload_n hx hb dX12_isPlace_0 rfl (lv_at hl 0 rfl) ?_
  refine lv_iload_n hx hb dX12_isPlace_1 rfl (lv_at hl 1 rfl) ?_
  refine pk_i (va_runV (As := [.int v]) (rest := []) ⟨hx, hb, hml, hown, hts⟩ (c_X12_isRing l D t σ I J ri rj rq (Array.size s.heap) this v hL_this hK_this this_a hR_this_a hL_this_a hK_this_a hN_this_a 0 (by decide) hF) (cwV 1 hts (tw_V tw_231 tw_232 tw_233 tw_5 tw_234) rfl rfl rfl (by decide +kernel) ⟨Nat.le_of_ble_eq_true rfl, Nat.le_of_ble_eq_true rfl⟩) ⟨pq_blind, pq_recv hK hP hL_this hK_this (by decide) rfl, pq_pre hK hN hP hD⟩ rfl rfl hl.1 rfl (lv_room (Nat.le_of_ble_eq_true rfl)) dX12_isPlace_2 ⟨Nat.le_of_ble_eq_true rfl, Nat.le_of_ble_eq_true rfl⟩) hD hS hA (fun r_1 σ1 μ1 H locs hw_2 hP hD hS => ?_)
  obtain ⟨hu_3, hr_4⟩ := hw_2
  obtain ⟨hu_3a, hu_3b⟩ := Prod.mk.inj hu_3
  rw [hu_3a, hu_3b] at hP hD
  subst hr_4
  refine lv_if_ne (tgt := 23) hx hb dX12_isPlace_5 (by decide) (fun c_5 => absurd c_5 (by decide)) (fun c_5 => ?_)
  refine lv_aload_n hx hb dX12_isPlace_8 rfl (lv_at hl 0 rfl) ?_
  refine lv_iload_n hx hb dX12_isPlace_9 rfl (lv_at hl 1 rfl) ?_
  refine pk_i (va_runV (As := [.int v]) (rest := []) ⟨hx, hb, hml, hown, hts⟩ (c_X12_isLot l D t σ I J ri rj rq H.size this v hL_this hK_this this_a hR_this_a hL_this_a hK_this_a hN_this_a 0 (by decide) hF) (cwV 1 hts (tw_V tw_433 tw_434 tw_435 tw_5 tw_436) rfl rfl rfl (by decide +kernel) ⟨Nat.le_of_ble_eq_true rfl, Nat.le_of_ble_eq_true rfl⟩) ⟨pq_blind, pq_recv hK hP hL_this hK_this (by decide) rfl, pq_pre hK hN hP hD⟩ rfl rfl hl.1 rfl (lv_room (Nat.le_of_ble_eq_true rfl)) dX12_isPlace_10 ⟨Nat.le_of_ble_eq_true rfl, Nat.le_of_ble_eq_true rfl⟩) hD hS hA (fun r_6 σ1 μ1 H locs hw_7 hP hD hS => ?_)
  obtain ⟨hu_8, hr_9⟩ := hw_7
  obtain ⟨hu_8a, hu_8b⟩ := Prod.mk.inj hu_8
  rw [hu_8a, hu_8b] at hP hD
  subst hr_9
  refine lv_if_ne (tgt := 23) hx hb dX12_isPlace_13 (by decide) (fun c_10 => absurd c_10 (by decide)) (fun c_10 => ?_)
  refine lv_iload_n hx hb dX12_isPlace_16 rfl (lv_at hl 1 rfl) ?_
  refine lv_sipush (v := 200) hx hb dX12_isPlace_17 (by decide) ?_
  refine lv_icmp_ne (tgt := 27) hx hb dX12_isPlace_20 (by decide) (fun c_11 => ?_) (fun c_11 => ?_)
  · refine lv_iconst (v := 0) hx hb dX12_isPlace_27 (by decide) ?_
    exact W.zret (v := 0) hx hb hr (by decide) (fun t1 ht hW => ⟨⟨0, (σ, I, J, ri, rj, rq), rfl, ⟨rfl, (Or.inr ⟨rfl, c_11⟩)⟩, by rw [ht]; exact hP, va_K.moved hW.alike hK, hD⟩, hS.F ht⟩) hS.2.2 dX12_isPlace_28
  · refine lv_iconst (v := 1) hx hb dX12_isPlace_23 (by decide) ?_
    refine lv_goto (tgt := 28) hx hb dX12_isPlace_24 (by decide) ?_
    exact W.zret (v := 1) hx hb hr (by decide) (fun t1 ht hW => ⟨⟨1, (σ, I, J, ri, rj, rq), rfl, ⟨rfl, (Or.inl ⟨rfl, c_11⟩)⟩, by rw [ht]; exact hP, va_K.moved hW.alike hK, hD⟩, hS.F ht⟩) hS.2.2 dX12_isPlace_28

set_option maxHeartbeats 4000000 in
set_option maxRecDepth 100000 in
theorem c_X12_at (l : Launch) (D : va_G) (t : pq_T) (σ : pq_S) (I : Nat → Nat → Int32) (J : Nat → Nat → Int64) (ri : Nat → Nat → Int32) (rj : Nat → Nat → Int64) (rq : Nat → Nat → Option Nat) (sz : Nat) (this : Nat) (pl : Int32) (hL_this : this ∈ σ.1) (hK_this : σ.2.1 this = 12) (this_a : Nat) (hR_this_a : σ.2.2.1 384 this = some this_a) (hL_this_a : this_a ∈ σ.1) (hK_this_a : σ.2.1 this_a = 13) (hN_this_a : σ.2.2.2 this_a = 12720) (hF : fm (ri this_a) 0) : MetI l yX12_at (wa yX12_at cX12_at 2 (some .int)) ({ frames := 3, cells := 0, slots := 0, locals := 64 }) [.ref this, .int pl] D t σ (I, J, ri, rj, rq) sz 0 0 (fun (r : Int32) (u : pq_S × pq_M) => u = (σ, I, J, ri, rj, rq) ∧ (r = sp_at pl)) := by
  refine Met.ofW (cc := cX12_at) (maxL := 2) (ret := (some .int)) (by decide) rfl ?_
  intro p e s m args below meth c s₁ B hml hv
  obtain ⟨rfl, hsz, hP, hK, hD0, hN⟩ := hv
  have hx := B.exec
  have hb := B.bytes
  have hr := B.returns
  have hts := atoms_spec (ws := (wa yX12_at cX12_at 2 (some .int))) B.pre
  have hown : s.vm.findClass RX12 = some m.cls := findClass_of_methodNamed B.named
  have hlocks := B.notSynchronized
  subst hsz
  have hD : va_D (pq_B t σ (I, J, ri, rj, rq) s.heap.size) (pq_P t σ (I, J, ri, rj, rq)) := hD0.self
  generalize hAe : pq_B t σ (I, J, ri, rj, rq) s.heap.size = A at hD ⊢
  have hA : ∀ q : Nat, s.heap.size ≤ q → A q := fun q h => by rw [← hAe]; exact Or.inr h
  have hS : va_S A s.heap s.heap [] := va_S.rf
  have hl := lv_entry ([.ref this, .int pl]) (n := 2) (Nat.le_of_ble_eq_true rfl)
  rw [lg_entry_eq]
  generalize (lg_sl ([.ref this, .int pl]) ++ List.replicate (2 - (lg_sl ([.ref this, .int pl])).length) Slot.unset).toArray = ls at hl ⊢
  have hl : lv_has ls 2 [(0, .ref this), (1, .int pl)] := hl
  refine lv_aload_n hx hb dX12_at_0 rfl (lv_at hl 0 rfl) ?_
  refine lv_iload_n hx hb dX12_at_1 rfl (lv_at hl 1 rfl) ?_
  refine pk_i (va_runV (As := [.int pl]) (rest := []) ⟨hx, hb, hml, hown, hts⟩ (c_X12_isPlace l D t σ I J ri rj rq (Array.size s.heap) this pl hL_this hK_this this_a hR_this_a hL_this_a hK_this_a hN_this_a hF) (cwV 1 hts (tw_V tw_429 tw_430 tw_431 tw_5 tw_432) rfl rfl rfl (by decide +kernel) ⟨Nat.le_of_ble_eq_true rfl, Nat.le_of_ble_eq_true rfl⟩) ⟨pq_blind, pq_recv hK hP hL_this hK_this (by decide) rfl, pq_pre hK hN hP hD⟩ rfl rfl hl.1 rfl (lv_room (Nat.le_of_ble_eq_true rfl)) dX12_at_2 ⟨Nat.le_of_ble_eq_true rfl, Nat.le_of_ble_eq_true rfl⟩) hD hS hA (fun r_1 σ1 μ1 H locs hw_2 hP hD hS => ?_)
  obtain ⟨hu_3, hr_4⟩ := hw_2
  obtain ⟨hu_3a, hu_3b⟩ := Prod.mk.inj hu_3
  rw [hu_3a, hu_3b] at hP hD
  rcases hr_4 with ⟨rfl, hr_4_0⟩ | ⟨rfl, hr_4_0⟩
  · refine lv_if_ne (tgt := 15) hx hb dX12_at_5 (by decide) (fun c_5 => ?_) (fun c_5 => absurd c_5 (by decide))
    refine lv_aload_n hx hb dX12_at_15 rfl (lv_at hl 0 rfl) ?_
    refine lv_iload_n hx hb dX12_at_16 rfl (lv_at hl 1 rfl) ?_
    refine pk_i (va_runV (As := [.int pl]) (rest := []) ⟨hx, hb, hml, hown, hts⟩ (c_X12_manyAt l D t σ I J ri rj rq H.size this pl hL_this hK_this this_a hR_this_a hL_this_a hK_this_a hN_this_a 0 (by decide) hF) (cwV 1 hts (tw_V tw_445 tw_446 tw_447 tw_5 tw_448) rfl rfl rfl (by decide +kernel) ⟨Nat.le_of_ble_eq_true rfl, Nat.le_of_ble_eq_true rfl⟩) ⟨pq_blind, pq_recv hK hP hL_this hK_this (by decide) rfl, pq_pre hK hN hP hD⟩ rfl rfl hl.1 rfl (lv_room (Nat.le_of_ble_eq_true rfl)) dX12_at_17 ⟨Nat.le_of_ble_eq_true rfl, Nat.le_of_ble_eq_true rfl⟩) hD hS hA (fun r_6 σ1 μ1 H locs hw_7 hP hD hS => ?_)
    obtain ⟨hu_8, hr_9⟩ := hw_7
    obtain ⟨hu_8a, hu_8b⟩ := Prod.mk.inj hu_8
    rw [hu_8a, hu_8b] at hP hD
    subst hr_9
    refine lv_goto (tgt := 24) hx hb dX12_at_20 (by decide) ?_
    exact W.iret (v := 0) hx hb hr (fun t1 ht hW => ⟨⟨0, (σ, I, J, ri, rj, rq), rfl, ⟨rfl, (by unfold sp_at; rw [if_pos (Or.inl hr_4_0)])⟩, by rw [ht]; exact hP, va_K.moved hW.alike hK, hD⟩, hS.F ht⟩) hS.2.2 dX12_at_24
  · refine lv_if_ne (tgt := 15) hx hb dX12_at_5 (by decide) (fun c_10 => absurd c_10 (by decide)) (fun c_10 => ?_)
    refine lv_iload_n hx hb dX12_at_8 rfl (lv_at hl 1 rfl) ?_
    refine lv_sipush (v := 300) hx hb dX12_at_9 (by decide) ?_
    refine lv_icmp_ne (tgt := 23) hx hb dX12_at_12 (by decide) (fun c_11 => ?_) (fun c_11 => ?_)
    · refine lv_iconst (v := (-1)) hx hb dX12_at_23 (by decide) ?_
      exact W.iret (v := (-1)) hx hb hr (fun t1 ht hW => ⟨⟨(-1), (σ, I, J, ri, rj, rq), rfl, ⟨rfl, (by unfold sp_at; rw [if_neg (fun q => q.elim hr_4_0 c_11)])⟩, by rw [ht]; exact hP, va_K.moved hW.alike hK, hD⟩, hS.F ht⟩) hS.2.2 dX12_at_24
    · refine lv_aload_n hx hb dX12_at_15 rfl (lv_at hl 0 rfl) ?_
      refine lv_iload_n hx hb dX12_at_16 rfl (lv_at hl 1 rfl) ?_
      refine pk_i (va_runV (As := [.int pl]) (rest := []) ⟨hx, hb, hml, hown, hts⟩ (c_X12_manyAt l D t σ I J ri rj rq H.size this pl hL_this hK_this this_a hR_this_a hL_this_a hK_this_a hN_this_a 0 (by decide) hF) (cwV 1 hts (tw_V tw_445 tw_446 tw_447 tw_5 tw_448) rfl rfl rfl (by decide +kernel) ⟨Nat.le_of_ble_eq_true rfl, Nat.le_of_ble_eq_true rfl⟩) ⟨pq_blind, pq_recv hK hP hL_this hK_this (by decide) rfl, pq_pre hK hN hP hD⟩ rfl rfl hl.1 rfl (lv_room (Nat.le_of_ble_eq_true rfl)) dX12_at_17 ⟨Nat.le_of_ble_eq_true rfl, Nat.le_of_ble_eq_true rfl⟩) hD hS hA (fun r_12 σ1 μ1 H locs hw_13 hP hD hS => ?_)
      obtain ⟨hu_14, hr_15⟩ := hw_13
      obtain ⟨hu_14a, hu_14b⟩ := Prod.mk.inj hu_14
      rw [hu_14a, hu_14b] at hP hD
      subst hr_15
      refine lv_goto (tgt := 24) hx hb dX12_at_20 (by decide) ?_
      exact W.iret (v := 0) hx hb hr (fun t1 ht hW => ⟨⟨0, (σ, I, J, ri, rj, rq), rfl, ⟨rfl, (by unfold sp_at; rw [if_pos (Or.inr c_11)])⟩, by rw [ht]; exact hP, va_K.moved hW.alike hK, hD⟩, hS.F ht⟩) hS.2.2 dX12_at_24

set_option maxHeartbeats 4000000 in
set_option maxRecDepth 100000 in
theorem c_X12_area (l : Launch) (D : va_G) (t : pq_T) (σ : pq_S) (I : Nat → Nat → Int32) (J : Nat → Nat → Int64) (ri : Nat → Nat → Int32) (rj : Nat → Nat → Int64) (rq : Nat → Nat → Option Nat) (sz : Nat) (this : Nat) (hL_this : this ∈ σ.1) (hK_this : σ.2.1 this = 12) (this_a : Nat) (hR_this_a : σ.2.2.1 384 this = some this_a) (hL_this_a : this_a ∈ σ.1) (hK_this_a : σ.2.1 this_a = 13) (hN_this_a : σ.2.2.2 this_a = 12720) (hF : fm (ri this_a) 0) : MetI l yX12_area (wa yX12_area cX12_area 1 (some .int)) ({ frames := 0, cells := 0, slots := 0, locals := 0 }) [.ref this] D t σ (I, J, ri, rj, rq) sz 0 0 (fun (r : Int32) (u : pq_S × pq_M) => u = (σ, I, J, ri, rj, rq) ∧ ((r = (-1)))) := by
  refine Met.ofW (cc := cX12_area) (maxL := 1) (ret := (some .int)) (by decide) rfl ?_
  intro p e s m args below meth c s₁ B hml hv
  obtain ⟨rfl, hsz, hP, hK, hD0, hN⟩ := hv
  have hx := B.exec
  have hb := B.bytes
  have hr := B.returns
  have hts := atoms_spec (ws := (wa yX12_area cX12_area 1 (some .int))) B.pre
  have hown : s.vm.findClass RX12 = some m.cls := findClass_of_methodNamed B.named
  have hlocks := B.notSynchronized
  subst hsz
  have hD : va_D (pq_B t σ (I, J, ri, rj, rq) s.heap.size) (pq_P t σ (I, J, ri, rj, rq)) := hD0.self
  generalize hAe : pq_B t σ (I, J, ri, rj, rq) s.heap.size = A at hD ⊢
  have hA : ∀ q : Nat, s.heap.size ≤ q → A q := fun q h => by rw [← hAe]; exact Or.inr h
  have hS : va_S A s.heap s.heap [] := va_S.rf
  have hl := lv_entry ([.ref this]) (n := 1) (Nat.le_of_ble_eq_true rfl)
  rw [lg_entry_eq]
  generalize (lg_sl ([.ref this]) ++ List.replicate (1 - (lg_sl ([.ref this])).length) Slot.unset).toArray = ls at hl ⊢
  have hl : lv_has ls 1 [(0, .ref this)] := hl
  refine lv_aload_n hx hb dX12_area_0 rfl (lv_at hl 0 rfl) ?_
  refine pg_f (v := .ref this_a) (C := RX12) (T := TX12) (N := 31) hx hb hts (tw_i inlX12) hown hK hP hL_this hK_this (by decide) rfl 0 (by decide) (hts _ (tw_c tw_176)) (pq_hv rfl hR_this_a) dX12_area_1 ?_
  refine lv_iconst (v := 0) hx hb dX12_area_4 (by decide) ?_
  refine pl_i hx hb hK hP hL_this_a hK_this_a hN_this_a (vp_in_iff.mpr (by decide)) dX12_area_5 ?_
  refine lv_tov 0 (hF.1.trans nI_0) ?_
  refine lv_if_ne (tgt := 13) hx hb dX12_area_6 (by decide) (fun c_1 => absurd c_1 (by decide)) (fun c_1 => ?_)
  refine lv_iconst (v := (-1)) hx hb dX12_area_9 (by decide) ?_
  refine lv_goto (tgt := 20) hx hb dX12_area_10 (by decide) ?_
  exact W.iret (v := (-1)) hx hb hr (fun t1 ht hW => ⟨⟨(-1), (σ, I, J, ri, rj, rq), rfl, ⟨rfl, rfl⟩, by rw [ht]; exact hP, va_K.moved hW.alike hK, hD⟩, hS.F ht⟩) hS.2.2 dX12_area_20

set_option maxHeartbeats 4000000 in
set_option maxRecDepth 100000 in
theorem c_X12_fault (l : Launch) (D : va_G) (t : pq_T) (σ : pq_S) (I : Nat → Nat → Int32) (J : Nat → Nat → Int64) (ri : Nat → Nat → Int32) (rj : Nat → Nat → Int64) (rq : Nat → Nat → Option Nat) (sz : Nat) (this : Nat) (wh : Int32) (hL_this : this ∈ σ.1) (hK_this : σ.2.1 this = 12) (hF1 : I 389 this = (-1)) (hF2 : I 390 this = (-1)) : MetI l yX12_fault (wa yX12_fault cX12_fault 2 (some .int)) ({ frames := 0, cells := 0, slots := 0, locals := 0 }) [.ref this, .int wh] D t σ (I, J, ri, rj, rq) sz 0 0 (fun (r : Int32) (u : pq_S × pq_M) => u = (σ, I, J, ri, rj, rq) ∧ ((r = (-1)))) := by
  refine Met.ofW (cc := cX12_fault) (maxL := 2) (ret := (some .int)) (by decide) rfl ?_
  intro p e s m args below meth c s₁ B hml hv
  obtain ⟨rfl, hsz, hP, hK, hD0, hN⟩ := hv
  have hx := B.exec
  have hb := B.bytes
  have hr := B.returns
  have hts := atoms_spec (ws := (wa yX12_fault cX12_fault 2 (some .int))) B.pre
  have hown : s.vm.findClass RX12 = some m.cls := findClass_of_methodNamed B.named
  have hlocks := B.notSynchronized
  subst hsz
  have hD : va_D (pq_B t σ (I, J, ri, rj, rq) s.heap.size) (pq_P t σ (I, J, ri, rj, rq)) := hD0.self
  generalize hAe : pq_B t σ (I, J, ri, rj, rq) s.heap.size = A at hD ⊢
  have hA : ∀ q : Nat, s.heap.size ≤ q → A q := fun q h => by rw [← hAe]; exact Or.inr h
  have hS : va_S A s.heap s.heap [] := va_S.rf
  have hl := lv_entry ([.ref this, .int wh]) (n := 2) (Nat.le_of_ble_eq_true rfl)
  rw [lg_entry_eq]
  generalize (lg_sl ([.ref this, .int wh]) ++ List.replicate (2 - (lg_sl ([.ref this, .int wh])).length) Slot.unset).toArray = ls at hl ⊢
  have hl : lv_has ls 2 [(0, .ref this), (1, .int wh)] := hl
  refine lv_iload_n hx hb dX12_fault_0 rfl (lv_at hl 1 rfl) ?_
  refine lv_if_ne (tgt := 11) hx hb dX12_fault_1 (by decide) (fun c_1 => ?_) (fun c_1 => ?_)
  · refine lv_iload_n hx hb dX12_fault_11 rfl (lv_at hl 1 rfl) ?_
    refine lv_iconst (v := 1) hx hb dX12_fault_12 (by decide) ?_
    refine lv_icmp_ne (tgt := 23) hx hb dX12_fault_13 (by decide) (fun c_2 => ?_) (fun c_2 => ?_)
    · refine lv_iconst (v := (-1)) hx hb dX12_fault_23 (by decide) ?_
      exact W.iret (v := (-1)) hx hb hr (fun t1 ht hW => ⟨⟨(-1), (σ, I, J, ri, rj, rq), rfl, ⟨rfl, rfl⟩, by rw [ht]; exact hP, va_K.moved hW.alike hK, hD⟩, hS.F ht⟩) hS.2.2 dX12_fault_24
    · refine lv_aload_n hx hb dX12_fault_16 rfl (lv_at hl 0 rfl) ?_
      refine pg_f (v := .int (I 390 this)) (C := RX12) (T := TX12) (N := 31) hx hb hts (tw_i inlX12) hown hK hP hL_this hK_this (by decide) rfl 6 (by decide) (hts _ (tw_c tw_181)) rfl dX12_fault_17 ?_
      refine lv_tov (-1) hF2 ?_
      refine lv_goto (tgt := 24) hx hb dX12_fault_20 (by decide) ?_
      exact W.iret (v := (-1)) hx hb hr (fun t1 ht hW => ⟨⟨(-1), (σ, I, J, ri, rj, rq), rfl, ⟨rfl, rfl⟩, by rw [ht]; exact hP, va_K.moved hW.alike hK, hD⟩, hS.F ht⟩) hS.2.2 dX12_fault_24
  · refine lv_aload_n hx hb dX12_fault_4 rfl (lv_at hl 0 rfl) ?_
    refine pg_f (v := .int (I 389 this)) (C := RX12) (T := TX12) (N := 31) hx hb hts (tw_i inlX12) hown hK hP hL_this hK_this (by decide) rfl 5 (by decide) (hts _ (tw_c tw_180)) rfl dX12_fault_5 ?_
    refine lv_tov (-1) hF1 ?_
    refine lv_goto (tgt := 24) hx hb dX12_fault_8 (by decide) ?_
    exact W.iret (v := (-1)) hx hb hr (fun t1 ht hW => ⟨⟨(-1), (σ, I, J, ri, rj, rq), rfl, ⟨rfl, rfl⟩, by rw [ht]; exact hP, va_K.moved hW.alike hK, hD⟩, hS.F ht⟩) hS.2.2 dX12_fault_24
