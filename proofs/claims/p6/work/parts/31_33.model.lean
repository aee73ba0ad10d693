theorem dX12_rules_0 : decode cX12_rules 0 = .ok (.iload_n 1, 1) := oc_27 (by decide +kernel)
theorem dX12_rules_1 : decode cX12_rules 1 = .ok (.iconst 0, 1) := oc_3 (by decide +kernel)
theorem dX12_rules_2 : decode cX12_rules 2 = .ok (.bipush 40, 2) := oc_16 (a := 40) (by decide +kernel)
theorem dX12_rules_4 : decode cX12_rules 4 = .ok (.invokestatic 62, 3) := oc_184 (a := 0) (b := 62) (by decide +kernel)
theorem dX12_rules_51 : decode cX12_rules 51 = .ok (.iconst 0, 1) := oc_3 (by decide +kernel)
theorem dX12_rules_52 : decode cX12_rules 52 = .ok (.ireturn, 1) := oc_172 (by decide +kernel)
theorem dX12_rules_7 : decode cX12_rules 7 = .ok (.ifCond .eq 44, 3) := oc_153 (a := 0) (b := 44) (by decide +kernel)
theorem dX12_rules_10 : decode cX12_rules 10 = .ok (.iload_n 2, 1) := oc_28 (by decide +kernel)
theorem dX12_rules_11 : decode cX12_rules 11 = .ok (.iconst 0, 1) := oc_3 (by decide +kernel)
theorem dX12_rules_12 : decode cX12_rules 12 = .ok (.iconst 5, 1) := oc_8 (by decide +kernel)
theorem dX12_rules_13 : decode cX12_rules 13 = .ok (.invokestatic 62, 3) := oc_184 (a := 0) (b := 62) (by decide +kernel)
theorem dX12_rules_16 : decode cX12_rules 16 = .ok (.ifCond .eq 35, 3) := oc_153 (a := 0) (b := 35) (by decide +kernel)
theorem dX12_rules_19 : decode cX12_rules 19 = .ok (.iload_n 3, 1) := oc_29 (by decide +kernel)
theorem dX12_rules_20 : decode cX12_rules 20 = .ok (.iconst 0, 1) := oc_3 (by decide +kernel)
theorem dX12_rules_21 : decode cX12_rules 21 = .ok (.bipush 50, 2) := oc_16 (a := 50) (by decide +kernel)
theorem dX12_rules_23 : decode cX12_rules 23 = .ok (.invokestatic 62, 3) := oc_184 (a := 0) (b := 62) (by decide +kernel)
theorem dX12_rules_26 : decode cX12_rules 26 = .ok (.ifCond .eq 25, 3) := oc_153 (a := 0) (b := 25) (by decide +kernel)
theorem dX12_rules_29 : decode cX12_rules 29 = .ok (.iload 4, 2) := oc_21 (by decide +kernel)
theorem dX12_rules_31 : decode cX12_rules 31 = .ok (.iconst 1, 1) := oc_4 (by decide +kernel)
theorem dX12_rules_32 : decode cX12_rules 32 = .ok (.bipush 20, 2) := oc_16 (a := 20) (by decide +kernel)
theorem dX12_rules_34 : decode cX12_rules 34 = .ok (.invokestatic 62, 3) := oc_184 (a := 0) (b := 62) (by decide +kernel)
theorem dX12_rules_37 : decode cX12_rules 37 = .ok (.ifCond .eq 14, 3) := oc_153 (a := 0) (b := 14) (by decide +kernel)
theorem dX12_rules_40 : decode cX12_rules 40 = .ok (.iload 5, 2) := oc_21 (by decide +kernel)
theorem dX12_rules_42 : decode cX12_rules 42 = .ok (.iconst 0, 1) := oc_3 (by decide +kernel)
theorem dX12_rules_43 : decode cX12_rules 43 = .ok (.bipush 100, 2) := oc_16 (a := 100) (by decide +kernel)
theorem dX12_rules_45 : decode cX12_rules 45 = .ok (.invokestatic 62, 3) := oc_184 (a := 0) (b := 62) (by decide +kernel)
theorem dX12_rules_48 : decode cX12_rules 48 = .ok (.ifCond .ne 5, 3) := oc_154 (a := 0) (b := 5) (by decide +kernel)
theorem dX12_rules_53 : decode cX12_rules 53 = .ok (.aload_n 0, 1) := oc_42 (by decide +kernel)
theorem dX12_rules_54 : decode cX12_rules 54 = .ok (.getfield 7, 3) := oc_180 (a := 0) (b := 7) (by decide +kernel)
theorem dX12_rules_57 : decode cX12_rules 57 = .ok (.bipush 13, 2) := oc_16 (a := 13) (by decide +kernel)
theorem dX12_rules_59 : decode cX12_rules 59 = .ok (.iload_n 1, 1) := oc_27 (by decide +kernel)
theorem dX12_rules_60 : decode cX12_rules 60 = .ok (.iastore, 1) := oc_79 (by decide +kernel)
theorem dX12_rules_61 : decode cX12_rules 61 = .ok (.aload_n 0, 1) := oc_42 (by decide +kernel)
theorem dX12_rules_62 : decode cX12_rules 62 = .ok (.getfield 7, 3) := oc_180 (a := 0) (b := 7) (by decide +kernel)
theorem dX12_rules_65 : decode cX12_rules 65 = .ok (.bipush 14, 2) := oc_16 (a := 14) (by decide +kernel)
theorem dX12_rules_67 : decode cX12_rules 67 = .ok (.iload_n 2, 1) := oc_28 (by decide +kernel)
theorem dX12_rules_68 : decode cX12_rules 68 = .ok (.iastore, 1) := oc_79 (by decide +kernel)
theorem dX12_rules_69 : decode cX12_rules 69 = .ok (.aload_n 0, 1) := oc_42 (by decide +kernel)
theorem dX12_rules_70 : decode cX12_rules 70 = .ok (.getfield 7, 3) := oc_180 (a := 0) (b := 7) (by decide +kernel)
theorem dX12_rules_73 : decode cX12_rules 73 = .ok (.bipush 15, 2) := oc_16 (a := 15) (by decide +kernel)
theorem dX12_rules_75 : decode cX12_rules 75 = .ok (.iload_n 3, 1) := oc_29 (by decide +kernel)
theorem dX12_rules_76 : decode cX12_rules 76 = .ok (.iastore, 1) := oc_79 (by decide +kernel)
theorem dX12_rules_77 : decode cX12_rules 77 = .ok (.aload_n 0, 1) := oc_42 (by decide +kernel)
theorem dX12_rules_78 : decode cX12_rules 78 = .ok (.getfield 7, 3) := oc_180 (a := 0) (b := 7) (by decide +kernel)
theorem dX12_rules_81 : decode cX12_rules 81 = .ok (.bipush 16, 2) := oc_16 (a := 16) (by decide +kernel)
theorem dX12_rules_83 : decode cX12_rules 83 = .ok (.iload 4, 2) := oc_21 (by decide +kernel)
theorem dX12_rules_85 : decode cX12_rules 85 = .ok (.iastore, 1) := oc_79 (by decide +kernel)
theorem dX12_rules_86 : decode cX12_rules 86 = .ok (.aload_n 0, 1) := oc_42 (by decide +kernel)
theorem dX12_rules_87 : decode cX12_rules 87 = .ok (.getfield 7, 3) := oc_180 (a := 0) (b := 7) (by decide +kernel)
theorem dX12_rules_90 : decode cX12_rules 90 = .ok (.bipush 17, 2) := oc_16 (a := 17) (by decide +kernel)
theorem dX12_rules_92 : decode cX12_rules 92 = .ok (.iload 5, 2) := oc_21 (by decide +kernel)
theorem dX12_rules_94 : decode cX12_rules 94 = .ok (.iastore, 1) := oc_79 (by decide +kernel)
theorem dX12_rules_95 : decode cX12_rules 95 = .ok (.iconst 1, 1) := oc_4 (by decide +kernel)
theorem dX12_rules_96 : decode cX12_rules 96 = .ok (.ireturn, 1) := oc_172 (by decide +kernel)
theorem dX12_wall_0 : decode cX12_wall 0 = .ok (.aload_n 0, 1) := oc_42 (by decide +kernel)
theorem dX12_wall_1 : decode cX12_wall 1 = .ok (.iload_n 1, 1) := oc_27 (by decide +kernel)
theorem tw_340 : Cond.methodLink RX12 88 yX12_isCell ∈ wsL_law := sg_15 _ (List.mem_of_getElem? (i := 4) rfl)
theorem tw_341 : Cond.instanceMethod yX12_isCell ∈ wsL_law := sg_15 _ (List.mem_of_getElem? (i := 5) rfl)
theorem tw_342 : Cond.selects RX12 yX12_isCell yX12_isCell ∈ wsL_law := sg_15 _ (List.mem_of_getElem? (i := 6) rfl)
theorem tw_343 : Cond.code yX12_isCell cX12_isCell 2 (some .boolean) ∈ wsL_law := sg_15 _ (List.mem_of_getElem? (i := 7) rfl)
theorem dX12_wall_2 : decode cX12_wall 2 = .ok (.invokevirtual 88, 3) := oc_182 (a := 0) (b := 88) (by decide +kernel)
theorem dX12_wall_19 : decode cX12_wall 19 = .ok (.iconst 0, 1) := oc_3 (by decide +kernel)
theorem dX12_wall_20 : decode cX12_wall 20 = .ok (.ireturn, 1) := oc_172 (by decide +kernel)
theorem dX12_wall_5 : decode cX12_wall 5 = .ok (.ifCond .eq 14, 3) := oc_153 (a := 0) (b := 14) (by decide +kernel)
theorem dX12_wall_8 : decode cX12_wall 8 = .ok (.iload_n 2, 1) := oc_28 (by decide +kernel)
theorem dX12_wall_9 : decode cX12_wall 9 = .ok (.iconst 0, 1) := oc_3 (by decide +kernel)
theorem dX12_wall_10 : decode cX12_wall 10 = .ok (.sipush 1000, 3) := oc_17 (a := 3) (b := 232) (by decide +kernel)
theorem dX12_wall_13 : decode cX12_wall 13 = .ok (.invokestatic 62, 3) := oc_184 (a := 0) (b := 62) (by decide +kernel)
theorem dX12_wall_16 : decode cX12_wall 16 = .ok (.ifCond .ne 5, 3) := oc_154 (a := 0) (b := 5) (by decide +kernel)
theorem dX12_wall_21 : decode cX12_wall 21 = .ok (.aload_n 0, 1) := oc_42 (by decide +kernel)
theorem dX12_wall_22 : decode cX12_wall 22 = .ok (.getfield 7, 3) := oc_180 (a := 0) (b := 7) (by decide +kernel)
theorem dX12_wall_25 : decode cX12_wall 25 = .ok (.bipush 100, 2) := oc_16 (a := 100) (by decide +kernel)
theorem dX12_wall_27 : decode cX12_wall 27 = .ok (.bipush 16, 2) := oc_16 (a := 16) (by decide +kernel)
theorem dX12_wall_29 : decode cX12_wall 29 = .ok (.iload_n 1, 1) := oc_27 (by decide +kernel)
theorem dX12_wall_30 : decode cX12_wall 30 = .ok (.imul, 1) := oc_104 (by decide +kernel)
theorem dX12_wall_31 : decode cX12_wall 31 = .ok (.iadd, 1) := oc_96 (by decide +kernel)
theorem dX12_wall_32 : decode cX12_wall 32 = .ok (.bipush 6, 2) := oc_16 (a := 6) (by decide +kernel)
theorem dX12_wall_34 : decode cX12_wall 34 = .ok (.iadd, 1) := oc_96 (by decide +kernel)
theorem dX12_wall_35 : decode cX12_wall 35 = .ok (.iload_n 2, 1) := oc_28 (by decide +kernel)
theorem dX12_wall_36 : decode cX12_wall 36 = .ok (.iastore, 1) := oc_79 (by decide +kernel)
theorem dX12_wall_37 : decode cX12_wall 37 = .ok (.iconst 1, 1) := oc_4 (by decide +kernel)
theorem dX12_wall_38 : decode cX12_wall 38 = .ok (.ireturn, 1) := oc_172 (by decide +kernel)
theorem dX12_cellAt_0 : decode cX12_cellAt 0 = .ok (.aload_n 0, 1) := oc_42 (by decide +kernel)
theorem dX12_cellAt_1 : decode cX12_cellAt 1 = .ok (.getfield 7, 3) := oc_180 (a := 0) (b := 7) (by decide +kernel)
theorem dX12_cellAt_4 : decode cX12_cellAt 4 = .ok (.bipush 100, 2) := oc_16 (a := 100) (by decide +kernel)
theorem dX12_cellAt_6 : decode cX12_cellAt 6 = .ok (.bipush 16, 2) := oc_16 (a := 16) (by decide +kernel)
theorem dX12_cellAt_8 : decode cX12_cellAt 8 = .ok (.iload_n 1, 1) := oc_27 (by decide +kernel)
theorem dX12_cellAt_9 : decode cX12_cellAt 9 = .ok (.imul, 1) := oc_104 (by decide +kernel)
theorem dX12_cellAt_10 : decode cX12_cellAt 10 = .ok (.iadd, 1) := oc_96 (by decide +kernel)
theorem dX12_cellAt_11 : decode cX12_cellAt 11 = .ok (.iload_n 2, 1) := oc_28 (by decide +kernel)
theorem dX12_cellAt_12 : decode cX12_cellAt 12 = .ok (.iadd, 1) := oc_96 (by decide +kernel)
theorem dX12_cellAt_13 : decode cX12_cellAt 13 = .ok (.iaload, 1) := oc_46 (by decide +kernel)
theorem dX12_cellAt_14 : decode cX12_cellAt 14 = .ok (.ireturn, 1) := oc_172 (by decide +kernel)
theorem dX12_well_0 : decode cX12_well 0 = .ok (.aload_n 0, 1) := oc_42 (by decide +kernel)
theorem dX12_well_1 : decode cX12_well 1 = .ok (.iload_n 1, 1) := oc_27 (by decide +kernel)
theorem dX12_well_2 : decode cX12_well 2 = .ok (.invokevirtual 88, 3) := oc_182 (a := 0) (b := 88) (by decide +kernel)
theorem dX12_well_50 : decode cX12_well 50 = .ok (.iconst 0, 1) := oc_3 (by decide +kernel)
theorem dX12_well_51 : decode cX12_well 51 = .ok (.ireturn, 1) := oc_172 (by decide +kernel)
theorem dX12_well_5 : decode cX12_well 5 = .ok (.ifCond .eq 45, 3) := oc_153 (a := 0) (b := 45) (by decide +kernel)
theorem dX12_well_8 : decode cX12_well 8 = .ok (.iload_n 2, 1) := oc_28 (by decide +kernel)
theorem dX12_well_9 : decode cX12_well 9 = .ok (.iconst 1, 1) := oc_4 (by decide +kernel)
theorem dX12_well_10 : decode cX12_well 10 = .ok (.bipush 20, 2) := oc_16 (a := 20) (by decide +kernel)
theorem dX12_well_12 : decode cX12_well 12 = .ok (.invokestatic 62, 3) := oc_184 (a := 0) (b := 62) (by decide +kernel)
theorem dX12_well_15 : decode cX12_well 15 = .ok (.ifCond .eq 35, 3) := oc_153 (a := 0) (b := 35) (by decide +kernel)
theorem dX12_well_18 : decode cX12_well 18 = .ok (.iload_n 3, 1) := oc_29 (by decide +kernel)
theorem dX12_well_19 : decode cX12_well 19 = .ok (.iconst 0, 1) := oc_3 (by decide +kernel)
theorem dX12_well_20 : decode cX12_well 20 = .ok (.sipush 10000, 3) := oc_17 (a := 39) (b := 16) (by decide +kernel)
theorem dX12_well_23 : decode cX12_well 23 = .ok (.invokestatic 62, 3) := oc_184 (a := 0) (b := 62) (by decide +kernel)
theorem dX12_well_26 : decode cX12_well 26 = .ok (.ifCond .eq 24, 3) := oc_153 (a := 0) (b := 24) (by decide +kernel)
theorem dX12_well_29 : decode cX12_well 29 = .ok (.iload 4, 2) := oc_21 (by decide +kernel)
theorem dX12_well_31 : decode cX12_well 31 = .ok (.iconst 0, 1) := oc_3 (by decide +kernel)
theorem dX12_well_32 : decode cX12_well 32 = .ok (.bipush 100, 2) := oc_16 (a := 100) (by decide +kernel)
theorem dX12_well_34 : decode cX12_well 34 = .ok (.invokestatic 62, 3) := oc_184 (a := 0) (b := 62) (by decide +kernel)
theorem dX12_well_37 : decode cX12_well 37 = .ok (.ifCond .eq 13, 3) := oc_153 (a := 0) (b := 13) (by decide +kernel)
theorem dX12_well_40 : decode cX12_well 40 = .ok (.aload_n 0, 1) := oc_42 (by decide +kernel)
theorem dX12_well_41 : decode cX12_well 41 = .ok (.iload_n 1, 1) := oc_27 (by decide +kernel)
theorem dX12_well_42 : decode cX12_well 42 = .ok (.bipush 8, 2) := oc_16 (a := 8) (by decide +kernel)
theorem tw_361 : Cond.methodLink RX12 91 yX12_cellAt ∈ wsL_law := sg_16 _ (List.mem_of_getElem? (i := 1) rfl)
theorem tw_362 : Cond.instanceMethod yX12_cellAt ∈ wsL_law := sg_16 _ (List.mem_of_getElem? (i := 2) rfl)
theorem tw_363 : Cond.selects RX12 yX12_cellAt yX12_cellAt ∈ wsL_law := sg_16 _ (List.mem_of_getElem? (i := 3) rfl)
theorem tw_364 : Cond.code yX12_cellAt cX12_cellAt 3 (some .int) ∈ wsL_law := sg_16 _ (List.mem_of_getElem? (i := 4) rfl)
theorem dX12_well_44 : decode cX12_well 44 = .ok (.invokevirtual 91, 3) := oc_182 (a := 0) (b := 91) (by decide +kernel)
theorem dX12_well_47 : decode cX12_well 47 = .ok (.ifCond .le 5, 3) := oc_158 (a := 0) (b := 5) (by decide +kernel)
theorem dX12_well_52 : decode cX12_well 52 = .ok (.bipush 100, 2) := oc_16 (a := 100) (by decide +kernel)
theorem dX12_well_54 : decode cX12_well 54 = .ok (.bipush 16, 2) := oc_16 (a := 16) (by decide +kernel)
theorem dX12_well_56 : decode cX12_well 56 = .ok (.iload_n 1, 1) := oc_27 (by decide +kernel)
theorem dX12_well_57 : decode cX12_well 57 = .ok (.imul, 1) := oc_104 (by decide +kernel)
theorem dX12_well_58 : decode cX12_well 58 = .ok (.iadd, 1) := oc_96 (by decide +kernel)
theorem dX12_well_59 : decode cX12_well 59 = .ok (.istore 5, 2) := oc_54 (by decide +kernel)
theorem dX12_well_61 : decode cX12_well 61 = .ok (.aload_n 0, 1) := oc_42 (by decide +kernel)
theorem dX12_well_62 : decode cX12_well 62 = .ok (.getfield 7, 3) := oc_180 (a := 0) (b := 7) (by decide +kernel)
theorem dX12_well_65 : decode cX12_well 65 = .ok (.iload 5, 2) := oc_21 (by decide +kernel)
theorem dX12_well_67 : decode cX12_well 67 = .ok (.bipush 8, 2) := oc_16 (a := 8) (by decide +kernel)
theorem dX12_well_69 : decode cX12_well 69 = .ok (.iadd, 1) := oc_96 (by decide +kernel)
theorem dX12_well_70 : decode cX12_well 70 = .ok (.iload_n 2, 1) := oc_28 (by decide +kernel)
theorem dX12_well_71 : decode cX12_well 71 = .ok (.iastore, 1) := oc_79 (by decide +kernel)
theorem dX12_well_72 : decode cX12_well 72 = .ok (.aload_n 0, 1) := oc_42 (by decide +kernel)
theorem dX12_well_73 : decode cX12_well 73 = .ok (.getfield 7, 3) := oc_180 (a := 0) (b := 7) (by decide +kernel)
theorem dX12_well_76 : decode cX12_well 76 = .ok (.iload 5, 2) := oc_21 (by decide +kernel)
theorem dX12_well_78 : decode cX12_well 78 = .ok (.bipush 9, 2) := oc_16 (a := 9) (by decide +kernel)
theorem dX12_well_80 : decode cX12_well 80 = .ok (.iadd, 1) := oc_96 (by decide +kernel)
theorem dX12_well_81 : decode cX12_well 81 = .ok (.iload_n 3, 1) := oc_29 (by decide +kernel)
theorem dX12_well_82 : decode cX12_well 82 = .ok (.iastore, 1) := oc_79 (by decide +kernel)
theorem dX12_well_83 : decode cX12_well 83 = .ok (.aload_n 0, 1) := oc_42 (by decide +kernel)
theorem dX12_well_84 : decode cX12_well 84 = .ok (.getfield 7, 3) := oc_180 (a := 0) (b := 7) (by decide +kernel)
theorem dX12_well_87 : decode cX12_well 87 = .ok (.iload 5, 2) := oc_21 (by decide +kernel)
theorem dX12_well_89 : decode cX12_well 89 = .ok (.bipush 10, 2) := oc_16 (a := 10) (by decide +kernel)
theorem dX12_well_91 : decode cX12_well 91 = .ok (.iadd, 1) := oc_96 (by decide +kernel)
theorem dX12_well_92 : decode cX12_well 92 = .ok (.iload 4, 2) := oc_21 (by decide +kernel)
theorem dX12_well_94 : decode cX12_well 94 = .ok (.iastore, 1) := oc_79 (by decide +kernel)
theorem dX12_well_95 : decode cX12_well 95 = .ok (.iconst 1, 1) := oc_4 (by decide +kernel)
theorem dX12_well_96 : decode cX12_well 96 = .ok (.ireturn, 1) := oc_172 (by decide +kernel)
theorem dX12_beds_0 : decode cX12_beds 0 = .ok (.aload_n 0, 1) := oc_42 (by decide +kernel)
theorem dX12_beds_1 : decode cX12_beds 1 = .ok (.iload_n 1, 1) := oc_27 (by decide +kernel)
theorem dX12_beds_2 : decode cX12_beds 2 = .ok (.invokevirtual 88, 3) := oc_182 (a := 0) (b := 88) (by decide +kernel)
theorem dX12_beds_26 : decode cX12_beds 26 = .ok (.iconst (-1), 1) := oc_2 (by decide +kernel)
theorem dX12_beds_27 : decode cX12_beds 27 = .ok (.ireturn, 1) := oc_172 (by decide +kernel)
theorem dX12_beds_5 : decode cX12_beds 5 = .ok (.ifCond .eq 21, 3) := oc_153 (a := 0) (b := 21) (by decide +kernel)
theorem dX12_beds_8 : decode cX12_beds 8 = .ok (.iload_n 2, 1) := oc_28 (by decide +kernel)
theorem dX12_beds_9 : decode cX12_beds 9 = .ok (.iconst 0, 1) := oc_3 (by decide +kernel)
theorem dX12_beds_10 : decode cX12_beds 10 = .ok (.bipush 20, 2) := oc_16 (a := 20) (by decide +kernel)
theorem dX12_beds_12 : decode cX12_beds 12 = .ok (.aload_n 0, 1) := oc_42 (by decide +kernel)
theorem dX12_beds_13 : decode cX12_beds 13 = .ok (.iload_n 1, 1) := oc_27 (by decide +kernel)
theorem dX12_beds_14 : decode cX12_beds 14 = .ok (.bipush 7, 2) := oc_16 (a := 7) (by decide +kernel)
theorem dX12_beds_16 : decode cX12_beds 16 = .ok (.invokevirtual 91, 3) := oc_182 (a := 0) (b := 91) (by decide +kernel)
theorem dX12_beds_19 : decode cX12_beds 19 = .ok (.isub, 1) := oc_100 (by decide +kernel)
theorem dX12_beds_20 : decode cX12_beds 20 = .ok (.invokestatic 62, 3) := oc_184 (a := 0) (b := 62) (by decide +kernel)
theorem dX12_beds_23 : decode cX12_beds 23 = .ok (.ifCond .ne 5, 3) := oc_154 (a := 0) (b := 5) (by decide +kernel)
theorem dX12_beds_28 : decode cX12_beds 28 = .ok (.aload_n 0, 1) := oc_42 (by decide +kernel)
theorem dX12_beds_29 : decode cX12_beds 29 = .ok (.getfield 7, 3) := oc_180 (a := 0) (b := 7) (by decide +kernel)
theorem dX12_beds_32 : decode cX12_beds 32 = .ok (.bipush 100, 2) := oc_16 (a := 100) (by decide +kernel)
theorem dX12_beds_34 : decode cX12_beds 34 = .ok (.bipush 16, 2) := oc_16 (a := 16) (by decide +kernel)
theorem dX12_beds_36 : decode cX12_beds 36 = .ok (.iload_n 1, 1) := oc_27 (by decide +kernel)
theorem dX12_beds_37 : decode cX12_beds 37 = .ok (.imul, 1) := oc_104 (by decide +kernel)
theorem dX12_beds_38 : decode cX12_beds 38 = .ok (.iadd, 1) := oc_96 (by decide +kernel)
theorem dX12_beds_39 : decode cX12_beds 39 = .ok (.bipush 7, 2) := oc_16 (a := 7) (by decide +kernel)
theorem dX12_beds_41 : decode cX12_beds 41 = .ok (.iadd, 1) := oc_96 (by decide +kernel)
theorem dX12_beds_42 : decode cX12_beds 42 = .ok (.dup2, 1) := oc_92 (by decide +kernel)
theorem dX12_beds_43 : decode cX12_beds 43 = .ok (.iaload, 1) := oc_46 (by decide +kernel)
theorem dX12_beds_44 : decode cX12_beds 44 = .ok (.iload_n 2, 1) := oc_28 (by decide +kernel)
theorem dX12_beds_45 : decode cX12_beds 45 = .ok (.iadd, 1) := oc_96 (by decide +kernel)
theorem dX12_beds_46 : decode cX12_beds 46 = .ok (.iastore, 1) := oc_79 (by decide +kernel)
theorem dX12_beds_47 : decode cX12_beds 47 = .ok (.aload_n 0, 1) := oc_42 (by decide +kernel)
theorem dX12_beds_48 : decode cX12_beds 48 = .ok (.iload_n 1, 1) := oc_27 (by decide +kernel)
theorem dX12_beds_49 : decode cX12_beds 49 = .ok (.bipush 7, 2) := oc_16 (a := 7) (by decide +kernel)
theorem dX12_beds_51 : decode cX12_beds 51 = .ok (.invokevirtual 91, 3) := oc_182 (a := 0) (b := 91) (by decide +kernel)
theorem dX12_beds_54 : decode cX12_beds 54 = .ok (.ireturn, 1) := oc_172 (by decide +kernel)
theorem dX12_lot_0 : decode cX12_lot 0 = .ok (.iload_n 1, 1) := oc_27 (by decide +kernel)
theorem dX12_lot_1 : decode cX12_lot 1 = .ok (.iconst 0, 1) := oc_3 (by decide +kernel)
theorem dX12_lot_2 : decode cX12_lot 2 = .ok (.bipush 60, 2) := oc_16 (a := 60) (by decide +kernel)
theorem dX12_lot_4 : decode cX12_lot 4 = .ok (.invokestatic 62, 3) := oc_184 (a := 0) (b := 62) (by decide +kernel)
theorem dX12_lot_20 : decode cX12_lot 20 = .ok (.iconst (-1), 1) := oc_2 (by decide +kernel)
theorem dX12_lot_21 : decode cX12_lot 21 = .ok (.ireturn, 1) := oc_172 (by decide +kernel)
theorem dX12_lot_7 : decode cX12_lot 7 = .ok (.ifCond .eq 13, 3) := oc_153 (a := 0) (b := 13) (by decide +kernel)
theorem dX12_lot_10 : decode cX12_lot 10 = .ok (.aload_n 0, 1) := oc_42 (by decide +kernel)
theorem dX12_lot_11 : decode cX12_lot 11 = .ok (.getfield 7, 3) := oc_180 (a := 0) (b := 7) (by decide +kernel)
theorem dX12_lot_14 : decode cX12_lot 14 = .ok (.iconst 4, 1) := oc_7 (by decide +kernel)
theorem dX12_lot_15 : decode cX12_lot 15 = .ok (.iaload, 1) := oc_46 (by decide +kernel)
theorem dX12_lot_16 : decode cX12_lot 16 = .ok (.iconst 5, 1) := oc_8 (by decide +kernel)
theorem dX12_lot_17 : decode cX12_lot 17 = .ok (.if_icmp .ne 5, 3) := oc_160 (a := 0) (b := 5) (by decide +kernel)
theorem dX12_lot_22 : decode cX12_lot 22 = .ok (.aload_n 0, 1) := oc_42 (by decide +kernel)
theorem dX12_lot_23 : decode cX12_lot 23 = .ok (.getfield 7, 3) := oc_180 (a := 0) (b := 7) (by decide +kernel)
theorem dX12_lot_26 : decode cX12_lot 26 = .ok (.bipush 80, 2) := oc_16 (a := 80) (by decide +kernel)
theorem dX12_lot_28 : decode cX12_lot 28 = .ok (.aload_n 0, 1) := oc_42 (by decide +kernel)
theorem dX12_lot_29 : decode cX12_lot 29 = .ok (.getfield 7, 3) := oc_180 (a := 0) (b := 7) (by decide +kernel)
theorem dX12_lot_32 : decode cX12_lot 32 = .ok (.iconst 4, 1) := oc_7 (by decide +kernel)
theorem dX12_lot_33 : decode cX12_lot 33 = .ok (.iaload, 1) := oc_46 (by decide +kernel)
theorem dX12_lot_34 : decode cX12_lot 34 = .ok (.iadd, 1) := oc_96 (by decide +kernel)
theorem dX12_lot_35 : decode cX12_lot 35 = .ok (.iload_n 1, 1) := oc_27 (by decide +kernel)
theorem dX12_lot_36 : decode cX12_lot 36 = .ok (.iastore, 1) := oc_79 (by decide +kernel)
theorem dX12_lot_37 : decode cX12_lot 37 = .ok (.aload_n 0, 1) := oc_42 (by decide +kernel)
theorem dX12_lot_38 : decode cX12_lot 38 = .ok (.getfield 7, 3) := oc_180 (a := 0) (b := 7) (by decide +kernel)
theorem dX12_lot_41 : decode cX12_lot 41 = .ok (.iconst 4, 1) := oc_7 (by decide +kernel)
theorem dX12_lot_42 : decode cX12_lot 42 = .ok (.dup2, 1) := oc_92 (by decide +kernel)
theorem dX12_lot_43 : decode cX12_lot 43 = .ok (.iaload, 1) := oc_46 (by decide +kernel)
theorem dX12_lot_44 : decode cX12_lot 44 = .ok (.iconst 1, 1) := oc_4 (by decide +kernel)
theorem dX12_lot_45 : decode cX12_lot 45 = .ok (.iadd, 1) := oc_96 (by decide +kernel)
theorem dX12_lot_46 : decode cX12_lot 46 = .ok (.iastore, 1) := oc_79 (by decide +kernel)
theorem dX12_lot_47 : decode cX12_lot 47 = .ok (.aload_n 0, 1) := oc_42 (by decide +kernel)
theorem dX12_lot_48 : decode cX12_lot 48 = .ok (.getfield 7, 3) := oc_180 (a := 0) (b := 7) (by decide +kernel)
theorem dX12_lot_51 : decode cX12_lot 51 = .ok (.iconst 4, 1) := oc_7 (by decide +kernel)
theorem dX12_lot_52 : decode cX12_lot 52 = .ok (.iaload, 1) := oc_46 (by decide +kernel)
theorem dX12_lot_53 : decode cX12_lot 53 = .ok (.iconst 1, 1) := oc_4 (by decide +kernel)
theorem dX12_lot_54 : decode cX12_lot 54 = .ok (.isub, 1) := oc_100 (by decide +kernel)
theorem dX12_lot_55 : decode cX12_lot 55 = .ok (.ireturn, 1) := oc_172 (by decide +kernel)
theorem dX12_person_0 : decode cX12_person 0 = .ok (.iload_n 1, 1) := oc_27 (by decide +kernel)
theorem dX12_person_1 : decode cX12_person 1 = .ok (.iconst 0, 1) := oc_3 (by decide +kernel)
theorem dX12_person_2 : decode cX12_person 2 = .ok (.bipush 9, 2) := oc_16 (a := 9) (by decide +kernel)
theorem dX12_person_4 : decode cX12_person 4 = .ok (.invokestatic 62, 3) := oc_184 (a := 0) (b := 62) (by decide +kernel)
theorem dX12_person_61 : decode cX12_person 61 = .ok (.iconst (-1), 1) := oc_2 (by decide +kernel)
theorem dX12_person_62 : decode cX12_person 62 = .ok (.ireturn, 1) := oc_172 (by decide +kernel)
theorem dX12_person_7 : decode cX12_person 7 = .ok (.ifCond .eq 54, 3) := oc_153 (a := 0) (b := 54) (by decide +kernel)
theorem dX12_person_10 : decode cX12_person 10 = .ok (.iload_n 2, 1) := oc_28 (by decide +kernel)
theorem dX12_person_11 : decode cX12_person 11 = .ok (.iconst 0, 1) := oc_3 (by decide +kernel)
theorem dX12_person_12 : decode cX12_person 12 = .ok (.bipush 99, 2) := oc_16 (a := 99) (by decide +kernel)
theorem dX12_person_14 : decode cX12_person 14 = .ok (.invokestatic 62, 3) := oc_184 (a := 0) (b := 62) (by decide +kernel)
theorem dX12_person_17 : decode cX12_person 17 = .ok (.ifCond .eq 44, 3) := oc_153 (a := 0) (b := 44) (by decide +kernel)
theorem dX12_person_20 : decode cX12_person 20 = .ok (.iload_n 3, 1) := oc_29 (by decide +kernel)
theorem dX12_person_21 : decode cX12_person 21 = .ok (.iconst 0, 1) := oc_3 (by decide +kernel)
theorem dX12_person_22 : decode cX12_person 22 = .ok (.bipush 7, 2) := oc_16 (a := 7) (by decide +kernel)
theorem dX12_person_24 : decode cX12_person 24 = .ok (.invokestatic 62, 3) := oc_184 (a := 0) (b := 62) (by decide +kernel)
theorem dX12_person_27 : decode cX12_person 27 = .ok (.ifCond .eq 34, 3) := oc_153 (a := 0) (b := 34) (by decide +kernel)
theorem dX12_person_30 : decode cX12_person 30 = .ok (.aload_n 0, 1) := oc_42 (by decide +kernel)
theorem dX12_person_31 : decode cX12_person 31 = .ok (.iload 4, 2) := oc_21 (by decide +kernel)
theorem dX12_person_33 : decode cX12_person 33 = .ok (.invokevirtual 66, 3) := oc_182 (a := 0) (b := 66) (by decide +kernel)
theorem dX12_person_36 : decode cX12_person 36 = .ok (.ifCond .eq 25, 3) := oc_153 (a := 0) (b := 25) (by decide +kernel)
theorem dX12_person_39 : decode cX12_person 39 = .ok (.iload 5, 2) := oc_21 (by decide +kernel)
theorem dX12_person_41 : decode cX12_person 41 = .ok (.iconst 0, 1) := oc_3 (by decide +kernel)
theorem dX12_person_42 : decode cX12_person 42 = .ok (.bipush 100, 2) := oc_16 (a := 100) (by decide +kernel)
theorem dX12_person_44 : decode cX12_person 44 = .ok (.invokestatic 62, 3) := oc_184 (a := 0) (b := 62) (by decide +kernel)
theorem dX12_person_47 : decode cX12_person 47 = .ok (.ifCond .eq 14, 3) := oc_153 (a := 0) (b := 14) (by decide +kernel)
theorem dX12_person_50 : decode cX12_person 50 = .ok (.aload_n 0, 1) := oc_42 (by decide +kernel)
theorem dX12_person_51 : decode cX12_person 51 = .ok (.getfield 7, 3) := oc_180 (a := 0) (b := 7) (by decide +kernel)
theorem dX12_person_54 : decode cX12_person 54 = .ok (.iconst 5, 1) := oc_8 (by decide +kernel)
theorem dX12_person_55 : decode cX12_person 55 = .ok (.iaload, 1) := oc_46 (by decide +kernel)
theorem dX12_person_56 : decode cX12_person 56 = .ok (.bipush 40, 2) := oc_16 (a := 40) (by decide +kernel)
theorem dX12_person_58 : decode cX12_person 58 = .ok (.if_icmp .ne 5, 3) := oc_160 (a := 0) (b := 5) (by decide +kernel)
theorem dX12_person_63 : decode cX12_person 63 = .ok (.sipush 740, 3) := oc_17 (a := 2) (b := 228) (by decide +kernel)
theorem dX12_person_66 : decode cX12_person 66 = .ok (.bipush 12, 2) := oc_16 (a := 12) (by decide +kernel)
theorem dX12_person_68 : decode cX12_person 68 = .ok (.aload_n 0, 1) := oc_42 (by decide +kernel)
theorem dX12_person_69 : decode cX12_person 69 = .ok (.getfield 7, 3) := oc_180 (a := 0) (b := 7) (by decide +kernel)
theorem dX12_person_72 : decode cX12_person 72 = .ok (.iconst 5, 1) := oc_8 (by decide +kernel)
theorem dX12_person_73 : decode cX12_person 73 = .ok (.iaload, 1) := oc_46 (by decide +kernel)
theorem dX12_person_74 : decode cX12_person 74 = .ok (.imul, 1) := oc_104 (by decide +kernel)
theorem dX12_person_75 : decode cX12_person 75 = .ok (.iadd, 1) := oc_96 (by decide +kernel)
theorem dX12_person_76 : decode cX12_person 76 = .ok (.istore 6, 2) := oc_54 (by decide +kernel)
theorem dX12_person_78 : decode cX12_person 78 = .ok (.aload_n 0, 1) := oc_42 (by decide +kernel)
theorem dX12_person_79 : decode cX12_person 79 = .ok (.getfield 7, 3) := oc_180 (a := 0) (b := 7) (by decide +kernel)
theorem dX12_person_82 : decode cX12_person 82 = .ok (.iload 6, 2) := oc_21 (by decide +kernel)
theorem dX12_person_84 : decode cX12_person 84 = .ok (.iconst 0, 1) := oc_3 (by decide +kernel)
theorem dX12_person_85 : decode cX12_person 85 = .ok (.iadd, 1) := oc_96 (by decide +kernel)
theorem dX12_person_86 : decode cX12_person 86 = .ok (.iload_n 1, 1) := oc_27 (by decide +kernel)
theorem dX12_person_87 : decode cX12_person 87 = .ok (.iastore, 1) := oc_79 (by decide +kernel)
theorem dX12_person_88 : decode cX12_person 88 = .ok (.aload_n 0, 1) := oc_42 (by decide +kernel)
theorem dX12_person_89 : decode cX12_person 89 = .ok (.getfield 7, 3) := oc_180 (a := 0) (b := 7) (by decide +kernel)
theorem dX12_person_92 : decode cX12_person 92 = .ok (.iload 6, 2) := oc_21 (by decide +kernel)
theorem dX12_person_94 : decode cX12_person 94 = .ok (.iconst 1, 1) := oc_4 (by decide +kernel)
theorem dX12_person_95 : decode cX12_person 95 = .ok (.iadd, 1) := oc_96 (by decide +kernel)
theorem dX12_person_96 : decode cX12_person 96 = .ok (.iload_n 2, 1) := oc_28 (by decide +kernel)
theorem dX12_person_97 : decode cX12_person 97 = .ok (.iastore, 1) := oc_79 (by decide +kernel)
theorem dX12_person_98 : decode cX12_person 98 = .ok (.aload_n 0, 1) := oc_42 (by decide +kernel)
theorem dX12_person_99 : decode cX12_person 99 = .ok (.getfield 7, 3) := oc_180 (a := 0) (b := 7) (by decide +kernel)
theorem dX12_person_102 : decode cX12_person 102 = .ok (.iload 6, 2) := oc_21 (by decide +kernel)
theorem dX12_person_104 : decode cX12_person 104 = .ok (.iconst 2, 1) := oc_5 (by decide +kernel)
theorem dX12_person_105 : decode cX12_person 105 = .ok (.iadd, 1) := oc_96 (by decide +kernel)
theorem dX12_person_106 : decode cX12_person 106 = .ok (.iload_n 3, 1) := oc_29 (by decide +kernel)
theorem dX12_person_107 : decode cX12_person 107 = .ok (.iastore, 1) := oc_79 (by decide +kernel)
theorem dX12_person_108 : decode cX12_person 108 = .ok (.aload_n 0, 1) := oc_42 (by decide +kernel)
theorem dX12_person_109 : decode cX12_person 109 = .ok (.getfield 7, 3) := oc_180 (a := 0) (b := 7) (by decide +kernel)
theorem dX12_person_112 : decode cX12_person 112 = .ok (.iload 6, 2) := oc_21 (by decide +kernel)
theorem dX12_person_114 : decode cX12_person 114 = .ok (.iconst 3, 1) := oc_6 (by decide +kernel)
theorem dX12_person_115 : decode cX12_person 115 = .ok (.iadd, 1) := oc_96 (by decide +kernel)
theorem dX12_person_116 : decode cX12_person 116 = .ok (.iload 4, 2) := oc_21 (by decide +kernel)
theorem dX12_person_118 : decode cX12_person 118 = .ok (.iastore, 1) := oc_79 (by decide +kernel)
theorem dX12_person_119 : decode cX12_person 119 = .ok (.aload_n 0, 1) := oc_42 (by decide +kernel)
theorem dX12_person_120 : decode cX12_person 120 = .ok (.getfield 7, 3) := oc_180 (a := 0) (b := 7) (by decide +kernel)
theorem dX12_person_123 : decode cX12_person 123 = .ok (.iload 6, 2) := oc_21 (by decide +kernel)
theorem dX12_person_125 : decode cX12_person 125 = .ok (.iconst 4, 1) := oc_7 (by decide +kernel)
theorem dX12_person_126 : decode cX12_person 126 = .ok (.iadd, 1) := oc_96 (by decide +kernel)
theorem dX12_person_127 : decode cX12_person 127 = .ok (.iload 5, 2) := oc_21 (by decide +kernel)
theorem dX12_person_129 : decode cX12_person 129 = .ok (.iastore, 1) := oc_79 (by decide +kernel)
theorem dX12_person_130 : decode cX12_person 130 = .ok (.aload_n 0, 1) := oc_42 (by decide +kernel)
theorem dX12_person_131 : decode cX12_person 131 = .ok (.getfield 7, 3) := oc_180 (a := 0) (b := 7) (by decide +kernel)
theorem dX12_person_134 : decode cX12_person 134 = .ok (.iload 6, 2) := oc_21 (by decide +kernel)
theorem dX12_person_136 : decode cX12_person 136 = .ok (.bipush 7, 2) := oc_16 (a := 7) (by decide +kernel)
theorem dX12_person_138 : decode cX12_person 138 = .ok (.iadd, 1) := oc_96 (by decide +kernel)
theorem dX12_person_139 : decode cX12_person 139 = .ok (.iconst (-1), 1) := oc_2 (by decide +kernel)
theorem dX12_person_140 : decode cX12_person 140 = .ok (.iastore, 1) := oc_79 (by decide +kernel)
theorem dX12_person_141 : decode cX12_person 141 = .ok (.aload_n 0, 1) := oc_42 (by decide +kernel)
theorem dX12_person_142 : decode cX12_person 142 = .ok (.getfield 7, 3) := oc_180 (a := 0) (b := 7) (by decide +kernel)
theorem dX12_person_145 : decode cX12_person 145 = .ok (.iload 6, 2) := oc_21 (by decide +kernel)
theorem dX12_person_147 : decode cX12_person 147 = .ok (.bipush 8, 2) := oc_16 (a := 8) (by decide +kernel)
theorem dX12_person_149 : decode cX12_person 149 = .ok (.iadd, 1) := oc_96 (by decide +kernel)
theorem dX12_person_150 : decode cX12_person 150 = .ok (.iconst (-1), 1) := oc_2 (by decide +kernel)
theorem dX12_person_151 : decode cX12_person 151 = .ok (.iastore, 1) := oc_79 (by decide +kernel)
theorem dX12_person_152 : decode cX12_person 152 = .ok (.aload_n 0, 1) := oc_42 (by decide +kernel)
theorem dX12_person_153 : decode cX12_person 153 = .ok (.getfield 7, 3) := oc_180 (a := 0) (b := 7) (by decide +kernel)
theorem dX12_person_156 : decode cX12_person 156 = .ok (.iconst 5, 1) := oc_8 (by decide +kernel)
theorem dX12_person_157 : decode cX12_person 157 = .ok (.dup2, 1) := oc_92 (by decide +kernel)
theorem dX12_person_158 : decode cX12_person 158 = .ok (.iaload, 1) := oc_46 (by decide +kernel)
theorem dX12_person_159 : decode cX12_person 159 = .ok (.iconst 1, 1) := oc_4 (by decide +kernel)
theorem dX12_person_160 : decode cX12_person 160 = .ok (.iadd, 1) := oc_96 (by decide +kernel)
theorem dX12_person_161 : decode cX12_person 161 = .ok (.iastore, 1) := oc_79 (by decide +kernel)
theorem dX12_person_162 : decode cX12_person 162 = .ok (.aload_n 0, 1) := oc_42 (by decide +kernel)
theorem dX12_person_163 : decode cX12_person 163 = .ok (.getfield 7, 3) := oc_180 (a := 0) (b := 7) (by decide +kernel)
theorem dX12_person_166 : decode cX12_person 166 = .ok (.iconst 5, 1) := oc_8 (by decide +kernel)
theorem dX12_person_167 : decode cX12_person 167 = .ok (.iaload, 1) := oc_46 (by decide +kernel)
theorem dX12_person_168 : decode cX12_person 168 = .ok (.iconst 1, 1) := oc_4 (by decide +kernel)
theorem dX12_person_169 : decode cX12_person 169 = .ok (.isub, 1) := oc_100 (by decide +kernel)
theorem dX12_person_170 : decode cX12_person 170 = .ok (.ireturn, 1) := oc_172 (by decide +kernel)
set_option maxRecDepth 100000 in
def g_X12_rules_K51 (I : Nat → Int32) (J : Nat → Int64) (ri : Nat → Nat → Int32) (rj : Nat → Nat → Int64) (rq : Nat → Nat → Option Nat) : Int32 × vM := ((0 : Int32), I, J, ri, rj, rq)
set_option maxRecDepth 100000 in
theorem g_X12_rules_K51_e {I : Nat → Int32} {J : Nat → Int64} {ri : Nat → Nat → Int32} {rj : Nat → Nat → Int64} {rq : Nat → Nat → Option Nat} : g_X12_rules_K51 I J ri rj rq  = ((0 : Int32), I, J, ri, rj, rq) := rfl
set_option maxRecDepth 100000 in
def g_X12_rules (a0 : Int32) (a1 : Int32) (a2 : Int32) (a3 : Int32) (a4 : Int32) (I : Nat → Int32) (J : Nat → Int64) (ri : Nat → Nat → Int32) (rj : Nat → Nat → Int64) (rq : Nat → Nat → Option Nat) : Int32 × vM := (ap1 (g_X12_isIn a0 (0 : Int32) (40 : Int32)) fun (x_1 : Int32) => (if x_1 = (0 : Int32) then (g_X12_rules_K51 I J ri rj rq ) else (ap1 (g_X12_isIn a1 (0 : Int32) (5 : Int32)) fun (x_131 : Int32) => (if x_131 = (0 : Int32) then (g_X12_rules_K51 I J ri rj rq ) else (ap1 (g_X12_isIn a2 (0 : Int32) (50 : Int32)) fun (x_162 : Int32) => (if x_162 = (0 : Int32) then (g_X12_rules_K51 I J ri rj rq ) else (ap1 (g_X12_isIn a3 (1 : Int32) (20 : Int32)) fun (x_193 : Int32) => (if x_193 = (0 : Int32) then (g_X12_rules_K51 I J ri rj rq ) else (ap1 (g_X12_isIn a4 (0 : Int32) (100 : Int32)) fun (x_224 : Int32) => (if x_224 = (0 : Int32) then (g_X12_rules_K51 I J ri rj rq ) else (ap1 (va_up ri 384 (upd (ri 384) ((13 : Int32)).toNatClampNeg a0)) fun (r_253 : Nat → Nat → Int32) => (ap1 (va_up r_253 384 (upd (r_253 384) ((14 : Int32)).toNatClampNeg a1)) fun (r_254 : Nat → Nat → Int32) => (ap1 (va_up r_254 384 (upd (r_254 384) ((15 : Int32)).toNatClampNeg a2)) fun (r_255 : Nat → Nat → Int32) => (ap1 (va_up r_255 384 (upd (r_255 384) ((16 : Int32)).toNatClampNeg a3)) fun (r_256 : Nat → Nat → Int32) => (ap1 (va_up r_256 384 (upd (r_256 384) ((17 : Int32)).toNatClampNeg a4)) fun (r_257 : Nat → Nat → Int32) => ((1 : Int32), I, J, r_257, rj, rq))))))))))))))))
set_option maxRecDepth 100000 in
theorem g_X12_rules_e {a0 : Int32} {a1 : Int32} {a2 : Int32} {a3 : Int32} {a4 : Int32} {I : Nat → Int32} {J : Nat → Int64} {ri : Nat → Nat → Int32} {rj : Nat → Nat → Int64} {rq : Nat → Nat → Option Nat} : g_X12_rules a0 a1 a2 a3 a4 I J ri rj rq = (ap1 (g_X12_isIn a0 (0 : Int32) (40 : Int32)) fun (x_1 : Int32) => (if x_1 = (0 : Int32) then (g_X12_rules_K51 I J ri rj rq ) else (ap1 (g_X12_isIn a1 (0 : Int32) (5 : Int32)) fun (x_131 : Int32) => (if x_131 = (0 : Int32) then (g_X12_rules_K51 I J ri rj rq ) else (ap1 (g_X12_isIn a2 (0 : Int32) (50 : Int32)) fun (x_162 : Int32) => (if x_162 = (0 : Int32) then (g_X12_rules_K51 I J ri rj rq ) else (ap1 (g_X12_isIn a3 (1 : Int32) (20 : Int32)) fun (x_193 : Int32) => (if x_193 = (0 : Int32) then (g_X12_rules_K51 I J ri rj rq ) else (ap1 (g_X12_isIn a4 (0 : Int32) (100 : Int32)) fun (x_224 : Int32) => (if x_224 = (0 : Int32) then (g_X12_rules_K51 I J ri rj rq ) else (ap1 (va_up ri 384 (upd (ri 384) ((13 : Int32)).toNatClampNeg a0)) fun (r_253 : Nat → Nat → Int32) => (ap1 (va_up r_253 384 (upd (r_253 384) ((14 : Int32)).toNatClampNeg a1)) fun (r_254 : Nat → Nat → Int32) => (ap1 (va_up r_254 384 (upd (r_254 384) ((15 : Int32)).toNatClampNeg a2)) fun (r_255 : Nat → Nat → Int32) => (ap1 (va_up r_255 384 (upd (r_255 384) ((16 : Int32)).toNatClampNeg a3)) fun (r_256 : Nat → Nat → Int32) => (ap1 (va_up r_256 384 (upd (r_256 384) ((17 : Int32)).toNatClampNeg a4)) fun (r_257 : Nat → Nat → Int32) => ((1 : Int32), I, J, r_257, rj, rq)))))))))))))))) := rfl
set_option maxHeartbeats 4000000 in
set_option maxRecDepth 100000 in
theorem s_X12_rules (l : Launch) (D : va_G) (t : pq_T) (σ : pq_S) (I : Nat → Nat → Int32) (J : Nat → Nat → Int64) (ri : Nat → Nat → Int32) (rj : Nat → Nat → Int64) (rq : Nat → Nat → Option Nat) (sz : Nat) (tg : Nat → Nat) (hSH : SH σ tg) (hG0 : GT tg I ri) (this : Nat) (a0 : Int32) (a1 : Int32) (a2 : Int32) (a3 : Int32) (a4 : Int32) (hL_this : this ∈ σ.1) (hK_this : σ.2.1 this = 12) : MetI l yX12_rules (wa yX12_rules cX12_rules 6 (some .boolean)) ({ frames := 1, cells := 0, slots := 0, locals := 22 }) [.ref this, .int a0, .int a1, .int a2, .int a3, .int a4] D t σ (I, J, ri, rj, rq) sz 0 0 (fun (r : Int32) (u : pq_S × pq_M) => ∃ ri' : Nat → Nat → Int32, u = (σ, I, J, ri', rj, rq) ∧ GM [1013, 1014, 1015] tg σ I ri I ri' rq ∧ g_X12_rules a0 a1 a2 a3 a4 (vI 12 σ this I) (vJ 12 σ this J) (vR 12 σ this ri) (vL 12 σ this rj) (vQ 12 σ this rq) = (r, (vI 12 σ this I), (vJ 12 σ this J), (vR 12 σ this ri'), (vL 12 σ this rj), (vQ 12 σ this rq)) ∧ FR 12 tg σ this (I, J, ri, rj, rq) (I, J, ri', rj, rq) ∧ ((r = 1 ∧ rg a0 0 40 ∧ rg a1 0 5 ∧ rg a2 0 50 ∧ rg a3 1 20 ∧ rg a4 0 100) ∨ (r = 0 ∧ True))) := by
  refine Met.ofW (cc := cX12_rules) (maxL := 6) (ret := (some .boolean)) (by decide +kernel) rfl ?_
  intro p e s m args below meth c s₁ B hml hv
  obtain ⟨rfl, hsz, hP, hK, hD0, hN⟩ := hv
  have hx := B.exec
  have hb := B.bytes
  have hr := B.returns
  have hts := atoms_spec (ws := (wa yX12_rules cX12_rules 6 (some .boolean))) B.pre
  have hown : s.vm.findClass RX12 = some m.cls := findClass_of_methodNamed B.named
  have hlocks := B.notSynchronized
  subst hsz
  have hD : va_D (pq_B t σ (I, J, ri, rj, rq) s.heap.size) (pq_P t σ (I, J, ri, rj, rq)) := hD0.self
  generalize hAe : pq_B t σ (I, J, ri, rj, rq) s.heap.size = A at hD ⊢
  have hA : ∀ q : Nat, s.heap.size ≤ q → A q := fun q h => by rw [← hAe]; exact Or.inr h
  have hS : va_S A s.heap s.heap [] := va_S.rf
  have hG : GM [1013, 1014, 1015] tg σ I ri I ri rq := ⟨hG0, fun _ _ _ => rfl, fun _ _ _ _ _ => rfl, fun _ _ _ _ _ _ => rfl⟩
  have hl := lv_entry ([.ref this, .int a0, .int a1, .int a2, .int a3, .int a4]) (n := 6) (Nat.le_of_ble_eq_true rfl)
  rw [lg_entry_eq]
  generalize (lg_sl ([.ref this, .int a0, .int a1, .int a2, .int a3, .int a4]) ++ List.replicate (6 - (lg_sl ([.ref this, .int a0, .int a1, .int a2, .int a3, .int a4])).length) Slot.unset).toArray = ls at hl ⊢
  have hl : lv_has ls 6 [(0, .ref this), (1, .int a0), (2, .int a1), (3, .int a2), (4, .int a3), (5, .int a4)] := hl
  refine q_gen (fun Q hQ => ?_)
  have go : ∀ (H : Heap) (locs : List Loc) (ls : Array Slot), va_P D vwCl (pq_P t σ (I, J, ri, rj, rq)) H → va_D A (pq_P t σ (I, J, ri, rj, rq)) → va_S A s.heap H locs → lv_has ls 6 [(0, .ref this), (1, .int a0), (2, .int a1), (3, .int a2), (4, .int a3), (5, .int a4)] → W p l e ({ frames := 1, cells := 0, slots := 0, locals := 22 } : Room) s m (List.toArray ([.ref this, .int a0, .int a1, .int a2, .int a3, .int a4] : List Value)) below meth c H locs 0 0 Q (F0 m 0 ls []) := by
    intro H locs ls hP hD hS hl
    have hO_this : this = vo σ 12 this := rfl
    have hVT : VT 12 σ tg this := vt_12 hSH hL_this hK_this
    have hFr : FR 12 tg σ this (I, J, ri, rj, rq) (I, J, ri, rj, rq) := fr_rf
    obtain ⟨F, hF0⟩ : ∃ F, F = g_X12_rules a0 a1 a2 a3 a4 (vI 12 σ this I) (vJ 12 σ this J) (vR 12 σ this ri) (vL 12 σ this rj) (vQ 12 σ this rq) := ⟨_, rfl⟩
    have hF := hF0.trans g_X12_rules_e
    refine lv_iload_n hx hb dX12_rules_0 rfl (lv_at hl 1 rfl) ?_
    refine lv_iconst (v := 0) hx hb dX12_rules_1 (by decide +kernel) ?_
    refine lv_bipush (v := 40) hx hb dX12_rules_2 (by decide +kernel) ?_
    refine pk_i (va_runS (As := [.int a0, .int 0, .int 40]) (rest := []) ⟨hx, hb, hml, hown, hts⟩ (s_X12_isIn l D t σ I J ri rj rq H.size tg hSH hG.1 a0 (0 : Int32) (40 : Int32)) (va_cwS 3 hts (tw_S tw_235 tw_236 tw_5 tw_237) rfl rfl rfl cd_yX12_isIn_3 ⟨Nat.le_of_ble_eq_true rfl, Nat.le_of_ble_eq_true rfl⟩) ⟨pq_blind, pq_pre hK hN hP hD⟩ rfl rfl hl.1 rfl (lv_room (Nat.le_of_ble_eq_true rfl)) dX12_rules_4 ⟨Nat.le_of_ble_eq_true rfl, Nat.le_of_ble_eq_true rfl⟩) hD hS hA (fun x_1 σ1 μ1 H locs hw_2 hP hD hS => ?_)
    obtain ⟨hu_3, hfn_6, hr_5⟩ := hw_2
    obtain ⟨hu_3a, hu_3b⟩ := Prod.mk.inj hu_3
    rw [hu_3a, hu_3b] at hP hD
    replace hF := hF.trans (ap_n hfn_6.symm)
    have h_8 : rg x_1 0 1 := by rcases hr_5 with ⟨q, -⟩ | ⟨q, -⟩ <;> rw [q] <;> exact ⟨by decide +kernel, by decide +kernel⟩
    have uh_8 := h_8.1
    have vh_8 := h_8.2
    have K_107 : ∀  (H : Heap) (locs : List Loc) (ls : Array Slot), F = g_X12_rules_K51 (vI 12 σ this I) (vJ 12 σ this J) (vR 12 σ this ri) (vL 12 σ this rj) (vQ 12 σ this rq)  → FR 12 tg σ this (I, J, ri, rj, rq) (I, J, ri, rj, rq) → GM [1013, 1014, 1015] tg σ I ri I ri rq → va_P D vwCl (pq_P t σ (I, J, ri, rj, rq)) H → va_D A (pq_P t σ (I, J, ri, rj, rq)) → va_S A s.heap H locs → lv_has ls 6 [] → W p l e ({ frames := 1, cells := 0, slots := 0, locals := 22 } : Room) s m (List.toArray ([.ref this, .int a0, .int a1, .int a2, .int a3, .int a4] : List Value)) below meth c H locs 0 0 Q (F0 m 51 ls []) := by
      intro H locs ls hF hFr hG hP hD hS hl
      replace hF := hF.trans g_X12_rules_K51_e
      refine lv_iconst (v := 0) hx hb dX12_rules_51 (by decide +kernel) ?_
      subst hQ
      exact W.zret (v := 0) hx hb hr (by decide +kernel) (fun t1 ht hW => ⟨⟨0, (σ, I, J, ri, rj, rq), rfl, ⟨ri, rfl, hG, (hF0.symm.trans hF), hFr, (Or.inr ⟨rfl, trivial⟩)⟩, by rw [ht]; exact hP, va_K.moved hW.alike hK, hD⟩, hS.F ht⟩) hS.2.2 dX12_rules_52
    refine lv_if_eq (tgt := 51) hx hb dX12_rules_7 (by decide +kernel) (fun c_108 => ?_) (fun c_108 => ?_)
    · replace hF := hF.trans (if_pos c_108)
      have f_120 := (hr_5.resolve_left (fun q => absurd (q.1.symm.trans c_108) (by decide +kernel))).2
      have tc_121 : (x_1).toInt = 0 := congrArg Int32.toInt c_108
      have h_122 : rg x_1 0 0 := rg_and h_8 (rg_of_eq c_108 (rg_k (0 : Int32) 0 rfl)) (by decide +kernel)
      have uh_122 := h_122.1
      have vh_122 := h_122.2
      exact K_107 _ _ _ hF hFr hG hP hD hS (lv_sub hl [] rfl)
    · replace hF := hF.trans (if_neg c_108)
      obtain ⟨f_123, f_124⟩ := (hr_5.resolve_right (fun q => c_108 q.1)).2
      have tc_125 : 0 ≤ (a0).toInt := Int32.le_iff_toInt_le.mp f_123
      have h_126 : rg a0 0 2147483647 := rg_le2 f_123 (rg_k (0 : Int32) 0 rfl) (rg_full _) (by decide +kernel)
      have uh_126 := h_126.1
      have vh_126 := h_126.2
      have tc_127 : (a0).toInt ≤ 40 := Int32.le_iff_toInt_le.mp f_124
      have h_128 : rg a0 0 40 := rg_le1 f_124 h_126 (rg_k (40 : Int32) 40 rfl) (by decide +kernel)
      have uh_128 := h_128.1
      have vh_128 := h_128.2
      have tc_129 : (x_1).toInt ≠ 0 := fun q => c_108 (Int32.toInt_inj.mp q)
      have h_130 : rg x_1 1 1 := rg_ne c_108 h_8 0 rfl (by decide +kernel)
      have uh_130 := h_130.1
      have vh_130 := h_130.2
      refine lv_iload_n hx hb dX12_rules_10 rfl (lv_at hl 2 rfl) ?_
      refine lv_iconst (v := 0) hx hb dX12_rules_11 (by decide +kernel) ?_
      refine lv_iconst (v := 5) hx hb dX12_rules_12 (by decide +kernel) ?_
      refine pk_i (va_runS (As := [.int a1, .int 0, .int 5]) (rest := []) ⟨hx, hb, hml, hown, hts⟩ (s_X12_isIn l D t σ I J ri rj rq H.size tg hSH hG.1 a1 (0 : Int32) (5 : Int32)) (va_cwS 3 hts (tw_S tw_235 tw_236 tw_5 tw_237) rfl rfl rfl cd_yX12_isIn_3 ⟨Nat.le_of_ble_eq_true rfl, Nat.le_of_ble_eq_true rfl⟩) ⟨pq_blind, pq_pre hK hN hP hD⟩ rfl rfl hl.1 rfl (lv_room (Nat.le_of_ble_eq_true rfl)) dX12_rules_13 ⟨Nat.le_of_ble_eq_true rfl, Nat.le_of_ble_eq_true rfl⟩) hD hS hA (fun x_131 σ1 μ1 H locs hw_132 hP hD hS => ?_)
      obtain ⟨hu_133, hfn_136, hr_135⟩ := hw_132
      obtain ⟨hu_133a, hu_133b⟩ := Prod.mk.inj hu_133
      rw [hu_133a, hu_133b] at hP hD
      replace hF := hF.trans (ap_n hfn_136.symm)
      have h_138 : rg x_131 0 1 := by rcases hr_135 with ⟨q, -⟩ | ⟨q, -⟩ <;> rw [q] <;> exact ⟨by decide +kernel, by decide +kernel⟩
      have uh_138 := h_138.1
      have vh_138 := h_138.2
      refine lv_if_eq (tgt := 51) hx hb dX12_rules_16 (by decide +kernel) (fun c_139 => ?_) (fun c_139 => ?_)
      · replace hF := hF.trans (if_pos c_139)
        have f_151 := (hr_135.resolve_left (fun q => absurd (q.1.symm.trans c_139) (by decide +kernel))).2
        have tc_152 : (x_131).toInt = 0 := congrArg Int32.toInt c_139
        have h_153 : rg x_131 0 0 := rg_and h_138 (rg_of_eq c_139 (rg_k (0 : Int32) 0 rfl)) (by decide +kernel)
        have uh_153 := h_153.1
        have vh_153 := h_153.2
        exact K_107 _ _ _ hF hFr hG hP hD hS (lv_sub hl [] rfl)
      · replace hF := hF.trans (if_neg c_139)
        obtain ⟨f_154, f_155⟩ := (hr_135.resolve_right (fun q => c_139 q.1)).2
        have tc_156 : 0 ≤ (a1).toInt := Int32.le_iff_toInt_le.mp f_154
        have h_157 : rg a1 0 2147483647 := rg_le2 f_154 (rg_k (0 : Int32) 0 rfl) (rg_full _) (by decide +kernel)
        have uh_157 := h_157.1
        have vh_157 := h_157.2
        have tc_158 : (a1).toInt ≤ 5 := Int32.le_iff_toInt_le.mp f_155
        have h_159 : rg a1 0 5 := rg_le1 f_155 h_157 (rg_k (5 : Int32) 5 rfl) (by decide +kernel)
        have uh_159 := h_159.1
        have vh_159 := h_159.2
        have tc_160 : (x_131).toInt ≠ 0 := fun q => c_139 (Int32.toInt_inj.mp q)
        have h_161 : rg x_131 1 1 := rg_ne c_139 h_138 0 rfl (by decide +kernel)
        have uh_161 := h_161.1
        have vh_161 := h_161.2
        refine lv_iload_n hx hb dX12_rules_19 rfl (lv_at hl 3 rfl) ?_
        refine lv_iconst (v := 0) hx hb dX12_rules_20 (by decide +kernel) ?_
        refine lv_bipush (v := 50) hx hb dX12_rules_21 (by decide +kernel) ?_
        refine pk_i (va_runS (As := [.int a2, .int 0, .int 50]) (rest := []) ⟨hx, hb, hml, hown, hts⟩ (s_X12_isIn l D t σ I J ri rj rq H.size tg hSH hG.1 a2 (0 : Int32) (50 : Int32)) (va_cwS 3 hts (tw_S tw_235 tw_236 tw_5 tw_237) rfl rfl rfl cd_yX12_isIn_3 ⟨Nat.le_of_ble_eq_true rfl, Nat.le_of_ble_eq_true rfl⟩) ⟨pq_blind, pq_pre hK hN hP hD⟩ rfl rfl hl.1 rfl (lv_room (Nat.le_of_ble_eq_true rfl)) dX12_rules_23 ⟨Nat.le_of_ble_eq_true rfl, Nat.le_of_ble_eq_true rfl⟩) hD hS hA (fun x_162 σ1 μ1 H locs hw_163 hP hD hS => ?_)
        obtain ⟨hu_164, hfn_167, hr_166⟩ := hw_163
        obtain ⟨hu_164a, hu_164b⟩ := Prod.mk.inj hu_164
        rw [hu_164a, hu_164b] at hP hD
        replace hF := hF.trans (ap_n hfn_167.symm)
        have h_169 : rg x_162 0 1 := by rcases hr_166 with ⟨q, -⟩ | ⟨q, -⟩ <;> rw [q] <;> exact ⟨by decide +kernel, by decide +kernel⟩
        have uh_169 := h_169.1
        have vh_169 := h_169.2
        refine lv_if_eq (tgt := 51) hx hb dX12_rules_26 (by decide +kernel) (fun c_170 => ?_) (fun c_170 => ?_)
        · replace hF := hF.trans (if_pos c_170)
          have f_182 := (hr_166.resolve_left (fun q => absurd (q.1.symm.trans c_170) (by decide +kernel))).2
          have tc_183 : (x_162).toInt = 0 := congrArg Int32.toInt c_170
          have h_184 : rg x_162 0 0 := rg_and h_169 (rg_of_eq c_170 (rg_k (0 : Int32) 0 rfl)) (by decide +kernel)
          have uh_184 := h_184.1
          have vh_184 := h_184.2
          exact K_107 _ _ _ hF hFr hG hP hD hS (lv_sub hl [] rfl)
        · replace hF := hF.trans (if_neg c_170)
          obtain ⟨f_185, f_186⟩ := (hr_166.resolve_right (fun q => c_170 q.1)).2
          have tc_187 : 0 ≤ (a2).toInt := Int32.le_iff_toInt_le.mp f_185
          have h_188 : rg a2 0 2147483647 := rg_le2 f_185 (rg_k (0 : Int32) 0 rfl) (rg_full _) (by decide +kernel)
          have uh_188 := h_188.1
          have vh_188 := h_188.2
          have tc_189 : (a2).toInt ≤ 50 := Int32.le_iff_toInt_le.mp f_186
          have h_190 : rg a2 0 50 := rg_le1 f_186 h_188 (rg_k (50 : Int32) 50 rfl) (by decide +kernel)
          have uh_190 := h_190.1
          have vh_190 := h_190.2
          have tc_191 : (x_162).toInt ≠ 0 := fun q => c_170 (Int32.toInt_inj.mp q)
          have h_192 : rg x_162 1 1 := rg_ne c_170 h_169 0 rfl (by decide +kernel)
          have uh_192 := h_192.1
          have vh_192 := h_192.2
          refine lv_iload hx hb dX12_rules_29 (lv_at hl 4 rfl) ?_
          refine lv_iconst (v := 1) hx hb dX12_rules_31 (by decide +kernel) ?_
          refine lv_bipush (v := 20) hx hb dX12_rules_32 (by decide +kernel) ?_
          refine pk_i (va_runS (As := [.int a3, .int 1, .int 20]) (rest := []) ⟨hx, hb, hml, hown, hts⟩ (s_X12_isIn l D t σ I J ri rj rq H.size tg hSH hG.1 a3 (1 : Int32) (20 : Int32)) (va_cwS 3 hts (tw_S tw_235 tw_236 tw_5 tw_237) rfl rfl rfl cd_yX12_isIn_3 ⟨Nat.le_of_ble_eq_true rfl, Nat.le_of_ble_eq_true rfl⟩) ⟨pq_blind, pq_pre hK hN hP hD⟩ rfl rfl hl.1 rfl (lv_room (Nat.le_of_ble_eq_true rfl)) dX12_rules_34 ⟨Nat.le_of_ble_eq_true rfl, Nat.le_of_ble_eq_true rfl⟩) hD hS hA (fun x_193 σ1 μ1 H locs hw_194 hP hD hS => ?_)
          obtain ⟨hu_195, hfn_198, hr_197⟩ := hw_194
          obtain ⟨hu_195a, hu_195b⟩ := Prod.mk.inj hu_195
          rw [hu_195a, hu_195b] at hP hD
          replace hF := hF.trans (ap_n hfn_198.symm)
          have h_200 : rg x_193 0 1 := by rcases hr_197 with ⟨q, -⟩ | ⟨q, -⟩ <;> rw [q] <;> exact ⟨by decide +kernel, by decide +kernel⟩
          have uh_200 := h_200.1
          have vh_200 := h_200.2
          refine lv_if_eq (tgt := 51) hx hb dX12_rules_37 (by decide +kernel) (fun c_201 => ?_) (fun c_201 => ?_)
          · replace hF := hF.trans (if_pos c_201)
            have f_213 := (hr_197.resolve_left (fun q => absurd (q.1.symm.trans c_201) (by decide +kernel))).2
            have tc_214 : (x_193).toInt = 0 := congrArg Int32.toInt c_201
            have h_215 : rg x_193 0 0 := rg_and h_200 (rg_of_eq c_201 (rg_k (0 : Int32) 0 rfl)) (by decide +kernel)
            have uh_215 := h_215.1
            have vh_215 := h_215.2
            exact K_107 _ _ _ hF hFr hG hP hD hS (lv_sub hl [] rfl)
          · replace hF := hF.trans (if_neg c_201)
            obtain ⟨f_216, f_217⟩ := (hr_197.resolve_right (fun q => c_201 q.1)).2
            have tc_218 : 1 ≤ (a3).toInt := Int32.le_iff_toInt_le.mp f_216
            have h_219 : rg a3 1 2147483647 := rg_le2 f_216 (rg_k (1 : Int32) 1 rfl) (rg_full _) (by decide +kernel)
            have uh_219 := h_219.1
            have vh_219 := h_219.2
            have tc_220 : (a3).toInt ≤ 20 := Int32.le_iff_toInt_le.mp f_217
            have h_221 : rg a3 1 20 := rg_le1 f_217 h_219 (rg_k (20 : Int32) 20 rfl) (by decide +kernel)
            have uh_221 := h_221.1
            have vh_221 := h_221.2
            have tc_222 : (x_193).toInt ≠ 0 := fun q => c_201 (Int32.toInt_inj.mp q)
            have h_223 : rg x_193 1 1 := rg_ne c_201 h_200 0 rfl (by decide +kernel)
            have uh_223 := h_223.1
            have vh_223 := h_223.2
            refine lv_iload hx hb dX12_rules_40 (lv_at hl 5 rfl) ?_
            refine lv_iconst (v := 0) hx hb dX12_rules_42 (by decide +kernel) ?_
            refine lv_bipush (v := 100) hx hb dX12_rules_43 (by decide +kernel) ?_
            refine pk_i (va_runS (As := [.int a4, .int 0, .int 100]) (rest := []) ⟨hx, hb, hml, hown, hts⟩ (s_X12_isIn l D t σ I J ri rj rq H.size tg hSH hG.1 a4 (0 : Int32) (100 : Int32)) (va_cwS 3 hts (tw_S tw_235 tw_236 tw_5 tw_237) rfl rfl rfl cd_yX12_isIn_3 ⟨Nat.le_of_ble_eq_true rfl, Nat.le_of_ble_eq_true rfl⟩) ⟨pq_blind, pq_pre hK hN hP hD⟩ rfl rfl hl.1 rfl (lv_room (Nat.le_of_ble_eq_true rfl)) dX12_rules_45 ⟨Nat.le_of_ble_eq_true rfl, Nat.le_of_ble_eq_true rfl⟩) hD hS hA (fun x_224 σ1 μ1 H locs hw_225 hP hD hS => ?_)
            obtain ⟨hu_226, hfn_229, hr_228⟩ := hw_225
            obtain ⟨hu_226a, hu_226b⟩ := Prod.mk.inj hu_226
            rw [hu_226a, hu_226b] at hP hD
            replace hF := hF.trans (ap_n hfn_229.symm)
            have h_231 : rg x_224 0 1 := by rcases hr_228 with ⟨q, -⟩ | ⟨q, -⟩ <;> rw [q] <;> exact ⟨by decide +kernel, by decide +kernel⟩
            have uh_231 := h_231.1
            have vh_231 := h_231.2
            refine lv_if_ne (tgt := 53) hx hb dX12_rules_48 (by decide +kernel) (fun c_232 => ?_) (fun c_232 => ?_)
            · replace hF := hF.trans (if_neg c_232)
              obtain ⟨f_244, f_245⟩ := (hr_228.resolve_right (fun q => c_232 q.1)).2
              have tc_246 : 0 ≤ (a4).toInt := Int32.le_iff_toInt_le.mp f_244
              have h_247 : rg a4 0 2147483647 := rg_le2 f_244 (rg_k (0 : Int32) 0 rfl) (rg_full _) (by decide +kernel)
              have uh_247 := h_247.1
              have vh_247 := h_247.2
              have tc_248 : (a4).toInt ≤ 100 := Int32.le_iff_toInt_le.mp f_245
              have h_249 : rg a4 0 100 := rg_le1 f_245 h_247 (rg_k (100 : Int32) 100 rfl) (by decide +kernel)
              have uh_249 := h_249.1
              have vh_249 := h_249.2
              have tc_250 : (x_224).toInt ≠ 0 := fun q => c_232 (Int32.toInt_inj.mp q)
              have h_251 : rg x_224 1 1 := rg_ne c_232 h_231 0 rfl (by decide +kernel)
              have uh_251 := h_251.1
              have vh_251 := h_251.2
              refine lv_aload_n hx hb dX12_rules_53 rfl (lv_at hl 0 rfl) ?_
              obtain ⟨w_252, hR_w_252, hL_w_252, hK_w_252, hN_w_252, hT_w_252⟩ := sh_a hSH 384 (ci := 12) (kd := 13) (len := 12720) rfl (by decide +kernel) hL_this hK_this
              have hO_w_252 : w_252 = vrow σ 384 this := vo_k (c := 12) hO_this hR_w_252
              refine pg_f (v := .ref w_252) (C := RX12) (T := TX12) (N := 31) hx hb hts (tw_i inlX12) hown hK hP hL_this hK_this (by decide +kernel) rfl 0 (by decide +kernel) (hts _ (tw_c tw_176)) (pq_hv rfl hR_w_252) dX12_rules_54 ?_
              refine lv_bipush (v := 13) hx hb dX12_rules_57 (by decide +kernel) ?_
              refine lv_iload_n hx hb dX12_rules_59 rfl (lv_at hl 1 rfl) ?_
              refine pt_i hx hb hK hP hD hS hL_w_252 hK_w_252 hN_w_252 (vp_in_iff.mpr (by decide +kernel)) dX12_rules_60 (fun r_253 H locs er_253 hP hD hS => ?_)
              replace hFr := fr_R hFr hO_w_252 (by decide +kernel) er_253
              replace hF := hF.trans (ap_n (vR_st hVT hO_w_252 (by decide +kernel) er_253))
              have hG := GM.wz hG hT_w_252 (by decide +kernel) er_253 (show zn ((13 : Int32)).toNatClampNeg = 13 from by decide +kernel) rfl (rg_w h_128 (by decide +kernel)) (by decide +kernel)
              refine lv_aload_n hx hb dX12_rules_61 rfl (lv_at hl 0 rfl) ?_
              refine pg_f (v := .ref w_252) (C := RX12) (T := TX12) (N := 31) hx hb hts (tw_i inlX12) hown hK hP hL_this hK_this (by decide +kernel) rfl 0 (by decide +kernel) (hts _ (tw_c tw_176)) (pq_hv rfl hR_w_252) dX12_rules_62 ?_
              refine lv_bipush (v := 14) hx hb dX12_rules_65 (by decide +kernel) ?_
              refine lv_iload_n hx hb dX12_rules_67 rfl (lv_at hl 2 rfl) ?_
              refine pt_i hx hb hK hP hD hS hL_w_252 hK_w_252 hN_w_252 (vp_in_iff.mpr (by decide +kernel)) dX12_rules_68 (fun r_254 H locs er_254 hP hD hS => ?_)
              replace hFr := fr_R hFr hO_w_252 (by decide +kernel) er_254
              replace hF := hF.trans (ap_n (vR_st hVT hO_w_252 (by decide +kernel) er_254))
              have hG := GM.wz hG hT_w_252 (by decide +kernel) er_254 (show zn ((14 : Int32)).toNatClampNeg = 14 from by decide +kernel) rfl (rg_w h_159 (by decide +kernel)) (by decide +kernel)
              refine lv_aload_n hx hb dX12_rules_69 rfl (lv_at hl 0 rfl) ?_
              refine pg_f (v := .ref w_252) (C := RX12) (T := TX12) (N := 31) hx hb hts (tw_i inlX12) hown hK hP hL_this hK_this (by decide +kernel) rfl 0 (by decide +kernel) (hts _ (tw_c tw_176)) (pq_hv rfl hR_w_252) dX12_rules_70 ?_
              refine lv_bipush (v := 15) hx hb dX12_rules_73 (by decide +kernel) ?_
              refine lv_iload_n hx hb dX12_rules_75 rfl (lv_at hl 3 rfl) ?_
              refine pt_i hx hb hK hP hD hS hL_w_252 hK_w_252 hN_w_252 (vp_in_iff.mpr (by decide +kernel)) dX12_rules_76 (fun r_255 H locs er_255 hP hD hS => ?_)
              replace hFr := fr_R hFr hO_w_252 (by decide +kernel) er_255
              replace hF := hF.trans (ap_n (vR_st hVT hO_w_252 (by decide +kernel) er_255))
              have hG := GM.wz hG hT_w_252 (by decide +kernel) er_255 (show zn ((15 : Int32)).toNatClampNeg = 15 from by decide +kernel) rfl (rg_w h_190 (by decide +kernel)) (by decide +kernel)
              refine lv_aload_n hx hb dX12_rules_77 rfl (lv_at hl 0 rfl) ?_
              refine pg_f (v := .ref w_252) (C := RX12) (T := TX12) (N := 31) hx hb hts (tw_i inlX12) hown hK hP hL_this hK_this (by decide +kernel) rfl 0 (by decide +kernel) (hts _ (tw_c tw_176)) (pq_hv rfl hR_w_252) dX12_rules_78 ?_
              refine lv_bipush (v := 16) hx hb dX12_rules_81 (by decide +kernel) ?_
              refine lv_iload hx hb dX12_rules_83 (lv_at hl 4 rfl) ?_
              refine pt_i hx hb hK hP hD hS hL_w_252 hK_w_252 hN_w_252 (vp_in_iff.mpr (by decide +kernel)) dX12_rules_85 (fun r_256 H locs er_256 hP hD hS => ?_)
              replace hFr := fr_R hFr hO_w_252 (by decide +kernel) er_256
              replace hF := hF.trans (ap_n (vR_st hVT hO_w_252 (by decide +kernel) er_256))
              have hG := GM.wz hG hT_w_252 (by decide +kernel) er_256 (show zn ((16 : Int32)).toNatClampNeg = 16 from by decide +kernel) rfl (rg_w h_221 (by decide +kernel)) (by decide +kernel)
              refine lv_aload_n hx hb dX12_rules_86 rfl (lv_at hl 0 rfl) ?_
              refine pg_f (v := .ref w_252) (C := RX12) (T := TX12) (N := 31) hx hb hts (tw_i inlX12) hown hK hP hL_this hK_this (by decide +kernel) rfl 0 (by decide +kernel) (hts _ (tw_c tw_176)) (pq_hv rfl hR_w_252) dX12_rules_87 ?_
              refine lv_bipush (v := 17) hx hb dX12_rules_90 (by decide +kernel) ?_
              refine lv_iload hx hb dX12_rules_92 (lv_at hl 5 rfl) ?_
              refine pt_i hx hb hK hP hD hS hL_w_252 hK_w_252 hN_w_252 (vp_in_iff.mpr (by decide +kernel)) dX12_rules_94 (fun r_257 H locs er_257 hP hD hS => ?_)
              replace hFr := fr_R hFr hO_w_252 (by decide +kernel) er_257
              replace hF := hF.trans (ap_n (vR_st hVT hO_w_252 (by decide +kernel) er_257))
              have hG := GM.wz hG hT_w_252 (by decide +kernel) er_257 (show zn ((17 : Int32)).toNatClampNeg = 17 from by decide +kernel) rfl (rg_w h_249 (by decide +kernel)) (by decide +kernel)
              refine lv_iconst (v := 1) hx hb dX12_rules_95 (by decide +kernel) ?_
              subst hQ
              exact W.zret (v := 1) hx hb hr (by decide +kernel) (fun t1 ht hW => ⟨⟨1, (σ, I, J, r_257, rj, rq), rfl, ⟨r_257, rfl, hG, (hF0.symm.trans hF), hFr, (Or.inl ⟨rfl, (rg_w h_128 (by decide +kernel)), (rg_w h_159 (by decide +kernel)), (rg_w h_190 (by decide +kernel)), (rg_w h_221 (by decide +kernel)), (rg_w h_249 (by decide +kernel))⟩)⟩, by rw [ht]; exact hP, va_K.moved hW.alike hK, hD⟩, hS.F ht⟩) hS.2.2 dX12_rules_96
            · replace hF := hF.trans (if_pos c_232)
              have f_258 := (hr_228.resolve_left (fun q => absurd (q.1.symm.trans c_232) (by decide +kernel))).2
              have tc_259 : (x_224).toInt = 0 := congrArg Int32.toInt c_232
              have h_260 : rg x_224 0 0 := rg_and h_231 (rg_of_eq c_232 (rg_k (0 : Int32) 0 rfl)) (by decide +kernel)
              have uh_260 := h_260.1
              have vh_260 := h_260.2
              exact K_107 _ _ _ hF hFr hG hP hD hS (lv_sub hl [] rfl)
  exact go _ _ _ hP hD hS hl

set_option maxRecDepth 100000 in
def g_X12_wall_K19 (I : Nat → Int32) (J : Nat → Int64) (ri : Nat → Nat → Int32) (rj : Nat → Nat → Int64) (rq : Nat → Nat → Option Nat) : Int32 × vM := ((0 : Int32), I, J, ri, rj, rq)
set_option maxRecDepth 100000 in
theorem g_X12_wall_K19_e {I : Nat → Int32} {J : Nat → Int64} {ri : Nat → Nat → Int32} {rj : Nat → Nat → Int64} {rq : Nat → Nat → Option Nat} : g_X12_wall_K19 I J ri rj rq  = ((0 : Int32), I, J, ri, rj, rq) := rfl
set_option maxRecDepth 100000 in
def g_X12_wall (a0 : Int32) (a1 : Int32) (I : Nat → Int32) (J : Nat → Int64) (ri : Nat → Nat → Int32) (rj : Nat → Nat → Int64) (rq : Nat → Nat → Option Nat) : Int32 × vM := (bnI (g_X12_isCell a0 I J ri rj rq) fun (x_1 : Int32) (_ : Nat → Int32) (_ : Nat → Int64) (_ : Nat → Nat → Int32) (_ : Nat → Nat → Int64) (_ : Nat → Nat → Option Nat) => (if x_1 = (0 : Int32) then (g_X12_wall_K19 I J ri rj rq ) else (ap1 (g_X12_isIn a1 (0 : Int32) (1000 : Int32)) fun (x_58 : Int32) => (if x_58 = (0 : Int32) then (g_X12_wall_K19 I J ri rj rq ) else (ap1 ((16 : Int32) * a0) fun (x_87 : Int32) => (ap1 ((100 : Int32) + x_87) fun (x_89 : Int32) => (ap1 (x_89 + (6 : Int32)) fun (x_91 : Int32) => (ap1 (va_up ri 384 (upd (ri 384) (x_91).toNatClampNeg a1)) fun (r_93 : Nat → Nat → Int32) => ((1 : Int32), I, J, r_93, rj, rq)))))))))
set_option maxRecDepth 100000 in
theorem g_X12_wall_e {a0 : Int32} {a1 : Int32} {I : Nat → Int32} {J : Nat → Int64} {ri : Nat → Nat → Int32} {rj : Nat → Nat → Int64} {rq : Nat → Nat → Option Nat} : g_X12_wall a0 a1 I J ri rj rq = (bnI (g_X12_isCell a0 I J ri rj rq) fun (x_1 : Int32) (_ : Nat → Int32) (_ : Nat → Int64) (_ : Nat → Nat → Int32) (_ : Nat → Nat → Int64) (_ : Nat → Nat → Option Nat) => (if x_1 = (0 : Int32) then (g_X12_wall_K19 I J ri rj rq ) else (ap1 (g_X12_isIn a1 (0 : Int32) (1000 : Int32)) fun (x_58 : Int32) => (if x_58 = (0 : Int32) then (g_X12_wall_K19 I J ri rj rq ) else (ap1 ((16 : Int32) * a0) fun (x_87 : Int32) => (ap1 ((100 : Int32) + x_87) fun (x_89 : Int32) => (ap1 (x_89 + (6 : Int32)) fun (x_91 : Int32) => (ap1 (va_up ri 384 (upd (ri 384) (x_91).toNatClampNeg a1)) fun (r_93 : Nat → Nat → Int32) => ((1 : Int32), I, J, r_93, rj, rq))))))))) := rfl
set_option maxHeartbeats 4000000 in
set_option maxRecDepth 100000 in
theorem s_X12_wall (l : Launch) (D : va_G) (t : pq_T) (σ : pq_S) (I : Nat → Nat → Int32) (J : Nat → Nat → Int64) (ri : Nat → Nat → Int32) (rj : Nat → Nat → Int64) (rq : Nat → Nat → Option Nat) (sz : Nat) (tg : Nat → Nat) (hSH : SH σ tg) (hG0 : GT tg I ri) (this : Nat) (a0 : Int32) (a1 : Int32) (hL_this : this ∈ σ.1) (hK_this : σ.2.1 this = 12) : MetI l yX12_wall (wa yX12_wall cX12_wall 3 (some .boolean)) ({ frames := 2, cells := 0, slots := 0, locals := 43 }) [.ref this, .int a0, .int a1] D t σ (I, J, ri, rj, rq) sz 0 0 (fun (r : Int32) (u : pq_S × pq_M) => ∃ ri' : Nat → Nat → Int32, u = (σ, I, J, ri', rj, rq) ∧ GM [1306] tg σ I ri I ri' rq ∧ g_X12_wall a0 a1 (vI 12 σ this I) (vJ 12 σ this J) (vR 12 σ this ri) (vL 12 σ this rj) (vQ 12 σ this rq) = (r, (vI 12 σ this I), (vJ 12 σ this J), (vR 12 σ this ri'), (vL 12 σ this rj), (vQ 12 σ this rq)) ∧ FR 12 tg σ this (I, J, ri, rj, rq) (I, J, ri', rj, rq) ∧ ((r = 1 ∧ rg a0 0 39 ∧ rg a1 0 1000) ∨ (r = 0 ∧ True))) := by
  refine Met.ofW (cc := cX12_wall) (maxL := 3) (ret := (some .boolean)) (by decide +kernel) rfl ?_
  intro p e s m args below meth c s₁ B hml hv
  obtain ⟨rfl, hsz, hP, hK, hD0, hN⟩ := hv
  have hx := B.exec
  have hb := B.bytes
  have hr := B.returns
  have hts := atoms_spec (ws := (wa yX12_wall cX12_wall 3 (some .boolean))) B.pre
  have hown : s.vm.findClass RX12 = some m.cls := findClass_of_methodNamed B.named
  have hlocks := B.notSynchronized
  subst hsz
  have hD : va_D (pq_B t σ (I, J, ri, rj, rq) s.heap.size) (pq_P t σ (I, J, ri, rj, rq)) := hD0.self
  generalize hAe : pq_B t σ (I, J, ri, rj, rq) s.heap.size = A at hD ⊢
  have hA : ∀ q : Nat, s.heap.size ≤ q → A q := fun q h => by rw [← hAe]; exact Or.inr h
  have hS : va_S A s.heap s.heap [] := va_S.rf
  have hG : GM [1306] tg σ I ri I ri rq := ⟨hG0, fun _ _ _ => rfl, fun _ _ _ _ _ => rfl, fun _ _ _ _ _ _ => rfl⟩
  have hl := lv_entry ([.ref this, .int a0, .int a1]) (n := 3) (Nat.le_of_ble_eq_true rfl)
  rw [lg_entry_eq]
  generalize (lg_sl ([.ref this, .int a0, .int a1]) ++ List.replicate (3 - (lg_sl ([.ref this, .int a0, .int a1])).length) Slot.unset).toArray = ls at hl ⊢
  have hl : lv_has ls 3 [(0, .ref this), (1, .int a0), (2, .int a1)] := hl
  refine q_gen (fun Q hQ => ?_)
  have go : ∀ (H : Heap) (locs : List Loc) (ls : Array Slot), va_P D vwCl (pq_P t σ (I, J, ri, rj, rq)) H → va_D A (pq_P t σ (I, J, ri, rj, rq)) → va_S A s.heap H locs → lv_has ls 3 [(0, .ref this), (1, .int a0), (2, .int a1)] → W p l e ({ frames := 2, cells := 0, slots := 0, locals := 43 } : Room) s m (List.toArray ([.ref this, .int a0, .int a1] : List Value)) below meth c H locs 0 0 Q (F0 m 0 ls []) := by
    intro H locs ls hP hD hS hl
    have hO_this : this = vo σ 12 this := rfl
    have hVT : VT 12 σ tg this := vt_12 hSH hL_this hK_this
    have hFr : FR 12 tg σ this (I, J, ri, rj, rq) (I, J, ri, rj, rq) := fr_rf
    obtain ⟨F, hF0⟩ : ∃ F, F = g_X12_wall a0 a1 (vI 12 σ this I) (vJ 12 σ this J) (vR 12 σ this ri) (vL 12 σ this rj) (vQ 12 σ this rq) := ⟨_, rfl⟩
    have hF := hF0.trans g_X12_wall_e
    refine lv_aload_n hx hb dX12_wall_0 rfl (lv_at hl 0 rfl) ?_
    refine lv_iload_n hx hb dX12_wall_1 rfl (lv_at hl 1 rfl) ?_
    refine pk_i (va_runV (As := [.int a0]) (rest := []) ⟨hx, hb, hml, hown, hts⟩ (s_X12_isCell l D t σ I J ri rj rq H.size tg hSH hG.1 this a0 hL_this hK_this) (cwV 1 hts (tw_V tw_340 tw_341 tw_342 tw_5 tw_343) rfl rfl rfl cv_yX12_isCell_1 ⟨Nat.le_of_ble_eq_true rfl, Nat.le_of_ble_eq_true rfl⟩) ⟨pq_blind, pq_recv hK hP hL_this hK_this (by decide +kernel) rfl, pq_pre hK hN hP hD⟩ rfl rfl hl.1 rfl (lv_room (Nat.le_of_ble_eq_true rfl)) dX12_wall_2 ⟨Nat.le_of_ble_eq_true rfl, Nat.le_of_ble_eq_true rfl⟩) hD hS hA (fun x_1 σ1 μ1 H locs hw_2 hP hD hS => ?_)
    obtain ⟨hu_3, hfn_6, hr_5⟩ := hw_2
    obtain ⟨hu_3a, hu_3b⟩ := Prod.mk.inj hu_3
    rw [hu_3a, hu_3b] at hP hD
    replace hF := hF.trans (bn_n hfn_6)
    have h_8 : rg x_1 0 1 := by rcases hr_5 with ⟨q, -⟩ | ⟨q, -⟩ <;> rw [q] <;> exact ⟨by decide +kernel, by decide +kernel⟩
    have uh_8 := h_8.1
    have vh_8 := h_8.2
    have K_44 : ∀  (H : Heap) (locs : List Loc) (ls : Array Slot), F = g_X12_wall_K19 (vI 12 σ this I) (vJ 12 σ this J) (vR 12 σ this ri) (vL 12 σ this rj) (vQ 12 σ this rq)  → FR 12 tg σ this (I, J, ri, rj, rq) (I, J, ri, rj, rq) → GM [1306] tg σ I ri I ri rq → va_P D vwCl (pq_P t σ (I, J, ri, rj, rq)) H → va_D A (pq_P t σ (I, J, ri, rj, rq)) → va_S A s.heap H locs → lv_has ls 3 [] → W p l e ({ frames := 2, cells := 0, slots := 0, locals := 43 } : Room) s m (List.toArray ([.ref this, .int a0, .int a1] : List Value)) below meth c H locs 0 0 Q (F0 m 19 ls []) := by
      intro H locs ls hF hFr hG hP hD hS hl
      replace hF := hF.trans g_X12_wall_K19_e
      refine lv_iconst (v := 0) hx hb dX12_wall_19 (by decide +kernel) ?_
      subst hQ
      exact W.zret (v := 0) hx hb hr (by decide +kernel) (fun t1 ht hW => ⟨⟨0, (σ, I, J, ri, rj, rq), rfl, ⟨ri, rfl, hG, (hF0.symm.trans hF), hFr, (Or.inr ⟨rfl, trivial⟩)⟩, by rw [ht]; exact hP, va_K.moved hW.alike hK, hD⟩, hS.F ht⟩) hS.2.2 dX12_wall_20
    refine lv_if_eq (tgt := 19) hx hb dX12_wall_5 (by decide +kernel) (fun c_45 => ?_) (fun c_45 => ?_)
    · replace hF := hF.trans (if_pos c_45)
      have f_52 := (hr_5.resolve_left (fun q => absurd (q.1.symm.trans c_45) (by decide +kernel))).2
      have tc_53 : (x_1).toInt = 0 := congrArg Int32.toInt c_45
      have h_54 : rg x_1 0 0 := rg_and h_8 (rg_of_eq c_45 (rg_k (0 : Int32) 0 rfl)) (by decide +kernel)
      have uh_54 := h_54.1
      have vh_54 := h_54.2
      exact K_44 _ _ _ hF hFr hG hP hD hS (lv_sub hl [] rfl)
    · replace hF := hF.trans (if_neg c_45)
      have f_55 := (hr_5.resolve_right (fun q => c_45 q.1)).2
      have uf_55 := f_55.1
      have vf_55 := f_55.2
      have tc_56 : (x_1).toInt ≠ 0 := fun q => c_45 (Int32.toInt_inj.mp q)
      have h_57 : rg x_1 1 1 := rg_ne c_45 h_8 0 rfl (by decide +kernel)
      have uh_57 := h_57.1
      have vh_57 := h_57.2
      refine lv_iload_n hx hb dX12_wall_8 rfl (lv_at hl 2 rfl) ?_
      refine lv_iconst (v := 0) hx hb dX12_wall_9 (by decide +kernel) ?_
      refine lv_sipush (v := 1000) hx hb dX12_wall_10 (by decide +kernel) ?_
      refine pk_i (va_runS (As := [.int a1, .int 0, .int 1000]) (rest := []) ⟨hx, hb, hml, hown, hts⟩ (s_X12_isIn l D t σ I J ri rj rq H.size tg hSH hG.1 a1 (0 : Int32) (1000 : Int32)) (va_cwS 3 hts (tw_S tw_235 tw_236 tw_5 tw_237) rfl rfl rfl cd_yX12_isIn_3 ⟨Nat.le_of_ble_eq_true rfl, Nat.le_of_ble_eq_true rfl⟩) ⟨pq_blind, pq_pre hK hN hP hD⟩ rfl rfl hl.1 rfl (lv_room (Nat.le_of_ble_eq_true rfl)) dX12_wall_13 ⟨Nat.le_of_ble_eq_true rfl, Nat.le_of_ble_eq_true rfl⟩) hD hS hA (fun x_58 σ1 μ1 H locs hw_59 hP hD hS => ?_)
      obtain ⟨hu_60, hfn_63, hr_62⟩ := hw_59
      obtain ⟨hu_60a, hu_60b⟩ := Prod.mk.inj hu_60
      rw [hu_60a, hu_60b] at hP hD
      replace hF := hF.trans (ap_n hfn_63.symm)
      have h_65 : rg x_58 0 1 := by rcases hr_62 with ⟨q, -⟩ | ⟨q, -⟩ <;> rw [q] <;> exact ⟨by decide +kernel, by decide +kernel⟩
      have uh_65 := h_65.1
      have vh_65 := h_65.2
      refine lv_if_ne (tgt := 21) hx hb dX12_wall_16 (by decide +kernel) (fun c_66 => ?_) (fun c_66 => ?_)
      · replace hF := hF.trans (if_neg c_66)
        obtain ⟨f_78, f_79⟩ := (hr_62.resolve_right (fun q => c_66 q.1)).2
        have tc_80 : 0 ≤ (a1).toInt := Int32.le_iff_toInt_le.mp f_78
        have h_81 : rg a1 0 2147483647 := rg_le2 f_78 (rg_k (0 : Int32) 0 rfl) (rg_full _) (by decide +kernel)
        have uh_81 := h_81.1
        have vh_81 := h_81.2
        have tc_82 : (a1).toInt ≤ 1000 := Int32.le_iff_toInt_le.mp f_79
        have h_83 : rg a1 0 1000 := rg_le1 f_79 h_81 (rg_k (1000 : Int32) 1000 rfl) (by decide +kernel)
        have uh_83 := h_83.1
        have vh_83 := h_83.2
        have tc_84 : (x_58).toInt ≠ 0 := fun q => c_66 (Int32.toInt_inj.mp q)
        have h_85 : rg x_58 1 1 := rg_ne c_66 h_65 0 rfl (by decide +kernel)
        have uh_85 := h_85.1
        have vh_85 := h_85.2
        refine lv_aload_n hx hb dX12_wall_21 rfl (lv_at hl 0 rfl) ?_
        obtain ⟨w_86, hR_w_86, hL_w_86, hK_w_86, hN_w_86, hT_w_86⟩ := sh_a hSH 384 (ci := 12) (kd := 13) (len := 12720) rfl (by decide +kernel) hL_this hK_this
        have hO_w_86 : w_86 = vrow σ 384 this := vo_k (c := 12) hO_this hR_w_86
        refine pg_f (v := .ref w_86) (C := RX12) (T := TX12) (N := 31) hx hb hts (tw_i inlX12) hown hK hP hL_this hK_this (by decide +kernel) rfl 0 (by decide +kernel) (hts _ (tw_c tw_176)) (pq_hv rfl hR_w_86) dX12_wall_22 ?_
        refine lv_bipush (v := 100) hx hb dX12_wall_25 (by decide +kernel) ?_
        refine lv_bipush (v := 16) hx hb dX12_wall_27 (by decide +kernel) ?_
        refine lv_iload_n hx hb dX12_wall_29 rfl (lv_at hl 1 rfl) ?_
        refine lv_imul hx hb dX12_wall_30 ?_
        refine lv_topi (fun x_87 ex_87 => ?_)
        replace hF := hF.trans (ap_n ex_87)
        have h_88 : rg x_87 0 624 := rg_of_eq ex_87 (rg_mul (rg_k (16 : Int32) 16 rfl) f_55 (by decide +kernel))
        have uh_88 := h_88.1
        have vh_88 := h_88.2
        have tx_87 : (x_87).toInt = 16 * (a0).toInt := by rw [ex_87]; exact i_mul_rg (a2 := 16) (b2 := (a0).toInt) rfl rfl (rg_k (16 : Int32) 16 rfl) f_55 (by decide +kernel)
        refine lv_iadd hx hb dX12_wall_31 ?_
        refine lv_topi (fun x_89 ex_89 => ?_)
        replace hF := hF.trans (ap_n ex_89)
        have h_90 : rg x_89 100 724 := rg_of_eq ex_89 (rg_add (rg_k (100 : Int32) 100 rfl) h_88 (by decide +kernel))
        have uh_90 := h_90.1
        have vh_90 := h_90.2
        have tx_89 : (x_89).toInt = 100 + (x_87).toInt := by rw [ex_89]; exact i_add_rg (a2 := 100) (b2 := (x_87).toInt) rfl rfl (rg_k (100 : Int32) 100 rfl) h_88 (by decide +kernel)
        refine lv_bipush (v := 6) hx hb dX12_wall_32 (by decide +kernel) ?_
        refine lv_iadd hx hb dX12_wall_34 ?_
        refine lv_topi (fun x_91 ex_91 => ?_)
        replace hF := hF.trans (ap_n ex_91)
        have h_92 : rg x_91 106 730 := rg_of_eq ex_91 (rg_add h_90 (rg_k (6 : Int32) 6 rfl) (by decide +kernel))
        have uh_92 := h_92.1
        have vh_92 := h_92.2
        have tx_91 : (x_91).toInt = (x_89).toInt + 6 := by rw [ex_91]; exact i_add_rg (a2 := (x_89).toInt) (b2 := 6) rfl rfl h_90 (rg_k (6 : Int32) 6 rfl) (by decide +kernel)
        refine lv_iload_n hx hb dX12_wall_35 rfl (lv_at hl 2 rfl) ?_
        refine pt_i hx hb hK hP hD hS hL_w_86 hK_w_86 hN_w_86 (rg_in h_92 (by decide +kernel)) dX12_wall_36 (fun r_93 H locs er_93 hP hD hS => ?_)
        replace hFr := fr_R hFr hO_w_86 (by decide +kernel) er_93
        replace hF := hF.trans (ap_n (vR_st hVT hO_w_86 (by decide +kernel) er_93))
        have hG := GM.wz hG hT_w_86 (by decide +kernel) er_93 (zn_CELL (c := a0.toNatClampNeg) (k := 6) (by have z_i := clampE x_91; have z_0 := clampE a0; omega) (rg_cl1 f_55 (by decide +kernel)) (by decide +kernel)) rfl (rg_w h_83 (by decide +kernel)) (by decide +kernel)
        refine lv_iconst (v := 1) hx hb dX12_wall_37 (by decide +kernel) ?_
        subst hQ
        exact W.zret (v := 1) hx hb hr (by decide +kernel) (fun t1 ht hW => ⟨⟨1, (σ, I, J, r_93, rj, rq), rfl, ⟨r_93, rfl, hG, (hF0.symm.trans hF), hFr, (Or.inl ⟨rfl, (rg_w f_55 (by decide +kernel)), (rg_w h_83 (by decide +kernel))⟩)⟩, by rw [ht]; exact hP, va_K.moved hW.alike hK, hD⟩, hS.F ht⟩) hS.2.2 dX12_wall_38
      · replace hF := hF.trans (if_pos c_66)
        have f_94 := (hr_62.resolve_left (fun q => absurd (q.1.symm.trans c_66) (by decide +kernel))).2
        have tc_95 : (x_58).toInt = 0 := congrArg Int32.toInt c_66
        have h_96 : rg x_58 0 0 := rg_and h_65 (rg_of_eq c_66 (rg_k (0 : Int32) 0 rfl)) (by decide +kernel)
        have uh_96 := h_96.1
        have vh_96 := h_96.2
        exact K_44 _ _ _ hF hFr hG hP hD hS (lv_sub hl [] rfl)
  exact go _ _ _ hP hD hS hl

set_option maxRecDepth 100000 in
def g_X12_cellAt_c8 (a0 : Int32) (I : Nat → Int32) (J : Nat → Int64) (ri : Nat → Nat → Int32) (rj : Nat → Nat → Int64) (rq : Nat → Nat → Option Nat) : Int32 × vM := (ap1 ((16 : Int32) * a0) fun (x_2 : Int32) => (ap1 ((100 : Int32) + x_2) fun (x_4 : Int32) => (ap1 (x_4 + (8 : Int32)) fun (x_6 : Int32) => (ap1 (ri 384 (x_6).toNatClampNeg) fun (x_8 : Int32) => (x_8, I, J, ri, rj, rq)))))
set_option maxRecDepth 100000 in
theorem g_X12_cellAt_c8_e {a0 : Int32} {I : Nat → Int32} {J : Nat → Int64} {ri : Nat → Nat → Int32} {rj : Nat → Nat → Int64} {rq : Nat → Nat → Option Nat} : g_X12_cellAt_c8 a0 I J ri rj rq = (ap1 ((16 : Int32) * a0) fun (x_2 : Int32) => (ap1 ((100 : Int32) + x_2) fun (x_4 : Int32) => (ap1 (x_4 + (8 : Int32)) fun (x_6 : Int32) => (ap1 (ri 384 (x_6).toNatClampNeg) fun (x_8 : Int32) => (x_8, I, J, ri, rj, rq))))) := rfl
set_option maxHeartbeats 4000000 in
set_option maxRecDepth 100000 in
theorem s_X12_cellAt_c8 (l : Launch) (D : va_G) (t : pq_T) (σ : pq_S) (I : Nat → Nat → Int32) (J : Nat → Nat → Int64) (ri : Nat → Nat → Int32) (rj : Nat → Nat → Int64) (rq : Nat → Nat → Option Nat) (sz : Nat) (tg : Nat → Nat) (hSH : SH σ tg) (hG0 : GT tg I ri) (this : Nat) (a0 : Int32) (hL_this : this ∈ σ.1) (hK_this : σ.2.1 this = 12) (h_a0 : rg a0 0 39) : MetI l yX12_cellAt (wa yX12_cellAt cX12_cellAt 3 (some .int)) ({ frames := 0, cells := 0, slots := 0, locals := 0 }) [.ref this, .int a0, .int 8] D t σ (I, J, ri, rj, rq) sz 0 0 (fun (r : Int32) (u : pq_S × pq_M) => u = (σ, I, J, ri, rj, rq) ∧ g_X12_cellAt_c8 a0 (vI 12 σ this I) (vJ 12 σ this J) (vR 12 σ this ri) (vL 12 σ this rj) (vQ 12 σ this rq) = (r, (vI 12 σ this I), (vJ 12 σ this J), (vR 12 σ this ri), (vL 12 σ this rj), (vQ 12 σ this rq))) := by
  refine Met.ofW (cc := cX12_cellAt) (maxL := 3) (ret := (some .int)) (by decide +kernel) rfl ?_
  intro p e s m args below meth c s₁ B hml hv
  obtain ⟨rfl, hsz, hP, hK, hD0, hN⟩ := hv
  have hx := B.exec
  have hb := B.bytes
  have hr := B.returns
  have hts := atoms_spec (ws := (wa yX12_cellAt cX12_cellAt 3 (some .int))) B.pre
  have hown : s.vm.findClass RX12 = some m.cls := findClass_of_methodNamed B.named
  have hlocks := B.notSynchronized
  subst hsz
  have hD : va_D (pq_B t σ (I, J, ri, rj, rq) s.heap.size) (pq_P t σ (I, J, ri, rj, rq)) := hD0.self
  generalize hAe : pq_B t σ (I, J, ri, rj, rq) s.heap.size = A at hD ⊢
  have hA : ∀ q : Nat, s.heap.size ≤ q → A q := fun q h => by rw [← hAe]; exact Or.inr h
  have hS : va_S A s.heap s.heap [] := va_S.rf
  have hG : GM [] tg σ I ri I ri rq := ⟨hG0, fun _ _ _ => rfl, fun _ _ _ _ _ => rfl, fun _ _ _ _ _ _ => rfl⟩
  have hl := lv_entry ([.ref this, .int a0, .int 8]) (n := 3) (Nat.le_of_ble_eq_true rfl)
  rw [lg_entry_eq]
  generalize (lg_sl ([.ref this, .int a0, .int 8]) ++ List.replicate (3 - (lg_sl ([.ref this, .int a0, .int 8])).length) Slot.unset).toArray = ls at hl ⊢
  have hl : lv_has ls 3 [(0, .ref this), (1, .int a0), (2, .int 8)] := hl
  refine q_gen (fun Q hQ => ?_)
  have go : ∀ (H : Heap) (locs : List Loc) (ls : Array Slot), va_P D vwCl (pq_P t σ (I, J, ri, rj, rq)) H → va_D A (pq_P t σ (I, J, ri, rj, rq)) → va_S A s.heap H locs → lv_has ls 3 [(0, .ref this), (1, .int a0), (2, .int 8)] → W p l e ({ frames := 0, cells := 0, slots := 0, locals := 0 } : Room) s m (List.toArray ([.ref this, .int a0, .int 8] : List Value)) below meth c H locs 0 0 Q (F0 m 0 ls []) := by
    intro H locs ls hP hD hS hl
    have hO_this : this = vo σ 12 this := rfl
    have hVT : VT 12 σ tg this := vt_12 hSH hL_this hK_this
    have hFr : FR 12 tg σ this (I, J, ri, rj, rq) (I, J, ri, rj, rq) := fr_rf
    obtain ⟨F, hF0⟩ : ∃ F, F = g_X12_cellAt_c8 a0 (vI 12 σ this I) (vJ 12 σ this J) (vR 12 σ this ri) (vL 12 σ this rj) (vQ 12 σ this rq) := ⟨_, rfl⟩
    have hF := hF0.trans g_X12_cellAt_c8_e
    refine lv_aload_n hx hb dX12_cellAt_0 rfl (lv_at hl 0 rfl) ?_
    obtain ⟨w_1, hR_w_1, hL_w_1, hK_w_1, hN_w_1, hT_w_1⟩ := sh_a hSH 384 (ci := 12) (kd := 13) (len := 12720) rfl (by decide +kernel) hL_this hK_this
    have hO_w_1 : w_1 = vrow σ 384 this := vo_k (c := 12) hO_this hR_w_1
    refine pg_f (v := .ref w_1) (C := RX12) (T := TX12) (N := 31) hx hb hts (tw_i inlX12) hown hK hP hL_this hK_this (by decide +kernel) rfl 0 (by decide +kernel) (hts _ (tw_c tw_176)) (pq_hv rfl hR_w_1) dX12_cellAt_1 ?_
    refine lv_bipush (v := 100) hx hb dX12_cellAt_4 (by decide +kernel) ?_
    refine lv_bipush (v := 16) hx hb dX12_cellAt_6 (by decide +kernel) ?_
    refine lv_iload_n hx hb dX12_cellAt_8 rfl (lv_at hl 1 rfl) ?_
    refine lv_imul hx hb dX12_cellAt_9 ?_
    refine lv_topi (fun x_2 ex_2 => ?_)
    replace hF := hF.trans (ap_n ex_2)
    have h_3 : rg x_2 0 624 := rg_of_eq ex_2 (rg_mul (rg_k (16 : Int32) 16 rfl) h_a0 (by decide +kernel))
    have uh_3 := h_3.1
    have vh_3 := h_3.2
    have tx_2 : (x_2).toInt = 16 * (a0).toInt := by rw [ex_2]; exact i_mul_rg (a2 := 16) (b2 := (a0).toInt) rfl rfl (rg_k (16 : Int32) 16 rfl) h_a0 (by decide +kernel)
    refine lv_iadd hx hb dX12_cellAt_10 ?_
    refine lv_topi (fun x_4 ex_4 => ?_)
    replace hF := hF.trans (ap_n ex_4)
    have h_5 : rg x_4 100 724 := rg_of_eq ex_4 (rg_add (rg_k (100 : Int32) 100 rfl) h_3 (by decide +kernel))
    have uh_5 := h_5.1
    have vh_5 := h_5.2
    have tx_4 : (x_4).toInt = 100 + (x_2).toInt := by rw [ex_4]; exact i_add_rg (a2 := 100) (b2 := (x_2).toInt) rfl rfl (rg_k (100 : Int32) 100 rfl) h_3 (by decide +kernel)
    refine lv_iload_n hx hb dX12_cellAt_11 rfl (lv_at hl 2 rfl) ?_
    refine lv_iadd hx hb dX12_cellAt_12 ?_
    refine lv_topi (fun x_6 ex_6 => ?_)
    replace hF := hF.trans (ap_n ex_6)
    have h_7 : rg x_6 108 732 := rg_of_eq ex_6 (rg_add h_5 (rg_k (8 : Int32) 8 rfl) (by decide +kernel))
    have uh_7 := h_7.1
    have vh_7 := h_7.2
    have tx_6 : (x_6).toInt = (x_4).toInt + 8 := by rw [ex_6]; exact i_add_rg (a2 := (x_4).toInt) (b2 := 8) rfl rfl h_5 (rg_k (8 : Int32) 8 rfl) (by decide +kernel)
    refine pl_i hx hb hK hP hL_w_1 hK_w_1 hN_w_1 (rg_in h_7 (by decide +kernel)) dX12_cellAt_13 ?_
    refine lv_topi (fun x_8 ex_8 => ?_)
    replace hF := hF.trans (ap_n (vR_r hO_w_1 (by decide +kernel) ex_8))
    subst hQ
    exact W.iret (v := x_8) hx hb hr (fun t1 ht hW => ⟨⟨x_8, (σ, I, J, ri, rj, rq), rfl, ⟨rfl, (hF0.symm.trans hF)⟩, by rw [ht]; exact hP, va_K.moved hW.alike hK, hD⟩, hS.F ht⟩) hS.2.2 dX12_cellAt_14
  exact go _ _ _ hP hD hS hl

set_option maxRecDepth 100000 in
def g_X12_well_K50 (I : Nat → Int32) (J : Nat → Int64) (ri : Nat → Nat → Int32) (rj : Nat → Nat → Int64) (rq : Nat → Nat → Option Nat) : Int32 × vM := ((0 : Int32), I, J, ri, rj, rq)
set_option maxRecDepth 100000 in
theorem g_X12_well_K50_e {I : Nat → Int32} {J : Nat → Int64} {ri : Nat → Nat → Int32} {rj : Nat → Nat → Int64} {rq : Nat → Nat → Option Nat} : g_X12_well_K50 I J ri rj rq  = ((0 : Int32), I, J, ri, rj, rq) := rfl
set_option maxRecDepth 100000 in
def g_X12_well (a0 : Int32) (a1 : Int32) (a2 : Int32) (a3 : Int32) (I : Nat → Int32) (J : Nat → Int64) (ri : Nat → Nat → Int32) (rj : Nat → Nat → Int64) (rq : Nat → Nat → Option Nat) : Int32 × vM := (bnI (g_X12_isCell a0 I J ri rj rq) fun (x_1 : Int32) (_ : Nat → Int32) (_ : Nat → Int64) (_ : Nat → Nat → Int32) (_ : Nat → Nat → Int64) (_ : Nat → Nat → Option Nat) => (if x_1 = (0 : Int32) then (g_X12_well_K50 I J ri rj rq ) else (ap1 (g_X12_isIn a1 (1 : Int32) (20 : Int32)) fun (x_116 : Int32) => (if x_116 = (0 : Int32) then (g_X12_well_K50 I J ri rj rq ) else (ap1 (g_X12_isIn a2 (0 : Int32) (10000 : Int32)) fun (x_147 : Int32) => (if x_147 = (0 : Int32) then (g_X12_well_K50 I J ri rj rq ) else (ap1 (g_X12_isIn a3 (0 : Int32) (100 : Int32)) fun (x_178 : Int32) => (if x_178 = (0 : Int32) then (g_X12_well_K50 I J ri rj rq ) else (bnI (g_X12_cellAt_c8 a0 I J ri rj rq) fun (x_209 : Int32) (_ : Nat → Int32) (_ : Nat → Int64) (_ : Nat → Nat → Int32) (_ : Nat → Nat → Int64) (_ : Nat → Nat → Option Nat) => (if x_209 ≤ (0 : Int32) then (ap1 ((16 : Int32) * a0) fun (x_223 : Int32) => (ap1 ((100 : Int32) + x_223) fun (x_225 : Int32) => (ap1 (x_225 + (8 : Int32)) fun (x_228 : Int32) => (ap1 (va_up ri 384 (upd (ri 384) (x_228).toNatClampNeg a1)) fun (r_230 : Nat → Nat → Int32) => (ap1 (x_225 + (9 : Int32)) fun (x_231 : Int32) => (ap1 (va_up r_230 384 (upd (r_230 384) (x_231).toNatClampNeg a2)) fun (r_233 : Nat → Nat → Int32) => (ap1 (x_225 + (10 : Int32)) fun (x_234 : Int32) => (ap1 (va_up r_233 384 (upd (r_233 384) (x_234).toNatClampNeg a3)) fun (r_236 : Nat → Nat → Int32) => ((1 : Int32), I, J, r_236, rj, rq))))))))) else (g_X12_well_K50 I J ri rj rq )))))))))))
set_option maxRecDepth 100000 in
theorem g_X12_well_e {a0 : Int32} {a1 : Int32} {a2 : Int32} {a3 : Int32} {I : Nat → Int32} {J : Nat → Int64} {ri : Nat → Nat → Int32} {rj : Nat → Nat → Int64} {rq : Nat → Nat → Option Nat} : g_X12_well a0 a1 a2 a3 I J ri rj rq = (bnI (g_X12_isCell a0 I J ri rj rq) fun (x_1 : Int32) (_ : Nat → Int32) (_ : Nat → Int64) (_ : Nat → Nat → Int32) (_ : Nat → Nat → Int64) (_ : Nat → Nat → Option Nat) => (if x_1 = (0 : Int32) then (g_X12_well_K50 I J ri rj rq ) else (ap1 (g_X12_isIn a1 (1 : Int32) (20 : Int32)) fun (x_116 : Int32) => (if x_116 = (0 : Int32) then (g_X12_well_K50 I J ri rj rq ) else (ap1 (g_X12_isIn a2 (0 : Int32) (10000 : Int32)) fun (x_147 : Int32) => (if x_147 = (0 : Int32) then (g_X12_well_K50 I J ri rj rq ) else (ap1 (g_X12_isIn a3 (0 : Int32) (100 : Int32)) fun (x_178 : Int32) => (if x_178 = (0 : Int32) then (g_X12_well_K50 I J ri rj rq ) else (bnI (g_X12_cellAt_c8 a0 I J ri rj rq) fun (x_209 : Int32) (_ : Nat → Int32) (_ : Nat → Int64) (_ : Nat → Nat → Int32) (_ : Nat → Nat → Int64) (_ : Nat → Nat → Option Nat) => (if x_209 ≤ (0 : Int32) then (ap1 ((16 : Int32) * a0) fun (x_223 : Int32) => (ap1 ((100 : Int32) + x_223) fun (x_225 : Int32) => (ap1 (x_225 + (8 : Int32)) fun (x_228 : Int32) => (ap1 (va_up ri 384 (upd (ri 384) (x_228).toNatClampNeg a1)) fun (r_230 : Nat → Nat → Int32) => (ap1 (x_225 + (9 : Int32)) fun (x_231 : Int32) => (ap1 (va_up r_230 384 (upd (r_230 384) (x_231).toNatClampNeg a2)) fun (r_233 : Nat → Nat → Int32) => (ap1 (x_225 + (10 : Int32)) fun (x_234 : Int32) => (ap1 (va_up r_233 384 (upd (r_233 384) (x_234).toNatClampNeg a3)) fun (r_236 : Nat → Nat → Int32) => ((1 : Int32), I, J, r_236, rj, rq))))))))) else (g_X12_well_K50 I J ri rj rq ))))))))))) := rfl
set_option maxHeartbeats 4000000 in
set_option maxRecDepth 100000 in
theorem s_X12_well (l : Launch) (D : va_G) (t : pq_T) (σ : pq_S) (I : Nat → Nat → Int32) (J : Nat → Nat → Int64) (ri : Nat → Nat → Int32) (rj : Nat → Nat → Int64) (rq : Nat → Nat → Option Nat) (sz : Nat) (tg : Nat → Nat) (hSH : SH σ tg) (hG0 : GT tg I ri) (this : Nat) (a0 : Int32) (a1 : Int32) (a2 : Int32) (a3 : Int32) (hL_this : this ∈ σ.1) (hK_this : σ.2.1 this = 12) : MetI l yX12_well (wa yX12_well cX12_well 6 (some .boolean)) ({ frames := 2, cells := 0, slots := 0, locals := 43 }) [.ref this, .int a0, .int a1, .int a2, .int a3] D t σ (I, J, ri, rj, rq) sz 0 0 (fun (r : Int32) (u : pq_S × pq_M) => ∃ ri' : Nat → Nat → Int32, u = (σ, I, J, ri', rj, rq) ∧ GM [1308] tg σ I ri I ri' rq ∧ g_X12_well a0 a1 a2 a3 (vI 12 σ this I) (vJ 12 σ this J) (vR 12 σ this ri) (vL 12 σ this rj) (vQ 12 σ this rq) = (r, (vI 12 σ this I), (vJ 12 σ this J), (vR 12 σ this ri'), (vL 12 σ this rj), (vQ 12 σ this rq)) ∧ FR 12 tg σ this (I, J, ri, rj, rq) (I, J, ri', rj, rq) ∧ ((r = 1 ∧ rg a0 0 39 ∧ rg a1 1 20 ∧ rg a2 0 10000 ∧ rg a3 0 100) ∨ (r = 0 ∧ True))) := by
  refine Met.ofW (cc := cX12_well) (maxL := 6) (ret := (some .boolean)) (by decide +kernel) rfl ?_
  intro p e s m args below meth c s₁ B hml hv
  obtain ⟨rfl, hsz, hP, hK, hD0, hN⟩ := hv
  have hx := B.exec
  have hb := B.bytes
  have hr := B.returns
  have hts := atoms_spec (ws := (wa yX12_well cX12_well 6 (some .boolean))) B.pre
  have hown : s.vm.findClass RX12 = some m.cls := findClass_of_methodNamed B.named
  have hlocks := B.notSynchronized
  subst hsz
  have hD : va_D (pq_B t σ (I, J, ri, rj, rq) s.heap.size) (pq_P t σ (I, J, ri, rj, rq)) := hD0.self
  generalize hAe : pq_B t σ (I, J, ri, rj, rq) s.heap.size = A at hD ⊢
  have hA : ∀ q : Nat, s.heap.size ≤ q → A q := fun q h => by rw [← hAe]; exact Or.inr h
  have hS : va_S A s.heap s.heap [] := va_S.rf
  have hG : GM [1308] tg σ I ri I ri rq := ⟨hG0, fun _ _ _ => rfl, fun _ _ _ _ _ => rfl, fun _ _ _ _ _ _ => rfl⟩
  have hl := lv_entry ([.ref this, .int a0, .int a1, .int a2, .int a3]) (n := 6) (Nat.le_of_ble_eq_true rfl)
  rw [lg_entry_eq]
  generalize (lg_sl ([.ref this, .int a0, .int a1, .int a2, .int a3]) ++ List.replicate (6 - (lg_sl ([.ref this, .int a0, .int a1, .int a2, .int a3])).length) Slot.unset).toArray = ls at hl ⊢
  have hl : lv_has ls 6 [(0, .ref this), (1, .int a0), (2, .int a1), (3, .int a2), (4, .int a3)] := hl
  refine q_gen (fun Q hQ => ?_)
  have go : ∀ (H : Heap) (locs : List Loc) (ls : Array Slot), va_P D vwCl (pq_P t σ (I, J, ri, rj, rq)) H → va_D A (pq_P t σ (I, J, ri, rj, rq)) → va_S A s.heap H locs → lv_has ls 6 [(0, .ref this), (1, .int a0), (2, .int a1), (3, .int a2), (4, .int a3)] → W p l e ({ frames := 2, cells := 0, slots := 0, locals := 43 } : Room) s m (List.toArray ([.ref this, .int a0, .int a1, .int a2, .int a3] : List Value)) below meth c H locs 0 0 Q (F0 m 0 ls []) := by
    intro H locs ls hP hD hS hl
    have hO_this : this = vo σ 12 this := rfl
    have hVT : VT 12 σ tg this := vt_12 hSH hL_this hK_this
    have hFr : FR 12 tg σ this (I, J, ri, rj, rq) (I, J, ri, rj, rq) := fr_rf
    obtain ⟨F, hF0⟩ : ∃ F, F = g_X12_well a0 a1 a2 a3 (vI 12 σ this I) (vJ 12 σ this J) (vR 12 σ this ri) (vL 12 σ this rj) (vQ 12 σ this rq) := ⟨_, rfl⟩
    have hF := hF0.trans g_X12_well_e
    refine lv_aload_n hx hb dX12_well_0 rfl (lv_at hl 0 rfl) ?_
    refine lv_iload_n hx hb dX12_well_1 rfl (lv_at hl 1 rfl) ?_
    refine pk_i (va_runV (As := [.int a0]) (rest := []) ⟨hx, hb, hml, hown, hts⟩ (s_X12_isCell l D t σ I J ri rj rq H.size tg hSH hG.1 this a0 hL_this hK_this) (cwV 1 hts (tw_V tw_340 tw_341 tw_342 tw_5 tw_343) rfl rfl rfl cv_yX12_isCell_1 ⟨Nat.le_of_ble_eq_true rfl, Nat.le_of_ble_eq_true rfl⟩) ⟨pq_blind, pq_recv hK hP hL_this hK_this (by decide +kernel) rfl, pq_pre hK hN hP hD⟩ rfl rfl hl.1 rfl (lv_room (Nat.le_of_ble_eq_true rfl)) dX12_well_2 ⟨Nat.le_of_ble_eq_true rfl, Nat.le_of_ble_eq_true rfl⟩) hD hS hA (fun x_1 σ1 μ1 H locs hw_2 hP hD hS => ?_)
    obtain ⟨hu_3, hfn_6, hr_5⟩ := hw_2
    obtain ⟨hu_3a, hu_3b⟩ := Prod.mk.inj hu_3
    rw [hu_3a, hu_3b] at hP hD
    replace hF := hF.trans (bn_n hfn_6)
    have h_8 : rg x_1 0 1 := by rcases hr_5 with ⟨q, -⟩ | ⟨q, -⟩ <;> rw [q] <;> exact ⟨by decide +kernel, by decide +kernel⟩
    have uh_8 := h_8.1
    have vh_8 := h_8.2
    have K_102 : ∀  (H : Heap) (locs : List Loc) (ls : Array Slot), F = g_X12_well_K50 (vI 12 σ this I) (vJ 12 σ this J) (vR 12 σ this ri) (vL 12 σ this rj) (vQ 12 σ this rq)  → FR 12 tg σ this (I, J, ri, rj, rq) (I, J, ri, rj, rq) → GM [1308] tg σ I ri I ri rq → va_P D vwCl (pq_P t σ (I, J, ri, rj, rq)) H → va_D A (pq_P t σ (I, J, ri, rj, rq)) → va_S A s.heap H locs → lv_has ls 6 [] → W p l e ({ frames := 2, cells := 0, slots := 0, locals := 43 } : Room) s m (List.toArray ([.ref this, .int a0, .int a1, .int a2, .int a3] : List Value)) below meth c H locs 0 0 Q (F0 m 50 ls []) := by
      intro H locs ls hF hFr hG hP hD hS hl
      replace hF := hF.trans g_X12_well_K50_e
      refine lv_iconst (v := 0) hx hb dX12_well_50 (by decide +kernel) ?_
      subst hQ
      exact W.zret (v := 0) hx hb hr (by decide +kernel) (fun t1 ht hW => ⟨⟨0, (σ, I, J, ri, rj, rq), rfl, ⟨ri, rfl, hG, (hF0.symm.trans hF), hFr, (Or.inr ⟨rfl, trivial⟩)⟩, by rw [ht]; exact hP, va_K.moved hW.alike hK, hD⟩, hS.F ht⟩) hS.2.2 dX12_well_51
    refine lv_if_eq (tgt := 50) hx hb dX12_well_5 (by decide +kernel) (fun c_103 => ?_) (fun c_103 => ?_)
    · replace hF := hF.trans (if_pos c_103)
      have f_110 := (hr_5.resolve_left (fun q => absurd (q.1.symm.trans c_103) (by decide +kernel))).2
      have tc_111 : (x_1).toInt = 0 := congrArg Int32.toInt c_103
      have h_112 : rg x_1 0 0 := rg_and h_8 (rg_of_eq c_103 (rg_k (0 : Int32) 0 rfl)) (by decide +kernel)
      have uh_112 := h_112.1
      have vh_112 := h_112.2
      exact K_102 _ _ _ hF hFr hG hP hD hS (lv_sub hl [] rfl)
    · replace hF := hF.trans (if_neg c_103)
      have f_113 := (hr_5.resolve_right (fun q => c_103 q.1)).2
      have uf_113 := f_113.1
      have vf_113 := f_113.2
      have tc_114 : (x_1).toInt ≠ 0 := fun q => c_103 (Int32.toInt_inj.mp q)
      have h_115 : rg x_1 1 1 := rg_ne c_103 h_8 0 rfl (by decide +kernel)
      have uh_115 := h_115.1
      have vh_115 := h_115.2
      refine lv_iload_n hx hb dX12_well_8 rfl (lv_at hl 2 rfl) ?_
      refine lv_iconst (v := 1) hx hb dX12_well_9 (by decide +kernel) ?_
      refine lv_bipush (v := 20) hx hb dX12_well_10 (by decide +kernel) ?_
      refine pk_i (va_runS (As := [.int a1, .int 1, .int 20]) (rest := []) ⟨hx, hb, hml, hown, hts⟩ (s_X12_isIn l D t σ I J ri rj rq H.size tg hSH hG.1 a1 (1 : Int32) (20 : Int32)) (va_cwS 3 hts (tw_S tw_235 tw_236 tw_5 tw_237) rfl rfl rfl cd_yX12_isIn_3 ⟨Nat.le_of_ble_eq_true rfl, Nat.le_of_ble_eq_true rfl⟩) ⟨pq_blind, pq_pre hK hN hP hD⟩ rfl rfl hl.1 rfl (lv_room (Nat.le_of_ble_eq_true rfl)) dX12_well_12 ⟨Nat.le_of_ble_eq_true rfl, Nat.le_of_ble_eq_true rfl⟩) hD hS hA (fun x_116 σ1 μ1 H locs hw_117 hP hD hS => ?_)
      obtain ⟨hu_118, hfn_121, hr_120⟩ := hw_117
      obtain ⟨hu_118a, hu_118b⟩ := Prod.mk.inj hu_118
      rw [hu_118a, hu_118b] at hP hD
      replace hF := hF.trans (ap_n hfn_121.symm)
      have h_123 : rg x_116 0 1 := by rcases hr_120 with ⟨q, -⟩ | ⟨q, -⟩ <;> rw [q] <;> exact ⟨by decide +kernel, by decide +kernel⟩
      have uh_123 := h_123.1
      have vh_123 := h_123.2
      refine lv_if_eq (tgt := 50) hx hb dX12_well_15 (by decide +kernel) (fun c_124 => ?_) (fun c_124 => ?_)
      · replace hF := hF.trans (if_pos c_124)
        have f_136 := (hr_120.resolve_left (fun q => absurd (q.1.symm.trans c_124) (by decide +kernel))).2
        have tc_137 : (x_116).toInt = 0 := congrArg Int32.toInt c_124
        have h_138 : rg x_116 0 0 := rg_and h_123 (rg_of_eq c_124 (rg_k (0 : Int32) 0 rfl)) (by decide +kernel)
        have uh_138 := h_138.1
        have vh_138 := h_138.2
        exact K_102 _ _ _ hF hFr hG hP hD hS (lv_sub hl [] rfl)
      · replace hF := hF.trans (if_neg c_124)
        obtain ⟨f_139, f_140⟩ := (hr_120.resolve_right (fun q => c_124 q.1)).2
        have tc_141 : 1 ≤ (a1).toInt := Int32.le_iff_toInt_le.mp f_139
        have h_142 : rg a1 1 2147483647 := rg_le2 f_139 (rg_k (1 : Int32) 1 rfl) (rg_full _) (by decide +kernel)
        have uh_142 := h_142.1
        have vh_142 := h_142.2
        have tc_143 : (a1).toInt ≤ 20 := Int32.le_iff_toInt_le.mp f_140
        have h_144 : rg a1 1 20 := rg_le1 f_140 h_142 (rg_k (20 : Int32) 20 rfl) (by decide +kernel)
        have uh_144 := h_144.1
        have vh_144 := h_144.2
        have tc_145 : (x_116).toInt ≠ 0 := fun q => c_124 (Int32.toInt_inj.mp q)
        have h_146 : rg x_116 1 1 := rg_ne c_124 h_123 0 rfl (by decide +kernel)
        have uh_146 := h_146.1
        have vh_146 := h_146.2
        refine lv_iload_n hx hb dX12_well_18 rfl (lv_at hl 3 rfl) ?_
        refine lv_iconst (v := 0) hx hb dX12_well_19 (by decide +kernel) ?_
        refine lv_sipush (v := 10000) hx hb dX12_well_20 (by decide +kernel) ?_
        refine pk_i (va_runS (As := [.int a2, .int 0, .int 10000]) (rest := []) ⟨hx, hb, hml, hown, hts⟩ (s_X12_isIn l D t σ I J ri rj rq H.size tg hSH hG.1 a2 (0 : Int32) (10000 : Int32)) (va_cwS 3 hts (tw_S tw_235 tw_236 tw_5 tw_237) rfl rfl rfl cd_yX12_isIn_3 ⟨Nat.le_of_ble_eq_true rfl, Nat.le_of_ble_eq_true rfl⟩) ⟨pq_blind, pq_pre hK hN hP hD⟩ rfl rfl hl.1 rfl (lv_room (Nat.le_of_ble_eq_true rfl)) dX12_well_23 ⟨Nat.le_of_ble_eq_true rfl, Nat.le_of_ble_eq_true rfl⟩) hD hS hA (fun x_147 σ1 μ1 H locs hw_148 hP hD hS => ?_)
        obtain ⟨hu_149, hfn_152, hr_151⟩ := hw_148
        obtain ⟨hu_149a, hu_149b⟩ := Prod.mk.inj hu_149
        rw [hu_149a, hu_149b] at hP hD
        replace hF := hF.trans (ap_n hfn_152.symm)
        have h_154 : rg x_147 0 1 := by rcases hr_151 with ⟨q, -⟩ | ⟨q, -⟩ <;> rw [q] <;> exact ⟨by decide +kernel, by decide +kernel⟩
        have uh_154 := h_154.1
        have vh_154 := h_154.2
        refine lv_if_eq (tgt := 50) hx hb dX12_well_26 (by decide +kernel) (fun c_155 => ?_) (fun c_155 => ?_)
        · replace hF := hF.trans (if_pos c_155)
          have f_167 := (hr_151.resolve_left (fun q => absurd (q.1.symm.trans c_155) (by decide +kernel))).2
          have tc_168 : (x_147).toInt = 0 := congrArg Int32.toInt c_155
          have h_169 : rg x_147 0 0 := rg_and h_154 (rg_of_eq c_155 (rg_k (0 : Int32) 0 rfl)) (by decide +kernel)
          have uh_169 := h_169.1
          have vh_169 := h_169.2
          exact K_102 _ _ _ hF hFr hG hP hD hS (lv_sub hl [] rfl)
        · replace hF := hF.trans (if_neg c_155)
          obtain ⟨f_170, f_171⟩ := (hr_151.resolve_right (fun q => c_155 q.1)).2
          have tc_172 : 0 ≤ (a2).toInt := Int32.le_iff_toInt_le.mp f_170
          have h_173 : rg a2 0 2147483647 := rg_le2 f_170 (rg_k (0 : Int32) 0 rfl) (rg_full _) (by decide +kernel)
          have uh_173 := h_173.1
          have vh_173 := h_173.2
          have tc_174 : (a2).toInt ≤ 10000 := Int32.le_iff_toInt_le.mp f_171
          have h_175 : rg a2 0 10000 := rg_le1 f_171 h_173 (rg_k (10000 : Int32) 10000 rfl) (by decide +kernel)
          have uh_175 := h_175.1
          have vh_175 := h_175.2
          have tc_176 : (x_147).toInt ≠ 0 := fun q => c_155 (Int32.toInt_inj.mp q)
          have h_177 : rg x_147 1 1 := rg_ne c_155 h_154 0 rfl (by decide +kernel)
          have uh_177 := h_177.1
          have vh_177 := h_177.2
          refine lv_iload hx hb dX12_well_29 (lv_at hl 4 rfl) ?_
          refine lv_iconst (v := 0) hx hb dX12_well_31 (by decide +kernel) ?_
          refine lv_bipush (v := 100) hx hb dX12_well_32 (by decide +kernel) ?_
          refine pk_i (va_runS (As := [.int a3, .int 0, .int 100]) (rest := []) ⟨hx, hb, hml, hown, hts⟩ (s_X12_isIn l D t σ I J ri rj rq H.size tg hSH hG.1 a3 (0 : Int32) (100 : Int32)) (va_cwS 3 hts (tw_S tw_235 tw_236 tw_5 tw_237) rfl rfl rfl cd_yX12_isIn_3 ⟨Nat.le_of_ble_eq_true rfl, Nat.le_of_ble_eq_true rfl⟩) ⟨pq_blind, pq_pre hK hN hP hD⟩ rfl rfl hl.1 rfl (lv_room (Nat.le_of_ble_eq_true rfl)) dX12_well_34 ⟨Nat.le_of_ble_eq_true rfl, Nat.le_of_ble_eq_true rfl⟩) hD hS hA (fun x_178 σ1 μ1 H locs hw_179 hP hD hS => ?_)
          obtain ⟨hu_180, hfn_183, hr_182⟩ := hw_179
          obtain ⟨hu_180a, hu_180b⟩ := Prod.mk.inj hu_180
          rw [hu_180a, hu_180b] at hP hD
          replace hF := hF.trans (ap_n hfn_183.symm)
          have h_185 : rg x_178 0 1 := by rcases hr_182 with ⟨q, -⟩ | ⟨q, -⟩ <;> rw [q] <;> exact ⟨by decide +kernel, by decide +kernel⟩
          have uh_185 := h_185.1
          have vh_185 := h_185.2
          refine lv_if_eq (tgt := 50) hx hb dX12_well_37 (by decide +kernel) (fun c_186 => ?_) (fun c_186 => ?_)
          · replace hF := hF.trans (if_pos c_186)
            have f_198 := (hr_182.resolve_left (fun q => absurd (q.1.symm.trans c_186) (by decide +kernel))).2
            have tc_199 : (x_178).toInt = 0 := congrArg Int32.toInt c_186
            have h_200 : rg x_178 0 0 := rg_and h_185 (rg_of_eq c_186 (rg_k (0 : Int32) 0 rfl)) (by decide +kernel)
            have uh_200 := h_200.1
            have vh_200 := h_200.2
            exact K_102 _ _ _ hF hFr hG hP hD hS (lv_sub hl [] rfl)
          · replace hF := hF.trans (if_neg c_186)
            obtain ⟨f_201, f_202⟩ := (hr_182.resolve_right (fun q => c_186 q.1)).2
            have tc_203 : 0 ≤ (a3).toInt := Int32.le_iff_toInt_le.mp f_201
            have h_204 : rg a3 0 2147483647 := rg_le2 f_201 (rg_k (0 : Int32) 0 rfl) (rg_full _) (by decide +kernel)
            have uh_204 := h_204.1
            have vh_204 := h_204.2
            have tc_205 : (a3).toInt ≤ 100 := Int32.le_iff_toInt_le.mp f_202
            have h_206 : rg a3 0 100 := rg_le1 f_202 h_204 (rg_k (100 : Int32) 100 rfl) (by decide +kernel)
            have uh_206 := h_206.1
            have vh_206 := h_206.2
            have tc_207 : (x_178).toInt ≠ 0 := fun q => c_186 (Int32.toInt_inj.mp q)
            have h_208 : rg x_178 1 1 := rg_ne c_186 h_185 0 rfl (by decide +kernel)
            have uh_208 := h_208.1
            have vh_208 := h_208.2
            refine lv_aload_n hx hb dX12_well_40 rfl (lv_at hl 0 rfl) ?_
            refine lv_iload_n hx hb dX12_well_41 rfl (lv_at hl 1 rfl) ?_
            refine lv_bipush (v := 8) hx hb dX12_well_42 (by decide +kernel) ?_
            refine pk_i (va_runV (As := [.int a0, .int 8]) (rest := []) ⟨hx, hb, hml, hown, hts⟩ (s_X12_cellAt_c8 l D t σ I J ri rj rq H.size tg hSH hG.1 this a0 hL_this hK_this (rg_w f_113 (by decide +kernel))) (cwV 2 hts (tw_V tw_361 tw_362 tw_363 tw_5 tw_364) rfl rfl rfl cv_yX12_cellAt_2 ⟨Nat.le_of_ble_eq_true rfl, Nat.le_of_ble_eq_true rfl⟩) ⟨pq_blind, pq_recv hK hP hL_this hK_this (by decide +kernel) rfl, pq_pre hK hN hP hD⟩ rfl rfl hl.1 rfl (lv_room (Nat.le_of_ble_eq_true rfl)) dX12_well_44 ⟨Nat.le_of_ble_eq_true rfl, Nat.le_of_ble_eq_true rfl⟩) hD hS hA (fun x_209 σ1 μ1 H locs hw_210 hP hD hS => ?_)
            obtain ⟨hu_211, hfn_214⟩ := hw_210
            obtain ⟨hu_211a, hu_211b⟩ := Prod.mk.inj hu_211
            rw [hu_211a, hu_211b] at hP hD
            replace hF := hF.trans (bn_n hfn_214)
            refine lv_if_le (tgt := 52) hx hb dX12_well_47 (by decide +kernel) (fun c_216 => ?_) (fun c_216 => ?_)
            · replace hF := hF.trans (if_pos c_216)
              have tc_221 : (x_209).toInt ≤ 0 := Int32.le_iff_toInt_le.mp c_216
              have h_222 : rg x_209 (-2147483648) 0 := rg_le1 c_216 (rg_full _) (rg_k (0 : Int32) 0 rfl) (by decide +kernel)
              have uh_222 := h_222.1
              have vh_222 := h_222.2
              refine lv_bipush (v := 100) hx hb dX12_well_52 (by decide +kernel) ?_
              refine lv_bipush (v := 16) hx hb dX12_well_54 (by decide +kernel) ?_
              refine lv_iload_n hx hb dX12_well_56 rfl (lv_at hl 1 rfl) ?_
              refine lv_imul hx hb dX12_well_57 ?_
              refine lv_topi (fun x_223 ex_223 => ?_)
              replace hF := hF.trans (ap_n ex_223)
              have h_224 : rg x_223 0 624 := rg_of_eq ex_223 (rg_mul (rg_k (16 : Int32) 16 rfl) f_113 (by decide +kernel))
              have uh_224 := h_224.1
              have vh_224 := h_224.2
              have tx_223 : (x_223).toInt = 16 * (a0).toInt := by rw [ex_223]; exact i_mul_rg (a2 := 16) (b2 := (a0).toInt) rfl rfl (rg_k (16 : Int32) 16 rfl) f_113 (by decide +kernel)
              refine lv_iadd hx hb dX12_well_58 ?_
              refine lv_topi (fun x_225 ex_225 => ?_)
              replace hF := hF.trans (ap_n ex_225)
              have h_226 : rg x_225 100 724 := rg_of_eq ex_225 (rg_add (rg_k (100 : Int32) 100 rfl) h_224 (by decide +kernel))
              have uh_226 := h_226.1
              have vh_226 := h_226.2
              have tx_225 : (x_225).toInt = 100 + (x_223).toInt := by rw [ex_225]; exact i_add_rg (a2 := 100) (b2 := (x_223).toInt) rfl rfl (rg_k (100 : Int32) 100 rfl) h_224 (by decide +kernel)
              refine lv_istore (lv' := [(5, .int x_225), (0, .ref this), (1, .int a0), (2, .int a1), (3, .int a2), (4, .int a3)]) hx hb dX12_well_59 hl (by decide +kernel) rfl (fun ls hl => ?_)
              refine lv_aload_n hx hb dX12_well_61 rfl (lv_at hl 1 rfl) ?_
              obtain ⟨w_227, hR_w_227, hL_w_227, hK_w_227, hN_w_227, hT_w_227⟩ := sh_a hSH 384 (ci := 12) (kd := 13) (len := 12720) rfl (by decide +kernel) hL_this hK_this
              have hO_w_227 : w_227 = vrow σ 384 this := vo_k (c := 12) hO_this hR_w_227
              refine pg_f (v := .ref w_227) (C := RX12) (T := TX12) (N := 31) hx hb hts (tw_i inlX12) hown hK hP hL_this hK_this (by decide +kernel) rfl 0 (by decide +kernel) (hts _ (tw_c tw_176)) (pq_hv rfl hR_w_227) dX12_well_62 ?_
              refine lv_iload hx hb dX12_well_65 (lv_at hl 0 rfl) ?_
              refine lv_bipush (v := 8) hx hb dX12_well_67 (by decide +kernel) ?_
              refine lv_iadd hx hb dX12_well_69 ?_
              refine lv_topi (fun x_228 ex_228 => ?_)
              replace hF := hF.trans (ap_n ex_228)
              have h_229 : rg x_228 108 732 := rg_of_eq ex_228 (rg_add h_226 (rg_k (8 : Int32) 8 rfl) (by decide +kernel))
              have uh_229 := h_229.1
              have vh_229 := h_229.2
              have tx_228 : (x_228).toInt = (x_225).toInt + 8 := by rw [ex_228]; exact i_add_rg (a2 := (x_225).toInt) (b2 := 8) rfl rfl h_226 (rg_k (8 : Int32) 8 rfl) (by decide +kernel)
              refine lv_iload_n hx hb dX12_well_70 rfl (lv_at hl 3 rfl) ?_
              refine pt_i hx hb hK hP hD hS hL_w_227 hK_w_227 hN_w_227 (rg_in h_229 (by decide +kernel)) dX12_well_71 (fun r_230 H locs er_230 hP hD hS => ?_)
              replace hFr := fr_R hFr hO_w_227 (by decide +kernel) er_230
              replace hF := hF.trans (ap_n (vR_st hVT hO_w_227 (by decide +kernel) er_230))
              have hG := GM.wz hG hT_w_227 (by decide +kernel) er_230 (zn_CELL (c := a0.toNatClampNeg) (k := 8) (by have z_i := clampE x_228; have z_0 := clampE a0; omega) (rg_cl1 f_113 (by decide +kernel)) (by decide +kernel)) rfl (rg_w h_144 (by decide +kernel)) (by decide +kernel)
              refine lv_aload_n hx hb dX12_well_72 rfl (lv_at hl 1 rfl) ?_
              refine pg_f (v := .ref w_227) (C := RX12) (T := TX12) (N := 31) hx hb hts (tw_i inlX12) hown hK hP hL_this hK_this (by decide +kernel) rfl 0 (by decide +kernel) (hts _ (tw_c tw_176)) (pq_hv rfl hR_w_227) dX12_well_73 ?_
              refine lv_iload hx hb dX12_well_76 (lv_at hl 0 rfl) ?_
              refine lv_bipush (v := 9) hx hb dX12_well_78 (by decide +kernel) ?_
              refine lv_iadd hx hb dX12_well_80 ?_
              refine lv_topi (fun x_231 ex_231 => ?_)
              replace hF := hF.trans (ap_n ex_231)
              have h_232 : rg x_231 109 733 := rg_of_eq ex_231 (rg_add h_226 (rg_k (9 : Int32) 9 rfl) (by decide +kernel))
              have uh_232 := h_232.1
              have vh_232 := h_232.2
              have tx_231 : (x_231).toInt = (x_225).toInt + 9 := by rw [ex_231]; exact i_add_rg (a2 := (x_225).toInt) (b2 := 9) rfl rfl h_226 (rg_k (9 : Int32) 9 rfl) (by decide +kernel)
              refine lv_iload_n hx hb dX12_well_81 rfl (lv_at hl 4 rfl) ?_
              refine pt_i hx hb hK hP hD hS hL_w_227 hK_w_227 hN_w_227 (rg_in h_232 (by decide +kernel)) dX12_well_82 (fun r_233 H locs er_233 hP hD hS => ?_)
              replace hFr := fr_R hFr hO_w_227 (by decide +kernel) er_233
              replace hF := hF.trans (ap_n (vR_st hVT hO_w_227 (by decide +kernel) er_233))
              have hG := GM.wz hG hT_w_227 (by decide +kernel) er_233 (zn_CELL (c := a0.toNatClampNeg) (k := 9) (by have z_i := clampE x_231; have z_0 := clampE a0; omega) (rg_cl1 f_113 (by decide +kernel)) (by decide +kernel)) rfl (rg_w h_175 (by decide +kernel)) (by decide +kernel)
              refine lv_aload_n hx hb dX12_well_83 rfl (lv_at hl 1 rfl) ?_
              refine pg_f (v := .ref w_227) (C := RX12) (T := TX12) (N := 31) hx hb hts (tw_i inlX12) hown hK hP hL_this hK_this (by decide +kernel) rfl 0 (by decide +kernel) (hts _ (tw_c tw_176)) (pq_hv rfl hR_w_227) dX12_well_84 ?_
              refine lv_iload hx hb dX12_well_87 (lv_at hl 0 rfl) ?_
              refine lv_bipush (v := 10) hx hb dX12_well_89 (by decide +kernel) ?_
              refine lv_iadd hx hb dX12_well_91 ?_
              refine lv_topi (fun x_234 ex_234 => ?_)
              replace hF := hF.trans (ap_n ex_234)
              have h_235 : rg x_234 110 734 := rg_of_eq ex_234 (rg_add h_226 (rg_k (10 : Int32) 10 rfl) (by decide +kernel))
              have uh_235 := h_235.1
              have vh_235 := h_235.2
              have tx_234 : (x_234).toInt = (x_225).toInt + 10 := by rw [ex_234]; exact i_add_rg (a2 := (x_225).toInt) (b2 := 10) rfl rfl h_226 (rg_k (10 : Int32) 10 rfl) (by decide +kernel)
              refine lv_iload hx hb dX12_well_92 (lv_at hl 5 rfl) ?_
              refine pt_i hx hb hK hP hD hS hL_w_227 hK_w_227 hN_w_227 (rg_in h_235 (by decide +kernel)) dX12_well_94 (fun r_236 H locs er_236 hP hD hS => ?_)
              replace hFr := fr_R hFr hO_w_227 (by decide +kernel) er_236
              replace hF := hF.trans (ap_n (vR_st hVT hO_w_227 (by decide +kernel) er_236))
              have hG := GM.wz hG hT_w_227 (by decide +kernel) er_236 (zn_CELL (c := a0.toNatClampNeg) (k := 10) (by have z_i := clampE x_234; have z_0 := clampE a0; omega) (rg_cl1 f_113 (by decide +kernel)) (by decide +kernel)) rfl (rg_w h_206 (by decide +kernel)) (by decide +kernel)
              refine lv_iconst (v := 1) hx hb dX12_well_95 (by decide +kernel) ?_
              subst hQ
              exact W.zret (v := 1) hx hb hr (by decide +kernel) (fun t1 ht hW => ⟨⟨1, (σ, I, J, r_236, rj, rq), rfl, ⟨r_236, rfl, hG, (hF0.symm.trans hF), hFr, (Or.inl ⟨rfl, (rg_w f_113 (by decide +kernel)), (rg_w h_144 (by decide +kernel)), (rg_w h_175 (by decide +kernel)), (rg_w h_206 (by decide +kernel))⟩)⟩, by rw [ht]; exact hP, va_K.moved hW.alike hK, hD⟩, hS.F ht⟩) hS.2.2 dX12_well_96
            · replace hF := hF.trans (if_neg c_216)
              have tc_237 : 0 < (x_209).toInt := Int32.lt_iff_toInt_lt.mp (nle c_216)
              have h_238 : rg x_209 1 2147483647 := rg_lt2 (nle c_216) (rg_k (0 : Int32) 0 rfl) (rg_full _) (by decide +kernel)
              have uh_238 := h_238.1
              have vh_238 := h_238.2
              exact K_102 _ _ _ hF hFr hG hP hD hS (lv_sub hl [] rfl)
  exact go _ _ _ hP hD hS hl

set_option maxRecDepth 100000 in
def g_X12_cellAt_c7 (a0 : Int32) (I : Nat → Int32) (J : Nat → Int64) (ri : Nat → Nat → Int32) (rj : Nat → Nat → Int64) (rq : Nat → Nat → Option Nat) : Int32 × vM := (ap1 ((16 : Int32) * a0) fun (x_2 : Int32) => (ap1 ((100 : Int32) + x_2) fun (x_4 : Int32) => (ap1 (x_4 + (7 : Int32)) fun (x_6 : Int32) => (ap1 (ri 384 (x_6).toNatClampNeg) fun (x_8 : Int32) => (x_8, I, J, ri, rj, rq)))))
set_option maxRecDepth 100000 in
theorem g_X12_cellAt_c7_e {a0 : Int32} {I : Nat → Int32} {J : Nat → Int64} {ri : Nat → Nat → Int32} {rj : Nat → Nat → Int64} {rq : Nat → Nat → Option Nat} : g_X12_cellAt_c7 a0 I J ri rj rq = (ap1 ((16 : Int32) * a0) fun (x_2 : Int32) => (ap1 ((100 : Int32) + x_2) fun (x_4 : Int32) => (ap1 (x_4 + (7 : Int32)) fun (x_6 : Int32) => (ap1 (ri 384 (x_6).toNatClampNeg) fun (x_8 : Int32) => (x_8, I, J, ri, rj, rq))))) := rfl
set_option maxHeartbeats 4000000 in
set_option maxRecDepth 100000 in
theorem s_X12_cellAt_c7 (l : Launch) (D : va_G) (t : pq_T) (σ : pq_S) (I : Nat → Nat → Int32) (J : Nat → Nat → Int64) (ri : Nat → Nat → Int32) (rj : Nat → Nat → Int64) (rq : Nat → Nat → Option Nat) (sz : Nat) (tg : Nat → Nat) (hSH : SH σ tg) (hG0 : GT tg I ri) (this : Nat) (a0 : Int32) (hL_this : this ∈ σ.1) (hK_this : σ.2.1 this = 12) (h_a0 : rg a0 0 39) : MetI l yX12_cellAt (wa yX12_cellAt cX12_cellAt 3 (some .int)) ({ frames := 0, cells := 0, slots := 0, locals := 0 }) [.ref this, .int a0, .int 7] D t σ (I, J, ri, rj, rq) sz 0 0 (fun (r : Int32) (u : pq_S × pq_M) => u = (σ, I, J, ri, rj, rq) ∧ g_X12_cellAt_c7 a0 (vI 12 σ this I) (vJ 12 σ this J) (vR 12 σ this ri) (vL 12 σ this rj) (vQ 12 σ this rq) = (r, (vI 12 σ this I), (vJ 12 σ this J), (vR 12 σ this ri), (vL 12 σ this rj), (vQ 12 σ this rq))) := by
  refine Met.ofW (cc := cX12_cellAt) (maxL := 3) (ret := (some .int)) (by decide +kernel) rfl ?_
  intro p e s m args below meth c s₁ B hml hv
  obtain ⟨rfl, hsz, hP, hK, hD0, hN⟩ := hv
  have hx := B.exec
  have hb := B.bytes
  have hr := B.returns
  have hts := atoms_spec (ws := (wa yX12_cellAt cX12_cellAt 3 (some .int))) B.pre
  have hown : s.vm.findClass RX12 = some m.cls := findClass_of_methodNamed B.named
  have hlocks := B.notSynchronized
  subst hsz
  have hD : va_D (pq_B t σ (I, J, ri, rj, rq) s.heap.size) (pq_P t σ (I, J, ri, rj, rq)) := hD0.self
  generalize hAe : pq_B t σ (I, J, ri, rj, rq) s.heap.size = A at hD ⊢
  have hA : ∀ q : Nat, s.heap.size ≤ q → A q := fun q h => by rw [← hAe]; exact Or.inr h
  have hS : va_S A s.heap s.heap [] := va_S.rf
  have hG : GM [] tg σ I ri I ri rq := ⟨hG0, fun _ _ _ => rfl, fun _ _ _ _ _ => rfl, fun _ _ _ _ _ _ => rfl⟩
  have hl := lv_entry ([.ref this, .int a0, .int 7]) (n := 3) (Nat.le_of_ble_eq_true rfl)
  rw [lg_entry_eq]
  generalize (lg_sl ([.ref this, .int a0, .int 7]) ++ List.replicate (3 - (lg_sl ([.ref this, .int a0, .int 7])).length) Slot.unset).toArray = ls at hl ⊢
  have hl : lv_has ls 3 [(0, .ref this), (1, .int a0), (2, .int 7)] := hl
  refine q_gen (fun Q hQ => ?_)
  have go : ∀ (H : Heap) (locs : List Loc) (ls : Array Slot), va_P D vwCl (pq_P t σ (I, J, ri, rj, rq)) H → va_D A (pq_P t σ (I, J, ri, rj, rq)) → va_S A s.heap H locs → lv_has ls 3 [(0, .ref this), (1, .int a0), (2, .int 7)] → W p l e ({ frames := 0, cells := 0, slots := 0, locals := 0 } : Room) s m (List.toArray ([.ref this, .int a0, .int 7] : List Value)) below meth c H locs 0 0 Q (F0 m 0 ls []) := by
    intro H locs ls hP hD hS hl
    have hO_this : this = vo σ 12 this := rfl
    have hVT : VT 12 σ tg this := vt_12 hSH hL_this hK_this
    have hFr : FR 12 tg σ this (I, J, ri, rj, rq) (I, J, ri, rj, rq) := fr_rf
    obtain ⟨F, hF0⟩ : ∃ F, F = g_X12_cellAt_c7 a0 (vI 12 σ this I) (vJ 12 σ this J) (vR 12 σ this ri) (vL 12 σ this rj) (vQ 12 σ this rq) := ⟨_, rfl⟩
    have hF := hF0.trans g_X12_cellAt_c7_e
    refine lv_aload_n hx hb dX12_cellAt_0 rfl (lv_at hl 0 rfl) ?_
    obtain ⟨w_1, hR_w_1, hL_w_1, hK_w_1, hN_w_1, hT_w_1⟩ := sh_a hSH 384 (ci := 12) (kd := 13) (len := 12720) rfl (by decide +kernel) hL_this hK_this
    have hO_w_1 : w_1 = vrow σ 384 this := vo_k (c := 12) hO_this hR_w_1
    refine pg_f (v := .ref w_1) (C := RX12) (T := TX12) (N := 31) hx hb hts (tw_i inlX12) hown hK hP hL_this hK_this (by decide +kernel) rfl 0 (by decide +kernel) (hts _ (tw_c tw_176)) (pq_hv rfl hR_w_1) dX12_cellAt_1 ?_
    refine lv_bipush (v := 100) hx hb dX12_cellAt_4 (by decide +kernel) ?_
    refine lv_bipush (v := 16) hx hb dX12_cellAt_6 (by decide +kernel) ?_
    refine lv_iload_n hx hb dX12_cellAt_8 rfl (lv_at hl 1 rfl) ?_
    refine lv_imul hx hb dX12_cellAt_9 ?_
    refine lv_topi (fun x_2 ex_2 => ?_)
    replace hF := hF.trans (ap_n ex_2)
    have h_3 : rg x_2 0 624 := rg_of_eq ex_2 (rg_mul (rg_k (16 : Int32) 16 rfl) h_a0 (by decide +kernel))
    have uh_3 := h_3.1
    have vh_3 := h_3.2
    have tx_2 : (x_2).toInt = 16 * (a0).toInt := by rw [ex_2]; exact i_mul_rg (a2 := 16) (b2 := (a0).toInt) rfl rfl (rg_k (16 : Int32) 16 rfl) h_a0 (by decide +kernel)
    refine lv_iadd hx hb dX12_cellAt_10 ?_
    refine lv_topi (fun x_4 ex_4 => ?_)
    replace hF := hF.trans (ap_n ex_4)
    have h_5 : rg x_4 100 724 := rg_of_eq ex_4 (rg_add (rg_k (100 : Int32) 100 rfl) h_3 (by decide +kernel))
    have uh_5 := h_5.1
    have vh_5 := h_5.2
    have tx_4 : (x_4).toInt = 100 + (x_2).toInt := by rw [ex_4]; exact i_add_rg (a2 := 100) (b2 := (x_2).toInt) rfl rfl (rg_k (100 : Int32) 100 rfl) h_3 (by decide +kernel)
    refine lv_iload_n hx hb dX12_cellAt_11 rfl (lv_at hl 2 rfl) ?_
    refine lv_iadd hx hb dX12_cellAt_12 ?_
    refine lv_topi (fun x_6 ex_6 => ?_)
    replace hF := hF.trans (ap_n ex_6)
    have h_7 : rg x_6 107 731 := rg_of_eq ex_6 (rg_add h_5 (rg_k (7 : Int32) 7 rfl) (by decide +kernel))
    have uh_7 := h_7.1
    have vh_7 := h_7.2
    have tx_6 : (x_6).toInt = (x_4).toInt + 7 := by rw [ex_6]; exact i_add_rg (a2 := (x_4).toInt) (b2 := 7) rfl rfl h_5 (rg_k (7 : Int32) 7 rfl) (by decide +kernel)
    refine pl_i hx hb hK hP hL_w_1 hK_w_1 hN_w_1 (rg_in h_7 (by decide +kernel)) dX12_cellAt_13 ?_
    refine lv_topi (fun x_8 ex_8 => ?_)
    replace hF := hF.trans (ap_n (vR_r hO_w_1 (by decide +kernel) ex_8))
    subst hQ
    exact W.iret (v := x_8) hx hb hr (fun t1 ht hW => ⟨⟨x_8, (σ, I, J, ri, rj, rq), rfl, ⟨rfl, (hF0.symm.trans hF)⟩, by rw [ht]; exact hP, va_K.moved hW.alike hK, hD⟩, hS.F ht⟩) hS.2.2 dX12_cellAt_14
  exact go _ _ _ hP hD hS hl

set_option maxRecDepth 100000 in
def g_X12_beds_K26 (I : Nat → Int32) (J : Nat → Int64) (ri : Nat → Nat → Int32) (rj : Nat → Nat → Int64) (rq : Nat → Nat → Option Nat) : Int32 × vM := ((-1 : Int32), I, J, ri, rj, rq)
set_option maxRecDepth 100000 in
theorem g_X12_beds_K26_e {I : Nat → Int32} {J : Nat → Int64} {ri : Nat → Nat → Int32} {rj : Nat → Nat → Int64} {rq : Nat → Nat → Option Nat} : g_X12_beds_K26 I J ri rj rq  = ((-1 : Int32), I, J, ri, rj, rq) := rfl
set_option maxRecDepth 100000 in
def g_X12_beds (a0 : Int32) (a1 : Int32) (I : Nat → Int32) (J : Nat → Int64) (ri : Nat → Nat → Int32) (rj : Nat → Nat → Int64) (rq : Nat → Nat → Option Nat) : Int32 × vM := (bnI (g_X12_isCell a0 I J ri rj rq) fun (x_1 : Int32) (_ : Nat → Int32) (_ : Nat → Int64) (_ : Nat → Nat → Int32) (_ : Nat → Nat → Int64) (_ : Nat → Nat → Option Nat) => (if x_1 = (0 : Int32) then (g_X12_beds_K26 I J ri rj rq ) else (bnI (g_X12_cellAt_c7 a0 I J ri rj rq) fun (x_75 : Int32) (_ : Nat → Int32) (_ : Nat → Int64) (_ : Nat → Nat → Int32) (_ : Nat → Nat → Int64) (_ : Nat → Nat → Option Nat) => (ap1 ((20 : Int32) - x_75) fun (x_82 : Int32) => (ap1 (g_X12_isIn a1 (0 : Int32) x_82) fun (x_83 : Int32) => (if x_83 = (0 : Int32) then (g_X12_beds_K26 I J ri rj rq ) else (ap1 ((16 : Int32) * a0) fun (x_112 : Int32) => (ap1 ((100 : Int32) + x_112) fun (x_114 : Int32) => (ap1 (x_114 + (7 : Int32)) fun (x_116 : Int32) => (ap1 (ri 384 (x_116).toNatClampNeg) fun (x_118 : Int32) => (ap1 (x_118 + a1) fun (x_119 : Int32) => (ap1 (va_up ri 384 (upd (ri 384) (x_116).toNatClampNeg x_119)) fun (r_120 : Nat → Nat → Int32) => (bnI (g_X12_cellAt_c7 a0 I J r_120 rj rq) fun (x_121 : Int32) (_ : Nat → Int32) (_ : Nat → Int64) (_ : Nat → Nat → Int32) (_ : Nat → Nat → Int64) (_ : Nat → Nat → Option Nat) => (x_121, I, J, r_120, rj, rq))))))))))))))
set_option maxRecDepth 100000 in
theorem g_X12_beds_e {a0 : Int32} {a1 : Int32} {I : Nat → Int32} {J : Nat → Int64} {ri : Nat → Nat → Int32} {rj : Nat → Nat → Int64} {rq : Nat → Nat → Option Nat} : g_X12_beds a0 a1 I J ri rj rq = (bnI (g_X12_isCell a0 I J ri rj rq) fun (x_1 : Int32) (_ : Nat → Int32) (_ : Nat → Int64) (_ : Nat → Nat → Int32) (_ : Nat → Nat → Int64) (_ : Nat → Nat → Option Nat) => (if x_1 = (0 : Int32) then (g_X12_beds_K26 I J ri rj rq ) else (bnI (g_X12_cellAt_c7 a0 I J ri rj rq) fun (x_75 : Int32) (_ : Nat → Int32) (_ : Nat → Int64) (_ : Nat → Nat → Int32) (_ : Nat → Nat → Int64) (_ : Nat → Nat → Option Nat) => (ap1 ((20 : Int32) - x_75) fun (x_82 : Int32) => (ap1 (g_X12_isIn a1 (0 : Int32) x_82) fun (x_83 : Int32) => (if x_83 = (0 : Int32) then (g_X12_beds_K26 I J ri rj rq ) else (ap1 ((16 : Int32) * a0) fun (x_112 : Int32) => (ap1 ((100 : Int32) + x_112) fun (x_114 : Int32) => (ap1 (x_114 + (7 : Int32)) fun (x_116 : Int32) => (ap1 (ri 384 (x_116).toNatClampNeg) fun (x_118 : Int32) => (ap1 (x_118 + a1) fun (x_119 : Int32) => (ap1 (va_up ri 384 (upd (ri 384) (x_116).toNatClampNeg x_119)) fun (r_120 : Nat → Nat → Int32) => (bnI (g_X12_cellAt_c7 a0 I J r_120 rj rq) fun (x_121 : Int32) (_ : Nat → Int32) (_ : Nat → Int64) (_ : Nat → Nat → Int32) (_ : Nat → Nat → Int64) (_ : Nat → Nat → Option Nat) => (x_121, I, J, r_120, rj, rq)))))))))))))) := rfl
set_option maxHeartbeats 4000000 in
set_option maxRecDepth 100000 in
theorem s_X12_beds (l : Launch) (D : va_G) (t : pq_T) (σ : pq_S) (I : Nat → Nat → Int32) (J : Nat → Nat → Int64) (ri : Nat → Nat → Int32) (rj : Nat → Nat → Int64) (rq : Nat → Nat → Option Nat) (sz : Nat) (tg : Nat → Nat) (hSH : SH σ tg) (hG0 : GT tg I ri) (this : Nat) (a0 : Int32) (a1 : Int32) (hL_this : this ∈ σ.1) (hK_this : σ.2.1 this = 12) : MetI l yX12_beds (wa yX12_beds cX12_beds 3 (some .int)) ({ frames := 2, cells := 0, slots := 0, locals := 43 }) [.ref this, .int a0, .int a1] D t σ (I, J, ri, rj, rq) sz 0 0 (fun (r : Int32) (u : pq_S × pq_M) => ∃ ri' : Nat → Nat → Int32, u = (σ, I, J, ri', rj, rq) ∧ GM [] tg σ I ri I ri' rq ∧ g_X12_beds a0 a1 (vI 12 σ this I) (vJ 12 σ this J) (vR 12 σ this ri) (vL 12 σ this rj) (vQ 12 σ this rq) = (r, (vI 12 σ this I), (vJ 12 σ this J), (vR 12 σ this ri'), (vL 12 σ this rj), (vQ 12 σ this rq)) ∧ FR 12 tg σ this (I, J, ri, rj, rq) (I, J, ri', rj, rq)) := by
  refine Met.ofW (cc := cX12_beds) (maxL := 3) (ret := (some .int)) (by decide +kernel) rfl ?_
  intro p e s m args below meth c s₁ B hml hv
  obtain ⟨rfl, hsz, hP, hK, hD0, hN⟩ := hv
  have hx := B.exec
  have hb := B.bytes
  have hr := B.returns
  have hts := atoms_spec (ws := (wa yX12_beds cX12_beds 3 (some .int))) B.pre
  have hown : s.vm.findClass RX12 = some m.cls := findClass_of_methodNamed B.named
  have hlocks := B.notSynchronized
  subst hsz
  have hD : va_D (pq_B t σ (I, J, ri, rj, rq) s.heap.size) (pq_P t σ (I, J, ri, rj, rq)) := hD0.self
  generalize hAe : pq_B t σ (I, J, ri, rj, rq) s.heap.size = A at hD ⊢
  have hA : ∀ q : Nat, s.heap.size ≤ q → A q := fun q h => by rw [← hAe]; exact Or.inr h
  have hS : va_S A s.heap s.heap [] := va_S.rf
  have hG : GM [] tg σ I ri I ri rq := ⟨hG0, fun _ _ _ => rfl, fun _ _ _ _ _ => rfl, fun _ _ _ _ _ _ => rfl⟩
  have hl := lv_entry ([.ref this, .int a0, .int a1]) (n := 3) (Nat.le_of_ble_eq_true rfl)
  rw [lg_entry_eq]
  generalize (lg_sl ([.ref this, .int a0, .int a1]) ++ List.replicate (3 - (lg_sl ([.ref this, .int a0, .int a1])).length) Slot.unset).toArray = ls at hl ⊢
  have hl : lv_has ls 3 [(0, .ref this), (1, .int a0), (2, .int a1)] := hl
  refine q_gen (fun Q hQ => ?_)
  have go : ∀ (H : Heap) (locs : List Loc) (ls : Array Slot), va_P D vwCl (pq_P t σ (I, J, ri, rj, rq)) H → va_D A (pq_P t σ (I, J, ri, rj, rq)) → va_S A s.heap H locs → lv_has ls 3 [(0, .ref this), (1, .int a0), (2, .int a1)] → W p l e ({ frames := 2, cells := 0, slots := 0, locals := 43 } : Room) s m (List.toArray ([.ref this, .int a0, .int a1] : List Value)) below meth c H locs 0 0 Q (F0 m 0 ls []) := by
    intro H locs ls hP hD hS hl
    have hO_this : this = vo σ 12 this := rfl
    have hVT : VT 12 σ tg this := vt_12 hSH hL_this hK_this
    have hFr : FR 12 tg σ this (I, J, ri, rj, rq) (I, J, ri, rj, rq) := fr_rf
    obtain ⟨F, hF0⟩ : ∃ F, F = g_X12_beds a0 a1 (vI 12 σ this I) (vJ 12 σ this J) (vR 12 σ this ri) (vL 12 σ this rj) (vQ 12 σ this rq) := ⟨_, rfl⟩
    have hF := hF0.trans g_X12_beds_e
    refine lv_aload_n hx hb dX12_beds_0 rfl (lv_at hl 0 rfl) ?_
    refine lv_iload_n hx hb dX12_beds_1 rfl (lv_at hl 1 rfl) ?_
    refine pk_i (va_runV (As := [.int a0]) (rest := []) ⟨hx, hb, hml, hown, hts⟩ (s_X12_isCell l D t σ I J ri rj rq H.size tg hSH hG.1 this a0 hL_this hK_this) (cwV 1 hts (tw_V tw_340 tw_341 tw_342 tw_5 tw_343) rfl rfl rfl cv_yX12_isCell_1 ⟨Nat.le_of_ble_eq_true rfl, Nat.le_of_ble_eq_true rfl⟩) ⟨pq_blind, pq_recv hK hP hL_this hK_this (by decide +kernel) rfl, pq_pre hK hN hP hD⟩ rfl rfl hl.1 rfl (lv_room (Nat.le_of_ble_eq_true rfl)) dX12_beds_2 ⟨Nat.le_of_ble_eq_true rfl, Nat.le_of_ble_eq_true rfl⟩) hD hS hA (fun x_1 σ1 μ1 H locs hw_2 hP hD hS => ?_)
    obtain ⟨hu_3, hfn_6, hr_5⟩ := hw_2
    obtain ⟨hu_3a, hu_3b⟩ := Prod.mk.inj hu_3
    rw [hu_3a, hu_3b] at hP hD
    replace hF := hF.trans (bn_n hfn_6)
    have h_8 : rg x_1 0 1 := by rcases hr_5 with ⟨q, -⟩ | ⟨q, -⟩ <;> rw [q] <;> exact ⟨by decide +kernel, by decide +kernel⟩
    have uh_8 := h_8.1
    have vh_8 := h_8.2
    have K_61 : ∀  (H : Heap) (locs : List Loc) (ls : Array Slot), F = g_X12_beds_K26 (vI 12 σ this I) (vJ 12 σ this J) (vR 12 σ this ri) (vL 12 σ this rj) (vQ 12 σ this rq)  → FR 12 tg σ this (I, J, ri, rj, rq) (I, J, ri, rj, rq) → GM [] tg σ I ri I ri rq → va_P D vwCl (pq_P t σ (I, J, ri, rj, rq)) H → va_D A (pq_P t σ (I, J, ri, rj, rq)) → va_S A s.heap H locs → lv_has ls 3 [] → W p l e ({ frames := 2, cells := 0, slots := 0, locals := 43 } : Room) s m (List.toArray ([.ref this, .int a0, .int a1] : List Value)) below meth c H locs 0 0 Q (F0 m 26 ls []) := by
      intro H locs ls hF hFr hG hP hD hS hl
      replace hF := hF.trans g_X12_beds_K26_e
      refine lv_iconst (v := (-1)) hx hb dX12_beds_26 (by decide +kernel) ?_
      subst hQ
      exact W.iret (v := (-1)) hx hb hr (fun t1 ht hW => ⟨⟨(-1), (σ, I, J, ri, rj, rq), rfl, ⟨ri, rfl, hG, (hF0.symm.trans hF), hFr⟩, by rw [ht]; exact hP, va_K.moved hW.alike hK, hD⟩, hS.F ht⟩) hS.2.2 dX12_beds_27
    refine lv_if_eq (tgt := 26) hx hb dX12_beds_5 (by decide +kernel) (fun c_62 => ?_) (fun c_62 => ?_)
    · replace hF := hF.trans (if_pos c_62)
      have f_69 := (hr_5.resolve_left (fun q => absurd (q.1.symm.trans c_62) (by decide +kernel))).2
      have tc_70 : (x_1).toInt = 0 := congrArg Int32.toInt c_62
      have h_71 : rg x_1 0 0 := rg_and h_8 (rg_of_eq c_62 (rg_k (0 : Int32) 0 rfl)) (by decide +kernel)
      have uh_71 := h_71.1
      have vh_71 := h_71.2
      exact K_61 _ _ _ hF hFr hG hP hD hS (lv_sub hl [] rfl)
    · replace hF := hF.trans (if_neg c_62)
      have f_72 := (hr_5.resolve_right (fun q => c_62 q.1)).2
      have uf_72 := f_72.1
      have vf_72 := f_72.2
      have tc_73 : (x_1).toInt ≠ 0 := fun q => c_62 (Int32.toInt_inj.mp q)
      have h_74 : rg x_1 1 1 := rg_ne c_62 h_8 0 rfl (by decide +kernel)
      have uh_74 := h_74.1
      have vh_74 := h_74.2
      refine lv_iload_n hx hb dX12_beds_8 rfl (lv_at hl 2 rfl) ?_
      refine lv_iconst (v := 0) hx hb dX12_beds_9 (by decide +kernel) ?_
      refine lv_bipush (v := 20) hx hb dX12_beds_10 (by decide +kernel) ?_
      refine lv_aload_n hx hb dX12_beds_12 rfl (lv_at hl 0 rfl) ?_
      refine lv_iload_n hx hb dX12_beds_13 rfl (lv_at hl 1 rfl) ?_
      refine lv_bipush (v := 7) hx hb dX12_beds_14 (by decide +kernel) ?_
      refine pk_i (va_runV (As := [.int a0, .int 7]) (rest := [.int 20, .int 0, .int a1]) ⟨hx, hb, hml, hown, hts⟩ (s_X12_cellAt_c7 l D t σ I J ri rj rq H.size tg hSH hG.1 this a0 hL_this hK_this (rg_w f_72 (by decide +kernel))) (cwV 2 hts (tw_V tw_361 tw_362 tw_363 tw_5 tw_364) rfl rfl rfl cv_yX12_cellAt_2 ⟨Nat.le_of_ble_eq_true rfl, Nat.le_of_ble_eq_true rfl⟩) ⟨pq_blind, pq_recv hK hP hL_this hK_this (by decide +kernel) rfl, pq_pre hK hN hP hD⟩ rfl rfl hl.1 rfl (lv_room (Nat.le_of_ble_eq_true rfl)) dX12_beds_16 ⟨Nat.le_of_ble_eq_true rfl, Nat.le_of_ble_eq_true rfl⟩) hD hS hA (fun x_75 σ1 μ1 H locs hw_76 hP hD hS => ?_)
      obtain ⟨hu_77, hfn_80⟩ := hw_76
      obtain ⟨hu_77a, hu_77b⟩ := Prod.mk.inj hu_77
      rw [hu_77a, hu_77b] at hP hD
      replace hF := hF.trans (bn_n hfn_80)
      refine lv_isub hx hb dX12_beds_19 ?_
      refine lv_topi (fun x_82 ex_82 => ?_)
      replace hF := hF.trans (ap_n ex_82)
      refine pk_i (va_runS (As := [.int a1, .int 0, .int x_82]) (rest := []) ⟨hx, hb, hml, hown, hts⟩ (s_X12_isIn l D t σ I J ri rj rq H.size tg hSH hG.1 a1 (0 : Int32) x_82) (va_cwS 3 hts (tw_S tw_235 tw_236 tw_5 tw_237) rfl rfl rfl cd_yX12_isIn_3 ⟨Nat.le_of_ble_eq_true rfl, Nat.le_of_ble_eq_true rfl⟩) ⟨pq_blind, pq_pre hK hN hP hD⟩ rfl rfl hl.1 rfl (lv_room (Nat.le_of_ble_eq_true rfl)) dX12_beds_20 ⟨Nat.le_of_ble_eq_true rfl, Nat.le_of_ble_eq_true rfl⟩) hD hS hA (fun x_83 σ1 μ1 H locs hw_84 hP hD hS => ?_)
      obtain ⟨hu_85, hfn_88, hr_87⟩ := hw_84
      obtain ⟨hu_85a, hu_85b⟩ := Prod.mk.inj hu_85
      rw [hu_85a, hu_85b] at hP hD
      replace hF := hF.trans (ap_n hfn_88.symm)
      have h_90 : rg x_83 0 1 := by rcases hr_87 with ⟨q, -⟩ | ⟨q, -⟩ <;> rw [q] <;> exact ⟨by decide +kernel, by decide +kernel⟩
      have uh_90 := h_90.1
      have vh_90 := h_90.2
      refine lv_if_ne (tgt := 28) hx hb dX12_beds_23 (by decide +kernel) (fun c_91 => ?_) (fun c_91 => ?_)
      · replace hF := hF.trans (if_neg c_91)
        obtain ⟨f_103, f_104⟩ := (hr_87.resolve_right (fun q => c_91 q.1)).2
        have tc_105 : 0 ≤ (a1).toInt := Int32.le_iff_toInt_le.mp f_103
        have h_106 : rg a1 0 2147483647 := rg_le2 f_103 (rg_k (0 : Int32) 0 rfl) (rg_full _) (by decide +kernel)
        have uh_106 := h_106.1
        have vh_106 := h_106.2
        have tc_107 : (a1).toInt ≤ (x_82).toInt := Int32.le_iff_toInt_le.mp f_104
        have h_108 : rg x_82 0 2147483647 := rg_le2 f_104 h_106 (rg_full _) (by decide +kernel)
        have uh_108 := h_108.1
        have vh_108 := h_108.2
        have tc_109 : (x_83).toInt ≠ 0 := fun q => c_91 (Int32.toInt_inj.mp q)
        have h_110 : rg x_83 1 1 := rg_ne c_91 h_90 0 rfl (by decide +kernel)
        have uh_110 := h_110.1
        have vh_110 := h_110.2
        refine lv_aload_n hx hb dX12_beds_28 rfl (lv_at hl 0 rfl) ?_
        obtain ⟨w_111, hR_w_111, hL_w_111, hK_w_111, hN_w_111, hT_w_111⟩ := sh_a hSH 384 (ci := 12) (kd := 13) (len := 12720) rfl (by decide +kernel) hL_this hK_this
        have hO_w_111 : w_111 = vrow σ 384 this := vo_k (c := 12) hO_this hR_w_111
        refine pg_f (v := .ref w_111) (C := RX12) (T := TX12) (N := 31) hx hb hts (tw_i inlX12) hown hK hP hL_this hK_this (by decide +kernel) rfl 0 (by decide +kernel) (hts _ (tw_c tw_176)) (pq_hv rfl hR_w_111) dX12_beds_29 ?_
        refine lv_bipush (v := 100) hx hb dX12_beds_32 (by decide +kernel) ?_
        refine lv_bipush (v := 16) hx hb dX12_beds_34 (by decide +kernel) ?_
        refine lv_iload_n hx hb dX12_beds_36 rfl (lv_at hl 1 rfl) ?_
        refine lv_imul hx hb dX12_beds_37 ?_
        refine lv_topi (fun x_112 ex_112 => ?_)
        replace hF := hF.trans (ap_n ex_112)
        have h_113 : rg x_112 0 624 := rg_of_eq ex_112 (rg_mul (rg_k (16 : Int32) 16 rfl) f_72 (by decide +kernel))
        have uh_113 := h_113.1
        have vh_113 := h_113.2
        have tx_112 : (x_112).toInt = 16 * (a0).toInt := by rw [ex_112]; exact i_mul_rg (a2 := 16) (b2 := (a0).toInt) rfl rfl (rg_k (16 : Int32) 16 rfl) f_72 (by decide +kernel)
        refine lv_iadd hx hb dX12_beds_38 ?_
        refine lv_topi (fun x_114 ex_114 => ?_)
        replace hF := hF.trans (ap_n ex_114)
        have h_115 : rg x_114 100 724 := rg_of_eq ex_114 (rg_add (rg_k (100 : Int32) 100 rfl) h_113 (by decide +kernel))
        have uh_115 := h_115.1
        have vh_115 := h_115.2
        have tx_114 : (x_114).toInt = 100 + (x_112).toInt := by rw [ex_114]; exact i_add_rg (a2 := 100) (b2 := (x_112).toInt) rfl rfl (rg_k (100 : Int32) 100 rfl) h_113 (by decide +kernel)
        refine lv_bipush (v := 7) hx hb dX12_beds_39 (by decide +kernel) ?_
        refine lv_iadd hx hb dX12_beds_41 ?_
        refine lv_topi (fun x_116 ex_116 => ?_)
        replace hF := hF.trans (ap_n ex_116)
        have h_117 : rg x_116 107 731 := rg_of_eq ex_116 (rg_add h_115 (rg_k (7 : Int32) 7 rfl) (by decide +kernel))
        have uh_117 := h_117.1
        have vh_117 := h_117.2
        have tx_116 : (x_116).toInt = (x_114).toInt + 7 := by rw [ex_116]; exact i_add_rg (a2 := (x_114).toInt) (b2 := 7) rfl rfl h_115 (rg_k (7 : Int32) 7 rfl) (by decide +kernel)
        refine lv_dup2_11 hx hb dX12_beds_42 rfl rfl ?_
        refine pl_i hx hb hK hP hL_w_111 hK_w_111 hN_w_111 (rg_in h_117 (by decide +kernel)) dX12_beds_43 ?_
        refine lv_topi (fun x_118 ex_118 => ?_)
        replace hF := hF.trans (ap_n (vR_r hO_w_111 (by decide +kernel) ex_118))
        refine lv_iload_n hx hb dX12_beds_44 rfl (lv_at hl 2 rfl) ?_
        refine lv_iadd hx hb dX12_beds_45 ?_
        refine lv_topi (fun x_119 ex_119 => ?_)
        replace hF := hF.trans (ap_n ex_119)
        refine pt_i hx hb hK hP hD hS hL_w_111 hK_w_111 hN_w_111 (rg_in h_117 (by decide +kernel)) dX12_beds_46 (fun r_120 H locs er_120 hP hD hS => ?_)
        replace hFr := fr_R hFr hO_w_111 (by decide +kernel) er_120
        replace hF := hF.trans (ap_n (vR_st hVT hO_w_111 (by decide +kernel) er_120))
        have hG := GM.wz hG hT_w_111 (by decide +kernel) er_120 (zn_CELL (c := a0.toNatClampNeg) (k := 7) (by have z_i := clampE x_116; have z_0 := clampE a0; omega) (rg_cl1 f_72 (by decide +kernel)) (by decide +kernel)) rfl (rg_w (rg_full _) (by decide +kernel)) (by decide +kernel)
        refine lv_aload_n hx hb dX12_beds_47 rfl (lv_at hl 0 rfl) ?_
        refine lv_iload_n hx hb dX12_beds_48 rfl (lv_at hl 1 rfl) ?_
        refine lv_bipush (v := 7) hx hb dX12_beds_49 (by decide +kernel) ?_
        refine pk_i (va_runV (As := [.int a0, .int 7]) (rest := []) ⟨hx, hb, hml, hown, hts⟩ (s_X12_cellAt_c7 l D t σ I J r_120 rj rq H.size tg hSH hG.1 this a0 hL_this hK_this (rg_w f_72 (by decide +kernel))) (cwV 2 hts (tw_V tw_361 tw_362 tw_363 tw_5 tw_364) rfl rfl rfl cv_yX12_cellAt_2 ⟨Nat.le_of_ble_eq_true rfl, Nat.le_of_ble_eq_true rfl⟩) ⟨pq_blind, pq_recv hK hP hL_this hK_this (by decide +kernel) rfl, pq_pre hK hN hP hD⟩ rfl rfl hl.1 rfl (lv_room (Nat.le_of_ble_eq_true rfl)) dX12_beds_51 ⟨Nat.le_of_ble_eq_true rfl, Nat.le_of_ble_eq_true rfl⟩) hD hS hA (fun x_121 σ1 μ1 H locs hw_122 hP hD hS => ?_)
        obtain ⟨hu_123, hfn_126⟩ := hw_122
        obtain ⟨hu_123a, hu_123b⟩ := Prod.mk.inj hu_123
        rw [hu_123a, hu_123b] at hP hD
        replace hF := hF.trans (bn_n hfn_126)
        subst hQ
        exact W.iret (v := x_121) hx hb hr (fun t1 ht hW => ⟨⟨x_121, (σ, I, J, r_120, rj, rq), rfl, ⟨r_120, rfl, hG, (hF0.symm.trans hF), hFr⟩, by rw [ht]; exact hP, va_K.moved hW.alike hK, hD⟩, hS.F ht⟩) hS.2.2 dX12_beds_54
      · replace hF := hF.trans (if_pos c_91)
        have f_128 := (hr_87.resolve_left (fun q => absurd (q.1.symm.trans c_91) (by decide +kernel))).2
        have tc_129 : (x_83).toInt = 0 := congrArg Int32.toInt c_91
        have h_130 : rg x_83 0 0 := rg_and h_90 (rg_of_eq c_91 (rg_k (0 : Int32) 0 rfl)) (by decide +kernel)
        have uh_130 := h_130.1
        have vh_130 := h_130.2
        exact K_61 _ _ _ hF hFr hG hP hD hS (lv_sub hl [] rfl)
  exact go _ _ _ hP hD hS hl

set_option maxRecDepth 100000 in
def g_X12_lot_K20 (I : Nat → Int32) (J : Nat → Int64) (ri : Nat → Nat → Int32) (rj : Nat → Nat → Int64) (rq : Nat → Nat → Option Nat) : Int32 × vM := ((-1 : Int32), I, J, ri, rj, rq)
set_option maxRecDepth 100000 in
theorem g_X12_lot_K20_e {I : Nat → Int32} {J : Nat → Int64} {ri : Nat → Nat → Int32} {rj : Nat → Nat → Int64} {rq : Nat → Nat → Option Nat} : g_X12_lot_K20 I J ri rj rq  = ((-1 : Int32), I, J, ri, rj, rq) := rfl
set_option maxRecDepth 100000 in
def g_X12_lot (a0 : Int32) (I : Nat → Int32) (J : Nat → Int64) (ri : Nat → Nat → Int32) (rj : Nat → Nat → Int64) (rq : Nat → Nat → Option Nat) : Int32 × vM := (ap1 (g_X12_isIn a0 (0 : Int32) (60 : Int32)) fun (x_1 : Int32) => (if x_1 = (0 : Int32) then (g_X12_lot_K20 I J ri rj rq ) else (ap1 (ri 384 ((4 : Int32)).toNatClampNeg) fun (x_64 : Int32) => (if x_64 = (5 : Int32) then (g_X12_lot_K20 I J ri rj rq ) else (ap1 ((80 : Int32) + x_64) fun (x_73 : Int32) => (ap1 (va_up ri 384 (upd (ri 384) (x_73).toNatClampNeg a0)) fun (r_75 : Nat → Nat → Int32) => (ap1 (x_64 + (1 : Int32)) fun (x_77 : Int32) => (ap1 (va_up r_75 384 (upd (r_75 384) ((4 : Int32)).toNatClampNeg x_77)) fun (r_79 : Nat → Nat → Int32) => (ap1 (x_77 - (1 : Int32)) fun (x_81 : Int32) => (x_81, I, J, r_79, rj, rq))))))))))
set_option maxRecDepth 100000 in
theorem g_X12_lot_e {a0 : Int32} {I : Nat → Int32} {J : Nat → Int64} {ri : Nat → Nat → Int32} {rj : Nat → Nat → Int64} {rq : Nat → Nat → Option Nat} : g_X12_lot a0 I J ri rj rq = (ap1 (g_X12_isIn a0 (0 : Int32) (60 : Int32)) fun (x_1 : Int32) => (if x_1 = (0 : Int32) then (g_X12_lot_K20 I J ri rj rq ) else (ap1 (ri 384 ((4 : Int32)).toNatClampNeg) fun (x_64 : Int32) => (if x_64 = (5 : Int32) then (g_X12_lot_K20 I J ri rj rq ) else (ap1 ((80 : Int32) + x_64) fun (x_73 : Int32) => (ap1 (va_up ri 384 (upd (ri 384) (x_73).toNatClampNeg a0)) fun (r_75 : Nat → Nat → Int32) => (ap1 (x_64 + (1 : Int32)) fun (x_77 : Int32) => (ap1 (va_up r_75 384 (upd (r_75 384) ((4 : Int32)).toNatClampNeg x_77)) fun (r_79 : Nat → Nat → Int32) => (ap1 (x_77 - (1 : Int32)) fun (x_81 : Int32) => (x_81, I, J, r_79, rj, rq)))))))))) := rfl
set_option maxHeartbeats 4000000 in
set_option maxRecDepth 100000 in
theorem s_X12_lot (l : Launch) (D : va_G) (t : pq_T) (σ : pq_S) (I : Nat → Nat → Int32) (J : Nat → Nat → Int64) (ri : Nat → Nat → Int32) (rj : Nat → Nat → Int64) (rq : Nat → Nat → Option Nat) (sz : Nat) (tg : Nat → Nat) (hSH : SH σ tg) (hG0 : GT tg I ri) (this : Nat) (a0 : Int32) (hL_this : this ∈ σ.1) (hK_this : σ.2.1 this = 12) : MetI l yX12_lot (wa yX12_lot cX12_lot 2 (some .int)) ({ frames := 1, cells := 0, slots := 0, locals := 22 }) [.ref this, .int a0] D t σ (I, J, ri, rj, rq) sz 0 0 (fun (r : Int32) (u : pq_S × pq_M) => ∃ ri' : Nat → Nat → Int32, u = (σ, I, J, ri', rj, rq) ∧ GM [1004] tg σ I ri I ri' rq ∧ g_X12_lot a0 (vI 12 σ this I) (vJ 12 σ this J) (vR 12 σ this ri) (vL 12 σ this rj) (vQ 12 σ this rq) = (r, (vI 12 σ this I), (vJ 12 σ this J), (vR 12 σ this ri'), (vL 12 σ this rj), (vQ 12 σ this rq)) ∧ FR 12 tg σ this (I, J, ri, rj, rq) (I, J, ri', rj, rq) ∧ rg r (-1) 4) := by
  refine Met.ofW (cc := cX12_lot) (maxL := 2) (ret := (some .int)) (by decide +kernel) rfl ?_
  intro p e s m args below meth c s₁ B hml hv
  obtain ⟨rfl, hsz, hP, hK, hD0, hN⟩ := hv
  have hx := B.exec
  have hb := B.bytes
  have hr := B.returns
  have hts := atoms_spec (ws := (wa yX12_lot cX12_lot 2 (some .int))) B.pre
  have hown : s.vm.findClass RX12 = some m.cls := findClass_of_methodNamed B.named
  have hlocks := B.notSynchronized
  subst hsz
  have hD : va_D (pq_B t σ (I, J, ri, rj, rq) s.heap.size) (pq_P t σ (I, J, ri, rj, rq)) := hD0.self
  generalize hAe : pq_B t σ (I, J, ri, rj, rq) s.heap.size = A at hD ⊢
  have hA : ∀ q : Nat, s.heap.size ≤ q → A q := fun q h => by rw [← hAe]; exact Or.inr h
  have hS : va_S A s.heap s.heap [] := va_S.rf
  have hG : GM [1004] tg σ I ri I ri rq := ⟨hG0, fun _ _ _ => rfl, fun _ _ _ _ _ => rfl, fun _ _ _ _ _ _ => rfl⟩
  have hl := lv_entry ([.ref this, .int a0]) (n := 2) (Nat.le_of_ble_eq_true rfl)
  rw [lg_entry_eq]
  generalize (lg_sl ([.ref this, .int a0]) ++ List.replicate (2 - (lg_sl ([.ref this, .int a0])).length) Slot.unset).toArray = ls at hl ⊢
  have hl : lv_has ls 2 [(0, .ref this), (1, .int a0)] := hl
  refine q_gen (fun Q hQ => ?_)
  have go : ∀ (H : Heap) (locs : List Loc) (ls : Array Slot), va_P D vwCl (pq_P t σ (I, J, ri, rj, rq)) H → va_D A (pq_P t σ (I, J, ri, rj, rq)) → va_S A s.heap H locs → lv_has ls 2 [(0, .ref this), (1, .int a0)] → W p l e ({ frames := 1, cells := 0, slots := 0, locals := 22 } : Room) s m (List.toArray ([.ref this, .int a0] : List Value)) below meth c H locs 0 0 Q (F0 m 0 ls []) := by
    intro H locs ls hP hD hS hl
    have hO_this : this = vo σ 12 this := rfl
    have hVT : VT 12 σ tg this := vt_12 hSH hL_this hK_this
    have hFr : FR 12 tg σ this (I, J, ri, rj, rq) (I, J, ri, rj, rq) := fr_rf
    obtain ⟨F, hF0⟩ : ∃ F, F = g_X12_lot a0 (vI 12 σ this I) (vJ 12 σ this J) (vR 12 σ this ri) (vL 12 σ this rj) (vQ 12 σ this rq) := ⟨_, rfl⟩
    have hF := hF0.trans g_X12_lot_e
    refine lv_iload_n hx hb dX12_lot_0 rfl (lv_at hl 1 rfl) ?_
    refine lv_iconst (v := 0) hx hb dX12_lot_1 (by decide +kernel) ?_
    refine lv_bipush (v := 60) hx hb dX12_lot_2 (by decide +kernel) ?_
    refine pk_i (va_runS (As := [.int a0, .int 0, .int 60]) (rest := []) ⟨hx, hb, hml, hown, hts⟩ (s_X12_isIn l D t σ I J ri rj rq H.size tg hSH hG.1 a0 (0 : Int32) (60 : Int32)) (va_cwS 3 hts (tw_S tw_235 tw_236 tw_5 tw_237) rfl rfl rfl cd_yX12_isIn_3 ⟨Nat.le_of_ble_eq_true rfl, Nat.le_of_ble_eq_true rfl⟩) ⟨pq_blind, pq_pre hK hN hP hD⟩ rfl rfl hl.1 rfl (lv_room (Nat.le_of_ble_eq_true rfl)) dX12_lot_4 ⟨Nat.le_of_ble_eq_true rfl, Nat.le_of_ble_eq_true rfl⟩) hD hS hA (fun x_1 σ1 μ1 H locs hw_2 hP hD hS => ?_)
    obtain ⟨hu_3, hfn_6, hr_5⟩ := hw_2
    obtain ⟨hu_3a, hu_3b⟩ := Prod.mk.inj hu_3
    rw [hu_3a, hu_3b] at hP hD
    replace hF := hF.trans (ap_n hfn_6.symm)
    have h_8 : rg x_1 0 1 := by rcases hr_5 with ⟨q, -⟩ | ⟨q, -⟩ <;> rw [q] <;> exact ⟨by decide +kernel, by decide +kernel⟩
    have uh_8 := h_8.1
    have vh_8 := h_8.2
    have K_39 : ∀  (H : Heap) (locs : List Loc) (ls : Array Slot), F = g_X12_lot_K20 (vI 12 σ this I) (vJ 12 σ this J) (vR 12 σ this ri) (vL 12 σ this rj) (vQ 12 σ this rq)  → FR 12 tg σ this (I, J, ri, rj, rq) (I, J, ri, rj, rq) → GM [1004] tg σ I ri I ri rq → va_P D vwCl (pq_P t σ (I, J, ri, rj, rq)) H → va_D A (pq_P t σ (I, J, ri, rj, rq)) → va_S A s.heap H locs → lv_has ls 2 [] → W p l e ({ frames := 1, cells := 0, slots := 0, locals := 22 } : Room) s m (List.toArray ([.ref this, .int a0] : List Value)) below meth c H locs 0 0 Q (F0 m 20 ls []) := by
      intro H locs ls hF hFr hG hP hD hS hl
      replace hF := hF.trans g_X12_lot_K20_e
      refine lv_iconst (v := (-1)) hx hb dX12_lot_20 (by decide +kernel) ?_
      subst hQ
      exact W.iret (v := (-1)) hx hb hr (fun t1 ht hW => ⟨⟨(-1), (σ, I, J, ri, rj, rq), rfl, ⟨ri, rfl, hG, (hF0.symm.trans hF), hFr, (rg_w (rg_k (-1 : Int32) (-1) rfl) (by decide +kernel))⟩, by rw [ht]; exact hP, va_K.moved hW.alike hK, hD⟩, hS.F ht⟩) hS.2.2 dX12_lot_21
    refine lv_if_eq (tgt := 20) hx hb dX12_lot_7 (by decide +kernel) (fun c_40 => ?_) (fun c_40 => ?_)
    · replace hF := hF.trans (if_pos c_40)
      have f_52 := (hr_5.resolve_left (fun q => absurd (q.1.symm.trans c_40) (by decide +kernel))).2
      have tc_53 : (x_1).toInt = 0 := congrArg Int32.toInt c_40
      have h_54 : rg x_1 0 0 := rg_and h_8 (rg_of_eq c_40 (rg_k (0 : Int32) 0 rfl)) (by decide +kernel)
      have uh_54 := h_54.1
      have vh_54 := h_54.2
      exact K_39 _ _ _ hF hFr hG hP hD hS (lv_sub hl [] rfl)
    · replace hF := hF.trans (if_neg c_40)
      obtain ⟨f_55, f_56⟩ := (hr_5.resolve_right (fun q => c_40 q.1)).2
      have tc_57 : 0 ≤ (a0).toInt := Int32.le_iff_toInt_le.mp f_55
      have h_58 : rg a0 0 2147483647 := rg_le2 f_55 (rg_k (0 : Int32) 0 rfl) (rg_full _) (by decide +kernel)
      have uh_58 := h_58.1
      have vh_58 := h_58.2
      have tc_59 : (a0).toInt ≤ 60 := Int32.le_iff_toInt_le.mp f_56
      have h_60 : rg a0 0 60 := rg_le1 f_56 h_58 (rg_k (60 : Int32) 60 rfl) (by decide +kernel)
      have uh_60 := h_60.1
      have vh_60 := h_60.2
      have tc_61 : (x_1).toInt ≠ 0 := fun q => c_40 (Int32.toInt_inj.mp q)
      have h_62 : rg x_1 1 1 := rg_ne c_40 h_8 0 rfl (by decide +kernel)
      have uh_62 := h_62.1
      have vh_62 := h_62.2
      refine lv_aload_n hx hb dX12_lot_10 rfl (lv_at hl 0 rfl) ?_
      obtain ⟨w_63, hR_w_63, hL_w_63, hK_w_63, hN_w_63, hT_w_63⟩ := sh_a hSH 384 (ci := 12) (kd := 13) (len := 12720) rfl (by decide +kernel) hL_this hK_this
      have hO_w_63 : w_63 = vrow σ 384 this := vo_k (c := 12) hO_this hR_w_63
      refine pg_f (v := .ref w_63) (C := RX12) (T := TX12) (N := 31) hx hb hts (tw_i inlX12) hown hK hP hL_this hK_this (by decide +kernel) rfl 0 (by decide +kernel) (hts _ (tw_c tw_176)) (pq_hv rfl hR_w_63) dX12_lot_11 ?_
      refine lv_iconst (v := 4) hx hb dX12_lot_14 (by decide +kernel) ?_
      refine pl_i hx hb hK hP hL_w_63 hK_w_63 hN_w_63 (vp_in_iff.mpr (by decide +kernel)) dX12_lot_15 ?_
      refine lv_topi (fun x_64 ex_64 => ?_)
      replace hF := hF.trans (ap_n (vR_r hO_w_63 (by decide +kernel) ex_64))
      have h_65 : rg x_64 0 5 := rg_of_eq ex_64 (GM.z hG (by rw [hT_w_63]; decide) (show zn ((4 : Int32)).toNatClampNeg = 4 from by decide +kernel) rfl)
      have uh_65 := h_65.1
      have vh_65 := h_65.2
      refine lv_iconst (v := 5) hx hb dX12_lot_16 (by decide +kernel) ?_
      refine lv_icmp_ne (tgt := 22) hx hb dX12_lot_17 (by decide +kernel) (fun c_66 => ?_) (fun c_66 => ?_)
      · replace hF := hF.trans (if_neg c_66)
        have tc_71 : (x_64).toInt ≠ 5 := fun q => c_66 (Int32.toInt_inj.mp q)
        have h_72 : rg x_64 0 4 := rg_ne c_66 h_65 5 rfl (by decide +kernel)
        have uh_72 := h_72.1
        have vh_72 := h_72.2
        refine lv_aload_n hx hb dX12_lot_22 rfl (lv_at hl 0 rfl) ?_
        refine pg_f (v := .ref w_63) (C := RX12) (T := TX12) (N := 31) hx hb hts (tw_i inlX12) hown hK hP hL_this hK_this (by decide +kernel) rfl 0 (by decide +kernel) (hts _ (tw_c tw_176)) (pq_hv rfl hR_w_63) dX12_lot_23 ?_
        refine lv_bipush (v := 80) hx hb dX12_lot_26 (by decide +kernel) ?_
        refine lv_aload_n hx hb dX12_lot_28 rfl (lv_at hl 0 rfl) ?_
        refine pg_f (v := .ref w_63) (C := RX12) (T := TX12) (N := 31) hx hb hts (tw_i inlX12) hown hK hP hL_this hK_this (by decide +kernel) rfl 0 (by decide +kernel) (hts _ (tw_c tw_176)) (pq_hv rfl hR_w_63) dX12_lot_29 ?_
        refine lv_iconst (v := 4) hx hb dX12_lot_32 (by decide +kernel) ?_
        refine pl_i hx hb hK hP hL_w_63 hK_w_63 hN_w_63 (vp_in_iff.mpr (by decide +kernel)) dX12_lot_33 ?_
        refine lv_tov x_64 ex_64.symm ?_
        refine lv_iadd hx hb dX12_lot_34 ?_
        refine lv_topi (fun x_73 ex_73 => ?_)
        replace hF := hF.trans (ap_n ex_73)
        have h_74 : rg x_73 80 84 := rg_of_eq ex_73 (rg_add (rg_k (80 : Int32) 80 rfl) h_72 (by decide +kernel))
        have uh_74 := h_74.1
        have vh_74 := h_74.2
        have tx_73 : (x_73).toInt = 80 + (x_64).toInt := by rw [ex_73]; exact i_add_rg (a2 := 80) (b2 := (x_64).toInt) rfl rfl (rg_k (80 : Int32) 80 rfl) h_72 (by decide +kernel)
        refine lv_iload_n hx hb dX12_lot_35 rfl (lv_at hl 1 rfl) ?_
        refine pt_i hx hb hK hP hD hS hL_w_63 hK_w_63 hN_w_63 (rg_in h_74 (by decide +kernel)) dX12_lot_36 (fun r_75 H locs er_75 hP hD hS => ?_)
        replace hFr := fr_R hFr hO_w_63 (by decide +kernel) er_75
        replace hF := hF.trans (ap_n (vR_st hVT hO_w_63 (by decide +kernel) er_75))
        have hG := GM.wz hG hT_w_63 (by decide +kernel) er_75 (zn_LOT1 (by have z_i := clampE x_73; have z_0 := clampE x_64; have z_l0 := (h_72).1; have z_h0 := (h_72).2; omega)) rfl (rg_w h_60 (by decide +kernel)) (by decide +kernel)
        have h_76 : r_75 w_63 4 = x_64 := cz_ne er_75 (zn_LOT1 (by have z_i := clampE x_73; have z_0 := clampE x_64; have z_l0 := (h_72).1; have z_h0 := (h_72).2; omega)) (by decide +kernel) (by decide +kernel) ex_64.symm
        refine lv_aload_n hx hb dX12_lot_37 rfl (lv_at hl 0 rfl) ?_
        refine pg_f (v := .ref w_63) (C := RX12) (T := TX12) (N := 31) hx hb hts (tw_i inlX12) hown hK hP hL_this hK_this (by decide +kernel) rfl 0 (by decide +kernel) (hts _ (tw_c tw_176)) (pq_hv rfl hR_w_63) dX12_lot_38 ?_
        refine lv_iconst (v := 4) hx hb dX12_lot_41 (by decide +kernel) ?_
        refine lv_dup2_11 hx hb dX12_lot_42 rfl rfl ?_
        refine pl_i hx hb hK hP hL_w_63 hK_w_63 hN_w_63 (vp_in_iff.mpr (by decide +kernel)) dX12_lot_43 ?_
        refine lv_tov x_64 h_76 ?_
        refine lv_iconst (v := 1) hx hb dX12_lot_44 (by decide +kernel) ?_
        refine lv_iadd hx hb dX12_lot_45 ?_
        refine lv_topi (fun x_77 ex_77 => ?_)
        replace hF := hF.trans (ap_n ex_77)
        have h_78 : rg x_77 1 5 := rg_of_eq ex_77 (rg_add h_72 (rg_k (1 : Int32) 1 rfl) (by decide +kernel))
        have uh_78 := h_78.1
        have vh_78 := h_78.2
        have tx_77 : (x_77).toInt = (x_64).toInt + 1 := by rw [ex_77]; exact i_add_rg (a2 := (x_64).toInt) (b2 := 1) rfl rfl h_72 (rg_k (1 : Int32) 1 rfl) (by decide +kernel)
        refine pt_i hx hb hK hP hD hS hL_w_63 hK_w_63 hN_w_63 (vp_in_iff.mpr (by decide +kernel)) dX12_lot_46 (fun r_79 H locs er_79 hP hD hS => ?_)
        replace hFr := fr_R hFr hO_w_63 (by decide +kernel) er_79
        replace hF := hF.trans (ap_n (vR_st hVT hO_w_63 (by decide +kernel) er_79))
        have hG := GM.wz hG hT_w_63 (by decide +kernel) er_79 (show zn ((4 : Int32)).toNatClampNeg = 4 from by decide +kernel) rfl (rg_w h_78 (by decide +kernel)) (by decide +kernel)
        have h_80 : r_79 w_63 4 = x_77 := cz_eq er_79
        refine lv_aload_n hx hb dX12_lot_47 rfl (lv_at hl 0 rfl) ?_
        refine pg_f (v := .ref w_63) (C := RX12) (T := TX12) (N := 31) hx hb hts (tw_i inlX12) hown hK hP hL_this hK_this (by decide +kernel) rfl 0 (by decide +kernel) (hts _ (tw_c tw_176)) (pq_hv rfl hR_w_63) dX12_lot_48 ?_
        refine lv_iconst (v := 4) hx hb dX12_lot_51 (by decide +kernel) ?_
        refine pl_i hx hb hK hP hL_w_63 hK_w_63 hN_w_63 (vp_in_iff.mpr (by decide +kernel)) dX12_lot_52 ?_
        refine lv_tov x_77 h_80 ?_
        refine lv_iconst (v := 1) hx hb dX12_lot_53 (by decide +kernel) ?_
        refine lv_isub hx hb dX12_lot_54 ?_
        refine lv_topi (fun x_81 ex_81 => ?_)
        replace hF := hF.trans (ap_n ex_81)
        have h_82 : rg x_81 0 4 := rg_of_eq ex_81 (rg_sub h_78 (rg_k (1 : Int32) 1 rfl) (by decide +kernel))
        have uh_82 := h_82.1
        have vh_82 := h_82.2
        have tx_81 : (x_81).toInt = (x_77).toInt - 1 := by rw [ex_81]; exact i_sub_rg (a2 := (x_77).toInt) (b2 := 1) rfl rfl h_78 (rg_k (1 : Int32) 1 rfl) (by decide +kernel)
        subst hQ
        exact W.iret (v := x_81) hx hb hr (fun t1 ht hW => ⟨⟨x_81, (σ, I, J, r_79, rj, rq), rfl, ⟨r_79, rfl, hG, (hF0.symm.trans hF), hFr, (rg_w h_82 (by decide +kernel))⟩, by rw [ht]; exact hP, va_K.moved hW.alike hK, hD⟩, hS.F ht⟩) hS.2.2 dX12_lot_55
      · replace hF := hF.trans (if_pos c_66)
        have tc_83 : (x_64).toInt = 5 := congrArg Int32.toInt c_66
        have h_84 : rg x_64 5 5 := rg_and h_65 (rg_of_eq c_66 (rg_k (5 : Int32) 5 rfl)) (by decide +kernel)
        have uh_84 := h_84.1
        have vh_84 := h_84.2
        exact K_39 _ _ _ hF hFr hG hP hD hS (lv_sub hl [] rfl)
  exact go _ _ _ hP hD hS hl

set_option maxRecDepth 100000 in
def g_X12_person_K61 (I : Nat → Int32) (J : Nat → Int64) (ri : Nat → Nat → Int32) (rj : Nat → Nat → Int64) (rq : Nat → Nat → Option Nat) : Int32 × vM := ((-1 : Int32), I, J, ri, rj, rq)
set_option maxRecDepth 100000 in
theorem g_X12_person_K61_e {I : Nat → Int32} {J : Nat → Int64} {ri : Nat → Nat → Int32} {rj : Nat → Nat → Int64} {rq : Nat → Nat → Option Nat} : g_X12_person_K61 I J ri rj rq  = ((-1 : Int32), I, J, ri, rj, rq) := rfl
set_option maxRecDepth 100000 in
def g_X12_person (a0 : Int32) (a1 : Int32) (a2 : Int32) (a3 : Int32) (a4 : Int32) (I : Nat → Int32) (J : Nat → Int64) (ri : Nat → Nat → Int32) (rj : Nat → Nat → Int64) (rq : Nat → Nat → Option Nat) : Int32 × vM := (ap1 (g_X12_isIn a0 (0 : Int32) (9 : Int32)) fun (x_1 : Int32) => (if x_1 = (0 : Int32) then (g_X12_person_K61 I J ri rj rq ) else (ap1 (g_X12_isIn a1 (0 : Int32) (99 : Int32)) fun (x_166 : Int32) => (if x_166 = (0 : Int32) then (g_X12_person_K61 I J ri rj rq ) else (ap1 (g_X12_isIn a2 (0 : Int32) (7 : Int32)) fun (x_197 : Int32) => (if x_197 = (0 : Int32) then (g_X12_person_K61 I J ri rj rq ) else (bnI (g_X12_isRing a3 I J ri rj rq) fun (x_228 : Int32) (_ : Nat → Int32) (_ : Nat → Int64) (_ : Nat → Nat → Int32) (_ : Nat → Nat → Int64) (_ : Nat → Nat → Option Nat) => (if x_228 = (0 : Int32) then (g_X12_person_K61 I J ri rj rq ) else (ap1 (g_X12_isIn a4 (0 : Int32) (100 : Int32)) fun (x_249 : Int32) => (if x_249 = (0 : Int32) then (g_X12_person_K61 I J ri rj rq ) else (ap1 (ri 384 ((5 : Int32)).toNatClampNeg) fun (x_281 : Int32) => (if x_281 = (40 : Int32) then (g_X12_person_K61 I J ri rj rq ) else (ap1 ((12 : Int32) * x_281) fun (x_290 : Int32) => (ap1 ((740 : Int32) + x_290) fun (x_292 : Int32) => (ap1 (x_292 + (0 : Int32)) fun (x_294 : Int32) => (ap1 (va_up ri 384 (upd (ri 384) (x_294).toNatClampNeg a0)) fun (r_296 : Nat → Nat → Int32) => (ap1 (x_292 + (1 : Int32)) fun (x_298 : Int32) => (ap1 (va_up r_296 384 (upd (r_296 384) (x_298).toNatClampNeg a1)) fun (r_300 : Nat → Nat → Int32) => (ap1 (x_292 + (2 : Int32)) fun (x_302 : Int32) => (ap1 (va_up r_300 384 (upd (r_300 384) (x_302).toNatClampNeg a2)) fun (r_304 : Nat → Nat → Int32) => (ap1 (x_292 + (3 : Int32)) fun (x_306 : Int32) => (ap1 (va_up r_304 384 (upd (r_304 384) (x_306).toNatClampNeg a3)) fun (r_308 : Nat → Nat → Int32) => (ap1 (x_292 + (4 : Int32)) fun (x_310 : Int32) => (ap1 (va_up r_308 384 (upd (r_308 384) (x_310).toNatClampNeg a4)) fun (r_312 : Nat → Nat → Int32) => (ap1 (x_292 + (7 : Int32)) fun (x_314 : Int32) => (ap1 (va_up r_312 384 (upd (r_312 384) (x_314).toNatClampNeg (-1 : Int32))) fun (r_316 : Nat → Nat → Int32) => (ap1 (x_292 + (8 : Int32)) fun (x_318 : Int32) => (ap1 (va_up r_316 384 (upd (r_316 384) (x_318).toNatClampNeg (-1 : Int32))) fun (r_320 : Nat → Nat → Int32) => (ap1 (x_281 + (1 : Int32)) fun (x_322 : Int32) => (ap1 (va_up r_320 384 (upd (r_320 384) ((5 : Int32)).toNatClampNeg x_322)) fun (r_324 : Nat → Nat → Int32) => (ap1 (x_322 - (1 : Int32)) fun (x_326 : Int32) => (x_326, I, J, r_324, rj, rq))))))))))))))))))))))))))))))))
set_option maxRecDepth 100000 in
theorem g_X12_person_e {a0 : Int32} {a1 : Int32} {a2 : Int32} {a3 : Int32} {a4 : Int32} {I : Nat → Int32} {J : Nat → Int64} {ri : Nat → Nat → Int32} {rj : Nat → Nat → Int64} {rq : Nat → Nat → Option Nat} : g_X12_person a0 a1 a2 a3 a4 I J ri rj rq = (ap1 (g_X12_isIn a0 (0 : Int32) (9 : Int32)) fun (x_1 : Int32) => (if x_1 = (0 : Int32) then (g_X12_person_K61 I J ri rj rq ) else (ap1 (g_X12_isIn a1 (0 : Int32) (99 : Int32)) fun (x_166 : Int32) => (if x_166 = (0 : Int32) then (g_X12_person_K61 I J ri rj rq ) else (ap1 (g_X12_isIn a2 (0 : Int32) (7 : Int32)) fun (x_197 : Int32) => (if x_197 = (0 : Int32) then (g_X12_person_K61 I J ri rj rq ) else (bnI (g_X12_isRing a3 I J ri rj rq) fun (x_228 : Int32) (_ : Nat → Int32) (_ : Nat → Int64) (_ : Nat → Nat → Int32) (_ : Nat → Nat → Int64) (_ : Nat → Nat → Option Nat) => (if x_228 = (0 : Int32) then (g_X12_person_K61 I J ri rj rq ) else (ap1 (g_X12_isIn a4 (0 : Int32) (100 : Int32)) fun (x_249 : Int32) => (if x_249 = (0 : Int32) then (g_X12_person_K61 I J ri rj rq ) else (ap1 (ri 384 ((5 : Int32)).toNatClampNeg) fun (x_281 : Int32) => (if x_281 = (40 : Int32) then (g_X12_person_K61 I J ri rj rq ) else (ap1 ((12 : Int32) * x_281) fun (x_290 : Int32) => (ap1 ((740 : Int32) + x_290) fun (x_292 : Int32) => (ap1 (x_292 + (0 : Int32)) fun (x_294 : Int32) => (ap1 (va_up ri 384 (upd (ri 384) (x_294).toNatClampNeg a0)) fun (r_296 : Nat → Nat → Int32) => (ap1 (x_292 + (1 : Int32)) fun (x_298 : Int32) => (ap1 (va_up r_296 384 (upd (r_296 384) (x_298).toNatClampNeg a1)) fun (r_300 : Nat → Nat → Int32) => (ap1 (x_292 + (2 : Int32)) fun (x_302 : Int32) => (ap1 (va_up r_300 384 (upd (r_300 384) (x_302).toNatClampNeg a2)) fun (r_304 : Nat → Nat → Int32) => (ap1 (x_292 + (3 : Int32)) fun (x_306 : Int32) => (ap1 (va_up r_304 384 (upd (r_304 384) (x_306).toNatClampNeg a3)) fun (r_308 : Nat → Nat → Int32) => (ap1 (x_292 + (4 : Int32)) fun (x_310 : Int32) => (ap1 (va_up r_308 384 (upd (r_308 384) (x_310).toNatClampNeg a4)) fun (r_312 : Nat → Nat → Int32) => (ap1 (x_292 + (7 : Int32)) fun (x_314 : Int32) => (ap1 (va_up r_312 384 (upd (r_312 384) (x_314).toNatClampNeg (-1 : Int32))) fun (r_316 : Nat → Nat → Int32) => (ap1 (x_292 + (8 : Int32)) fun (x_318 : Int32) => (ap1 (va_up r_316 384 (upd (r_316 384) (x_318).toNatClampNeg (-1 : Int32))) fun (r_320 : Nat → Nat → Int32) => (ap1 (x_281 + (1 : Int32)) fun (x_322 : Int32) => (ap1 (va_up r_320 384 (upd (r_320 384) ((5 : Int32)).toNatClampNeg x_322)) fun (r_324 : Nat → Nat → Int32) => (ap1 (x_322 - (1 : Int32)) fun (x_326 : Int32) => (x_326, I, J, r_324, rj, rq)))))))))))))))))))))))))))))))) := rfl
set_option maxHeartbeats 4000000 in
set_option maxRecDepth 100000 in
theorem s_X12_person (l : Launch) (D : va_G) (t : pq_T) (σ : pq_S) (I : Nat → Nat → Int32) (J : Nat → Nat → Int64) (ri : Nat → Nat → Int32) (rj : Nat → Nat → Int64) (rq : Nat → Nat → Option Nat) (sz : Nat) (tg : Nat → Nat) (hSH : SH σ tg) (hG0 : GT tg I ri) (this : Nat) (a0 : Int32) (a1 : Int32) (a2 : Int32) (a3 : Int32) (a4 : Int32) (hL_this : this ∈ σ.1) (hK_this : σ.2.1 this = 12) : MetI l yX12_person (wa yX12_person cX12_person 7 (some .int)) ({ frames := 2, cells := 0, slots := 0, locals := 43 }) [.ref this, .int a0, .int a1, .int a2, .int a3, .int a4] D t σ (I, J, ri, rj, rq) sz 0 0 (fun (r : Int32) (u : pq_S × pq_M) => ∃ ri' : Nat → Nat → Int32, u = (σ, I, J, ri', rj, rq) ∧ GM [1403, 1005] tg σ I ri I ri' rq ∧ g_X12_person a0 a1 a2 a3 a4 (vI 12 σ this I) (vJ 12 σ this J) (vR 12 σ this ri) (vL 12 σ this rj) (vQ 12 σ this rq) = (r, (vI 12 σ this I), (vJ 12 σ this J), (vR 12 σ this ri'), (vL 12 σ this rj), (vQ 12 σ this rq)) ∧ FR 12 tg σ this (I, J, ri, rj, rq) (I, J, ri', rj, rq) ∧ rg r (-1) 39) := by
  refine Met.ofW (cc := cX12_person) (maxL := 7) (ret := (some .int)) (by decide +kernel) rfl ?_
  intro p e s m args below meth c s₁ B hml hv
  obtain ⟨rfl, hsz, hP, hK, hD0, hN⟩ := hv
  have hx := B.exec
  have hb := B.bytes
  have hr := B.returns
  have hts := atoms_spec (ws := (wa yX12_person cX12_person 7 (some .int))) B.pre
  have hown : s.vm.findClass RX12 = some m.cls := findClass_of_methodNamed B.named
  have hlocks := B.notSynchronized
  subst hsz
  have hD : va_D (pq_B t σ (I, J, ri, rj, rq) s.heap.size) (pq_P t σ (I, J, ri, rj, rq)) := hD0.self
  generalize hAe : pq_B t σ (I, J, ri, rj, rq) s.heap.size = A at hD ⊢
  have hA : ∀ q : Nat, s.heap.size ≤ q → A q := fun q h => by rw [← hAe]; exact Or.inr h
  have hS : va_S A s.heap s.heap [] := va_S.rf
  have hG : GM [1403, 1005] tg σ I ri I ri rq := ⟨hG0, fun _ _ _ => rfl, fun _ _ _ _ _ => rfl, fun _ _ _ _ _ _ => rfl⟩
  have hl := lv_entry ([.ref this, .int a0, .int a1, .int a2, .int a3, .int a4]) (n := 7) (Nat.le_of_ble_eq_true rfl)
  rw [lg_entry_eq]
  generalize (lg_sl ([.ref this, .int a0, .int a1, .int a2, .int a3, .int a4]) ++ List.replicate (7 - (lg_sl ([.ref this, .int a0, .int a1, .int a2, .int a3, .int a4])).length) Slot.unset).toArray = ls at hl ⊢
  have hl : lv_has ls 7 [(0, .ref this), (1, .int a0), (2, .int a1), (3, .int a2), (4, .int a3), (5, .int a4)] := hl
  refine q_gen (fun Q hQ => ?_)
  have go : ∀ (H : Heap) (locs : List Loc) (ls : Array Slot), va_P D vwCl (pq_P t σ (I, J, ri, rj, rq)) H → va_D A (pq_P t σ (I, J, ri, rj, rq)) → va_S A s.heap H locs → lv_has ls 7 [(0, .ref this), (1, .int a0), (2, .int a1), (3, .int a2), (4, .int a3), (5, .int a4)] → W p l e ({ frames := 2, cells := 0, slots := 0, locals := 43 } : Room) s m (List.toArray ([.ref this, .int a0, .int a1, .int a2, .int a3, .int a4] : List Value)) below meth c H locs 0 0 Q (F0 m 0 ls []) := by
    intro H locs ls hP hD hS hl
    have hO_this : this = vo σ 12 this := rfl
    have hVT : VT 12 σ tg this := vt_12 hSH hL_this hK_this
    have hFr : FR 12 tg σ this (I, J, ri, rj, rq) (I, J, ri, rj, rq) := fr_rf
    obtain ⟨F, hF0⟩ : ∃ F, F = g_X12_person a0 a1 a2 a3 a4 (vI 12 σ this I) (vJ 12 σ this J) (vR 12 σ this ri) (vL 12 σ this rj) (vQ 12 σ this rq) := ⟨_, rfl⟩
    have hF := hF0.trans g_X12_person_e
    refine lv_iload_n hx hb dX12_person_0 rfl (lv_at hl 1 rfl) ?_
    refine lv_iconst (v := 0) hx hb dX12_person_1 (by decide +kernel) ?_
    refine lv_bipush (v := 9) hx hb dX12_person_2 (by decide +kernel) ?_
    refine pk_i (va_runS (As := [.int a0, .int 0, .int 9]) (rest := []) ⟨hx, hb, hml, hown, hts⟩ (s_X12_isIn l D t σ I J ri rj rq H.size tg hSH hG.1 a0 (0 : Int32) (9 : Int32)) (va_cwS 3 hts (tw_S tw_235 tw_236 tw_5 tw_237) rfl rfl rfl cd_yX12_isIn_3 ⟨Nat.le_of_ble_eq_true rfl, Nat.le_of_ble_eq_true rfl⟩) ⟨pq_blind, pq_pre hK hN hP hD⟩ rfl rfl hl.1 rfl (lv_room (Nat.le_of_ble_eq_true rfl)) dX12_person_4 ⟨Nat.le_of_ble_eq_true rfl, Nat.le_of_ble_eq_true rfl⟩) hD hS hA (fun x_1 σ1 μ1 H locs hw_2 hP hD hS => ?_)
    obtain ⟨hu_3, hfn_6, hr_5⟩ := hw_2
    obtain ⟨hu_3a, hu_3b⟩ := Prod.mk.inj hu_3
    rw [hu_3a, hu_3b] at hP hD
    replace hF := hF.trans (ap_n hfn_6.symm)
    have h_8 : rg x_1 0 1 := by rcases hr_5 with ⟨q, -⟩ | ⟨q, -⟩ <;> rw [q] <;> exact ⟨by decide +kernel, by decide +kernel⟩
    have uh_8 := h_8.1
    have vh_8 := h_8.2
    have K_142 : ∀  (H : Heap) (locs : List Loc) (ls : Array Slot), F = g_X12_person_K61 (vI 12 σ this I) (vJ 12 σ this J) (vR 12 σ this ri) (vL 12 σ this rj) (vQ 12 σ this rq)  → FR 12 tg σ this (I, J, ri, rj, rq) (I, J, ri, rj, rq) → GM [1403, 1005] tg σ I ri I ri rq → va_P D vwCl (pq_P t σ (I, J, ri, rj, rq)) H → va_D A (pq_P t σ (I, J, ri, rj, rq)) → va_S A s.heap H locs → lv_has ls 7 [] → W p l e ({ frames := 2, cells := 0, slots := 0, locals := 43 } : Room) s m (List.toArray ([.ref this, .int a0, .int a1, .int a2, .int a3, .int a4] : List Value)) below meth c H locs 0 0 Q (F0 m 61 ls []) := by
      intro H locs ls hF hFr hG hP hD hS hl
      replace hF := hF.trans g_X12_person_K61_e
      refine lv_iconst (v := (-1)) hx hb dX12_person_61 (by decide +kernel) ?_
      subst hQ
      exact W.iret (v := (-1)) hx hb hr (fun t1 ht hW => ⟨⟨(-1), (σ, I, J, ri, rj, rq), rfl, ⟨ri, rfl, hG, (hF0.symm.trans hF), hFr, (rg_w (rg_k (-1 : Int32) (-1) rfl) (by decide +kernel))⟩, by rw [ht]; exact hP, va_K.moved hW.alike hK, hD⟩, hS.F ht⟩) hS.2.2 dX12_person_62
    refine lv_if_eq (tgt := 61) hx hb dX12_person_7 (by decide +kernel) (fun c_143 => ?_) (fun c_143 => ?_)
    · replace hF := hF.trans (if_pos c_143)
      have f_155 := (hr_5.resolve_left (fun q => absurd (q.1.symm.trans c_143) (by decide +kernel))).2
      have tc_156 : (x_1).toInt = 0 := congrArg Int32.toInt c_143
      have h_157 : rg x_1 0 0 := rg_and h_8 (rg_of_eq c_143 (rg_k (0 : Int32) 0 rfl)) (by decide +kernel)
      have uh_157 := h_157.1
      have vh_157 := h_157.2
      exact K_142 _ _ _ hF hFr hG hP hD hS (lv_sub hl [] rfl)
    · replace hF := hF.trans (if_neg c_143)
      obtain ⟨f_158, f_159⟩ := (hr_5.resolve_right (fun q => c_143 q.1)).2
      have tc_160 : 0 ≤ (a0).toInt := Int32.le_iff_toInt_le.mp f_158
      have h_161 : rg a0 0 2147483647 := rg_le2 f_158 (rg_k (0 : Int32) 0 rfl) (rg_full _) (by decide +kernel)
      have uh_161 := h_161.1
      have vh_161 := h_161.2
      have tc_162 : (a0).toInt ≤ 9 := Int32.le_iff_toInt_le.mp f_159
      have h_163 : rg a0 0 9 := rg_le1 f_159 h_161 (rg_k (9 : Int32) 9 rfl) (by decide +kernel)
      have uh_163 := h_163.1
      have vh_163 := h_163.2
      have tc_164 : (x_1).toInt ≠ 0 := fun q => c_143 (Int32.toInt_inj.mp q)
      have h_165 : rg x_1 1 1 := rg_ne c_143 h_8 0 rfl (by decide +kernel)
      have uh_165 := h_165.1
      have vh_165 := h_165.2
      refine lv_iload_n hx hb dX12_person_10 rfl (lv_at hl 2 rfl) ?_
      refine lv_iconst (v := 0) hx hb dX12_person_11 (by decide +kernel) ?_
      refine lv_bipush (v := 99) hx hb dX12_person_12 (by decide +kernel) ?_
      refine pk_i (va_runS (As := [.int a1, .int 0, .int 99]) (rest := []) ⟨hx, hb, hml, hown, hts⟩ (s_X12_isIn l D t σ I J ri rj rq H.size tg hSH hG.1 a1 (0 : Int32) (99 : Int32)) (va_cwS 3 hts (tw_S tw_235 tw_236 tw_5 tw_237) rfl rfl rfl cd_yX12_isIn_3 ⟨Nat.le_of_ble_eq_true rfl, Nat.le_of_ble_eq_true rfl⟩) ⟨pq_blind, pq_pre hK hN hP hD⟩ rfl rfl hl.1 rfl (lv_room (Nat.le_of_ble_eq_true rfl)) dX12_person_14 ⟨Nat.le_of_ble_eq_true rfl, Nat.le_of_ble_eq_true rfl⟩) hD hS hA (fun x_166 σ1 μ1 H locs hw_167 hP hD hS => ?_)
      obtain ⟨hu_168, hfn_171, hr_170⟩ := hw_167
      obtain ⟨hu_168a, hu_168b⟩ := Prod.mk.inj hu_168
      rw [hu_168a, hu_168b] at hP hD
      replace hF := hF.trans (ap_n hfn_171.symm)
      have h_173 : rg x_166 0 1 := by rcases hr_170 with ⟨q, -⟩ | ⟨q, -⟩ <;> rw [q] <;> exact ⟨by decide +kernel, by decide +kernel⟩
      have uh_173 := h_173.1
      have vh_173 := h_173.2
      refine lv_if_eq (tgt := 61) hx hb dX12_person_17 (by decide +kernel) (fun c_174 => ?_) (fun c_174 => ?_)
      · replace hF := hF.trans (if_pos c_174)
        have f_186 := (hr_170.resolve_left (fun q => absurd (q.1.symm.trans c_174) (by decide +kernel))).2
        have tc_187 : (x_166).toInt = 0 := congrArg Int32.toInt c_174
        have h_188 : rg x_166 0 0 := rg_and h_173 (rg_of_eq c_174 (rg_k (0 : Int32) 0 rfl)) (by decide +kernel)
        have uh_188 := h_188.1
        have vh_188 := h_188.2
        exact K_142 _ _ _ hF hFr hG hP hD hS (lv_sub hl [] rfl)
      · replace hF := hF.trans (if_neg c_174)
        obtain ⟨f_189, f_190⟩ := (hr_170.resolve_right (fun q => c_174 q.1)).2
        have tc_191 : 0 ≤ (a1).toInt := Int32.le_iff_toInt_le.mp f_189
        have h_192 : rg a1 0 2147483647 := rg_le2 f_189 (rg_k (0 : Int32) 0 rfl) (rg_full _) (by decide +kernel)
        have uh_192 := h_192.1
        have vh_192 := h_192.2
        have tc_193 : (a1).toInt ≤ 99 := Int32.le_iff_toInt_le.mp f_190
        have h_194 : rg a1 0 99 := rg_le1 f_190 h_192 (rg_k (99 : Int32) 99 rfl) (by decide +kernel)
        have uh_194 := h_194.1
        have vh_194 := h_194.2
        have tc_195 : (x_166).toInt ≠ 0 := fun q => c_174 (Int32.toInt_inj.mp q)
        have h_196 : rg x_166 1 1 := rg_ne c_174 h_173 0 rfl (by decide +kernel)
        have uh_196 := h_196.1
        have vh_196 := h_196.2
        refine lv_iload_n hx hb dX12_person_20 rfl (lv_at hl 3 rfl) ?_
        refine lv_iconst (v := 0) hx hb dX12_person_21 (by decide +kernel) ?_
        refine lv_bipush (v := 7) hx hb dX12_person_22 (by decide +kernel) ?_
        refine pk_i (va_runS (As := [.int a2, .int 0, .int 7]) (rest := []) ⟨hx, hb, hml, hown, hts⟩ (s_X12_isIn l D t σ I J ri rj rq H.size tg hSH hG.1 a2 (0 : Int32) (7 : Int32)) (va_cwS 3 hts (tw_S tw_235 tw_236 tw_5 tw_237) rfl rfl rfl cd_yX12_isIn_3 ⟨Nat.le_of_ble_eq_true rfl, Nat.le_of_ble_eq_true rfl⟩) ⟨pq_blind, pq_pre hK hN hP hD⟩ rfl rfl hl.1 rfl (lv_room (Nat.le_of_ble_eq_true rfl)) dX12_person_24 ⟨Nat.le_of_ble_eq_true rfl, Nat.le_of_ble_eq_true rfl⟩) hD hS hA (fun x_197 σ1 μ1 H locs hw_198 hP hD hS => ?_)
        obtain ⟨hu_199, hfn_202, hr_201⟩ := hw_198
        obtain ⟨hu_199a, hu_199b⟩ := Prod.mk.inj hu_199
        rw [hu_199a, hu_199b] at hP hD
        replace hF := hF.trans (ap_n hfn_202.symm)
        have h_204 : rg x_197 0 1 := by rcases hr_201 with ⟨q, -⟩ | ⟨q, -⟩ <;> rw [q] <;> exact ⟨by decide +kernel, by decide +kernel⟩
        have uh_204 := h_204.1
        have vh_204 := h_204.2
        refine lv_if_eq (tgt := 61) hx hb dX12_person_27 (by decide +kernel) (fun c_205 => ?_) (fun c_205 => ?_)
        · replace hF := hF.trans (if_pos c_205)
          have f_217 := (hr_201.resolve_left (fun q => absurd (q.1.symm.trans c_205) (by decide +kernel))).2
          have tc_218 : (x_197).toInt = 0 := congrArg Int32.toInt c_205
          have h_219 : rg x_197 0 0 := rg_and h_204 (rg_of_eq c_205 (rg_k (0 : Int32) 0 rfl)) (by decide +kernel)
          have uh_219 := h_219.1
          have vh_219 := h_219.2
          exact K_142 _ _ _ hF hFr hG hP hD hS (lv_sub hl [] rfl)
        · replace hF := hF.trans (if_neg c_205)
          obtain ⟨f_220, f_221⟩ := (hr_201.resolve_right (fun q => c_205 q.1)).2
          have tc_222 : 0 ≤ (a2).toInt := Int32.le_iff_toInt_le.mp f_220
          have h_223 : rg a2 0 2147483647 := rg_le2 f_220 (rg_k (0 : Int32) 0 rfl) (rg_full _) (by decide +kernel)
          have uh_223 := h_223.1
          have vh_223 := h_223.2
          have tc_224 : (a2).toInt ≤ 7 := Int32.le_iff_toInt_le.mp f_221
          have h_225 : rg a2 0 7 := rg_le1 f_221 h_223 (rg_k (7 : Int32) 7 rfl) (by decide +kernel)
          have uh_225 := h_225.1
          have vh_225 := h_225.2
          have tc_226 : (x_197).toInt ≠ 0 := fun q => c_205 (Int32.toInt_inj.mp q)
          have h_227 : rg x_197 1 1 := rg_ne c_205 h_204 0 rfl (by decide +kernel)
          have uh_227 := h_227.1
          have vh_227 := h_227.2
          refine lv_aload_n hx hb dX12_person_30 rfl (lv_at hl 0 rfl) ?_
          refine lv_iload hx hb dX12_person_31 (lv_at hl 4 rfl) ?_
          refine pk_i (va_runV (As := [.int a3]) (rest := []) ⟨hx, hb, hml, hown, hts⟩ (s_X12_isRing l D t σ I J ri rj rq H.size tg hSH hG.1 this a3 hL_this hK_this) (cwV 1 hts (tw_V tw_231 tw_232 tw_233 tw_5 tw_234) rfl rfl rfl cv_yX12_isRing_1 ⟨Nat.le_of_ble_eq_true rfl, Nat.le_of_ble_eq_true rfl⟩) ⟨pq_blind, pq_recv hK hP hL_this hK_this (by decide +kernel) rfl, pq_pre hK hN hP hD⟩ rfl rfl hl.1 rfl (lv_room (Nat.le_of_ble_eq_true rfl)) dX12_person_33 ⟨Nat.le_of_ble_eq_true rfl, Nat.le_of_ble_eq_true rfl⟩) hD hS hA (fun x_228 σ1 μ1 H locs hw_229 hP hD hS => ?_)
          obtain ⟨hu_230, hfn_233, hr_232⟩ := hw_229
          obtain ⟨hu_230a, hu_230b⟩ := Prod.mk.inj hu_230
          rw [hu_230a, hu_230b] at hP hD
          replace hF := hF.trans (bn_n hfn_233)
          have h_235 : rg x_228 0 1 := by rcases hr_232 with ⟨q, -⟩ | ⟨q, -⟩ <;> rw [q] <;> exact ⟨by decide +kernel, by decide +kernel⟩
          have uh_235 := h_235.1
          have vh_235 := h_235.2
          refine lv_if_eq (tgt := 61) hx hb dX12_person_36 (by decide +kernel) (fun c_236 => ?_) (fun c_236 => ?_)
          · replace hF := hF.trans (if_pos c_236)
            have f_243 := (hr_232.resolve_left (fun q => absurd (q.1.symm.trans c_236) (by decide +kernel))).2
            have tc_244 : (x_228).toInt = 0 := congrArg Int32.toInt c_236
            have h_245 : rg x_228 0 0 := rg_and h_235 (rg_of_eq c_236 (rg_k (0 : Int32) 0 rfl)) (by decide +kernel)
            have uh_245 := h_245.1
            have vh_245 := h_245.2
            exact K_142 _ _ _ hF hFr hG hP hD hS (lv_sub hl [] rfl)
          · replace hF := hF.trans (if_neg c_236)
            have f_246 := (hr_232.resolve_right (fun q => c_236 q.1)).2
            have uf_246 := f_246.1
            have vf_246 := f_246.2
            have tc_247 : (x_228).toInt ≠ 0 := fun q => c_236 (Int32.toInt_inj.mp q)
            have h_248 : rg x_228 1 1 := rg_ne c_236 h_235 0 rfl (by decide +kernel)
            have uh_248 := h_248.1
            have vh_248 := h_248.2
            refine lv_iload hx hb dX12_person_39 (lv_at hl 5 rfl) ?_
            refine lv_iconst (v := 0) hx hb dX12_person_41 (by decide +kernel) ?_
            refine lv_bipush (v := 100) hx hb dX12_person_42 (by decide +kernel) ?_
            refine pk_i (va_runS (As := [.int a4, .int 0, .int 100]) (rest := []) ⟨hx, hb, hml, hown, hts⟩ (s_X12_isIn l D t σ I J ri rj rq H.size tg hSH hG.1 a4 (0 : Int32) (100 : Int32)) (va_cwS 3 hts (tw_S tw_235 tw_236 tw_5 tw_237) rfl rfl rfl cd_yX12_isIn_3 ⟨Nat.le_of_ble_eq_true rfl, Nat.le_of_ble_eq_true rfl⟩) ⟨pq_blind, pq_pre hK hN hP hD⟩ rfl rfl hl.1 rfl (lv_room (Nat.le_of_ble_eq_true rfl)) dX12_person_44 ⟨Nat.le_of_ble_eq_true rfl, Nat.le_of_ble_eq_true rfl⟩) hD hS hA (fun x_249 σ1 μ1 H locs hw_250 hP hD hS => ?_)
            obtain ⟨hu_251, hfn_254, hr_253⟩ := hw_250
            obtain ⟨hu_251a, hu_251b⟩ := Prod.mk.inj hu_251
            rw [hu_251a, hu_251b] at hP hD
            replace hF := hF.trans (ap_n hfn_254.symm)
            have h_256 : rg x_249 0 1 := by rcases hr_253 with ⟨q, -⟩ | ⟨q, -⟩ <;> rw [q] <;> exact ⟨by decide +kernel, by decide +kernel⟩
            have uh_256 := h_256.1
            have vh_256 := h_256.2
            refine lv_if_eq (tgt := 61) hx hb dX12_person_47 (by decide +kernel) (fun c_257 => ?_) (fun c_257 => ?_)
            · replace hF := hF.trans (if_pos c_257)
              have f_269 := (hr_253.resolve_left (fun q => absurd (q.1.symm.trans c_257) (by decide +kernel))).2
              have tc_270 : (x_249).toInt = 0 := congrArg Int32.toInt c_257
              have h_271 : rg x_249 0 0 := rg_and h_256 (rg_of_eq c_257 (rg_k (0 : Int32) 0 rfl)) (by decide +kernel)
              have uh_271 := h_271.1
              have vh_271 := h_271.2
              exact K_142 _ _ _ hF hFr hG hP hD hS (lv_sub hl [] rfl)
            · replace hF := hF.trans (if_neg c_257)
              obtain ⟨f_272, f_273⟩ := (hr_253.resolve_right (fun q => c_257 q.1)).2
              have tc_274 : 0 ≤ (a4).toInt := Int32.le_iff_toInt_le.mp f_272
              have h_275 : rg a4 0 2147483647 := rg_le2 f_272 (rg_k (0 : Int32) 0 rfl) (rg_full _) (by decide +kernel)
              have uh_275 := h_275.1
              have vh_275 := h_275.2
              have tc_276 : (a4).toInt ≤ 100 := Int32.le_iff_toInt_le.mp f_273
              have h_277 : rg a4 0 100 := rg_le1 f_273 h_275 (rg_k (100 : Int32) 100 rfl) (by decide +kernel)
              have uh_277 := h_277.1
              have vh_277 := h_277.2
              have tc_278 : (x_249).toInt ≠ 0 := fun q => c_257 (Int32.toInt_inj.mp q)
              have h_279 : rg x_249 1 1 := rg_ne c_257 h_256 0 rfl (by decide +kernel)
              have uh_279 := h_279.1
              have vh_279 := h_279.2
              refine lv_aload_n hx hb dX12_person_50 rfl (lv_at hl 0 rfl) ?_
              obtain ⟨w_280, hR_w_280, hL_w_280, hK_w_280, hN_w_280, hT_w_280⟩ := sh_a hSH 384 (ci := 12) (kd := 13) (len := 12720) rfl (by decide +kernel) hL_this hK_this
              have hO_w_280 : w_280 = vrow σ 384 this := vo_k (c := 12) hO_this hR_w_280
              refine pg_f (v := .ref w_280) (C := RX12) (T := TX12) (N := 31) hx hb hts (tw_i inlX12) hown hK hP hL_this hK_this (by decide +kernel) rfl 0 (by decide +kernel) (hts _ (tw_c tw_176)) (pq_hv rfl hR_w_280) dX12_person_51 ?_
              refine lv_iconst (v := 5) hx hb dX12_person_54 (by decide +kernel) ?_
              refine pl_i hx hb hK hP hL_w_280 hK_w_280 hN_w_280 (vp_in_iff.mpr (by decide +kernel)) dX12_person_55 ?_
              refine lv_topi (fun x_281 ex_281 => ?_)
              replace hF := hF.trans (ap_n (vR_r hO_w_280 (by decide +kernel) ex_281))
              have h_282 : rg x_281 0 40 := rg_of_eq ex_281 (GM.z hG (by rw [hT_w_280]; decide) (show zn ((5 : Int32)).toNatClampNeg = 5 from by decide +kernel) rfl)
              have uh_282 := h_282.1
              have vh_282 := h_282.2
              refine lv_bipush (v := 40) hx hb dX12_person_56 (by decide +kernel) ?_
              refine lv_icmp_ne (tgt := 63) hx hb dX12_person_58 (by decide +kernel) (fun c_283 => ?_) (fun c_283 => ?_)
              · replace hF := hF.trans (if_neg c_283)
                have tc_288 : (x_281).toInt ≠ 40 := fun q => c_283 (Int32.toInt_inj.mp q)
                have h_289 : rg x_281 0 39 := rg_ne c_283 h_282 40 rfl (by decide +kernel)
                have uh_289 := h_289.1
                have vh_289 := h_289.2
                refine lv_sipush (v := 740) hx hb dX12_person_63 (by decide +kernel) ?_
                refine lv_bipush (v := 12) hx hb dX12_person_66 (by decide +kernel) ?_
                refine lv_aload_n hx hb dX12_person_68 rfl (lv_at hl 0 rfl) ?_
                refine pg_f (v := .ref w_280) (C := RX12) (T := TX12) (N := 31) hx hb hts (tw_i inlX12) hown hK hP hL_this hK_this (by decide +kernel) rfl 0 (by decide +kernel) (hts _ (tw_c tw_176)) (pq_hv rfl hR_w_280) dX12_person_69 ?_
                refine lv_iconst (v := 5) hx hb dX12_person_72 (by decide +kernel) ?_
                refine pl_i hx hb hK hP hL_w_280 hK_w_280 hN_w_280 (vp_in_iff.mpr (by decide +kernel)) dX12_person_73 ?_
                refine lv_tov x_281 ex_281.symm ?_
                refine lv_imul hx hb dX12_person_74 ?_
                refine lv_topi (fun x_290 ex_290 => ?_)
                replace hF := hF.trans (ap_n ex_290)
                have h_291 : rg x_290 0 468 := rg_of_eq ex_290 (rg_mul (rg_k (12 : Int32) 12 rfl) h_289 (by decide +kernel))
                have uh_291 := h_291.1
                have vh_291 := h_291.2
                have tx_290 : (x_290).toInt = 12 * (x_281).toInt := by rw [ex_290]; exact i_mul_rg (a2 := 12) (b2 := (x_281).toInt) rfl rfl (rg_k (12 : Int32) 12 rfl) h_289 (by decide +kernel)
                refine lv_iadd hx hb dX12_person_75 ?_
                refine lv_topi (fun x_292 ex_292 => ?_)
                replace hF := hF.trans (ap_n ex_292)
                have h_293 : rg x_292 740 1208 := rg_of_eq ex_292 (rg_add (rg_k (740 : Int32) 740 rfl) h_291 (by decide +kernel))
                have uh_293 := h_293.1
                have vh_293 := h_293.2
                have tx_292 : (x_292).toInt = 740 + (x_290).toInt := by rw [ex_292]; exact i_add_rg (a2 := 740) (b2 := (x_290).toInt) rfl rfl (rg_k (740 : Int32) 740 rfl) h_291 (by decide +kernel)
                refine lv_istore (lv' := [(6, .int x_292), (0, .ref this), (1, .int a0), (2, .int a1), (3, .int a2), (4, .int a3), (5, .int a4)]) hx hb dX12_person_76 hl (by decide +kernel) rfl (fun ls hl => ?_)
                refine lv_aload_n hx hb dX12_person_78 rfl (lv_at hl 1 rfl) ?_
                refine pg_f (v := .ref w_280) (C := RX12) (T := TX12) (N := 31) hx hb hts (tw_i inlX12) hown hK hP hL_this hK_this (by decide +kernel) rfl 0 (by decide +kernel) (hts _ (tw_c tw_176)) (pq_hv rfl hR_w_280) dX12_person_79 ?_
                refine lv_iload hx hb dX12_person_82 (lv_at hl 0 rfl) ?_
                refine lv_iconst (v := 0) hx hb dX12_person_84 (by decide +kernel) ?_
                refine lv_iadd hx hb dX12_person_85 ?_
                refine lv_topi (fun x_294 ex_294 => ?_)
                replace hF := hF.trans (ap_n ex_294)
                have h_295 : rg x_294 740 1208 := rg_of_eq ex_294 (rg_add h_293 (rg_k (0 : Int32) 0 rfl) (by decide +kernel))
                have uh_295 := h_295.1
                have vh_295 := h_295.2
                have tx_294 : (x_294).toInt = (x_292).toInt + 0 := by rw [ex_294]; exact i_add_rg (a2 := (x_292).toInt) (b2 := 0) rfl rfl h_293 (rg_k (0 : Int32) 0 rfl) (by decide +kernel)
                refine lv_iload_n hx hb dX12_person_86 rfl (lv_at hl 2 rfl) ?_
                refine pt_i hx hb hK hP hD hS hL_w_280 hK_w_280 hN_w_280 (rg_in h_295 (by decide +kernel)) dX12_person_87 (fun r_296 H locs er_296 hP hD hS => ?_)
                replace hFr := fr_R hFr hO_w_280 (by decide +kernel) er_296
                replace hF := hF.trans (ap_n (vR_st hVT hO_w_280 (by decide +kernel) er_296))
                have hG := GM.wz hG hT_w_280 (by decide +kernel) er_296 (zn_PERSON (c := x_281.toNatClampNeg) (k := 0) (by have z_i := clampE x_294; have z_0 := clampE x_281; omega) (rg_cl1 h_289 (by decide +kernel)) (by decide +kernel)) rfl (rg_w h_163 (by decide +kernel)) (by decide +kernel)
                have h_297 : r_296 w_280 5 = x_281 := cz_ne er_296 (zn_PERSON (c := x_281.toNatClampNeg) (k := 0) (by have z_i := clampE x_294; have z_0 := clampE x_281; omega) (rg_cl1 h_289 (by decide +kernel)) (by decide +kernel)) (by decide +kernel) (by decide +kernel) ex_281.symm
                refine lv_aload_n hx hb dX12_person_88 rfl (lv_at hl 1 rfl) ?_
                refine pg_f (v := .ref w_280) (C := RX12) (T := TX12) (N := 31) hx hb hts (tw_i inlX12) hown hK hP hL_this hK_this (by decide +kernel) rfl 0 (by decide +kernel) (hts _ (tw_c tw_176)) (pq_hv rfl hR_w_280) dX12_person_89 ?_
                refine lv_iload hx hb dX12_person_92 (lv_at hl 0 rfl) ?_
                refine lv_iconst (v := 1) hx hb dX12_person_94 (by decide +kernel) ?_
                refine lv_iadd hx hb dX12_person_95 ?_
                refine lv_topi (fun x_298 ex_298 => ?_)
                replace hF := hF.trans (ap_n ex_298)
                have h_299 : rg x_298 741 1209 := rg_of_eq ex_298 (rg_add h_293 (rg_k (1 : Int32) 1 rfl) (by decide +kernel))
                have uh_299 := h_299.1
                have vh_299 := h_299.2
                have tx_298 : (x_298).toInt = (x_292).toInt + 1 := by rw [ex_298]; exact i_add_rg (a2 := (x_292).toInt) (b2 := 1) rfl rfl h_293 (rg_k (1 : Int32) 1 rfl) (by decide +kernel)
                refine lv_iload_n hx hb dX12_person_96 rfl (lv_at hl 3 rfl) ?_
                refine pt_i hx hb hK hP hD hS hL_w_280 hK_w_280 hN_w_280 (rg_in h_299 (by decide +kernel)) dX12_person_97 (fun r_300 H locs er_300 hP hD hS => ?_)
                replace hFr := fr_R hFr hO_w_280 (by decide +kernel) er_300
                replace hF := hF.trans (ap_n (vR_st hVT hO_w_280 (by decide +kernel) er_300))
                have hG := GM.wz hG hT_w_280 (by decide +kernel) er_300 (zn_PERSON (c := x_281.toNatClampNeg) (k := 1) (by have z_i := clampE x_298; have z_0 := clampE x_281; omega) (rg_cl1 h_289 (by decide +kernel)) (by decide +kernel)) rfl (rg_w h_194 (by decide +kernel)) (by decide +kernel)
                have h_301 : r_300 w_280 5 = x_281 := cz_ne er_300 (zn_PERSON (c := x_281.toNatClampNeg) (k := 1) (by have z_i := clampE x_298; have z_0 := clampE x_281; omega) (rg_cl1 h_289 (by decide +kernel)) (by decide +kernel)) (by decide +kernel) (by decide +kernel) h_297
                refine lv_aload_n hx hb dX12_person_98 rfl (lv_at hl 1 rfl) ?_
                refine pg_f (v := .ref w_280) (C := RX12) (T := TX12) (N := 31) hx hb hts (tw_i inlX12) hown hK hP hL_this hK_this (by decide +kernel) rfl 0 (by decide +kernel) (hts _ (tw_c tw_176)) (pq_hv rfl hR_w_280) dX12_person_99 ?_
                refine lv_iload hx hb dX12_person_102 (lv_at hl 0 rfl) ?_
                refine lv_iconst (v := 2) hx hb dX12_person_104 (by decide +kernel) ?_
                refine lv_iadd hx hb dX12_person_105 ?_
                refine lv_topi (fun x_302 ex_302 => ?_)
                replace hF := hF.trans (ap_n ex_302)
                have h_303 : rg x_302 742 1210 := rg_of_eq ex_302 (rg_add h_293 (rg_k (2 : Int32) 2 rfl) (by decide +kernel))
                have uh_303 := h_303.1
                have vh_303 := h_303.2
                have tx_302 : (x_302).toInt = (x_292).toInt + 2 := by rw [ex_302]; exact i_add_rg (a2 := (x_292).toInt) (b2 := 2) rfl rfl h_293 (rg_k (2 : Int32) 2 rfl) (by decide +kernel)
                refine lv_iload_n hx hb dX12_person_106 rfl (lv_at hl 4 rfl) ?_
                refine pt_i hx hb hK hP hD hS hL_w_280 hK_w_280 hN_w_280 (rg_in h_303 (by decide +kernel)) dX12_person_107 (fun r_304 H locs er_304 hP hD hS => ?_)
                replace hFr := fr_R hFr hO_w_280 (by decide +kernel) er_304
                replace hF := hF.trans (ap_n (vR_st hVT hO_w_280 (by decide +kernel) er_304))
                have hG := GM.wz hG hT_w_280 (by decide +kernel) er_304 (zn_PERSON (c := x_281.toNatClampNeg) (k := 2) (by have z_i := clampE x_302; have z_0 := clampE x_281; omega) (rg_cl1 h_289 (by decide +kernel)) (by decide +kernel)) rfl (rg_w h_225 (by decide +kernel)) (by decide +kernel)
                have h_305 : r_304 w_280 5 = x_281 := cz_ne er_304 (zn_PERSON (c := x_281.toNatClampNeg) (k := 2) (by have z_i := clampE x_302; have z_0 := clampE x_281; omega) (rg_cl1 h_289 (by decide +kernel)) (by decide +kernel)) (by decide +kernel) (by decide +kernel) h_301
                refine lv_aload_n hx hb dX12_person_108 rfl (lv_at hl 1 rfl) ?_
                refine pg_f (v := .ref w_280) (C := RX12) (T := TX12) (N := 31) hx hb hts (tw_i inlX12) hown hK hP hL_this hK_this (by decide +kernel) rfl 0 (by decide +kernel) (hts _ (tw_c tw_176)) (pq_hv rfl hR_w_280) dX12_person_109 ?_
                refine lv_iload hx hb dX12_person_112 (lv_at hl 0 rfl) ?_
                refine lv_iconst (v := 3) hx hb dX12_person_114 (by decide +kernel) ?_
                refine lv_iadd hx hb dX12_person_115 ?_
                refine lv_topi (fun x_306 ex_306 => ?_)
                replace hF := hF.trans (ap_n ex_306)
                have h_307 : rg x_306 743 1211 := rg_of_eq ex_306 (rg_add h_293 (rg_k (3 : Int32) 3 rfl) (by decide +kernel))
                have uh_307 := h_307.1
                have vh_307 := h_307.2
                have tx_306 : (x_306).toInt = (x_292).toInt + 3 := by rw [ex_306]; exact i_add_rg (a2 := (x_292).toInt) (b2 := 3) rfl rfl h_293 (rg_k (3 : Int32) 3 rfl) (by decide +kernel)
                refine lv_iload hx hb dX12_person_116 (lv_at hl 5 rfl) ?_
                refine pt_i hx hb hK hP hD hS hL_w_280 hK_w_280 hN_w_280 (rg_in h_307 (by decide +kernel)) dX12_person_118 (fun r_308 H locs er_308 hP hD hS => ?_)
                replace hFr := fr_R hFr hO_w_280 (by decide +kernel) er_308
                replace hF := hF.trans (ap_n (vR_st hVT hO_w_280 (by decide +kernel) er_308))
                have hG := GM.wp hG hT_w_280 (by decide +kernel) er_308 (zn_PERSON (c := x_281.toNatClampNeg) (k := 3) (by have z_i := clampE x_306; have z_0 := clampE x_281; omega) (rg_cl1 h_289 (by decide +kernel)) (by decide +kernel)) (rg_w f_246 (by decide +kernel)) (by omega) (by decide +kernel)
                have h_309 : r_308 w_280 5 = x_281 := cz_ne er_308 (zn_PERSON (c := x_281.toNatClampNeg) (k := 3) (by have z_i := clampE x_306; have z_0 := clampE x_281; omega) (rg_cl1 h_289 (by decide +kernel)) (by decide +kernel)) (by decide +kernel) (by decide +kernel) h_305
                refine lv_aload_n hx hb dX12_person_119 rfl (lv_at hl 1 rfl) ?_
                refine pg_f (v := .ref w_280) (C := RX12) (T := TX12) (N := 31) hx hb hts (tw_i inlX12) hown hK hP hL_this hK_this (by decide +kernel) rfl 0 (by decide +kernel) (hts _ (tw_c tw_176)) (pq_hv rfl hR_w_280) dX12_person_120 ?_
                refine lv_iload hx hb dX12_person_123 (lv_at hl 0 rfl) ?_
                refine lv_iconst (v := 4) hx hb dX12_person_125 (by decide +kernel) ?_
                refine lv_iadd hx hb dX12_person_126 ?_
                refine lv_topi (fun x_310 ex_310 => ?_)
                replace hF := hF.trans (ap_n ex_310)
                have h_311 : rg x_310 744 1212 := rg_of_eq ex_310 (rg_add h_293 (rg_k (4 : Int32) 4 rfl) (by decide +kernel))
                have uh_311 := h_311.1
                have vh_311 := h_311.2
                have tx_310 : (x_310).toInt = (x_292).toInt + 4 := by rw [ex_310]; exact i_add_rg (a2 := (x_292).toInt) (b2 := 4) rfl rfl h_293 (rg_k (4 : Int32) 4 rfl) (by decide +kernel)
                refine lv_iload hx hb dX12_person_127 (lv_at hl 6 rfl) ?_
                refine pt_i hx hb hK hP hD hS hL_w_280 hK_w_280 hN_w_280 (rg_in h_311 (by decide +kernel)) dX12_person_129 (fun r_312 H locs er_312 hP hD hS => ?_)
                replace hFr := fr_R hFr hO_w_280 (by decide +kernel) er_312
                replace hF := hF.trans (ap_n (vR_st hVT hO_w_280 (by decide +kernel) er_312))
                have hG := GM.wz hG hT_w_280 (by decide +kernel) er_312 (zn_PERSON (c := x_281.toNatClampNeg) (k := 4) (by have z_i := clampE x_310; have z_0 := clampE x_281; omega) (rg_cl1 h_289 (by decide +kernel)) (by decide +kernel)) rfl (rg_w h_277 (by decide +kernel)) (by decide +kernel)
                have h_313 : r_312 w_280 5 = x_281 := cz_ne er_312 (zn_PERSON (c := x_281.toNatClampNeg) (k := 4) (by have z_i := clampE x_310; have z_0 := clampE x_281; omega) (rg_cl1 h_289 (by decide +kernel)) (by decide +kernel)) (by decide +kernel) (by decide +kernel) h_309
                refine lv_aload_n hx hb dX12_person_130 rfl (lv_at hl 1 rfl) ?_
                refine pg_f (v := .ref w_280) (C := RX12) (T := TX12) (N := 31) hx hb hts (tw_i inlX12) hown hK hP hL_this hK_this (by decide +kernel) rfl 0 (by decide +kernel) (hts _ (tw_c tw_176)) (pq_hv rfl hR_w_280) dX12_person_131 ?_
                refine lv_iload hx hb dX12_person_134 (lv_at hl 0 rfl) ?_
                refine lv_bipush (v := 7) hx hb dX12_person_136 (by decide +kernel) ?_
                refine lv_iadd hx hb dX12_person_138 ?_
                refine lv_topi (fun x_314 ex_314 => ?_)
                replace hF := hF.trans (ap_n ex_314)
                have h_315 : rg x_314 747 1215 := rg_of_eq ex_314 (rg_add h_293 (rg_k (7 : Int32) 7 rfl) (by decide +kernel))
                have uh_315 := h_315.1
                have vh_315 := h_315.2
                have tx_314 : (x_314).toInt = (x_292).toInt + 7 := by rw [ex_314]; exact i_add_rg (a2 := (x_292).toInt) (b2 := 7) rfl rfl h_293 (rg_k (7 : Int32) 7 rfl) (by decide +kernel)
                refine lv_iconst (v := (-1)) hx hb dX12_person_139 (by decide +kernel) ?_
                refine pt_i hx hb hK hP hD hS hL_w_280 hK_w_280 hN_w_280 (rg_in h_315 (by decide +kernel)) dX12_person_140 (fun r_316 H locs er_316 hP hD hS => ?_)
                replace hFr := fr_R hFr hO_w_280 (by decide +kernel) er_316
                replace hF := hF.trans (ap_n (vR_st hVT hO_w_280 (by decide +kernel) er_316))
                have hG := GM.wz hG hT_w_280 (by decide +kernel) er_316 (zn_PERSON (c := x_281.toNatClampNeg) (k := 7) (by have z_i := clampE x_314; have z_0 := clampE x_281; omega) (rg_cl1 h_289 (by decide +kernel)) (by decide +kernel)) rfl (rg_w (rg_k (-1 : Int32) (-1) rfl) (by decide +kernel)) (by decide +kernel)
                have h_317 : r_316 w_280 5 = x_281 := cz_ne er_316 (zn_PERSON (c := x_281.toNatClampNeg) (k := 7) (by have z_i := clampE x_314; have z_0 := clampE x_281; omega) (rg_cl1 h_289 (by decide +kernel)) (by decide +kernel)) (by decide +kernel) (by decide +kernel) h_313
                refine lv_aload_n hx hb dX12_person_141 rfl (lv_at hl 1 rfl) ?_
                refine pg_f (v := .ref w_280) (C := RX12) (T := TX12) (N := 31) hx hb hts (tw_i inlX12) hown hK hP hL_this hK_this (by decide +kernel) rfl 0 (by decide +kernel) (hts _ (tw_c tw_176)) (pq_hv rfl hR_w_280) dX12_person_142 ?_
                refine lv_iload hx hb dX12_person_145 (lv_at hl 0 rfl) ?_
                refine lv_bipush (v := 8) hx hb dX12_person_147 (by decide +kernel) ?_
                refine lv_iadd hx hb dX12_person_149 ?_
                refine lv_topi (fun x_318 ex_318 => ?_)
                replace hF := hF.trans (ap_n ex_318)
                have h_319 : rg x_318 748 1216 := rg_of_eq ex_318 (rg_add h_293 (rg_k (8 : Int32) 8 rfl) (by decide +kernel))
                have uh_319 := h_319.1
                have vh_319 := h_319.2
                have tx_318 : (x_318).toInt = (x_292).toInt + 8 := by rw [ex_318]; exact i_add_rg (a2 := (x_292).toInt) (b2 := 8) rfl rfl h_293 (rg_k (8 : Int32) 8 rfl) (by decide +kernel)
                refine lv_iconst (v := (-1)) hx hb dX12_person_150 (by decide +kernel) ?_
                refine pt_i hx hb hK hP hD hS hL_w_280 hK_w_280 hN_w_280 (rg_in h_319 (by decide +kernel)) dX12_person_151 (fun r_320 H locs er_320 hP hD hS => ?_)
                replace hFr := fr_R hFr hO_w_280 (by decide +kernel) er_320
                replace hF := hF.trans (ap_n (vR_st hVT hO_w_280 (by decide +kernel) er_320))
                have hG := GM.wz hG hT_w_280 (by decide +kernel) er_320 (zn_PERSON (c := x_281.toNatClampNeg) (k := 8) (by have z_i := clampE x_318; have z_0 := clampE x_281; omega) (rg_cl1 h_289 (by decide +kernel)) (by decide +kernel)) rfl (rg_w (rg_k (-1 : Int32) (-1) rfl) (by decide +kernel)) (by decide +kernel)
                have h_321 : r_320 w_280 5 = x_281 := cz_ne er_320 (zn_PERSON (c := x_281.toNatClampNeg) (k := 8) (by have z_i := clampE x_318; have z_0 := clampE x_281; omega) (rg_cl1 h_289 (by decide +kernel)) (by decide +kernel)) (by decide +kernel) (by decide +kernel) h_317
                refine lv_aload_n hx hb dX12_person_152 rfl (lv_at hl 1 rfl) ?_
                refine pg_f (v := .ref w_280) (C := RX12) (T := TX12) (N := 31) hx hb hts (tw_i inlX12) hown hK hP hL_this hK_this (by decide +kernel) rfl 0 (by decide +kernel) (hts _ (tw_c tw_176)) (pq_hv rfl hR_w_280) dX12_person_153 ?_
                refine lv_iconst (v := 5) hx hb dX12_person_156 (by decide +kernel) ?_
                refine lv_dup2_11 hx hb dX12_person_157 rfl rfl ?_
                refine pl_i hx hb hK hP hL_w_280 hK_w_280 hN_w_280 (vp_in_iff.mpr (by decide +kernel)) dX12_person_158 ?_
                refine lv_tov x_281 h_321 ?_
                refine lv_iconst (v := 1) hx hb dX12_person_159 (by decide +kernel) ?_
                refine lv_iadd hx hb dX12_person_160 ?_
                refine lv_topi (fun x_322 ex_322 => ?_)
                replace hF := hF.trans (ap_n ex_322)
                have h_323 : rg x_322 1 40 := rg_of_eq ex_322 (rg_add h_289 (rg_k (1 : Int32) 1 rfl) (by decide +kernel))
                have uh_323 := h_323.1
                have vh_323 := h_323.2
                have tx_322 : (x_322).toInt = (x_281).toInt + 1 := by rw [ex_322]; exact i_add_rg (a2 := (x_281).toInt) (b2 := 1) rfl rfl h_289 (rg_k (1 : Int32) 1 rfl) (by decide +kernel)
                refine pt_i hx hb hK hP hD hS hL_w_280 hK_w_280 hN_w_280 (vp_in_iff.mpr (by decide +kernel)) dX12_person_161 (fun r_324 H locs er_324 hP hD hS => ?_)
                replace hFr := fr_R hFr hO_w_280 (by decide +kernel) er_324
                replace hF := hF.trans (ap_n (vR_st hVT hO_w_280 (by decide +kernel) er_324))
                have hG := GM.wz hG hT_w_280 (by decide +kernel) er_324 (show zn ((5 : Int32)).toNatClampNeg = 5 from by decide +kernel) rfl (rg_w h_323 (by decide +kernel)) (by decide +kernel)
                have h_325 : r_324 w_280 5 = x_322 := cz_eq er_324
                refine lv_aload_n hx hb dX12_person_162 rfl (lv_at hl 1 rfl) ?_
                refine pg_f (v := .ref w_280) (C := RX12) (T := TX12) (N := 31) hx hb hts (tw_i inlX12) hown hK hP hL_this hK_this (by decide +kernel) rfl 0 (by decide +kernel) (hts _ (tw_c tw_176)) (pq_hv rfl hR_w_280) dX12_person_163 ?_
                refine lv_iconst (v := 5) hx hb dX12_person_166 (by decide +kernel) ?_
                refine pl_i hx hb hK hP hL_w_280 hK_w_280 hN_w_280 (vp_in_iff.mpr (by decide +kernel)) dX12_person_167 ?_
                refine lv_tov x_322 h_325 ?_
                refine lv_iconst (v := 1) hx hb dX12_person_168 (by decide +kernel) ?_
                refine lv_isub hx hb dX12_person_169 ?_
                refine lv_topi (fun x_326 ex_326 => ?_)
                replace hF := hF.trans (ap_n ex_326)
                have h_327 : rg x_326 0 39 := rg_of_eq ex_326 (rg_sub h_323 (rg_k (1 : Int32) 1 rfl) (by decide +kernel))
                have uh_327 := h_327.1
                have vh_327 := h_327.2
                have tx_326 : (x_326).toInt = (x_322).toInt - 1 := by rw [ex_326]; exact i_sub_rg (a2 := (x_322).toInt) (b2 := 1) rfl rfl h_323 (rg_k (1 : Int32) 1 rfl) (by decide +kernel)
                subst hQ
                exact W.iret (v := x_326) hx hb hr (fun t1 ht hW => ⟨⟨x_326, (σ, I, J, r_324, rj, rq), rfl, ⟨r_324, rfl, hG, (hF0.symm.trans hF), hFr, (rg_w h_327 (by decide +kernel))⟩, by rw [ht]; exact hP, va_K.moved hW.alike hK, hD⟩, hS.F ht⟩) hS.2.2 dX12_person_170
              · replace hF := hF.trans (if_pos c_283)
                have tc_328 : (x_281).toInt = 40 := congrArg Int32.toInt c_283
                have h_329 : rg x_281 40 40 := rg_and h_282 (rg_of_eq c_283 (rg_k (40 : Int32) 40 rfl)) (by decide +kernel)
                have uh_329 := h_329.1
                have vh_329 := h_329.2
                exact K_142 _ _ _ hF hFr hG hP hD hS (lv_sub hl [] rfl)
  exact go _ _ _ hP hD hS hl
