theorem dX2_walk_0 : decode cX2_walk 0 = .ok (.iconst 0, 1) := oc_3 (by decide +kernel)
theorem dX2_walk_1 : decode cX2_walk 1 = .ok (.istore_n 2, 1) := oc_61 (by decide +kernel)
theorem dX2_walk_2 : decode cX2_walk 2 = .ok (.iload_n 2, 1) := oc_28 (by decide +kernel)
theorem dX2_walk_3 : decode cX2_walk 3 = .ok (.aload_n 0, 1) := oc_42 (by decide +kernel)
theorem dX2_walk_4 : decode cX2_walk 4 = .ok (.getfield 73, 3) := oc_180 (a := 0) (b := 73) (by decide +kernel)
theorem dX2_walk_7 : decode cX2_walk 7 = .ok (.if_icmp .ge 38, 3) := oc_162 (a := 0) (b := 38) (by decide +kernel)
theorem dX2_walk_45 : decode cX2_walk 45 = .ok (.iconst 0, 1) := oc_3 (by decide +kernel)
theorem dX2_walk_46 : decode cX2_walk 46 = .ok (.istore_n 2, 1) := oc_61 (by decide +kernel)
theorem dX2_walk_47 : decode cX2_walk 47 = .ok (.iload_n 2, 1) := oc_28 (by decide +kernel)
theorem dX2_walk_48 : decode cX2_walk 48 = .ok (.aload_n 0, 1) := oc_42 (by decide +kernel)
theorem dX2_walk_49 : decode cX2_walk 49 = .ok (.getfield 73, 3) := oc_180 (a := 0) (b := 73) (by decide +kernel)
theorem dX2_walk_52 : decode cX2_walk 52 = .ok (.if_icmp .ge 72, 3) := oc_162 (a := 0) (b := 72) (by decide +kernel)
theorem dX2_walk_124 : decode cX2_walk 124 = .ok (.return_, 1) := oc_177 (by decide +kernel)
theorem dX2_walk_55 : decode cX2_walk 55 = .ok (.aload_n 0, 1) := oc_42 (by decide +kernel)
theorem dX2_walk_56 : decode cX2_walk 56 = .ok (.getfield 28, 3) := oc_180 (a := 0) (b := 28) (by decide +kernel)
theorem dX2_walk_59 : decode cX2_walk 59 = .ok (.iload_n 2, 1) := oc_28 (by decide +kernel)
theorem dX2_walk_60 : decode cX2_walk 60 = .ok (.dup2, 1) := oc_92 (by decide +kernel)
theorem dX2_walk_61 : decode cX2_walk 61 = .ok (.iaload, 1) := oc_46 (by decide +kernel)
theorem dX2_walk_62 : decode cX2_walk 62 = .ok (.aload_n 0, 1) := oc_42 (by decide +kernel)
theorem tw_98 : Cond.fieldLink RX2 56 "RingsUnder$Land" "leaves" "[I" ∈ wsL_law := sg_5 _ (List.mem_of_getElem? (i := 2) rfl)
theorem dX2_walk_63 : decode cX2_walk 63 = .ok (.getfield 56, 3) := oc_180 (a := 0) (b := 56) (by decide +kernel)
theorem dX2_walk_66 : decode cX2_walk 66 = .ok (.iload_n 2, 1) := oc_28 (by decide +kernel)
theorem dX2_walk_67 : decode cX2_walk 67 = .ok (.iaload, 1) := oc_46 (by decide +kernel)
theorem dX2_walk_68 : decode cX2_walk 68 = .ok (.isub, 1) := oc_100 (by decide +kernel)
theorem dX2_walk_69 : decode cX2_walk 69 = .ok (.iastore, 1) := oc_79 (by decide +kernel)
theorem dX2_walk_70 : decode cX2_walk 70 = .ok (.aload_n 0, 1) := oc_42 (by decide +kernel)
theorem dX2_walk_71 : decode cX2_walk 71 = .ok (.getfield 50, 3) := oc_180 (a := 0) (b := 50) (by decide +kernel)
theorem dX2_walk_74 : decode cX2_walk 74 = .ok (.iload_n 2, 1) := oc_28 (by decide +kernel)
theorem dX2_walk_75 : decode cX2_walk 75 = .ok (.iaload, 1) := oc_46 (by decide +kernel)
theorem dX2_walk_76 : decode cX2_walk 76 = .ok (.iconst (-1), 1) := oc_2 (by decide +kernel)
theorem dX2_walk_118 : decode cX2_walk 118 = .ok (.iinc 2 1, 3) := oc_132 (b := 1) (by decide +kernel)
theorem dX2_walk_121 : decode cX2_walk 121 = .ok (.goto (-74), 3) := oc_167 (a := 255) (b := 182) (by decide +kernel)
theorem dX2_walk_77 : decode cX2_walk 77 = .ok (.if_icmp .ne 21, 3) := oc_160 (a := 0) (b := 21) (by decide +kernel)
theorem dX2_walk_98 : decode cX2_walk 98 = .ok (.aload_n 0, 1) := oc_42 (by decide +kernel)
theorem dX2_walk_99 : decode cX2_walk 99 = .ok (.getfield 28, 3) := oc_180 (a := 0) (b := 28) (by decide +kernel)
theorem dX2_walk_102 : decode cX2_walk 102 = .ok (.aload_n 0, 1) := oc_42 (by decide +kernel)
theorem dX2_walk_103 : decode cX2_walk 103 = .ok (.getfield 50, 3) := oc_180 (a := 0) (b := 50) (by decide +kernel)
theorem dX2_walk_106 : decode cX2_walk 106 = .ok (.iload_n 2, 1) := oc_28 (by decide +kernel)
theorem dX2_walk_107 : decode cX2_walk 107 = .ok (.iaload, 1) := oc_46 (by decide +kernel)
theorem dX2_walk_108 : decode cX2_walk 108 = .ok (.dup2, 1) := oc_92 (by decide +kernel)
theorem dX2_walk_109 : decode cX2_walk 109 = .ok (.iaload, 1) := oc_46 (by decide +kernel)
theorem dX2_walk_110 : decode cX2_walk 110 = .ok (.aload_n 0, 1) := oc_42 (by decide +kernel)
theorem dX2_walk_111 : decode cX2_walk 111 = .ok (.getfield 56, 3) := oc_180 (a := 0) (b := 56) (by decide +kernel)
theorem dX2_walk_114 : decode cX2_walk 114 = .ok (.iload_n 2, 1) := oc_28 (by decide +kernel)
theorem dX2_walk_115 : decode cX2_walk 115 = .ok (.iaload, 1) := oc_46 (by decide +kernel)
theorem dX2_walk_116 : decode cX2_walk 116 = .ok (.iadd, 1) := oc_96 (by decide +kernel)
theorem dX2_walk_117 : decode cX2_walk 117 = .ok (.iastore, 1) := oc_79 (by decide +kernel)
theorem dX2_walk_80 : decode cX2_walk 80 = .ok (.aload_n 0, 1) := oc_42 (by decide +kernel)
theorem dX2_walk_81 : decode cX2_walk 81 = .ok (.dup, 1) := oc_89 (by decide +kernel)
theorem dX2_walk_82 : decode cX2_walk 82 = .ok (.getfield 76, 3) := oc_180 (a := 0) (b := 76) (by decide +kernel)
theorem dX2_walk_85 : decode cX2_walk 85 = .ok (.aload_n 0, 1) := oc_42 (by decide +kernel)
theorem dX2_walk_86 : decode cX2_walk 86 = .ok (.getfield 56, 3) := oc_180 (a := 0) (b := 56) (by decide +kernel)
theorem dX2_walk_89 : decode cX2_walk 89 = .ok (.iload_n 2, 1) := oc_28 (by decide +kernel)
theorem dX2_walk_90 : decode cX2_walk 90 = .ok (.iaload, 1) := oc_46 (by decide +kernel)
theorem dX2_walk_91 : decode cX2_walk 91 = .ok (.iadd, 1) := oc_96 (by decide +kernel)
theorem dX2_walk_92 : decode cX2_walk 92 = .ok (.putfield 76, 3) := oc_181 (a := 0) (b := 76) (by decide +kernel)
theorem dX2_walk_95 : decode cX2_walk 95 = .ok (.goto 23, 3) := oc_167 (a := 0) (b := 23) (by decide +kernel)
theorem dX2_walk_10 : decode cX2_walk 10 = .ok (.aload_n 0, 1) := oc_42 (by decide +kernel)
theorem dX2_walk_11 : decode cX2_walk 11 = .ok (.getfield 56, 3) := oc_180 (a := 0) (b := 56) (by decide +kernel)
theorem dX2_walk_14 : decode cX2_walk 14 = .ok (.iload_n 2, 1) := oc_28 (by decide +kernel)
theorem dX2_walk_15 : decode cX2_walk 15 = .ok (.aload_n 0, 1) := oc_42 (by decide +kernel)
theorem dX2_walk_16 : decode cX2_walk 16 = .ok (.getfield 34, 3) := oc_180 (a := 0) (b := 34) (by decide +kernel)
theorem dX2_walk_19 : decode cX2_walk 19 = .ok (.iload_n 2, 1) := oc_28 (by decide +kernel)
theorem dX2_walk_20 : decode cX2_walk 20 = .ok (.iaload, 1) := oc_46 (by decide +kernel)
theorem dX2_walk_38 : decode cX2_walk 38 = .ok (.iastore, 1) := oc_79 (by decide +kernel)
theorem dX2_walk_39 : decode cX2_walk 39 = .ok (.iinc 2 1, 3) := oc_132 (b := 1) (by decide +kernel)
theorem dX2_walk_42 : decode cX2_walk 42 = .ok (.goto (-40), 3) := oc_167 (a := 255) (b := 216) (by decide +kernel)
theorem dX2_walk_21 : decode cX2_walk 21 = .ok (.ifCond .ne 16, 3) := oc_154 (a := 0) (b := 16) (by decide +kernel)
theorem dX2_walk_37 : decode cX2_walk 37 = .ok (.iconst 0, 1) := oc_3 (by decide +kernel)
theorem dX2_walk_24 : decode cX2_walk 24 = .ok (.aload_n 0, 1) := oc_42 (by decide +kernel)
theorem dX2_walk_25 : decode cX2_walk 25 = .ok (.getfield 28, 3) := oc_180 (a := 0) (b := 28) (by decide +kernel)
theorem dX2_walk_28 : decode cX2_walk 28 = .ok (.iload_n 2, 1) := oc_28 (by decide +kernel)
theorem dX2_walk_29 : decode cX2_walk 29 = .ok (.iaload, 1) := oc_46 (by decide +kernel)
theorem dX2_walk_30 : decode cX2_walk 30 = .ok (.iload_n 1, 1) := oc_27 (by decide +kernel)
theorem dX2_walk_31 : decode cX2_walk 31 = .ok (.invokestatic 105, 3) := oc_184 (a := 0) (b := 105) (by decide +kernel)
theorem dX2_walk_34 : decode cX2_walk 34 = .ok (.goto 4, 3) := oc_167 (a := 0) (b := 4) (by decide +kernel)
theorem dX2_tide_0 : decode cX2_tide 0 = .ok (.aload_n 0, 1) := oc_42 (by decide +kernel)
theorem dX2_tide_1 : decode cX2_tide 1 = .ok (.lconst 0, 1) := oc_9 (by decide +kernel)
theorem dX2_tide_2 : decode cX2_tide 2 = .ok (.putfield 79, 3) := oc_181 (a := 0) (b := 79) (by decide +kernel)
theorem dX2_tide_5 : decode cX2_tide 5 = .ok (.lconst 0, 1) := oc_9 (by decide +kernel)
theorem dX2_tide_6 : decode cX2_tide 6 = .ok (.lstore 4, 2) := oc_55 (by decide +kernel)
theorem dX2_tide_8 : decode cX2_tide 8 = .ok (.iconst 0, 1) := oc_3 (by decide +kernel)
theorem dX2_tide_9 : decode cX2_tide 9 = .ok (.istore 6, 2) := oc_54 (by decide +kernel)
theorem dX2_tide_11 : decode cX2_tide 11 = .ok (.iload 6, 2) := oc_21 (by decide +kernel)
theorem dX2_tide_13 : decode cX2_tide 13 = .ok (.aload_n 0, 1) := oc_42 (by decide +kernel)
theorem dX2_tide_14 : decode cX2_tide 14 = .ok (.getfield 73, 3) := oc_180 (a := 0) (b := 73) (by decide +kernel)
theorem dX2_tide_17 : decode cX2_tide 17 = .ok (.if_icmp .ge 73, 3) := oc_162 (a := 0) (b := 73) (by decide +kernel)
theorem dX2_tide_90 : decode cX2_tide 90 = .ok (.iload_n 1, 1) := oc_27 (by decide +kernel)
theorem dX2_tide_91 : decode cX2_tide 91 = .ok (.ifCond .lt 18, 3) := oc_155 (a := 0) (b := 18) (by decide +kernel)
theorem dX2_tide_109 : decode cX2_tide 109 = .ok (.return_, 1) := oc_177 (by decide +kernel)
theorem dX2_tide_94 : decode cX2_tide 94 = .ok (.iload_n 1, 1) := oc_27 (by decide +kernel)
theorem dX2_tide_95 : decode cX2_tide 95 = .ok (.sipush 600, 3) := oc_17 (a := 2) (b := 88) (by decide +kernel)
theorem dX2_tide_98 : decode cX2_tide 98 = .ok (.if_icmp .ge 11, 3) := oc_162 (a := 0) (b := 11) (by decide +kernel)
theorem dX2_tide_101 : decode cX2_tide 101 = .ok (.aload_n 0, 1) := oc_42 (by decide +kernel)
theorem dX2_tide_102 : decode cX2_tide 102 = .ok (.getfield 9, 3) := oc_180 (a := 0) (b := 9) (by decide +kernel)
theorem dX2_tide_105 : decode cX2_tide 105 = .ok (.iload_n 1, 1) := oc_27 (by decide +kernel)
theorem dX2_tide_106 : decode cX2_tide 106 = .ok (.lload 4, 2) := oc_22 (by decide +kernel)
theorem dX2_tide_108 : decode cX2_tide 108 = .ok (.lastore, 1) := oc_80 (by decide +kernel)
theorem dX2_tide_20 : decode cX2_tide 20 = .ok (.aload_n 0, 1) := oc_42 (by decide +kernel)
theorem dX2_tide_21 : decode cX2_tide 21 = .ok (.iload 6, 2) := oc_21 (by decide +kernel)
theorem tw_1074 : Cond.methodLink RX2 114 yX2_topOf ∈ wsL_law := sg_45 _ (List.mem_of_getElem? (i := 18) rfl)
theorem tw_1075 : Cond.instanceMethod yX2_topOf ∈ wsL_law := sg_45 _ (List.mem_of_getElem? (i := 19) rfl)
theorem tw_1076 : Cond.selects RX2 yX2_topOf yX2_topOf ∈ wsL_law := sg_45 _ (List.mem_of_getElem? (i := 20) rfl)
theorem tw_1077 : Cond.code yX2_topOf cX2_topOf 2 (some .int) ∈ wsL_law := sg_45 _ (List.mem_of_getElem? (i := 21) rfl)
theorem dX2_tide_23 : decode cX2_tide 23 = .ok (.invokevirtual 114, 3) := oc_182 (a := 0) (b := 114) (by decide +kernel)
theorem dX2_tide_26 : decode cX2_tide 26 = .ok (.istore 7, 2) := oc_54 (by decide +kernel)
theorem dX2_tide_28 : decode cX2_tide 28 = .ok (.iload 7, 2) := oc_21 (by decide +kernel)
theorem dX2_tide_30 : decode cX2_tide 30 = .ok (.iload_n 3, 1) := oc_29 (by decide +kernel)
theorem dX2_tide_43 : decode cX2_tide 43 = .ok (.iload 7, 2) := oc_21 (by decide +kernel)
theorem dX2_tide_45 : decode cX2_tide 45 = .ok (.iload_n 2, 1) := oc_28 (by decide +kernel)
theorem dX2_tide_84 : decode cX2_tide 84 = .ok (.iinc 6 1, 3) := oc_132 (b := 1) (by decide +kernel)
theorem dX2_tide_87 : decode cX2_tide 87 = .ok (.goto (-76), 3) := oc_167 (a := 255) (b := 180) (by decide +kernel)
theorem dX2_tide_46 : decode cX2_tide 46 = .ok (.if_icmp .le 27, 3) := oc_164 (a := 0) (b := 27) (by decide +kernel)
theorem dX2_tide_73 : decode cX2_tide 73 = .ok (.aload_n 0, 1) := oc_42 (by decide +kernel)
theorem dX2_tide_74 : decode cX2_tide 74 = .ok (.getfield 40, 3) := oc_180 (a := 0) (b := 40) (by decide +kernel)
theorem dX2_tide_77 : decode cX2_tide 77 = .ok (.iload 6, 2) := oc_21 (by decide +kernel)
theorem dX2_tide_79 : decode cX2_tide 79 = .ok (.dup2, 1) := oc_92 (by decide +kernel)
theorem dX2_tide_80 : decode cX2_tide 80 = .ok (.iaload, 1) := oc_46 (by decide +kernel)
theorem dX2_tide_81 : decode cX2_tide 81 = .ok (.iconst 1, 1) := oc_4 (by decide +kernel)
theorem dX2_tide_82 : decode cX2_tide 82 = .ok (.iadd, 1) := oc_96 (by decide +kernel)
theorem dX2_tide_83 : decode cX2_tide 83 = .ok (.iastore, 1) := oc_79 (by decide +kernel)
theorem dX2_tide_49 : decode cX2_tide 49 = .ok (.aload_n 0, 1) := oc_42 (by decide +kernel)
theorem dX2_tide_50 : decode cX2_tide 50 = .ok (.dup, 1) := oc_89 (by decide +kernel)
theorem dX2_tide_51 : decode cX2_tide 51 = .ok (.getfield 79, 3) := oc_180 (a := 0) (b := 79) (by decide +kernel)
theorem dX2_tide_54 : decode cX2_tide 54 = .ok (.lconst 1, 1) := oc_10 (by decide +kernel)
theorem dX2_tide_55 : decode cX2_tide 55 = .ok (.iload 6, 2) := oc_21 (by decide +kernel)
theorem dX2_tide_57 : decode cX2_tide 57 = .ok (.lshl, 1) := oc_121 (by decide +kernel)
theorem dX2_tide_58 : decode cX2_tide 58 = .ok (.lor, 1) := oc_129 (by decide +kernel)
theorem dX2_tide_59 : decode cX2_tide 59 = .ok (.putfield 79, 3) := oc_181 (a := 0) (b := 79) (by decide +kernel)
theorem dX2_tide_62 : decode cX2_tide 62 = .ok (.aload_n 0, 1) := oc_42 (by decide +kernel)
theorem dX2_tide_63 : decode cX2_tide 63 = .ok (.getfield 40, 3) := oc_180 (a := 0) (b := 40) (by decide +kernel)
theorem dX2_tide_66 : decode cX2_tide 66 = .ok (.iload 6, 2) := oc_21 (by decide +kernel)
theorem dX2_tide_68 : decode cX2_tide 68 = .ok (.iconst 0, 1) := oc_3 (by decide +kernel)
theorem dX2_tide_69 : decode cX2_tide 69 = .ok (.iastore, 1) := oc_79 (by decide +kernel)
theorem dX2_tide_70 : decode cX2_tide 70 = .ok (.goto 14, 3) := oc_167 (a := 0) (b := 14) (by decide +kernel)
theorem dX2_tide_31 : decode cX2_tide 31 = .ok (.if_icmp .le 12, 3) := oc_164 (a := 0) (b := 12) (by decide +kernel)
theorem dX2_tide_34 : decode cX2_tide 34 = .ok (.lload 4, 2) := oc_22 (by decide +kernel)
theorem dX2_tide_36 : decode cX2_tide 36 = .ok (.lconst 1, 1) := oc_10 (by decide +kernel)
theorem dX2_tide_37 : decode cX2_tide 37 = .ok (.iload 6, 2) := oc_21 (by decide +kernel)
theorem dX2_tide_39 : decode cX2_tide 39 = .ok (.lshl, 1) := oc_121 (by decide +kernel)
theorem dX2_tide_40 : decode cX2_tide 40 = .ok (.lor, 1) := oc_129 (by decide +kernel)
theorem dX2_tide_41 : decode cX2_tide 41 = .ok (.lstore 4, 2) := oc_55 (by decide +kernel)
theorem dX2_giveUpBeds_0 : decode cX2_giveUpBeds 0 = .ok (.iconst 0, 1) := oc_3 (by decide +kernel)
theorem dX2_giveUpBeds_1 : decode cX2_giveUpBeds 1 = .ok (.istore_n 1, 1) := oc_60 (by decide +kernel)
theorem dX2_giveUpBeds_2 : decode cX2_giveUpBeds 2 = .ok (.iload_n 1, 1) := oc_27 (by decide +kernel)
theorem dX2_giveUpBeds_3 : decode cX2_giveUpBeds 3 = .ok (.aload_n 0, 1) := oc_42 (by decide +kernel)
theorem dX2_giveUpBeds_4 : decode cX2_giveUpBeds 4 = .ok (.getfield 73, 3) := oc_180 (a := 0) (b := 73) (by decide +kernel)
theorem dX2_giveUpBeds_7 : decode cX2_giveUpBeds 7 = .ok (.if_icmp .ge 24, 3) := oc_162 (a := 0) (b := 24) (by decide +kernel)
theorem dX2_giveUpBeds_31 : decode cX2_giveUpBeds 31 = .ok (.return_, 1) := oc_177 (by decide +kernel)
theorem dX2_giveUpBeds_10 : decode cX2_giveUpBeds 10 = .ok (.aload_n 0, 1) := oc_42 (by decide +kernel)
theorem dX2_giveUpBeds_11 : decode cX2_giveUpBeds 11 = .ok (.iload_n 1, 1) := oc_27 (by decide +kernel)
theorem tw_1082 : Cond.methodLink RX2 118 yX2_isDry ∈ wsL_law := sg_46 _ (List.mem_of_getElem? (i := 2) rfl)
theorem tw_555 : Cond.instanceMethod yX2_isDry ∈ wsL_law := sg_24 _ (List.mem_of_getElem? (i := 3) rfl)
theorem tw_556 : Cond.selects RX2 yX2_isDry yX2_isDry ∈ wsL_law := sg_24 _ (List.mem_of_getElem? (i := 4) rfl)
theorem tw_557 : Cond.code yX2_isDry cX2_isDry 2 (some .boolean) ∈ wsL_law := sg_24 _ (List.mem_of_getElem? (i := 5) rfl)
theorem dX2_giveUpBeds_12 : decode cX2_giveUpBeds 12 = .ok (.invokevirtual 118, 3) := oc_182 (a := 0) (b := 118) (by decide +kernel)
theorem dX2_giveUpBeds_25 : decode cX2_giveUpBeds 25 = .ok (.iinc 1 1, 3) := oc_132 (b := 1) (by decide +kernel)
theorem dX2_giveUpBeds_28 : decode cX2_giveUpBeds 28 = .ok (.goto (-26), 3) := oc_167 (a := 255) (b := 230) (by decide +kernel)
theorem dX2_giveUpBeds_15 : decode cX2_giveUpBeds 15 = .ok (.ifCond .ne 10, 3) := oc_154 (a := 0) (b := 10) (by decide +kernel)
theorem dX2_giveUpBeds_18 : decode cX2_giveUpBeds 18 = .ok (.aload_n 0, 1) := oc_42 (by decide +kernel)
theorem dX2_giveUpBeds_19 : decode cX2_giveUpBeds 19 = .ok (.getfield 37, 3) := oc_180 (a := 0) (b := 37) (by decide +kernel)
theorem dX2_giveUpBeds_22 : decode cX2_giveUpBeds 22 = .ok (.iload_n 1, 1) := oc_27 (by decide +kernel)
theorem dX2_giveUpBeds_23 : decode cX2_giveUpBeds 23 = .ok (.iconst 0, 1) := oc_3 (by decide +kernel)
theorem dX2_giveUpBeds_24 : decode cX2_giveUpBeds 24 = .ok (.iastore, 1) := oc_79 (by decide +kernel)
theorem dX2_countWalls_0 : decode cX2_countWalls 0 = .ok (.iconst 0, 1) := oc_3 (by decide +kernel)
theorem dX2_countWalls_1 : decode cX2_countWalls 1 = .ok (.istore_n 1, 1) := oc_60 (by decide +kernel)
theorem dX2_countWalls_2 : decode cX2_countWalls 2 = .ok (.iconst 0, 1) := oc_3 (by decide +kernel)
theorem dX2_countWalls_3 : decode cX2_countWalls 3 = .ok (.istore_n 2, 1) := oc_61 (by decide +kernel)
theorem dX2_countWalls_4 : decode cX2_countWalls 4 = .ok (.iload_n 2, 1) := oc_28 (by decide +kernel)
theorem dX2_countWalls_5 : decode cX2_countWalls 5 = .ok (.aload_n 0, 1) := oc_42 (by decide +kernel)
theorem dX2_countWalls_6 : decode cX2_countWalls 6 = .ok (.getfield 73, 3) := oc_180 (a := 0) (b := 73) (by decide +kernel)
theorem dX2_countWalls_9 : decode cX2_countWalls 9 = .ok (.if_icmp .ge 21, 3) := oc_162 (a := 0) (b := 21) (by decide +kernel)
theorem dX2_countWalls_30 : decode cX2_countWalls 30 = .ok (.iload_n 1, 1) := oc_27 (by decide +kernel)
theorem dX2_countWalls_31 : decode cX2_countWalls 31 = .ok (.ireturn, 1) := oc_172 (by decide +kernel)
theorem dX2_countWalls_12 : decode cX2_countWalls 12 = .ok (.aload_n 0, 1) := oc_42 (by decide +kernel)
theorem dX2_countWalls_13 : decode cX2_countWalls 13 = .ok (.getfield 34, 3) := oc_180 (a := 0) (b := 34) (by decide +kernel)
theorem dX2_countWalls_16 : decode cX2_countWalls 16 = .ok (.iload_n 2, 1) := oc_28 (by decide +kernel)
theorem dX2_countWalls_17 : decode cX2_countWalls 17 = .ok (.iaload, 1) := oc_46 (by decide +kernel)
theorem dX2_countWalls_24 : decode cX2_countWalls 24 = .ok (.iinc 2 1, 3) := oc_132 (b := 1) (by decide +kernel)
theorem dX2_countWalls_27 : decode cX2_countWalls 27 = .ok (.goto (-23), 3) := oc_167 (a := 255) (b := 233) (by decide +kernel)
theorem dX2_countWalls_18 : decode cX2_countWalls 18 = .ok (.ifCond .le 6, 3) := oc_158 (a := 0) (b := 6) (by decide +kernel)
theorem dX2_countWalls_21 : decode cX2_countWalls 21 = .ok (.iinc 1 1, 3) := oc_132 (b := 1) (by decide +kernel)
theorem dX2_measure_0 : decode cX2_measure 0 = .ok (.iload_n 1, 1) := oc_27 (by decide +kernel)
theorem dX2_measure_1 : decode cX2_measure 1 = .ok (.istore_n 2, 1) := oc_61 (by decide +kernel)
theorem dX2_measure_2 : decode cX2_measure 2 = .ok (.iconst 0, 1) := oc_3 (by decide +kernel)
theorem dX2_measure_3 : decode cX2_measure 3 = .ok (.istore_n 3, 1) := oc_62 (by decide +kernel)
theorem dX2_measure_4 : decode cX2_measure 4 = .ok (.iload_n 3, 1) := oc_29 (by decide +kernel)
theorem dX2_measure_5 : decode cX2_measure 5 = .ok (.iload_n 1, 1) := oc_27 (by decide +kernel)
theorem dX2_measure_6 : decode cX2_measure 6 = .ok (.if_icmp .gt 48, 3) := oc_163 (a := 0) (b := 48) (by decide +kernel)
theorem dX2_measure_54 : decode cX2_measure 54 = .ok (.return_, 1) := oc_177 (by decide +kernel)
theorem dX2_measure_9 : decode cX2_measure 9 = .ok (.iload_n 3, 1) := oc_29 (by decide +kernel)
theorem dX2_measure_10 : decode cX2_measure 10 = .ok (.aload_n 0, 1) := oc_42 (by decide +kernel)
theorem tw_100 : Cond.fieldLink RX2 62 "RingsUnder$Land" "widths" "[I" ∈ wsL_law := sg_5 _ (List.mem_of_getElem? (i := 4) rfl)
theorem dX2_measure_11 : decode cX2_measure 11 = .ok (.getfield 62, 3) := oc_180 (a := 0) (b := 62) (by decide +kernel)
theorem dX2_measure_14 : decode cX2_measure 14 = .ok (.arraylength, 1) := oc_190 (by decide +kernel)
theorem dX2_measure_15 : decode cX2_measure 15 = .ok (.if_icmp .ge 39, 3) := oc_162 (a := 0) (b := 39) (by decide +kernel)
theorem dX2_measure_18 : decode cX2_measure 18 = .ok (.iload_n 2, 1) := oc_28 (by decide +kernel)
theorem dX2_measure_41 : decode cX2_measure 41 = .ok (.aload_n 0, 1) := oc_42 (by decide +kernel)
theorem dX2_measure_42 : decode cX2_measure 42 = .ok (.getfield 62, 3) := oc_180 (a := 0) (b := 62) (by decide +kernel)
theorem dX2_measure_45 : decode cX2_measure 45 = .ok (.iload_n 3, 1) := oc_29 (by decide +kernel)
theorem dX2_measure_46 : decode cX2_measure 46 = .ok (.iload_n 2, 1) := oc_28 (by decide +kernel)
theorem dX2_measure_47 : decode cX2_measure 47 = .ok (.iastore, 1) := oc_79 (by decide +kernel)
theorem dX2_measure_48 : decode cX2_measure 48 = .ok (.iinc 3 1, 3) := oc_132 (b := 1) (by decide +kernel)
theorem dX2_measure_51 : decode cX2_measure 51 = .ok (.goto (-47), 3) := oc_167 (a := 255) (b := 209) (by decide +kernel)
theorem dX2_measure_19 : decode cX2_measure 19 = .ok (.ifCond .le 22, 3) := oc_158 (a := 0) (b := 22) (by decide +kernel)
theorem dX2_measure_22 : decode cX2_measure 22 = .ok (.iload_n 2, 1) := oc_28 (by decide +kernel)
theorem dX2_measure_23 : decode cX2_measure 23 = .ok (.iload_n 2, 1) := oc_28 (by decide +kernel)
theorem dX2_measure_24 : decode cX2_measure 24 = .ok (.imul, 1) := oc_104 (by decide +kernel)
theorem dX2_measure_25 : decode cX2_measure 25 = .ok (.iload_n 3, 1) := oc_29 (by decide +kernel)
theorem dX2_measure_26 : decode cX2_measure 26 = .ok (.iload_n 3, 1) := oc_29 (by decide +kernel)
theorem dX2_measure_27 : decode cX2_measure 27 = .ok (.imul, 1) := oc_104 (by decide +kernel)
theorem dX2_measure_28 : decode cX2_measure 28 = .ok (.iadd, 1) := oc_96 (by decide +kernel)
theorem dX2_measure_29 : decode cX2_measure 29 = .ok (.iload_n 1, 1) := oc_27 (by decide +kernel)
theorem dX2_measure_30 : decode cX2_measure 30 = .ok (.iload_n 1, 1) := oc_27 (by decide +kernel)
theorem dX2_measure_31 : decode cX2_measure 31 = .ok (.imul, 1) := oc_104 (by decide +kernel)
theorem dX2_measure_32 : decode cX2_measure 32 = .ok (.if_icmp .le 9, 3) := oc_164 (a := 0) (b := 9) (by decide +kernel)
theorem dX2_measure_35 : decode cX2_measure 35 = .ok (.iinc 2 (-1), 3) := oc_132 (b := 255) (by decide +kernel)
theorem dX2_measure_38 : decode cX2_measure 38 = .ok (.goto (-20), 3) := oc_167 (a := 255) (b := 236) (by decide +kernel)
theorem dJ6_bitCount_0f7a4_0 : decode cJ6_bitCount_0f7a4 0 = .ok (.iload_n 0, 1) := oc_26 (by decide +kernel)
theorem dJ6_bitCount_0f7a4_1 : decode cJ6_bitCount_0f7a4 1 = .ok (.iload_n 0, 1) := oc_26 (by decide +kernel)
theorem dJ6_bitCount_0f7a4_2 : decode cJ6_bitCount_0f7a4 2 = .ok (.iconst 1, 1) := oc_4 (by decide +kernel)
theorem dJ6_bitCount_0f7a4_3 : decode cJ6_bitCount_0f7a4 3 = .ok (.iushr, 1) := oc_124 (by decide +kernel)
theorem tw_1150 : Cond.constant RJ6 265 (1431655765) ∈ wsL_law := sg_48 _ (List.mem_of_getElem? (i := 22) rfl)
theorem dJ6_bitCount_0f7a4_4 : decode cJ6_bitCount_0f7a4 4 = .ok (.ldc_w 265, 3) := oc_19 (a := 1) (b := 9) (by decide +kernel)
theorem dJ6_bitCount_0f7a4_7 : decode cJ6_bitCount_0f7a4 7 = .ok (.iand, 1) := oc_126 (by decide +kernel)
theorem dJ6_bitCount_0f7a4_8 : decode cJ6_bitCount_0f7a4 8 = .ok (.isub, 1) := oc_100 (by decide +kernel)
theorem dJ6_bitCount_0f7a4_9 : decode cJ6_bitCount_0f7a4 9 = .ok (.istore_n 0, 1) := oc_59 (by decide +kernel)
theorem dJ6_bitCount_0f7a4_10 : decode cJ6_bitCount_0f7a4 10 = .ok (.iload_n 0, 1) := oc_26 (by decide +kernel)
theorem tw_1151 : Cond.constant RJ6 266 (858993459) ∈ wsL_law := sg_48 _ (List.mem_of_getElem? (i := 23) rfl)
theorem dJ6_bitCount_0f7a4_11 : decode cJ6_bitCount_0f7a4 11 = .ok (.ldc_w 266, 3) := oc_19 (a := 1) (b := 10) (by decide +kernel)
theorem dJ6_bitCount_0f7a4_14 : decode cJ6_bitCount_0f7a4 14 = .ok (.iand, 1) := oc_126 (by decide +kernel)
theorem dJ6_bitCount_0f7a4_15 : decode cJ6_bitCount_0f7a4 15 = .ok (.iload_n 0, 1) := oc_26 (by decide +kernel)
theorem dJ6_bitCount_0f7a4_16 : decode cJ6_bitCount_0f7a4 16 = .ok (.iconst 2, 1) := oc_5 (by decide +kernel)
theorem dJ6_bitCount_0f7a4_17 : decode cJ6_bitCount_0f7a4 17 = .ok (.iushr, 1) := oc_124 (by decide +kernel)
theorem dJ6_bitCount_0f7a4_18 : decode cJ6_bitCount_0f7a4 18 = .ok (.ldc_w 266, 3) := oc_19 (a := 1) (b := 10) (by decide +kernel)
theorem dJ6_bitCount_0f7a4_21 : decode cJ6_bitCount_0f7a4 21 = .ok (.iand, 1) := oc_126 (by decide +kernel)
theorem dJ6_bitCount_0f7a4_22 : decode cJ6_bitCount_0f7a4 22 = .ok (.iadd, 1) := oc_96 (by decide +kernel)
theorem dJ6_bitCount_0f7a4_23 : decode cJ6_bitCount_0f7a4 23 = .ok (.istore_n 0, 1) := oc_59 (by decide +kernel)
theorem dJ6_bitCount_0f7a4_24 : decode cJ6_bitCount_0f7a4 24 = .ok (.iload_n 0, 1) := oc_26 (by decide +kernel)
theorem dJ6_bitCount_0f7a4_25 : decode cJ6_bitCount_0f7a4 25 = .ok (.iload_n 0, 1) := oc_26 (by decide +kernel)
theorem dJ6_bitCount_0f7a4_26 : decode cJ6_bitCount_0f7a4 26 = .ok (.iconst 4, 1) := oc_7 (by decide +kernel)
theorem dJ6_bitCount_0f7a4_27 : decode cJ6_bitCount_0f7a4 27 = .ok (.iushr, 1) := oc_124 (by decide +kernel)
theorem dJ6_bitCount_0f7a4_28 : decode cJ6_bitCount_0f7a4 28 = .ok (.iadd, 1) := oc_96 (by decide +kernel)
theorem tw_1152 : Cond.constant RJ6 267 (252645135) ∈ wsL_law := sg_49 _ (List.mem_of_getElem? (i := 0) rfl)
theorem dJ6_bitCount_0f7a4_29 : decode cJ6_bitCount_0f7a4 29 = .ok (.ldc_w 267, 3) := oc_19 (a := 1) (b := 11) (by decide +kernel)
theorem dJ6_bitCount_0f7a4_32 : decode cJ6_bitCount_0f7a4 32 = .ok (.iand, 1) := oc_126 (by decide +kernel)
theorem dJ6_bitCount_0f7a4_33 : decode cJ6_bitCount_0f7a4 33 = .ok (.istore_n 0, 1) := oc_59 (by decide +kernel)
theorem dJ6_bitCount_0f7a4_34 : decode cJ6_bitCount_0f7a4 34 = .ok (.iload_n 0, 1) := oc_26 (by decide +kernel)
theorem dJ6_bitCount_0f7a4_35 : decode cJ6_bitCount_0f7a4 35 = .ok (.iload_n 0, 1) := oc_26 (by decide +kernel)
theorem dJ6_bitCount_0f7a4_36 : decode cJ6_bitCount_0f7a4 36 = .ok (.bipush 8, 2) := oc_16 (a := 8) (by decide +kernel)
theorem dJ6_bitCount_0f7a4_38 : decode cJ6_bitCount_0f7a4 38 = .ok (.iushr, 1) := oc_124 (by decide +kernel)
theorem dJ6_bitCount_0f7a4_39 : decode cJ6_bitCount_0f7a4 39 = .ok (.iadd, 1) := oc_96 (by decide +kernel)
theorem dJ6_bitCount_0f7a4_40 : decode cJ6_bitCount_0f7a4 40 = .ok (.istore_n 0, 1) := oc_59 (by decide +kernel)
theorem dJ6_bitCount_0f7a4_41 : decode cJ6_bitCount_0f7a4 41 = .ok (.iload_n 0, 1) := oc_26 (by decide +kernel)
theorem dJ6_bitCount_0f7a4_42 : decode cJ6_bitCount_0f7a4 42 = .ok (.iload_n 0, 1) := oc_26 (by decide +kernel)
theorem dJ6_bitCount_0f7a4_43 : decode cJ6_bitCount_0f7a4 43 = .ok (.bipush 16, 2) := oc_16 (a := 16) (by decide +kernel)
theorem dJ6_bitCount_0f7a4_45 : decode cJ6_bitCount_0f7a4 45 = .ok (.iushr, 1) := oc_124 (by decide +kernel)
theorem dJ6_bitCount_0f7a4_46 : decode cJ6_bitCount_0f7a4 46 = .ok (.iadd, 1) := oc_96 (by decide +kernel)
theorem dJ6_bitCount_0f7a4_47 : decode cJ6_bitCount_0f7a4 47 = .ok (.istore_n 0, 1) := oc_59 (by decide +kernel)
theorem dJ6_bitCount_0f7a4_48 : decode cJ6_bitCount_0f7a4 48 = .ok (.iload_n 0, 1) := oc_26 (by decide +kernel)
theorem dJ6_bitCount_0f7a4_49 : decode cJ6_bitCount_0f7a4 49 = .ok (.bipush 63, 2) := oc_16 (a := 63) (by decide +kernel)
theorem dJ6_bitCount_0f7a4_51 : decode cJ6_bitCount_0f7a4 51 = .ok (.iand, 1) := oc_126 (by decide +kernel)
theorem dJ6_bitCount_0f7a4_52 : decode cJ6_bitCount_0f7a4 52 = .ok (.ireturn, 1) := oc_172 (by decide +kernel)
theorem dX2_mark_0 : decode cX2_mark 0 = .ok (.iconst 0, 1) := oc_3 (by decide +kernel)
theorem dX2_mark_1 : decode cX2_mark 1 = .ok (.iload_n 2, 1) := oc_28 (by decide +kernel)
theorem dX2_mark_2 : decode cX2_mark 2 = .ok (.iload_n 3, 1) := oc_29 (by decide +kernel)
theorem dX2_mark_3 : decode cX2_mark 3 = .ok (.isub, 1) := oc_100 (by decide +kernel)
theorem dX2_mark_4 : decode cX2_mark 4 = .ok (.invokestatic 111, 3) := oc_184 (a := 0) (b := 111) (by decide +kernel)
theorem dX2_mark_7 : decode cX2_mark 7 = .ok (.istore 4, 2) := oc_54 (by decide +kernel)
theorem dX2_mark_9 : decode cX2_mark 9 = .ok (.bipush 31, 2) := oc_16 (a := 31) (by decide +kernel)
theorem dX2_mark_11 : decode cX2_mark 11 = .ok (.iload_n 2, 1) := oc_28 (by decide +kernel)
theorem dX2_mark_12 : decode cX2_mark 12 = .ok (.iload_n 3, 1) := oc_29 (by decide +kernel)
theorem dX2_mark_13 : decode cX2_mark 13 = .ok (.iadd, 1) := oc_96 (by decide +kernel)
theorem dX2_mark_14 : decode cX2_mark 14 = .ok (.invokestatic 105, 3) := oc_184 (a := 0) (b := 105) (by decide +kernel)
theorem dX2_mark_17 : decode cX2_mark 17 = .ok (.istore 5, 2) := oc_54 (by decide +kernel)
theorem dX2_mark_19 : decode cX2_mark 19 = .ok (.iload 4, 2) := oc_21 (by decide +kernel)
theorem dX2_mark_21 : decode cX2_mark 21 = .ok (.istore 6, 2) := oc_54 (by decide +kernel)
theorem dX2_mark_23 : decode cX2_mark 23 = .ok (.iload 6, 2) := oc_21 (by decide +kernel)
theorem dX2_mark_25 : decode cX2_mark 25 = .ok (.iload 5, 2) := oc_21 (by decide +kernel)
theorem dX2_mark_27 : decode cX2_mark 27 = .ok (.if_icmp .gt 81, 3) := oc_163 (a := 0) (b := 81) (by decide +kernel)
theorem dX2_mark_108 : decode cX2_mark 108 = .ok (.return_, 1) := oc_177 (by decide +kernel)
theorem dX2_mark_30 : decode cX2_mark 30 = .ok (.iload 6, 2) := oc_21 (by decide +kernel)
theorem dX2_mark_32 : decode cX2_mark 32 = .ok (.iload_n 2, 1) := oc_28 (by decide +kernel)
theorem dX2_mark_33 : decode cX2_mark 33 = .ok (.isub, 1) := oc_100 (by decide +kernel)
theorem tw_1146 : Cond.methodLink RX2 138 Lib.Math.abs.name ∈ wsL_law := sg_48 _ (List.mem_of_getElem? (i := 18) rfl)
theorem tw_484 : Cond.static Lib.Math.abs.name ∈ wsL_law := sg_21 _ (List.mem_of_getElem? (i := 4) rfl)
theorem tw_485 : Cond.code Lib.Math.abs.name Lib.Math.abs.code 1 (some .int) ∈ wsL_law := sg_21 _ (List.mem_of_getElem? (i := 5) rfl)
theorem dX2_mark_34 : decode cX2_mark 34 = .ok (.invokestatic 138, 3) := oc_184 (a := 0) (b := 138) (by decide +kernel)
theorem dX2_mark_37 : decode cX2_mark 37 = .ok (.istore 7, 2) := oc_54 (by decide +kernel)
theorem dX2_mark_39 : decode cX2_mark 39 = .ok (.iload 7, 2) := oc_21 (by decide +kernel)
theorem dX2_mark_41 : decode cX2_mark 41 = .ok (.aload_n 0, 1) := oc_42 (by decide +kernel)
theorem dX2_mark_42 : decode cX2_mark 42 = .ok (.getfield 62, 3) := oc_180 (a := 0) (b := 62) (by decide +kernel)
theorem dX2_mark_45 : decode cX2_mark 45 = .ok (.arraylength, 1) := oc_190 (by decide +kernel)
theorem dX2_mark_102 : decode cX2_mark 102 = .ok (.iinc 6 1, 3) := oc_132 (b := 1) (by decide +kernel)
theorem dX2_mark_105 : decode cX2_mark 105 = .ok (.goto (-82), 3) := oc_167 (a := 255) (b := 174) (by decide +kernel)
theorem dX2_mark_46 : decode cX2_mark 46 = .ok (.if_icmp .ge 56, 3) := oc_162 (a := 0) (b := 56) (by decide +kernel)
theorem dX2_mark_49 : decode cX2_mark 49 = .ok (.iconst 0, 1) := oc_3 (by decide +kernel)
theorem dX2_mark_50 : decode cX2_mark 50 = .ok (.iload_n 1, 1) := oc_27 (by decide +kernel)
theorem dX2_mark_51 : decode cX2_mark 51 = .ok (.aload_n 0, 1) := oc_42 (by decide +kernel)
theorem dX2_mark_52 : decode cX2_mark 52 = .ok (.getfield 62, 3) := oc_180 (a := 0) (b := 62) (by decide +kernel)
theorem dX2_mark_55 : decode cX2_mark 55 = .ok (.iload 7, 2) := oc_21 (by decide +kernel)
theorem dX2_mark_57 : decode cX2_mark 57 = .ok (.iaload, 1) := oc_46 (by decide +kernel)
theorem dX2_mark_58 : decode cX2_mark 58 = .ok (.isub, 1) := oc_100 (by decide +kernel)
theorem dX2_mark_59 : decode cX2_mark 59 = .ok (.invokestatic 111, 3) := oc_184 (a := 0) (b := 111) (by decide +kernel)
theorem dX2_mark_62 : decode cX2_mark 62 = .ok (.istore 8, 2) := oc_54 (by decide +kernel)
theorem dX2_mark_64 : decode cX2_mark 64 = .ok (.bipush 31, 2) := oc_16 (a := 31) (by decide +kernel)
theorem dX2_mark_66 : decode cX2_mark 66 = .ok (.iload_n 1, 1) := oc_27 (by decide +kernel)
theorem dX2_mark_67 : decode cX2_mark 67 = .ok (.aload_n 0, 1) := oc_42 (by decide +kernel)
theorem dX2_mark_68 : decode cX2_mark 68 = .ok (.getfield 62, 3) := oc_180 (a := 0) (b := 62) (by decide +kernel)
theorem dX2_mark_71 : decode cX2_mark 71 = .ok (.iload 7, 2) := oc_21 (by decide +kernel)
theorem dX2_mark_73 : decode cX2_mark 73 = .ok (.iaload, 1) := oc_46 (by decide +kernel)
theorem dX2_mark_74 : decode cX2_mark 74 = .ok (.iadd, 1) := oc_96 (by decide +kernel)
theorem dX2_mark_75 : decode cX2_mark 75 = .ok (.invokestatic 105, 3) := oc_184 (a := 0) (b := 105) (by decide +kernel)
theorem dX2_mark_78 : decode cX2_mark 78 = .ok (.istore 9, 2) := oc_54 (by decide +kernel)
theorem dX2_mark_80 : decode cX2_mark 80 = .ok (.aload_n 0, 1) := oc_42 (by decide +kernel)
theorem tw_99 : Cond.fieldLink RX2 59 "RingsUnder$Land" "rows" "[I" ∈ wsL_law := sg_5 _ (List.mem_of_getElem? (i := 3) rfl)
theorem dX2_mark_81 : decode cX2_mark 81 = .ok (.getfield 59, 3) := oc_180 (a := 0) (b := 59) (by decide +kernel)
theorem dX2_mark_84 : decode cX2_mark 84 = .ok (.iload 6, 2) := oc_21 (by decide +kernel)
theorem dX2_mark_86 : decode cX2_mark 86 = .ok (.dup2, 1) := oc_92 (by decide +kernel)
theorem dX2_mark_87 : decode cX2_mark 87 = .ok (.iaload, 1) := oc_46 (by decide +kernel)
theorem dX2_mark_88 : decode cX2_mark 88 = .ok (.iconst (-1), 1) := oc_2 (by decide +kernel)
theorem dX2_mark_89 : decode cX2_mark 89 = .ok (.iload 8, 2) := oc_21 (by decide +kernel)
theorem dX2_mark_91 : decode cX2_mark 91 = .ok (.ishl, 1) := oc_120 (by decide +kernel)
theorem dX2_mark_92 : decode cX2_mark 92 = .ok (.iconst (-1), 1) := oc_2 (by decide +kernel)
theorem dX2_mark_93 : decode cX2_mark 93 = .ok (.bipush 31, 2) := oc_16 (a := 31) (by decide +kernel)
theorem dX2_mark_95 : decode cX2_mark 95 = .ok (.iload 9, 2) := oc_21 (by decide +kernel)
theorem dX2_mark_97 : decode cX2_mark 97 = .ok (.isub, 1) := oc_100 (by decide +kernel)
theorem dX2_mark_98 : decode cX2_mark 98 = .ok (.iushr, 1) := oc_124 (by decide +kernel)
theorem dX2_mark_99 : decode cX2_mark 99 = .ok (.iand, 1) := oc_126 (by decide +kernel)
theorem dX2_mark_100 : decode cX2_mark 100 = .ok (.ior, 1) := oc_128 (by decide +kernel)
theorem dX2_mark_101 : decode cX2_mark 101 = .ok (.iastore, 1) := oc_79 (by decide +kernel)
theorem dX2_countArea_0 : decode cX2_countArea 0 = .ok (.aload_n 0, 1) := oc_42 (by decide +kernel)
theorem dX2_countArea_1 : decode cX2_countArea 1 = .ok (.getfield 59, 3) := oc_180 (a := 0) (b := 59) (by decide +kernel)
theorem dX2_countArea_4 : decode cX2_countArea 4 = .ok (.iconst 0, 1) := oc_3 (by decide +kernel)
theorem dX2_countArea_5 : decode cX2_countArea 5 = .ok (.invokestatic 65, 3) := oc_184 (a := 0) (b := 65) (by decide +kernel)
theorem dX2_countArea_8 : decode cX2_countArea 8 = .ok (.aload_n 0, 1) := oc_42 (by decide +kernel)
theorem dX2_countArea_9 : decode cX2_countArea 9 = .ok (.iload_n 3, 1) := oc_29 (by decide +kernel)
theorem tw_1138 : Cond.methodLink RX2 125 yX2_measure ∈ wsL_law := sg_48 _ (List.mem_of_getElem? (i := 10) rfl)
theorem tw_1139 : Cond.instanceMethod yX2_measure ∈ wsL_law := sg_48 _ (List.mem_of_getElem? (i := 11) rfl)
theorem tw_1140 : Cond.selects RX2 yX2_measure yX2_measure ∈ wsL_law := sg_48 _ (List.mem_of_getElem? (i := 12) rfl)
theorem tw_1141 : Cond.code yX2_measure cX2_measure 4 none ∈ wsL_law := sg_48 _ (List.mem_of_getElem? (i := 13) rfl)
theorem dX2_countArea_10 : decode cX2_countArea 10 = .ok (.invokevirtual 125, 3) := oc_182 (a := 0) (b := 125) (by decide +kernel)
theorem dX2_countArea_13 : decode cX2_countArea 13 = .ok (.iconst 0, 1) := oc_3 (by decide +kernel)
theorem dX2_countArea_14 : decode cX2_countArea 14 = .ok (.istore 4, 2) := oc_54 (by decide +kernel)
theorem dX2_countArea_16 : decode cX2_countArea 16 = .ok (.iload 4, 2) := oc_21 (by decide +kernel)
theorem dX2_countArea_18 : decode cX2_countArea 18 = .ok (.aload_n 0, 1) := oc_42 (by decide +kernel)
theorem dX2_countArea_19 : decode cX2_countArea 19 = .ok (.getfield 73, 3) := oc_180 (a := 0) (b := 73) (by decide +kernel)
theorem dX2_countArea_22 : decode cX2_countArea 22 = .ok (.if_icmp .ge 37, 3) := oc_162 (a := 0) (b := 37) (by decide +kernel)
theorem dX2_countArea_59 : decode cX2_countArea 59 = .ok (.iconst 0, 1) := oc_3 (by decide +kernel)
theorem dX2_countArea_60 : decode cX2_countArea 60 = .ok (.istore 4, 2) := oc_54 (by decide +kernel)
theorem dX2_countArea_62 : decode cX2_countArea 62 = .ok (.iconst 0, 1) := oc_3 (by decide +kernel)
theorem dX2_countArea_63 : decode cX2_countArea 63 = .ok (.istore 5, 2) := oc_54 (by decide +kernel)
theorem dX2_countArea_65 : decode cX2_countArea 65 = .ok (.iload 5, 2) := oc_21 (by decide +kernel)
theorem dX2_countArea_67 : decode cX2_countArea 67 = .ok (.bipush 32, 2) := oc_16 (a := 32) (by decide +kernel)
theorem dX2_countArea_69 : decode cX2_countArea 69 = .ok (.if_icmp .ge 24, 3) := oc_162 (a := 0) (b := 24) (by decide +kernel)
theorem dX2_countArea_93 : decode cX2_countArea 93 = .ok (.iload 4, 2) := oc_21 (by decide +kernel)
theorem dX2_countArea_95 : decode cX2_countArea 95 = .ok (.ireturn, 1) := oc_172 (by decide +kernel)
theorem dX2_countArea_72 : decode cX2_countArea 72 = .ok (.iload 4, 2) := oc_21 (by decide +kernel)
theorem dX2_countArea_74 : decode cX2_countArea 74 = .ok (.aload_n 0, 1) := oc_42 (by decide +kernel)
theorem dX2_countArea_75 : decode cX2_countArea 75 = .ok (.getfield 59, 3) := oc_180 (a := 0) (b := 59) (by decide +kernel)
theorem dX2_countArea_78 : decode cX2_countArea 78 = .ok (.iload 5, 2) := oc_21 (by decide +kernel)
theorem dX2_countArea_80 : decode cX2_countArea 80 = .ok (.iaload, 1) := oc_46 (by decide +kernel)
theorem tw_1147 : Cond.methodLink RX2 133 yJ6_bitCount_0f7a4 ∈ wsL_law := sg_48 _ (List.mem_of_getElem? (i := 19) rfl)
theorem tw_1148 : Cond.static yJ6_bitCount_0f7a4 ∈ wsL_law := sg_48 _ (List.mem_of_getElem? (i := 20) rfl)
theorem tw_492 : Cond.initialized RJ6 ∈ wsL_law := sg_21 _ (List.mem_of_getElem? (i := 12) rfl)
theorem tw_1149 : Cond.code yJ6_bitCount_0f7a4 cJ6_bitCount_0f7a4 1 (some .int) ∈ wsL_law := sg_48 _ (List.mem_of_getElem? (i := 21) rfl)
theorem dX2_countArea_81 : decode cX2_countArea 81 = .ok (.invokestatic 133, 3) := oc_184 (a := 0) (b := 133) (by decide +kernel)
theorem dX2_countArea_84 : decode cX2_countArea 84 = .ok (.iadd, 1) := oc_96 (by decide +kernel)
theorem dX2_countArea_85 : decode cX2_countArea 85 = .ok (.istore 4, 2) := oc_54 (by decide +kernel)
theorem dX2_countArea_87 : decode cX2_countArea 87 = .ok (.iinc 5 1, 3) := oc_132 (b := 1) (by decide +kernel)
theorem dX2_countArea_90 : decode cX2_countArea 90 = .ok (.goto (-25), 3) := oc_167 (a := 255) (b := 231) (by decide +kernel)
theorem dX2_countArea_25 : decode cX2_countArea 25 = .ok (.lload_n 1, 1) := oc_31 (by decide +kernel)
theorem dX2_countArea_26 : decode cX2_countArea 26 = .ok (.iload 4, 2) := oc_21 (by decide +kernel)
theorem dX2_countArea_28 : decode cX2_countArea 28 = .ok (.invokestatic 101, 3) := oc_184 (a := 0) (b := 101) (by decide +kernel)
theorem dX2_countArea_53 : decode cX2_countArea 53 = .ok (.iinc 4 1, 3) := oc_132 (b := 1) (by decide +kernel)
theorem dX2_countArea_56 : decode cX2_countArea 56 = .ok (.goto (-40), 3) := oc_167 (a := 255) (b := 216) (by decide +kernel)
theorem dX2_countArea_31 : decode cX2_countArea 31 = .ok (.ifCond .eq 22, 3) := oc_153 (a := 0) (b := 22) (by decide +kernel)
theorem dX2_countArea_34 : decode cX2_countArea 34 = .ok (.aload_n 0, 1) := oc_42 (by decide +kernel)
theorem dX2_countArea_35 : decode cX2_countArea 35 = .ok (.aload_n 0, 1) := oc_42 (by decide +kernel)
theorem dX2_countArea_36 : decode cX2_countArea 36 = .ok (.getfield 22, 3) := oc_180 (a := 0) (b := 22) (by decide +kernel)
theorem dX2_countArea_39 : decode cX2_countArea 39 = .ok (.iload 4, 2) := oc_21 (by decide +kernel)
theorem dX2_countArea_41 : decode cX2_countArea 41 = .ok (.iaload, 1) := oc_46 (by decide +kernel)
theorem dX2_countArea_42 : decode cX2_countArea 42 = .ok (.aload_n 0, 1) := oc_42 (by decide +kernel)
theorem dX2_countArea_43 : decode cX2_countArea 43 = .ok (.getfield 25, 3) := oc_180 (a := 0) (b := 25) (by decide +kernel)
theorem dX2_countArea_46 : decode cX2_countArea 46 = .ok (.iload 4, 2) := oc_21 (by decide +kernel)
theorem dX2_countArea_48 : decode cX2_countArea 48 = .ok (.iaload, 1) := oc_46 (by decide +kernel)
theorem dX2_countArea_49 : decode cX2_countArea 49 = .ok (.iload_n 3, 1) := oc_29 (by decide +kernel)
theorem tw_1142 : Cond.methodLink RX2 129 yX2_mark ∈ wsL_law := sg_48 _ (List.mem_of_getElem? (i := 14) rfl)
theorem tw_1143 : Cond.instanceMethod yX2_mark ∈ wsL_law := sg_48 _ (List.mem_of_getElem? (i := 15) rfl)
theorem tw_1144 : Cond.selects RX2 yX2_mark yX2_mark ∈ wsL_law := sg_48 _ (List.mem_of_getElem? (i := 16) rfl)
theorem tw_1145 : Cond.code yX2_mark cX2_mark 10 none ∈ wsL_law := sg_48 _ (List.mem_of_getElem? (i := 17) rfl)
theorem dX2_countArea_50 : decode cX2_countArea 50 = .ok (.invokevirtual 129, 3) := oc_182 (a := 0) (b := 129) (by decide +kernel)
theorem dX3_copyFrom_0 : decode cX3_copyFrom 0 = .ok (.aload_n 0, 1) := oc_42 (by decide +kernel)
theorem dX3_copyFrom_1 : decode cX3_copyFrom 1 = .ok (.aload_n 1, 1) := oc_43 (by decide +kernel)
theorem tw_1388 : Cond.fieldLink RX3 33 "RingsUnder$Law" "textCount" "I" ∈ wsL_law := sg_58 _ (List.mem_of_getElem? (i := 20) rfl)
theorem dX3_copyFrom_2 : decode cX3_copyFrom 2 = .ok (.getfield 33, 3) := oc_180 (a := 0) (b := 33) (by decide +kernel)
theorem dX3_copyFrom_5 : decode cX3_copyFrom 5 = .ok (.putfield 33, 3) := oc_181 (a := 0) (b := 33) (by decide +kernel)
theorem dX3_copyFrom_8 : decode cX3_copyFrom 8 = .ok (.iconst 0, 1) := oc_3 (by decide +kernel)
theorem dX3_copyFrom_9 : decode cX3_copyFrom 9 = .ok (.istore_n 2, 1) := oc_61 (by decide +kernel)
theorem dX3_copyFrom_10 : decode cX3_copyFrom 10 = .ok (.iload_n 2, 1) := oc_28 (by decide +kernel)
theorem dX3_copyFrom_11 : decode cX3_copyFrom 11 = .ok (.bipush 10, 2) := oc_16 (a := 10) (by decide +kernel)
theorem dX3_copyFrom_13 : decode cX3_copyFrom 13 = .ok (.if_icmp .ge 21, 3) := oc_162 (a := 0) (b := 21) (by decide +kernel)
theorem dX3_copyFrom_34 : decode cX3_copyFrom 34 = .ok (.aload_n 0, 1) := oc_42 (by decide +kernel)
theorem dX3_copyFrom_35 : decode cX3_copyFrom 35 = .ok (.aload_n 1, 1) := oc_43 (by decide +kernel)
theorem tw_473 : Cond.fieldLink RX3 37 "RingsUnder$Law" "forces" "I" ∈ wsL_law := sg_20 _ (List.mem_of_getElem? (i := 17) rfl)
theorem dX3_copyFrom_36 : decode cX3_copyFrom 36 = .ok (.getfield 37, 3) := oc_180 (a := 0) (b := 37) (by decide +kernel)
theorem dX3_copyFrom_39 : decode cX3_copyFrom 39 = .ok (.putfield 37, 3) := oc_181 (a := 0) (b := 37) (by decide +kernel)
theorem dX3_copyFrom_42 : decode cX3_copyFrom 42 = .ok (.aload_n 1, 1) := oc_43 (by decide +kernel)
theorem tw_129 : Cond.fieldLink RX3 17 "RingsUnder$Law" "forceText" "[I" ∈ wsL_law := sg_6 _ (List.mem_of_getElem? (i := 9) rfl)
theorem dX3_copyFrom_43 : decode cX3_copyFrom 43 = .ok (.getfield 17, 3) := oc_180 (a := 0) (b := 17) (by decide +kernel)
theorem dX3_copyFrom_46 : decode cX3_copyFrom 46 = .ok (.aload_n 0, 1) := oc_42 (by decide +kernel)
theorem dX3_copyFrom_47 : decode cX3_copyFrom 47 = .ok (.getfield 17, 3) := oc_180 (a := 0) (b := 17) (by decide +kernel)
theorem dX3_copyFrom_50 : decode cX3_copyFrom 50 = .ok (.invokestatic 40, 3) := oc_184 (a := 0) (b := 40) (by decide +kernel)
theorem dX3_copyFrom_53 : decode cX3_copyFrom 53 = .ok (.aload_n 1, 1) := oc_43 (by decide +kernel)
theorem tw_130 : Cond.fieldLink RX3 21 "RingsUnder$Law" "forceFrom" "[I" ∈ wsL_law := sg_6 _ (List.mem_of_getElem? (i := 10) rfl)
theorem dX3_copyFrom_54 : decode cX3_copyFrom 54 = .ok (.getfield 21, 3) := oc_180 (a := 0) (b := 21) (by decide +kernel)
theorem dX3_copyFrom_57 : decode cX3_copyFrom 57 = .ok (.aload_n 0, 1) := oc_42 (by decide +kernel)
theorem dX3_copyFrom_58 : decode cX3_copyFrom 58 = .ok (.getfield 21, 3) := oc_180 (a := 0) (b := 21) (by decide +kernel)
theorem dX3_copyFrom_61 : decode cX3_copyFrom 61 = .ok (.invokestatic 40, 3) := oc_184 (a := 0) (b := 40) (by decide +kernel)
theorem dX3_copyFrom_64 : decode cX3_copyFrom 64 = .ok (.aload_n 1, 1) := oc_43 (by decide +kernel)
theorem tw_131 : Cond.fieldLink RX3 24 "RingsUnder$Law" "forceTo" "[I" ∈ wsL_law := sg_6 _ (List.mem_of_getElem? (i := 11) rfl)
theorem dX3_copyFrom_65 : decode cX3_copyFrom 65 = .ok (.getfield 24, 3) := oc_180 (a := 0) (b := 24) (by decide +kernel)
theorem dX3_copyFrom_68 : decode cX3_copyFrom 68 = .ok (.aload_n 0, 1) := oc_42 (by decide +kernel)
theorem dX3_copyFrom_69 : decode cX3_copyFrom 69 = .ok (.getfield 24, 3) := oc_180 (a := 0) (b := 24) (by decide +kernel)
theorem dX3_copyFrom_72 : decode cX3_copyFrom 72 = .ok (.invokestatic 40, 3) := oc_184 (a := 0) (b := 40) (by decide +kernel)
theorem dX3_copyFrom_75 : decode cX3_copyFrom 75 = .ok (.return_, 1) := oc_177 (by decide +kernel)
theorem dX3_copyFrom_16 : decode cX3_copyFrom 16 = .ok (.aload_n 0, 1) := oc_42 (by decide +kernel)
theorem tw_128 : Cond.fieldLink RX3 11 "RingsUnder$Law" "texts" "[LRingsUnder$Text;" ∈ wsL_law := sg_6 _ (List.mem_of_getElem? (i := 8) rfl)
theorem dX3_copyFrom_17 : decode cX3_copyFrom 17 = .ok (.getfield 11, 3) := oc_180 (a := 0) (b := 11) (by decide +kernel)
theorem dX3_copyFrom_20 : decode cX3_copyFrom 20 = .ok (.iload_n 2, 1) := oc_28 (by decide +kernel)
theorem dX3_copyFrom_21 : decode cX3_copyFrom 21 = .ok (.aload_n 1, 1) := oc_43 (by decide +kernel)
theorem dX3_copyFrom_22 : decode cX3_copyFrom 22 = .ok (.getfield 11, 3) := oc_180 (a := 0) (b := 11) (by decide +kernel)
theorem dX3_copyFrom_25 : decode cX3_copyFrom 25 = .ok (.iload_n 2, 1) := oc_28 (by decide +kernel)
theorem dX3_copyFrom_26 : decode cX3_copyFrom 26 = .ok (.aaload, 1) := oc_50 (by decide +kernel)
theorem dX3_copyFrom_27 : decode cX3_copyFrom 27 = .ok (.aastore, 1) := oc_83 (by decide +kernel)
theorem dX3_copyFrom_28 : decode cX3_copyFrom 28 = .ok (.iinc 2 1, 3) := oc_132 (b := 1) (by decide +kernel)
theorem dX3_copyFrom_31 : decode cX3_copyFrom 31 = .ok (.goto (-21), 3) := oc_167 (a := 255) (b := 235) (by decide +kernel)
set_option maxHeartbeats 4000000 in
set_option maxRecDepth 100000 in
theorem s_X2_walk (l : Launch) (D : va_G) (t : pq_T) (σ : pq_S) (I : Nat → Nat → Int32) (J : Nat → Nat → Int64) (ri : Nat → Nat → Int32) (rj : Nat → Nat → Int64) (rq : Nat → Nat → Option Nat) (sz : Nat) (tg : Nat → Nat) (hSH : SH σ tg) (hG0 : GS tg σ I ri rq) (this : Nat) (a0 : Int32) (hL_this : this ∈ σ.1) (hK_this : σ.2.1 this = 2) : MetV l yX2_walk (wa yX2_walk cX2_walk 3 none) ({ frames := 1, cells := 0, slots := 0, locals := 40 }) [.ref this, .int a0] D t σ (I, J, ri, rj, rq) sz 0 0 (fun (u : pq_S × pq_M) => ∃ I' : Nat → Nat → Int32, ∃ ri' : Nat → Nat → Int32, u = (σ, I', J, ri', rj, rq) ∧ GX [1073] tg σ I ri rj I' ri' rj rq) := by
  refine Met.ofW (cc := cX2_walk) (maxL := 3) (ret := none) (by decide) rfl ?_
  intro p e s m args below meth c s₁ B hml hv
  obtain ⟨rfl, hsz, hP, hK, hD0, hN⟩ := hv
  have hx := B.exec
  have hb := B.bytes
  have hr := B.returns
  have hts := atoms_spec (ws := (wa yX2_walk cX2_walk 3 none)) B.pre
  have hown : s.vm.findClass RX2 = some m.cls := findClass_of_methodNamed B.named
  have hlocks := B.notSynchronized
  subst hsz
  have hD : va_D (pq_B t σ (I, J, ri, rj, rq) s.heap.size) (pq_P t σ (I, J, ri, rj, rq)) := hD0.self
  generalize hAe : pq_B t σ (I, J, ri, rj, rq) s.heap.size = A at hD ⊢
  have hA : ∀ q : Nat, s.heap.size ≤ q → A q := fun q h => by rw [← hAe]; exact Or.inr h
  have hS : va_S A s.heap s.heap [] := va_S.rf
  have hG : GX [1073] tg σ I ri rj I ri rj rq := ⟨hG0, fun _ _ _ => rfl, fun _ _ _ _ _ => rfl, fun _ _ _ _ _ => rfl⟩
  have hl := lv_entry ([.ref this, .int a0]) (n := 3) (Nat.le_of_ble_eq_true rfl)
  rw [lg_entry_eq]
  generalize (lg_sl ([.ref this, .int a0]) ++ List.replicate (3 - (lg_sl ([.ref this, .int a0])).length) Slot.unset).toArray = ls at hl ⊢
  have hl : lv_has ls 3 [(0, .ref this), (1, .int a0)] := hl
  refine q_gen (fun Q hQ => ?_)
  have go : ∀ (H : Heap) (locs : List Loc) (ls : Array Slot), va_P D vwCl (pq_P t σ (I, J, ri, rj, rq)) H → va_D A (pq_P t σ (I, J, ri, rj, rq)) → va_S A s.heap H locs → lv_has ls 3 [(0, .ref this), (1, .int a0)] → W p l e ({ frames := 1, cells := 0, slots := 0, locals := 40 } : Room) s m (List.toArray ([.ref this, .int a0] : List Value)) below meth c H locs 0 0 Q (F0 m 0 ls []) := by
    intro H locs ls hP hD hS hl
    refine lv_iconst (v := 0) hx hb dX2_walk_0 (by decide) ?_
    refine lv_istore_n (lv' := [(2, .int 0), (0, .ref this), (1, .int a0)]) hx hb dX2_walk_1 rfl hl (by decide) rfl (fun ls hl => ?_)
    have L_3930 : ∀ (n_3929 : Nat) (x_3480 : Int32) (ri_3481 : Nat → Nat → Int32) (H : Heap) (locs : List Loc) (ls : Array Slot), rg x_3480 0 40 → (40 - (x_3480).toInt).toNat < n_3929 → GX [1073] tg σ I ri rj I ri_3481 rj rq → va_P D vwCl (pq_P t σ (I, J, ri_3481, rj, rq)) H → va_D A (pq_P t σ (I, J, ri_3481, rj, rq)) → va_S A s.heap H locs → lv_has ls 3 [(0, .ref this), (1, .int a0), (2, .int x_3480)] → W p l e ({ frames := 1, cells := 0, slots := 0, locals := 40 } : Room) s m (List.toArray ([.ref this, .int a0] : List Value)) below meth c H locs 0 0 Q (F0 m 2 ls []) := by
      intro n_3929
      induction n_3929 with
      | zero => intro x_3480 ri_3481 H locs ls h_3933 hm_3928 hG hP hD hS hl; exact absurd hm_3928 (Nat.not_lt_zero _)
      | succ n_3929 ih_3931 =>
        intro x_3480 ri_3481 H locs ls h_3933 hm_3928 hG hP hD hS hl
        refine lv_iload_n hx hb dX2_walk_2 rfl (lv_at hl 2 rfl) ?_
        refine lv_aload_n hx hb dX2_walk_3 rfl (lv_at hl 0 rfl) ?_
        refine pg_f (v := .int (I 65 this)) (C := RX2) (T := TX2) (N := 20) hx hb hts (tw_i inlX2) hown hK hP hL_this hK_this (by decide) rfl 1 (by decide) (hts _ (tw_c tw_222)) rfl dX2_walk_4 ?_
        have h_3934 : rg (I 65 this) 0 40 := GX.rI hG 65 rfl
        refine lv_icmp_ge (tgt := 45) hx hb dX2_walk_7 (by decide) (fun c_3935 => ?_) (fun c_3935 => ?_)
        · refine lv_iconst (v := 0) hx hb dX2_walk_45 (by decide) ?_
          refine lv_istore_n (lv' := [(2, .int 0), (0, .ref this), (1, .int a0)]) hx hb dX2_walk_46 rfl hl (by decide) rfl (fun ls hl => ?_)
          have L_4337 : ∀ (n_4336 : Nat) (x_4304 : Int32) (I_4305 : Nat → Nat → Int32) (ri_4306 : Nat → Nat → Int32) (H : Heap) (locs : List Loc) (ls : Array Slot), rg x_4304 0 40 → (40 - (x_4304).toInt).toNat < n_4336 → GX [1073] tg σ I ri rj I_4305 ri_4306 rj rq → va_P D vwCl (pq_P t σ (I_4305, J, ri_4306, rj, rq)) H → va_D A (pq_P t σ (I_4305, J, ri_4306, rj, rq)) → va_S A s.heap H locs → lv_has ls 3 [(0, .ref this), (2, .int x_4304)] → W p l e ({ frames := 1, cells := 0, slots := 0, locals := 40 } : Room) s m (List.toArray ([.ref this, .int a0] : List Value)) below meth c H locs 0 0 Q (F0 m 47 ls []) := by
            intro n_4336
            induction n_4336 with
            | zero => intro x_4304 I_4305 ri_4306 H locs ls h_4340 hm_4335 hG hP hD hS hl; exact absurd hm_4335 (Nat.not_lt_zero _)
            | succ n_4336 ih_4338 =>
              intro x_4304 I_4305 ri_4306 H locs ls h_4340 hm_4335 hG hP hD hS hl
              refine lv_iload_n hx hb dX2_walk_47 rfl (lv_at hl 1 rfl) ?_
              refine lv_aload_n hx hb dX2_walk_48 rfl (lv_at hl 0 rfl) ?_
              refine pg_f (v := .int (I_4305 65 this)) (C := RX2) (T := TX2) (N := 20) hx hb hts (tw_i inlX2) hown hK hP hL_this hK_this (by decide) rfl 1 (by decide) (hts _ (tw_c tw_222)) rfl dX2_walk_49 ?_
              have h_4341 : rg (I_4305 65 this) 0 40 := GX.rI hG 65 rfl
              refine lv_icmp_ge (tgt := 124) hx hb dX2_walk_52 (by decide) (fun c_4342 => ?_) (fun c_4342 => ?_)
              · subst hQ
                exact W.vret hx hb hr (fun t1 ht hW => ⟨⟨(σ, I_4305, J, ri_4306, rj, rq), rfl, ⟨I_4305, ri_4306, rfl, hG⟩, by rw [ht]; exact hP, va_K.moved hW.alike hK, hD⟩, hS.F ht⟩) hS.2.2 dX2_walk_124
              · have h_4343 : rg x_4304 0 39 := rg_lt1 (nle c_4342) h_4340 h_4341 (by decide)
                have h_4344 : rg (I_4305 65 this) 1 40 := rg_lt2 (nle c_4342) h_4340 h_4341 (by decide)
                refine lv_aload_n hx hb dX2_walk_55 rfl (lv_at hl 0 rfl) ?_
                obtain ⟨w_4345, hR_w_4345, hL_w_4345, hK_w_4345, hN_w_4345, hT_w_4345⟩ := sh_a hSH 73 (ci := 2) (kd := 13) (len := 40) rfl (by decide) hL_this hK_this
                refine pg_f (v := .ref w_4345) (C := RX2) (T := TX2) (N := 20) hx hb hts (tw_i inlX2) hown hK hP hL_this hK_this (by decide) rfl 9 (by decide) (hts _ (tw_c tw_87)) (pq_hv rfl hR_w_4345) dX2_walk_56 ?_
                refine lv_iload_n hx hb dX2_walk_59 rfl (lv_at hl 1 rfl) ?_
                refine lv_dup2_11 hx hb dX2_walk_60 rfl rfl ?_
                refine pl_i hx hb hK hP hL_w_4345 hK_w_4345 hN_w_4345 (rg_in h_4343 (by decide)) dX2_walk_61 ?_
                refine lv_topi (fun x_4346 ex_4346 => ?_)
                refine lv_aload_n hx hb dX2_walk_62 rfl (lv_at hl 0 rfl) ?_
                obtain ⟨w_4347, hR_w_4347, hL_w_4347, hK_w_4347, hN_w_4347, hT_w_4347⟩ := sh_a hSH 81 (ci := 2) (kd := 13) (len := 40) rfl (by decide) hL_this hK_this
                refine pg_f (v := .ref w_4347) (C := RX2) (T := TX2) (N := 20) hx hb hts (tw_i inlX2) hown hK hP hL_this hK_this (by decide) rfl 17 (by decide) (hts _ (tw_c tw_98)) (pq_hv rfl hR_w_4347) dX2_walk_63 ?_
                refine lv_iload_n hx hb dX2_walk_66 rfl (lv_at hl 1 rfl) ?_
                refine pl_i hx hb hK hP hL_w_4347 hK_w_4347 hN_w_4347 (rg_in h_4343 (by decide)) dX2_walk_67 ?_
                refine lv_topi (fun x_4348 ex_4348 => ?_)
                refine lv_isub hx hb dX2_walk_68 ?_
                refine lv_topi (fun x_4349 ex_4349 => ?_)
                refine pt_i hx hb hK hP hD hS hL_w_4345 hK_w_4345 hN_w_4345 (rg_in h_4343 (by decide)) dX2_walk_69 (fun r_4350 H locs er_4350 hP hD hS => ?_)
                have hG := GX.wR hG hSH hT_w_4345 rfl er_4350 (rg_w (rg_full _) (by decide)) (by decide)
                refine lv_aload_n hx hb dX2_walk_70 rfl (lv_at hl 0 rfl) ?_
                obtain ⟨w_4351, hR_w_4351, hL_w_4351, hK_w_4351, hN_w_4351, hT_w_4351⟩ := sh_a hSH 79 (ci := 2) (kd := 13) (len := 40) rfl (by decide) hL_this hK_this
                refine pg_f (v := .ref w_4351) (C := RX2) (T := TX2) (N := 20) hx hb hts (tw_i inlX2) hown hK hP hL_this hK_this (by decide) rfl 15 (by decide) (hts _ (tw_c tw_96)) (pq_hv rfl hR_w_4351) dX2_walk_71 ?_
                refine lv_iload_n hx hb dX2_walk_74 rfl (lv_at hl 1 rfl) ?_
                refine pl_i hx hb hK hP hL_w_4351 hK_w_4351 hN_w_4351 (rg_in h_4343 (by decide)) dX2_walk_75 ?_
                refine lv_topi (fun x_4352 ex_4352 => ?_)
                have h_4353 : rg x_4352 (-1) 39 := rg_of_eq ex_4352 (GX.rR hG hT_w_4351 rfl)
                refine lv_iconst (v := (-1)) hx hb dX2_walk_76 (by decide) ?_
                have K_4368 : ∀  (I_4364 : Nat → Nat → Int32) (ri_4365 : Nat → Nat → Int32) (H : Heap) (locs : List Loc) (ls : Array Slot), GX [1073] tg σ I ri rj I_4364 ri_4365 rj rq → va_P D vwCl (pq_P t σ (I_4364, J, ri_4365, rj, rq)) H → va_D A (pq_P t σ (I_4364, J, ri_4365, rj, rq)) → va_S A s.heap H locs → lv_has ls 3 [(0, .ref this), (2, .int x_4304)] → W p l e ({ frames := 1, cells := 0, slots := 0, locals := 40 } : Room) s m (List.toArray ([.ref this, .int a0] : List Value)) below meth c H locs 0 0 Q (F0 m 118 ls []) := by
                  intro I_4364 ri_4365 H locs ls hG hP hD hS hl
                  obtain ⟨x_4369, ex_4369⟩ : ∃ y : Int32, y = x_4304 + Int32.ofInt 1 := ⟨_, rfl⟩
                  have h_4370 : rg x_4369 1 40 := rg_of_eq ex_4369 (rg_add h_4343 (rg_k (Int32.ofInt 1) 1 rfl) (by decide))
                  refine lv_iinc (v := x_4369) (lv' := [(2, .int x_4369), (0, .ref this)]) hx hb dX2_walk_118 hl (k := 1) rfl ex_4369.symm (by decide) rfl (fun ls hl => ?_)
                  refine lv_goto (tgt := 47) hx hb dX2_walk_121 (by decide) ?_
                  exact ih_4338 x_4369 I_4364 ri_4365 _ _ _ (rg_w h_4370 (by decide)) (ms_up 1 hm_4335 ex_4369 rfl (by decide) h_4343 (by decide) (by decide)) hG hP hD hS (lv_sub hl [1, 0] rfl)
                refine lv_icmp_ne (tgt := 98) hx hb dX2_walk_77 (by decide) (fun c_4371 => ?_) (fun c_4371 => ?_)
                · have h_4372 : rg x_4352 0 39 := rg_ne c_4371 h_4353 (-1) rfl (by decide)
                  refine lv_aload_n hx hb dX2_walk_98 rfl (lv_at hl 0 rfl) ?_
                  refine pg_f (v := .ref w_4345) (C := RX2) (T := TX2) (N := 20) hx hb hts (tw_i inlX2) hown hK hP hL_this hK_this (by decide) rfl 9 (by decide) (hts _ (tw_c tw_87)) (pq_hv rfl hR_w_4345) dX2_walk_99 ?_
                  refine lv_aload_n hx hb dX2_walk_102 rfl (lv_at hl 0 rfl) ?_
                  refine pg_f (v := .ref w_4351) (C := RX2) (T := TX2) (N := 20) hx hb hts (tw_i inlX2) hown hK hP hL_this hK_this (by decide) rfl 15 (by decide) (hts _ (tw_c tw_96)) (pq_hv rfl hR_w_4351) dX2_walk_103 ?_
                  refine lv_iload_n hx hb dX2_walk_106 rfl (lv_at hl 1 rfl) ?_
                  refine pl_i hx hb hK hP hL_w_4351 hK_w_4351 hN_w_4351 (rg_in h_4343 (by decide)) dX2_walk_107 ?_
                  refine lv_tov x_4352 ex_4352.symm ?_
                  refine lv_dup2_11 hx hb dX2_walk_108 rfl rfl ?_
                  refine pl_i hx hb hK hP hL_w_4345 hK_w_4345 hN_w_4345 (rg_in h_4372 (by decide)) dX2_walk_109 ?_
                  refine lv_topi (fun x_4373 ex_4373 => ?_)
                  refine lv_aload_n hx hb dX2_walk_110 rfl (lv_at hl 0 rfl) ?_
                  refine pg_f (v := .ref w_4347) (C := RX2) (T := TX2) (N := 20) hx hb hts (tw_i inlX2) hown hK hP hL_this hK_this (by decide) rfl 17 (by decide) (hts _ (tw_c tw_98)) (pq_hv rfl hR_w_4347) dX2_walk_111 ?_
                  refine lv_iload_n hx hb dX2_walk_114 rfl (lv_at hl 1 rfl) ?_
                  refine pl_i hx hb hK hP hL_w_4347 hK_w_4347 hN_w_4347 (rg_in h_4343 (by decide)) dX2_walk_115 ?_
                  refine lv_topi (fun x_4374 ex_4374 => ?_)
                  refine lv_iadd hx hb dX2_walk_116 ?_
                  refine lv_topi (fun x_4375 ex_4375 => ?_)
                  refine pt_i hx hb hK hP hD hS hL_w_4345 hK_w_4345 hN_w_4345 (rg_in h_4372 (by decide)) dX2_walk_117 (fun r_4376 H locs er_4376 hP hD hS => ?_)
                  have hG := GX.wR hG hSH hT_w_4345 rfl er_4376 (rg_w (rg_full _) (by decide)) (by decide)
                  exact K_4368 I_4305 r_4376 _ _ _ hG hP hD hS (lv_sub hl [0, 1] rfl)
                · have h_4377 : rg x_4352 (-1) (-1) := rg_and h_4353 (rg_of_eq c_4371 (rg_k (-1 : Int32) (-1) rfl)) (by decide)
                  refine lv_aload_n hx hb dX2_walk_80 rfl (lv_at hl 0 rfl) ?_
                  refine lv_dup hx hb dX2_walk_81 rfl ?_
                  refine pg_f (v := .int (I_4305 66 this)) (C := RX2) (T := TX2) (N := 20) hx hb hts (tw_i inlX2) hown hK hP hL_this hK_this (by decide) rfl 2 (by decide) (hts _ (tw_c tw_1069)) rfl dX2_walk_82 ?_
                  refine lv_aload_n hx hb dX2_walk_85 rfl (lv_at hl 0 rfl) ?_
                  refine pg_f (v := .ref w_4347) (C := RX2) (T := TX2) (N := 20) hx hb hts (tw_i inlX2) hown hK hP hL_this hK_this (by decide) rfl 17 (by decide) (hts _ (tw_c tw_98)) (pq_hv rfl hR_w_4347) dX2_walk_86 ?_
                  refine lv_iload_n hx hb dX2_walk_89 rfl (lv_at hl 1 rfl) ?_
                  refine pl_i hx hb hK hP hL_w_4347 hK_w_4347 hN_w_4347 (rg_in h_4343 (by decide)) dX2_walk_90 ?_
                  refine lv_topi (fun x_4378 ex_4378 => ?_)
                  refine lv_iadd hx hb dX2_walk_91 ?_
                  refine lv_topi (fun x_4379 ex_4379 => ?_)
                  refine pp_i (v := x_4379) (ty := .int) (C := RX2) (T := TX2) (N := 20) hx hb hts (tw_i inlX2) tyX2 tyX2_ok nmX2 hown hK hP hD hS hL_this hK_this (by decide) rfl 2 66 (by decide) (hts _ (tw_c tw_1069)) rfl (tyX2_ok 2 (by decide)) rfl rfl (Nat.le_of_ble_eq_true rfl) (ps_66 _ _ _ _ _) dX2_walk_92 (fun I_4380 H locs eI_4380 hP hD hS => ?_)
                  have hG := GX.wI hG 66 rfl eI_4380 (rg_w (rg_full _) (by decide)) (by decide)
                  refine lv_goto (tgt := 118) hx hb dX2_walk_95 (by decide) ?_
                  exact K_4368 I_4380 r_4350 _ _ _ hG hP hD hS (lv_sub hl [0, 1] rfl)
          exact L_4337 _ (0 : Int32) I ri_3481 _ _ _ (rg_w (rg_k (0 : Int32) 0 rfl) (by decide)) (Nat.lt_succ_self _) hG hP hD hS (lv_sub hl [1, 0] rfl)
        · have h_4381 : rg x_3480 0 39 := rg_lt1 (nle c_3935) h_3933 h_3934 (by decide)
          have h_4382 : rg (I 65 this) 1 40 := rg_lt2 (nle c_3935) h_3933 h_3934 (by decide)
          refine lv_aload_n hx hb dX2_walk_10 rfl (lv_at hl 0 rfl) ?_
          obtain ⟨w_4383, hR_w_4383, hL_w_4383, hK_w_4383, hN_w_4383, hT_w_4383⟩ := sh_a hSH 81 (ci := 2) (kd := 13) (len := 40) rfl (by decide) hL_this hK_this
          refine pg_f (v := .ref w_4383) (C := RX2) (T := TX2) (N := 20) hx hb hts (tw_i inlX2) hown hK hP hL_this hK_this (by decide) rfl 17 (by decide) (hts _ (tw_c tw_98)) (pq_hv rfl hR_w_4383) dX2_walk_11 ?_
          refine lv_iload_n hx hb dX2_walk_14 rfl (lv_at hl 2 rfl) ?_
          refine lv_aload_n hx hb dX2_walk_15 rfl (lv_at hl 0 rfl) ?_
          obtain ⟨w_4384, hR_w_4384, hL_w_4384, hK_w_4384, hN_w_4384, hT_w_4384⟩ := sh_a hSH 75 (ci := 2) (kd := 13) (len := 40) rfl (by decide) hL_this hK_this
          refine pg_f (v := .ref w_4384) (C := RX2) (T := TX2) (N := 20) hx hb hts (tw_i inlX2) hown hK hP hL_this hK_this (by decide) rfl 11 (by decide) (hts _ (tw_c tw_89)) (pq_hv rfl hR_w_4384) dX2_walk_16 ?_
          refine lv_iload_n hx hb dX2_walk_19 rfl (lv_at hl 2 rfl) ?_
          refine pl_i hx hb hK hP hL_w_4384 hK_w_4384 hN_w_4384 (rg_in h_4381 (by decide)) dX2_walk_20 ?_
          refine lv_topi (fun x_4385 ex_4385 => ?_)
          have K_4395 : ∀  (x_4391 : Int32) (H : Heap) (locs : List Loc) (ls : Array Slot), GX [1073] tg σ I ri rj I ri_3481 rj rq → va_P D vwCl (pq_P t σ (I, J, ri_3481, rj, rq)) H → va_D A (pq_P t σ (I, J, ri_3481, rj, rq)) → va_S A s.heap H locs → lv_has ls 3 [(0, .ref this), (1, .int a0), (2, .int x_3480)] → W p l e ({ frames := 1, cells := 0, slots := 0, locals := 40 } : Room) s m (List.toArray ([.ref this, .int a0] : List Value)) below meth c H locs 0 0 Q (F0 m 38 ls [.int x_4391, .int x_3480, .ref w_4383]) := by
            intro x_4391 H locs ls hG hP hD hS hl
            refine pt_i hx hb hK hP hD hS hL_w_4383 hK_w_4383 hN_w_4383 (rg_in h_4381 (by decide)) dX2_walk_38 (fun r_4396 H locs er_4396 hP hD hS => ?_)
            have hG := GX.wR hG hSH hT_w_4383 rfl er_4396 (rg_w (rg_full _) (by decide)) (by decide)
            obtain ⟨x_4397, ex_4397⟩ : ∃ y : Int32, y = x_3480 + Int32.ofInt 1 := ⟨_, rfl⟩
            have h_4398 : rg x_4397 1 40 := rg_of_eq ex_4397 (rg_add h_4381 (rg_k (Int32.ofInt 1) 1 rfl) (by decide))
            refine lv_iinc (v := x_4397) (lv' := [(2, .int x_4397), (0, .ref this), (1, .int a0)]) hx hb dX2_walk_39 hl (k := 2) rfl ex_4397.symm (by decide) rfl (fun ls hl => ?_)
            refine lv_goto (tgt := 2) hx hb dX2_walk_42 (by decide) ?_
            exact ih_3931 x_4397 r_4396 _ _ _ (rg_w h_4398 (by decide)) (ms_up 1 hm_3928 ex_4397 rfl (by decide) h_4381 (by decide) (by decide)) hG hP hD hS (lv_sub hl [1, 2, 0] rfl)
          refine lv_if_ne (tgt := 37) hx hb dX2_walk_21 (by decide) (fun c_4399 => ?_) (fun c_4399 => ?_)
          · refine lv_iconst (v := 0) hx hb dX2_walk_37 (by decide) ?_
            exact K_4395 (0 : Int32) _ _ _ hG hP hD hS (lv_sub hl [0, 1, 2] rfl)
          · have h_4400 : rg x_4385 0 0 := rg_and (rg_full _) (rg_of_eq c_4399 (rg_k (0 : Int32) 0 rfl)) (by decide)
            refine lv_aload_n hx hb dX2_walk_24 rfl (lv_at hl 0 rfl) ?_
            obtain ⟨w_4401, hR_w_4401, hL_w_4401, hK_w_4401, hN_w_4401, hT_w_4401⟩ := sh_a hSH 73 (ci := 2) (kd := 13) (len := 40) rfl (by decide) hL_this hK_this
            refine pg_f (v := .ref w_4401) (C := RX2) (T := TX2) (N := 20) hx hb hts (tw_i inlX2) hown hK hP hL_this hK_this (by decide) rfl 9 (by decide) (hts _ (tw_c tw_87)) (pq_hv rfl hR_w_4401) dX2_walk_25 ?_
            refine lv_iload_n hx hb dX2_walk_28 rfl (lv_at hl 2 rfl) ?_
            refine pl_i hx hb hK hP hL_w_4401 hK_w_4401 hN_w_4401 (rg_in h_4381 (by decide)) dX2_walk_29 ?_
            refine lv_topi (fun x_4402 ex_4402 => ?_)
            refine lv_iload_n hx hb dX2_walk_30 rfl (lv_at hl 1 rfl) ?_
            refine va_mmin hx hb (hml.trans hl.1.symm) hown (hts _ (tw_c tw_1063)) (hts _ (tw_c tw_467)) (hts _ (tw_c tw_276)) (hts _ (tw_c tw_468)) (Nat.le_of_ble_eq_true rfl) (Nat.le_of_ble_eq_true rfl) (Nat.zero_le _) (Nat.zero_le _) dX2_walk_31 ?_
            refine lv_topi (fun x_4403 ex_4403 => ?_)
            refine lv_goto (tgt := 38) hx hb dX2_walk_34 (by decide) ?_
            exact K_4395 x_4403 _ _ _ hG hP hD hS (lv_sub hl [0, 1, 2] rfl)
    exact L_3930 _ (0 : Int32) ri _ _ _ (rg_w (rg_k (0 : Int32) 0 rfl) (by decide)) (Nat.lt_succ_self _) hG hP hD hS (lv_sub hl [1, 2, 0] rfl)
  exact go _ _ _ hP hD hS hl

set_option maxHeartbeats 4000000 in
set_option maxRecDepth 100000 in
theorem s_X2_tide (l : Launch) (D : va_G) (t : pq_T) (σ : pq_S) (I : Nat → Nat → Int32) (J : Nat → Nat → Int64) (ri : Nat → Nat → Int32) (rj : Nat → Nat → Int64) (rq : Nat → Nat → Option Nat) (sz : Nat) (tg : Nat → Nat) (hSH : SH σ tg) (hG0 : GS tg σ I ri rq) (this : Nat) (a0 : Int32) (a1 : Int32) (a2 : Int32) (hL_this : this ∈ σ.1) (hK_this : σ.2.1 this = 2) : MetV l yX2_tide (wa yX2_tide cX2_tide 8 none) ({ frames := 1, cells := 0, slots := 0, locals := 21 }) [.ref this, .int a0, .int a1, .int a2] D t σ (I, J, ri, rj, rq) sz 0 0 (fun (u : pq_S × pq_M) => ∃ J' : Nat → Nat → Int64, ∃ ri' : Nat → Nat → Int32, ∃ rj' : Nat → Nat → Int64, u = (σ, I, J', ri', rj', rq) ∧ GX [] tg σ I ri rj I ri' rj' rq) := by
  refine Met.ofW (cc := cX2_tide) (maxL := 8) (ret := none) (by decide) rfl ?_
  intro p e s m args below meth c s₁ B hml hv
  obtain ⟨rfl, hsz, hP, hK, hD0, hN⟩ := hv
  have hx := B.exec
  have hb := B.bytes
  have hr := B.returns
  have hts := atoms_spec (ws := (wa yX2_tide cX2_tide 8 none)) B.pre
  have hown : s.vm.findClass RX2 = some m.cls := findClass_of_methodNamed B.named
  have hlocks := B.notSynchronized
  subst hsz
  have hD : va_D (pq_B t σ (I, J, ri, rj, rq) s.heap.size) (pq_P t σ (I, J, ri, rj, rq)) := hD0.self
  generalize hAe : pq_B t σ (I, J, ri, rj, rq) s.heap.size = A at hD ⊢
  have hA : ∀ q : Nat, s.heap.size ≤ q → A q := fun q h => by rw [← hAe]; exact Or.inr h
  have hS : va_S A s.heap s.heap [] := va_S.rf
  have hG : GX [] tg σ I ri rj I ri rj rq := ⟨hG0, fun _ _ _ => rfl, fun _ _ _ _ _ => rfl, fun _ _ _ _ _ => rfl⟩
  have hl := lv_entry ([.ref this, .int a0, .int a1, .int a2]) (n := 8) (Nat.le_of_ble_eq_true rfl)
  rw [lg_entry_eq]
  generalize (lg_sl ([.ref this, .int a0, .int a1, .int a2]) ++ List.replicate (8 - (lg_sl ([.ref this, .int a0, .int a1, .int a2])).length) Slot.unset).toArray = ls at hl ⊢
  have hl : lv_has ls 8 [(0, .ref this), (1, .int a0), (2, .int a1), (3, .int a2)] := hl
  refine q_gen (fun Q hQ => ?_)
  have go : ∀ (H : Heap) (locs : List Loc) (ls : Array Slot), va_P D vwCl (pq_P t σ (I, J, ri, rj, rq)) H → va_D A (pq_P t σ (I, J, ri, rj, rq)) → va_S A s.heap H locs → lv_has ls 8 [(0, .ref this), (1, .int a0), (2, .int a1), (3, .int a2)] → W p l e ({ frames := 1, cells := 0, slots := 0, locals := 21 } : Room) s m (List.toArray ([.ref this, .int a0, .int a1, .int a2] : List Value)) below meth c H locs 0 0 Q (F0 m 0 ls []) := by
    intro H locs ls hP hD hS hl
    refine lv_aload_n hx hb dX2_tide_0 rfl (lv_at hl 0 rfl) ?_
    refine lv_lconst (v := 0) hx hb dX2_tide_1 (by decide) ?_
    refine pp_l (v := 0) (C := RX2) (T := TX2) (N := 20) hx hb hts (tw_i inlX2) tyX2 tyX2_ok nmX2 hown hK hP hD hS hL_this hK_this (by decide) rfl 3 67 (by decide) (hts _ (tw_c tw_558)) rfl (tyX2_ok 3 (by decide)) (Nat.le_of_ble_eq_true rfl) (ps_67 _ _ _ _ _) dX2_tide_2 (fun J_1 H locs eJ_1 hP hD hS => ?_)
    refine lv_lconst (v := 0) hx hb dX2_tide_5 (by decide) ?_
    refine lv_lstore (lv' := [(4, .long 0), (0, .ref this), (1, .int a0), (2, .int a1), (3, .int a2)]) hx hb dX2_tide_6 hl (by decide) rfl (fun ls hl => ?_)
    refine lv_iconst (v := 0) hx hb dX2_tide_8 (by decide) ?_
    refine lv_istore (lv' := [(6, .int 0), (4, .long 0), (0, .ref this), (1, .int a0), (2, .int a1), (3, .int a2)]) hx hb dX2_tide_9 hl (by decide) rfl (fun ls hl => ?_)
    have L_571 : ∀ (n_570 : Nat) (x_525 : Int64) (x_526 : Int32) (J_527 : Nat → Nat → Int64) (ri_528 : Nat → Nat → Int32) (H : Heap) (locs : List Loc) (ls : Array Slot), rg x_526 0 40 → (40 - (x_526).toInt).toNat < n_570 → GX [] tg σ I ri rj I ri_528 rj rq → va_P D vwCl (pq_P t σ (I, J_527, ri_528, rj, rq)) H → va_D A (pq_P t σ (I, J_527, ri_528, rj, rq)) → va_S A s.heap H locs → lv_has ls 8 [(0, .ref this), (1, .int a0), (2, .int a1), (3, .int a2), (4, .long x_525), (6, .int x_526)] → W p l e ({ frames := 1, cells := 0, slots := 0, locals := 21 } : Room) s m (List.toArray ([.ref this, .int a0, .int a1, .int a2] : List Value)) below meth c H locs 0 0 Q (F0 m 11 ls []) := by
      intro n_570
      induction n_570 with
      | zero => intro x_525 x_526 J_527 ri_528 H locs ls h_574 hm_569 hG hP hD hS hl; exact absurd hm_569 (Nat.not_lt_zero _)
      | succ n_570 ih_572 =>
        intro x_525 x_526 J_527 ri_528 H locs ls h_574 hm_569 hG hP hD hS hl
        refine lv_iload hx hb dX2_tide_11 (lv_at hl 5 rfl) ?_
        refine lv_aload_n hx hb dX2_tide_13 rfl (lv_at hl 0 rfl) ?_
        refine pg_f (v := .int (I 65 this)) (C := RX2) (T := TX2) (N := 20) hx hb hts (tw_i inlX2) hown hK hP hL_this hK_this (by decide) rfl 1 (by decide) (hts _ (tw_c tw_222)) rfl dX2_tide_14 ?_
        have h_575 : rg (I 65 this) 0 40 := GX.rI hG 65 rfl
        refine lv_icmp_ge (tgt := 90) hx hb dX2_tide_17 (by decide) (fun c_576 => ?_) (fun c_576 => ?_)
        · refine lv_iload_n hx hb dX2_tide_90 rfl (lv_at hl 1 rfl) ?_
          refine lv_if_lt (tgt := 109) hx hb dX2_tide_91 (by decide) (fun c_577 => ?_) (fun c_577 => ?_)
          · have h_578 : rg a0 (-2147483648) (-1) := rg_lt1 c_577 (rg_full _) (rg_k (0 : Int32) 0 rfl) (by decide)
            subst hQ
            exact W.vret hx hb hr (fun t1 ht hW => ⟨⟨(σ, I, J_527, ri_528, rj, rq), rfl, ⟨J_527, ri_528, rj, rfl, hG⟩, by rw [ht]; exact hP, va_K.moved hW.alike hK, hD⟩, hS.F ht⟩) hS.2.2 dX2_tide_109
          · have h_579 : rg a0 0 2147483647 := rg_le2 (nlt c_577) (rg_k (0 : Int32) 0 rfl) (rg_full _) (by decide)
            refine lv_iload_n hx hb dX2_tide_94 rfl (lv_at hl 1 rfl) ?_
            refine lv_sipush (v := 600) hx hb dX2_tide_95 (by decide) ?_
            refine lv_icmp_ge (tgt := 109) hx hb dX2_tide_98 (by decide) (fun c_580 => ?_) (fun c_580 => ?_)
            · have h_581 : rg a0 600 2147483647 := rg_le2 c_580 (rg_k (600 : Int32) 600 rfl) h_579 (by decide)
              subst hQ
              exact W.vret hx hb hr (fun t1 ht hW => ⟨⟨(σ, I, J_527, ri_528, rj, rq), rfl, ⟨J_527, ri_528, rj, rfl, hG⟩, by rw [ht]; exact hP, va_K.moved hW.alike hK, hD⟩, hS.F ht⟩) hS.2.2 dX2_tide_109
            · have h_582 : rg a0 0 599 := rg_lt1 (nle c_580) h_579 (rg_k (600 : Int32) 600 rfl) (by decide)
              refine lv_aload_n hx hb dX2_tide_101 rfl (lv_at hl 0 rfl) ?_
              obtain ⟨w_583, hR_w_583, hL_w_583, hK_w_583, hN_w_583, hT_w_583⟩ := sh_a hSH 68 (ci := 2) (kd := 14) (len := 600) rfl (by decide) hL_this hK_this
              refine pg_f (v := .ref w_583) (C := RX2) (T := TX2) (N := 20) hx hb hts (tw_i inlX2) hown hK hP hL_this hK_this (by decide) rfl 4 (by decide) (hts _ (tw_c tw_82)) (pq_hv rfl hR_w_583) dX2_tide_102 ?_
              refine lv_iload_n hx hb dX2_tide_105 rfl (lv_at hl 1 rfl) ?_
              refine lv_lload hx hb dX2_tide_106 (lv_at hl 4 rfl) ?_
              refine pt_l hx hb hK hP hD hS hL_w_583 hK_w_583 hN_w_583 (rg_in h_582 (by decide)) dX2_tide_108 (fun r_584 H locs er_584 hP hD hS => ?_)
              have hG := GX.wJ hG hT_w_583 er_584 (by decide)
              subst hQ
              exact W.vret hx hb hr (fun t1 ht hW => ⟨⟨(σ, I, J_527, ri_528, r_584, rq), rfl, ⟨J_527, ri_528, r_584, rfl, hG⟩, by rw [ht]; exact hP, va_K.moved hW.alike hK, hD⟩, hS.F ht⟩) hS.2.2 dX2_tide_109
        · have h_585 : rg x_526 0 39 := rg_lt1 (nle c_576) h_574 h_575 (by decide)
          have h_586 : rg (I 65 this) 1 40 := rg_lt2 (nle c_576) h_574 h_575 (by decide)
          refine lv_aload_n hx hb dX2_tide_20 rfl (lv_at hl 0 rfl) ?_
          refine lv_iload hx hb dX2_tide_21 (lv_at hl 5 rfl) ?_
          refine pk_i (va_runV (As := [.int x_526]) (rest := []) ⟨hx, hb, hml, hown, hts⟩ (s_X2_topOf l D t σ I J_527 ri_528 rj rq H.size tg hSH hG.1 this x_526 hL_this hK_this (rg_w h_585 (by decide))) (cwV 1 hts (tw_V tw_1074 tw_1075 tw_1076 tw_41 tw_1077) rfl rfl rfl cv_yX2_topOf_1 ⟨Nat.le_of_ble_eq_true rfl, Nat.le_of_ble_eq_true rfl⟩) ⟨pq_blind, pq_recv hK hP hL_this hK_this (by decide) rfl, pq_pre hK hN hP hD⟩ rfl rfl hl.1 rfl (lv_room (Nat.le_of_ble_eq_true rfl)) dX2_tide_23 ⟨Nat.le_of_ble_eq_true rfl, Nat.le_of_ble_eq_true rfl⟩) hD hS hA (fun x_587 σ1 μ1 H locs hw_588 hP hD hS => ?_)
          have hu_589 := hw_588
          obtain ⟨hu_589a, hu_589b⟩ := Prod.mk.inj hu_589
          rw [hu_589a, hu_589b] at hP hD
          refine lv_istore (lv' := [(7, .int x_587), (0, .ref this), (1, .int a0), (2, .int a1), (3, .int a2), (4, .long x_525), (6, .int x_526)]) hx hb dX2_tide_26 hl (by decide) rfl (fun ls hl => ?_)
          refine lv_iload hx hb dX2_tide_28 (lv_at hl 0 rfl) ?_
          refine lv_iload_n hx hb dX2_tide_30 rfl (lv_at hl 4 rfl) ?_
          have K_614 : ∀  (x_597 : Int64) (H : Heap) (locs : List Loc) (ls : Array Slot), GX [] tg σ I ri rj I ri_528 rj rq → va_P D vwCl (pq_P t σ (I, J_527, ri_528, rj, rq)) H → va_D A (pq_P t σ (I, J_527, ri_528, rj, rq)) → va_S A s.heap H locs → lv_has ls 8 [(0, .ref this), (1, .int a0), (2, .int a1), (3, .int a2), (4, .long x_597), (6, .int x_526), (7, .int x_587)] → W p l e ({ frames := 1, cells := 0, slots := 0, locals := 21 } : Room) s m (List.toArray ([.ref this, .int a0, .int a1, .int a2] : List Value)) below meth c H locs 0 0 Q (F0 m 43 ls []) := by
            intro x_597 H locs ls hG hP hD hS hl
            refine lv_iload hx hb dX2_tide_43 (lv_at hl 6 rfl) ?_
            refine lv_iload_n hx hb dX2_tide_45 rfl (lv_at hl 2 rfl) ?_
            have K_631 : ∀  (J_627 : Nat → Nat → Int64) (ri_628 : Nat → Nat → Int32) (H : Heap) (locs : List Loc) (ls : Array Slot), GX [] tg σ I ri rj I ri_628 rj rq → va_P D vwCl (pq_P t σ (I, J_627, ri_628, rj, rq)) H → va_D A (pq_P t σ (I, J_627, ri_628, rj, rq)) → va_S A s.heap H locs → lv_has ls 8 [(0, .ref this), (1, .int a0), (2, .int a1), (3, .int a2), (4, .long x_597), (6, .int x_526)] → W p l e ({ frames := 1, cells := 0, slots := 0, locals := 21 } : Room) s m (List.toArray ([.ref this, .int a0, .int a1, .int a2] : List Value)) below meth c H locs 0 0 Q (F0 m 84 ls []) := by
              intro J_627 ri_628 H locs ls hG hP hD hS hl
              obtain ⟨x_632, ex_632⟩ : ∃ y : Int32, y = x_526 + Int32.ofInt 1 := ⟨_, rfl⟩
              have h_633 : rg x_632 1 40 := rg_of_eq ex_632 (rg_add h_585 (rg_k (Int32.ofInt 1) 1 rfl) (by decide))
              refine lv_iinc (v := x_632) (lv' := [(6, .int x_632), (0, .ref this), (1, .int a0), (2, .int a1), (3, .int a2), (4, .long x_597)]) hx hb dX2_tide_84 hl (k := 5) rfl ex_632.symm (by decide) rfl (fun ls hl => ?_)
              refine lv_goto (tgt := 11) hx hb dX2_tide_87 (by decide) ?_
              exact ih_572 x_597 x_632 J_627 ri_628 _ _ _ (rg_w h_633 (by decide)) (ms_up 1 hm_569 ex_632 rfl (by decide) h_585 (by decide) (by decide)) hG hP hD hS (lv_sub hl [1, 2, 3, 4, 5, 0] rfl)
            refine lv_icmp_le (tgt := 73) hx hb dX2_tide_46 (by decide) (fun c_634 => ?_) (fun c_634 => ?_)
            · refine lv_aload_n hx hb dX2_tide_73 rfl (lv_at hl 0 rfl) ?_
              obtain ⟨w_635, hR_w_635, hL_w_635, hK_w_635, hN_w_635, hT_w_635⟩ := sh_a hSH 77 (ci := 2) (kd := 13) (len := 40) rfl (by decide) hL_this hK_this
              refine pg_f (v := .ref w_635) (C := RX2) (T := TX2) (N := 20) hx hb hts (tw_i inlX2) hown hK hP hL_this hK_this (by decide) rfl 13 (by decide) (hts _ (tw_c tw_91)) (pq_hv rfl hR_w_635) dX2_tide_74 ?_
              refine lv_iload hx hb dX2_tide_77 (lv_at hl 5 rfl) ?_
              refine lv_dup2_11 hx hb dX2_tide_79 rfl rfl ?_
              refine pl_i hx hb hK hP hL_w_635 hK_w_635 hN_w_635 (rg_in h_585 (by decide)) dX2_tide_80 ?_
              refine lv_topi (fun x_636 ex_636 => ?_)
              refine lv_iconst (v := 1) hx hb dX2_tide_81 (by decide) ?_
              refine lv_iadd hx hb dX2_tide_82 ?_
              refine lv_topi (fun x_637 ex_637 => ?_)
              refine pt_i hx hb hK hP hD hS hL_w_635 hK_w_635 hN_w_635 (rg_in h_585 (by decide)) dX2_tide_83 (fun r_638 H locs er_638 hP hD hS => ?_)
              have hG := GX.wR hG hSH hT_w_635 rfl er_638 (rg_w (rg_full _) (by decide)) (by decide)
              exact K_631 J_527 r_638 _ _ _ hG hP hD hS (lv_sub hl [0, 1, 2, 3, 4, 5] rfl)
            · have h_639 : rg a1 (-2147483648) 2147483646 := rg_lt1 (nle c_634) (rg_full _) (rg_full _) (by decide)
              have h_640 : rg x_587 (-2147483647) 2147483647 := rg_lt2 (nle c_634) (rg_full _) (rg_full _) (by decide)
              refine lv_aload_n hx hb dX2_tide_49 rfl (lv_at hl 0 rfl) ?_
              refine lv_dup hx hb dX2_tide_50 rfl ?_
              refine pg_f (v := .long (J_527 67 this)) (C := RX2) (T := TX2) (N := 20) hx hb hts (tw_i inlX2) hown hK hP hL_this hK_this (by decide) rfl 3 (by decide) (hts _ (tw_c tw_558)) rfl dX2_tide_51 ?_
              refine lv_lconst (v := 1) hx hb dX2_tide_54 (by decide) ?_
              refine lv_iload hx hb dX2_tide_55 (lv_at hl 5 rfl) ?_
              refine lv_lshl hx hb dX2_tide_57 rfl ?_
              refine lv_topl (fun x_641 ex_641 => ?_)
              refine lv_lor hx hb dX2_tide_58 ?_
              refine lv_topl (fun x_642 ex_642 => ?_)
              refine pp_l (v := x_642) (C := RX2) (T := TX2) (N := 20) hx hb hts (tw_i inlX2) tyX2 tyX2_ok nmX2 hown hK hP hD hS hL_this hK_this (by decide) rfl 3 67 (by decide) (hts _ (tw_c tw_558)) rfl (tyX2_ok 3 (by decide)) (Nat.le_of_ble_eq_true rfl) (ps_67 _ _ _ _ _) dX2_tide_59 (fun J_643 H locs eJ_643 hP hD hS => ?_)
              refine lv_aload_n hx hb dX2_tide_62 rfl (lv_at hl 0 rfl) ?_
              obtain ⟨w_644, hR_w_644, hL_w_644, hK_w_644, hN_w_644, hT_w_644⟩ := sh_a hSH 77 (ci := 2) (kd := 13) (len := 40) rfl (by decide) hL_this hK_this
              refine pg_f (v := .ref w_644) (C := RX2) (T := TX2) (N := 20) hx hb hts (tw_i inlX2) hown hK hP hL_this hK_this (by decide) rfl 13 (by decide) (hts _ (tw_c tw_91)) (pq_hv rfl hR_w_644) dX2_tide_63 ?_
              refine lv_iload hx hb dX2_tide_66 (lv_at hl 5 rfl) ?_
              refine lv_iconst (v := 0) hx hb dX2_tide_68 (by decide) ?_
              refine pt_i hx hb hK hP hD hS hL_w_644 hK_w_644 hN_w_644 (rg_in h_585 (by decide)) dX2_tide_69 (fun r_645 H locs er_645 hP hD hS => ?_)
              have hG := GX.wR hG hSH hT_w_644 rfl er_645 (rg_w (rg_k (0 : Int32) 0 rfl) (by decide)) (by decide)
              refine lv_goto (tgt := 84) hx hb dX2_tide_70 (by decide) ?_
              exact K_631 J_643 r_645 _ _ _ hG hP hD hS (lv_sub hl [0, 1, 2, 3, 4, 5] rfl)
          refine lv_icmp_le (tgt := 43) hx hb dX2_tide_31 (by decide) (fun c_646 => ?_) (fun c_646 => ?_)
          · exact K_614 x_525 _ _ _ hG hP hD hS (lv_sub hl [1, 2, 3, 4, 5, 6, 0] rfl)
          · have h_647 : rg a2 (-2147483648) 2147483646 := rg_lt1 (nle c_646) (rg_full _) (rg_full _) (by decide)
            have h_648 : rg x_587 (-2147483647) 2147483647 := rg_lt2 (nle c_646) (rg_full _) (rg_full _) (by decide)
            refine lv_lload hx hb dX2_tide_34 (lv_at hl 5 rfl) ?_
            refine lv_lconst (v := 1) hx hb dX2_tide_36 (by decide) ?_
            refine lv_iload hx hb dX2_tide_37 (lv_at hl 6 rfl) ?_
            refine lv_lshl hx hb dX2_tide_39 rfl ?_
            refine lv_topl (fun x_649 ex_649 => ?_)
            refine lv_lor hx hb dX2_tide_40 ?_
            refine lv_topl (fun x_650 ex_650 => ?_)
            refine lv_lstore (lv' := [(4, .long x_650), (7, .int x_587), (0, .ref this), (1, .int a0), (2, .int a1), (3, .int a2), (6, .int x_526)]) hx hb dX2_tide_41 hl (by decide) rfl (fun ls hl => ?_)
            exact K_614 x_650 _ _ _ hG hP hD hS (lv_sub hl [2, 3, 4, 5, 0, 6, 1] rfl)
    exact L_571 _ (0 : Int64) (0 : Int32) J_1 ri _ _ _ (rg_w (rg_k (0 : Int32) 0 rfl) (by decide)) (Nat.lt_succ_self _) hG hP hD hS (lv_sub hl [2, 3, 4, 5, 1, 0] rfl)
  exact go _ _ _ hP hD hS hl

set_option maxHeartbeats 4000000 in
set_option maxRecDepth 100000 in
theorem s_X2_giveUpBeds (l : Launch) (D : va_G) (t : pq_T) (σ : pq_S) (I : Nat → Nat → Int32) (J : Nat → Nat → Int64) (ri : Nat → Nat → Int32) (rj : Nat → Nat → Int64) (rq : Nat → Nat → Option Nat) (sz : Nat) (tg : Nat → Nat) (hSH : SH σ tg) (hG0 : GS tg σ I ri rq) (this : Nat) (hL_this : this ∈ σ.1) (hK_this : σ.2.1 this = 2) : MetV l yX2_giveUpBeds (wa yX2_giveUpBeds cX2_giveUpBeds 2 none) ({ frames := 2, cells := 0, slots := 0, locals := 43 }) [.ref this] D t σ (I, J, ri, rj, rq) sz 0 0 (fun (u : pq_S × pq_M) => ∃ ri' : Nat → Nat → Int32, u = (σ, I, J, ri', rj, rq) ∧ GX [] tg σ I ri rj I ri' rj rq) := by
  refine Met.ofW (cc := cX2_giveUpBeds) (maxL := 2) (ret := none) (by decide) rfl ?_
  intro p e s m args below meth c s₁ B hml hv
  obtain ⟨rfl, hsz, hP, hK, hD0, hN⟩ := hv
  have hx := B.exec
  have hb := B.bytes
  have hr := B.returns
  have hts := atoms_spec (ws := (wa yX2_giveUpBeds cX2_giveUpBeds 2 none)) B.pre
  have hown : s.vm.findClass RX2 = some m.cls := findClass_of_methodNamed B.named
  have hlocks := B.notSynchronized
  subst hsz
  have hD : va_D (pq_B t σ (I, J, ri, rj, rq) s.heap.size) (pq_P t σ (I, J, ri, rj, rq)) := hD0.self
  generalize hAe : pq_B t σ (I, J, ri, rj, rq) s.heap.size = A at hD ⊢
  have hA : ∀ q : Nat, s.heap.size ≤ q → A q := fun q h => by rw [← hAe]; exact Or.inr h
  have hS : va_S A s.heap s.heap [] := va_S.rf
  have hG : GX [] tg σ I ri rj I ri rj rq := ⟨hG0, fun _ _ _ => rfl, fun _ _ _ _ _ => rfl, fun _ _ _ _ _ => rfl⟩
  have hl := lv_entry ([.ref this]) (n := 2) (Nat.le_of_ble_eq_true rfl)
  rw [lg_entry_eq]
  generalize (lg_sl ([.ref this]) ++ List.replicate (2 - (lg_sl ([.ref this])).length) Slot.unset).toArray = ls at hl ⊢
  have hl : lv_has ls 2 [(0, .ref this)] := hl
  refine q_gen (fun Q hQ => ?_)
  have go : ∀ (H : Heap) (locs : List Loc) (ls : Array Slot), va_P D vwCl (pq_P t σ (I, J, ri, rj, rq)) H → va_D A (pq_P t σ (I, J, ri, rj, rq)) → va_S A s.heap H locs → lv_has ls 2 [(0, .ref this)] → W p l e ({ frames := 2, cells := 0, slots := 0, locals := 43 } : Room) s m (List.toArray ([.ref this] : List Value)) below meth c H locs 0 0 Q (F0 m 0 ls []) := by
    intro H locs ls hP hD hS hl
    refine lv_iconst (v := 0) hx hb dX2_giveUpBeds_0 (by decide) ?_
    refine lv_istore_n (lv' := [(1, .int 0), (0, .ref this)]) hx hb dX2_giveUpBeds_1 rfl hl (by decide) rfl (fun ls hl => ?_)
    have L_273 : ∀ (n_272 : Nat) (x_250 : Int32) (ri_251 : Nat → Nat → Int32) (H : Heap) (locs : List Loc) (ls : Array Slot), rg x_250 0 40 → (40 - (x_250).toInt).toNat < n_272 → GX [] tg σ I ri rj I ri_251 rj rq → va_P D vwCl (pq_P t σ (I, J, ri_251, rj, rq)) H → va_D A (pq_P t σ (I, J, ri_251, rj, rq)) → va_S A s.heap H locs → lv_has ls 2 [(0, .ref this), (1, .int x_250)] → W p l e ({ frames := 2, cells := 0, slots := 0, locals := 43 } : Room) s m (List.toArray ([.ref this] : List Value)) below meth c H locs 0 0 Q (F0 m 2 ls []) := by
      intro n_272
      induction n_272 with
      | zero => intro x_250 ri_251 H locs ls h_276 hm_271 hG hP hD hS hl; exact absurd hm_271 (Nat.not_lt_zero _)
      | succ n_272 ih_274 =>
        intro x_250 ri_251 H locs ls h_276 hm_271 hG hP hD hS hl
        refine lv_iload_n hx hb dX2_giveUpBeds_2 rfl (lv_at hl 1 rfl) ?_
        refine lv_aload_n hx hb dX2_giveUpBeds_3 rfl (lv_at hl 0 rfl) ?_
        refine pg_f (v := .int (I 65 this)) (C := RX2) (T := TX2) (N := 20) hx hb hts (tw_i inlX2) hown hK hP hL_this hK_this (by decide) rfl 1 (by decide) (hts _ (tw_c tw_222)) rfl dX2_giveUpBeds_4 ?_
        have h_277 : rg (I 65 this) 0 40 := GX.rI hG 65 rfl
        refine lv_icmp_ge (tgt := 31) hx hb dX2_giveUpBeds_7 (by decide) (fun c_278 => ?_) (fun c_278 => ?_)
        · subst hQ
          exact W.vret hx hb hr (fun t1 ht hW => ⟨⟨(σ, I, J, ri_251, rj, rq), rfl, ⟨ri_251, rfl, hG⟩, by rw [ht]; exact hP, va_K.moved hW.alike hK, hD⟩, hS.F ht⟩) hS.2.2 dX2_giveUpBeds_31
        · have h_279 : rg x_250 0 39 := rg_lt1 (nle c_278) h_276 h_277 (by decide)
          have h_280 : rg (I 65 this) 1 40 := rg_lt2 (nle c_278) h_276 h_277 (by decide)
          refine lv_aload_n hx hb dX2_giveUpBeds_10 rfl (lv_at hl 0 rfl) ?_
          refine lv_iload_n hx hb dX2_giveUpBeds_11 rfl (lv_at hl 1 rfl) ?_
          refine pk_i (va_runV (As := [.int x_250]) (rest := []) ⟨hx, hb, hml, hown, hts⟩ (s_X2_isDry l D t σ I J ri_251 rj rq H.size tg hSH hG.1 this x_250 hL_this hK_this) (cwV 1 hts (tw_V tw_1082 tw_555 tw_556 tw_41 tw_557) rfl rfl rfl cv_yX2_isDry_1 ⟨Nat.le_of_ble_eq_true rfl, Nat.le_of_ble_eq_true rfl⟩) ⟨pq_blind, pq_recv hK hP hL_this hK_this (by decide) rfl, pq_pre hK hN hP hD⟩ rfl rfl hl.1 rfl (lv_room (Nat.le_of_ble_eq_true rfl)) dX2_giveUpBeds_12 ⟨Nat.le_of_ble_eq_true rfl, Nat.le_of_ble_eq_true rfl⟩) hD hS hA (fun x_281 σ1 μ1 H locs hw_282 hP hD hS => ?_)
          obtain ⟨hu_283, hr_285⟩ := hw_282
          obtain ⟨hu_283a, hu_283b⟩ := Prod.mk.inj hu_283
          rw [hu_283a, hu_283b] at hP hD
          have h_286 : rg x_281 0 1 := by rcases hr_285 with ⟨q, -⟩ | ⟨q, -⟩ <;> rw [q] <;> exact ⟨by decide, by decide⟩
          have K_295 : ∀  (ri_292 : Nat → Nat → Int32) (H : Heap) (locs : List Loc) (ls : Array Slot), GX [] tg σ I ri rj I ri_292 rj rq → va_P D vwCl (pq_P t σ (I, J, ri_292, rj, rq)) H → va_D A (pq_P t σ (I, J, ri_292, rj, rq)) → va_S A s.heap H locs → lv_has ls 2 [(0, .ref this), (1, .int x_250)] → W p l e ({ frames := 2, cells := 0, slots := 0, locals := 43 } : Room) s m (List.toArray ([.ref this] : List Value)) below meth c H locs 0 0 Q (F0 m 25 ls []) := by
            intro ri_292 H locs ls hG hP hD hS hl
            obtain ⟨x_296, ex_296⟩ : ∃ y : Int32, y = x_250 + Int32.ofInt 1 := ⟨_, rfl⟩
            have h_297 : rg x_296 1 40 := rg_of_eq ex_296 (rg_add h_279 (rg_k (Int32.ofInt 1) 1 rfl) (by decide))
            refine lv_iinc (v := x_296) (lv' := [(1, .int x_296), (0, .ref this)]) hx hb dX2_giveUpBeds_25 hl (k := 1) rfl ex_296.symm (by decide) rfl (fun ls hl => ?_)
            refine lv_goto (tgt := 2) hx hb dX2_giveUpBeds_28 (by decide) ?_
            exact ih_274 x_296 ri_292 _ _ _ (rg_w h_297 (by decide)) (ms_up 1 hm_271 ex_296 rfl (by decide) h_279 (by decide) (by decide)) hG hP hD hS (lv_sub hl [1, 0] rfl)
          refine lv_if_ne (tgt := 25) hx hb dX2_giveUpBeds_15 (by decide) (fun c_298 => ?_) (fun c_298 => ?_)
          · have h_299 : rg x_281 1 1 := rg_ne c_298 h_286 0 rfl (by decide)
            exact K_295 ri_251 _ _ _ hG hP hD hS (lv_sub hl [0, 1] rfl)
          · have h_300 : rg x_281 0 0 := rg_and h_286 (rg_of_eq c_298 (rg_k (0 : Int32) 0 rfl)) (by decide)
            refine lv_aload_n hx hb dX2_giveUpBeds_18 rfl (lv_at hl 0 rfl) ?_
            obtain ⟨w_301, hR_w_301, hL_w_301, hK_w_301, hN_w_301, hT_w_301⟩ := sh_a hSH 76 (ci := 2) (kd := 13) (len := 40) rfl (by decide) hL_this hK_this
            refine pg_f (v := .ref w_301) (C := RX2) (T := TX2) (N := 20) hx hb hts (tw_i inlX2) hown hK hP hL_this hK_this (by decide) rfl 12 (by decide) (hts _ (tw_c tw_90)) (pq_hv rfl hR_w_301) dX2_giveUpBeds_19 ?_
            refine lv_iload_n hx hb dX2_giveUpBeds_22 rfl (lv_at hl 1 rfl) ?_
            refine lv_iconst (v := 0) hx hb dX2_giveUpBeds_23 (by decide) ?_
            refine pt_i hx hb hK hP hD hS hL_w_301 hK_w_301 hN_w_301 (rg_in h_279 (by decide)) dX2_giveUpBeds_24 (fun r_302 H locs er_302 hP hD hS => ?_)
            have hG := GX.wR hG hSH hT_w_301 rfl er_302 (rg_w (rg_k (0 : Int32) 0 rfl) (by decide)) (by decide)
            exact K_295 r_302 _ _ _ hG hP hD hS (lv_sub hl [0, 1] rfl)
    exact L_273 _ (0 : Int32) ri _ _ _ (rg_w (rg_k (0 : Int32) 0 rfl) (by decide)) (Nat.lt_succ_self _) hG hP hD hS (lv_sub hl [1, 0] rfl)
  exact go _ _ _ hP hD hS hl

set_option maxHeartbeats 4000000 in
set_option maxRecDepth 100000 in
theorem s_X2_countWalls (l : Launch) (D : va_G) (t : pq_T) (σ : pq_S) (I : Nat → Nat → Int32) (J : Nat → Nat → Int64) (ri : Nat → Nat → Int32) (rj : Nat → Nat → Int64) (rq : Nat → Nat → Option Nat) (sz : Nat) (tg : Nat → Nat) (hSH : SH σ tg) (hG0 : GS tg σ I ri rq) (this : Nat) (hL_this : this ∈ σ.1) (hK_this : σ.2.1 this = 2) : MetI l yX2_countWalls (wa yX2_countWalls cX2_countWalls 3 (some .int)) ({ frames := 0, cells := 0, slots := 0, locals := 0 }) [.ref this] D t σ (I, J, ri, rj, rq) sz 0 0 (fun (r : Int32) (u : pq_S × pq_M) => u = (σ, I, J, ri, rj, rq)) := by
  refine Met.ofW (cc := cX2_countWalls) (maxL := 3) (ret := (some .int)) (by decide) rfl ?_
  intro p e s m args below meth c s₁ B hml hv
  obtain ⟨rfl, hsz, hP, hK, hD0, hN⟩ := hv
  have hx := B.exec
  have hb := B.bytes
  have hr := B.returns
  have hts := atoms_spec (ws := (wa yX2_countWalls cX2_countWalls 3 (some .int))) B.pre
  have hown : s.vm.findClass RX2 = some m.cls := findClass_of_methodNamed B.named
  have hlocks := B.notSynchronized
  subst hsz
  have hD : va_D (pq_B t σ (I, J, ri, rj, rq) s.heap.size) (pq_P t σ (I, J, ri, rj, rq)) := hD0.self
  generalize hAe : pq_B t σ (I, J, ri, rj, rq) s.heap.size = A at hD ⊢
  have hA : ∀ q : Nat, s.heap.size ≤ q → A q := fun q h => by rw [← hAe]; exact Or.inr h
  have hS : va_S A s.heap s.heap [] := va_S.rf
  have hG : GX [] tg σ I ri rj I ri rj rq := ⟨hG0, fun _ _ _ => rfl, fun _ _ _ _ _ => rfl, fun _ _ _ _ _ => rfl⟩
  have hl := lv_entry ([.ref this]) (n := 3) (Nat.le_of_ble_eq_true rfl)
  rw [lg_entry_eq]
  generalize (lg_sl ([.ref this]) ++ List.replicate (3 - (lg_sl ([.ref this])).length) Slot.unset).toArray = ls at hl ⊢
  have hl : lv_has ls 3 [(0, .ref this)] := hl
  refine q_gen (fun Q hQ => ?_)
  have go : ∀ (H : Heap) (locs : List Loc) (ls : Array Slot), va_P D vwCl (pq_P t σ (I, J, ri, rj, rq)) H → va_D A (pq_P t σ (I, J, ri, rj, rq)) → va_S A s.heap H locs → lv_has ls 3 [(0, .ref this)] → W p l e ({ frames := 0, cells := 0, slots := 0, locals := 0 } : Room) s m (List.toArray ([.ref this] : List Value)) below meth c H locs 0 0 Q (F0 m 0 ls []) := by
    intro H locs ls hP hD hS hl
    refine lv_iconst (v := 0) hx hb dX2_countWalls_0 (by decide) ?_
    refine lv_istore_n (lv' := [(1, .int 0), (0, .ref this)]) hx hb dX2_countWalls_1 rfl hl (by decide) rfl (fun ls hl => ?_)
    refine lv_iconst (v := 0) hx hb dX2_countWalls_2 (by decide) ?_
    refine lv_istore_n (lv' := [(2, .int 0), (1, .int 0), (0, .ref this)]) hx hb dX2_countWalls_3 rfl hl (by decide) rfl (fun ls hl => ?_)
    have L_463 : ∀ (n_462 : Nat) (x_445 : Int32) (x_446 : Int32) (H : Heap) (locs : List Loc) (ls : Array Slot), rg x_446 0 40 → (40 - (x_446).toInt).toNat < n_462 → GX [] tg σ I ri rj I ri rj rq → va_P D vwCl (pq_P t σ (I, J, ri, rj, rq)) H → va_D A (pq_P t σ (I, J, ri, rj, rq)) → va_S A s.heap H locs → lv_has ls 3 [(0, .ref this), (1, .int x_445), (2, .int x_446)] → W p l e ({ frames := 0, cells := 0, slots := 0, locals := 0 } : Room) s m (List.toArray ([.ref this] : List Value)) below meth c H locs 0 0 Q (F0 m 4 ls []) := by
      intro n_462
      induction n_462 with
      | zero => intro x_445 x_446 H locs ls h_466 hm_461 hG hP hD hS hl; exact absurd hm_461 (Nat.not_lt_zero _)
      | succ n_462 ih_464 =>
        intro x_445 x_446 H locs ls h_466 hm_461 hG hP hD hS hl
        refine lv_iload_n hx hb dX2_countWalls_4 rfl (lv_at hl 2 rfl) ?_
        refine lv_aload_n hx hb dX2_countWalls_5 rfl (lv_at hl 0 rfl) ?_
        refine pg_f (v := .int (I 65 this)) (C := RX2) (T := TX2) (N := 20) hx hb hts (tw_i inlX2) hown hK hP hL_this hK_this (by decide) rfl 1 (by decide) (hts _ (tw_c tw_222)) rfl dX2_countWalls_6 ?_
        have h_467 : rg (I 65 this) 0 40 := GX.rI hG 65 rfl
        refine lv_icmp_ge (tgt := 30) hx hb dX2_countWalls_9 (by decide) (fun c_468 => ?_) (fun c_468 => ?_)
        · refine lv_iload_n hx hb dX2_countWalls_30 rfl (lv_at hl 1 rfl) ?_
          subst hQ
          exact W.iret (v := x_445) hx hb hr (fun t1 ht hW => ⟨⟨x_445, (σ, I, J, ri, rj, rq), rfl, rfl, by rw [ht]; exact hP, va_K.moved hW.alike hK, hD⟩, hS.F ht⟩) hS.2.2 dX2_countWalls_31
        · have h_469 : rg x_446 0 39 := rg_lt1 (nle c_468) h_466 h_467 (by decide)
          have h_470 : rg (I 65 this) 1 40 := rg_lt2 (nle c_468) h_466 h_467 (by decide)
          refine lv_aload_n hx hb dX2_countWalls_12 rfl (lv_at hl 0 rfl) ?_
          obtain ⟨w_471, hR_w_471, hL_w_471, hK_w_471, hN_w_471, hT_w_471⟩ := sh_a hSH 75 (ci := 2) (kd := 13) (len := 40) rfl (by decide) hL_this hK_this
          refine pg_f (v := .ref w_471) (C := RX2) (T := TX2) (N := 20) hx hb hts (tw_i inlX2) hown hK hP hL_this hK_this (by decide) rfl 11 (by decide) (hts _ (tw_c tw_89)) (pq_hv rfl hR_w_471) dX2_countWalls_13 ?_
          refine lv_iload_n hx hb dX2_countWalls_16 rfl (lv_at hl 2 rfl) ?_
          refine pl_i hx hb hK hP hL_w_471 hK_w_471 hN_w_471 (rg_in h_469 (by decide)) dX2_countWalls_17 ?_
          refine lv_topi (fun x_472 ex_472 => ?_)
          have K_480 : ∀  (x_477 : Int32) (H : Heap) (locs : List Loc) (ls : Array Slot), GX [] tg σ I ri rj I ri rj rq → va_P D vwCl (pq_P t σ (I, J, ri, rj, rq)) H → va_D A (pq_P t σ (I, J, ri, rj, rq)) → va_S A s.heap H locs → lv_has ls 3 [(0, .ref this), (1, .int x_477), (2, .int x_446)] → W p l e ({ frames := 0, cells := 0, slots := 0, locals := 0 } : Room) s m (List.toArray ([.ref this] : List Value)) below meth c H locs 0 0 Q (F0 m 24 ls []) := by
            intro x_477 H locs ls hG hP hD hS hl
            obtain ⟨x_481, ex_481⟩ : ∃ y : Int32, y = x_446 + Int32.ofInt 1 := ⟨_, rfl⟩
            have h_482 : rg x_481 1 40 := rg_of_eq ex_481 (rg_add h_469 (rg_k (Int32.ofInt 1) 1 rfl) (by decide))
            refine lv_iinc (v := x_481) (lv' := [(2, .int x_481), (0, .ref this), (1, .int x_477)]) hx hb dX2_countWalls_24 hl (k := 2) rfl ex_481.symm (by decide) rfl (fun ls hl => ?_)
            refine lv_goto (tgt := 4) hx hb dX2_countWalls_27 (by decide) ?_
            exact ih_464 x_477 x_481 _ _ _ (rg_w h_482 (by decide)) (ms_up 1 hm_461 ex_481 rfl (by decide) h_469 (by decide) (by decide)) hG hP hD hS (lv_sub hl [1, 2, 0] rfl)
          refine lv_if_le (tgt := 24) hx hb dX2_countWalls_18 (by decide) (fun c_483 => ?_) (fun c_483 => ?_)
          · have h_484 : rg x_472 (-2147483648) 0 := rg_le1 c_483 (rg_full _) (rg_k (0 : Int32) 0 rfl) (by decide)
            exact K_480 x_445 _ _ _ hG hP hD hS (lv_sub hl [0, 1, 2] rfl)
          · have h_485 : rg x_472 1 2147483647 := rg_lt2 (nle c_483) (rg_k (0 : Int32) 0 rfl) (rg_full _) (by decide)
            obtain ⟨x_486, ex_486⟩ : ∃ y : Int32, y = x_445 + Int32.ofInt 1 := ⟨_, rfl⟩
            refine lv_iinc (v := x_486) (lv' := [(1, .int x_486), (0, .ref this), (2, .int x_446)]) hx hb dX2_countWalls_21 hl (k := 1) rfl ex_486.symm (by decide) rfl (fun ls hl => ?_)
            exact K_480 x_486 _ _ _ hG hP hD hS (lv_sub hl [1, 0, 2] rfl)
    exact L_463 _ (0 : Int32) (0 : Int32) _ _ _ (rg_w (rg_k (0 : Int32) 0 rfl) (by decide)) (Nat.lt_succ_self _) hG hP hD hS (lv_sub hl [2, 1, 0] rfl)
  exact go _ _ _ hP hD hS hl

set_option maxHeartbeats 4000000 in
set_option maxRecDepth 100000 in
theorem s_X11_fill_82 (l : Launch) (D : va_G) (t : pq_T) (σ : pq_S) (I : Nat → Nat → Int32) (J : Nat → Nat → Int64) (ri : Nat → Nat → Int32) (rj : Nat → Nat → Int64) (rq : Nat → Nat → Option Nat) (sz : Nat) (tg : Nat → Nat) (hSH : SH σ tg) (hG0 : GS tg σ I ri rq) (a0 : Nat) (a1 : Int32) (hL_a0 : a0 ∈ σ.1) (hK_a0 : σ.2.1 a0 = 13) (hN_a0 : σ.2.2.2 a0 = 32) (hT_a0 : tg a0 = 82) : MetV l yX11_fill (wa yX11_fill cX11_fill 3 none) ({ frames := 0, cells := 0, slots := 0, locals := 0 }) [.ref a0, .int a1] D t σ (I, J, ri, rj, rq) sz 0 0 (fun (u : pq_S × pq_M) => ∃ ri' : Nat → Nat → Int32, u = (σ, I, J, ri', rj, rq) ∧ GX [] tg σ I ri rj I ri' rj rq) := by
  refine Met.ofW (cc := cX11_fill) (maxL := 3) (ret := none) (by decide) rfl ?_
  intro p e s m args below meth c s₁ B hml hv
  obtain ⟨rfl, hsz, hP, hK, hD0, hN⟩ := hv
  have hx := B.exec
  have hb := B.bytes
  have hr := B.returns
  have hts := atoms_spec (ws := (wa yX11_fill cX11_fill 3 none)) B.pre
  have hown : s.vm.findClass RX11 = some m.cls := findClass_of_methodNamed B.named
  have hlocks := B.notSynchronized
  subst hsz
  have hD : va_D (pq_B t σ (I, J, ri, rj, rq) s.heap.size) (pq_P t σ (I, J, ri, rj, rq)) := hD0.self
  generalize hAe : pq_B t σ (I, J, ri, rj, rq) s.heap.size = A at hD ⊢
  have hA : ∀ q : Nat, s.heap.size ≤ q → A q := fun q h => by rw [← hAe]; exact Or.inr h
  have hS : va_S A s.heap s.heap [] := va_S.rf
  have hG : GX [] tg σ I ri rj I ri rj rq := ⟨hG0, fun _ _ _ => rfl, fun _ _ _ _ _ => rfl, fun _ _ _ _ _ => rfl⟩
  have hl := lv_entry ([.ref a0, .int a1]) (n := 3) (Nat.le_of_ble_eq_true rfl)
  rw [lg_entry_eq]
  generalize (lg_sl ([.ref a0, .int a1]) ++ List.replicate (3 - (lg_sl ([.ref a0, .int a1])).length) Slot.unset).toArray = ls at hl ⊢
  have hl : lv_has ls 3 [(0, .ref a0), (1, .int a1)] := hl
  refine q_gen (fun Q hQ => ?_)
  have go : ∀ (H : Heap) (locs : List Loc) (ls : Array Slot), va_P D vwCl (pq_P t σ (I, J, ri, rj, rq)) H → va_D A (pq_P t σ (I, J, ri, rj, rq)) → va_S A s.heap H locs → lv_has ls 3 [(0, .ref a0), (1, .int a1)] → W p l e ({ frames := 0, cells := 0, slots := 0, locals := 0 } : Room) s m (List.toArray ([.ref a0, .int a1] : List Value)) below meth c H locs 0 0 Q (F0 m 0 ls []) := by
    intro H locs ls hP hD hS hl
    refine lv_iconst (v := 0) hx hb dX11_fill_0 (by decide) ?_
    refine lv_istore_n (lv' := [(2, .int 0), (0, .ref a0), (1, .int a1)]) hx hb dX11_fill_1 rfl hl (by decide) rfl (fun ls hl => ?_)
    have L_114 : ∀ (n_113 : Nat) (x_103 : Int32) (ri_104 : Nat → Nat → Int32) (H : Heap) (locs : List Loc) (ls : Array Slot), rg x_103 0 32 → (32 - (x_103).toInt).toNat < n_113 → GX [] tg σ I ri rj I ri_104 rj rq → va_P D vwCl (pq_P t σ (I, J, ri_104, rj, rq)) H → va_D A (pq_P t σ (I, J, ri_104, rj, rq)) → va_S A s.heap H locs → lv_has ls 3 [(0, .ref a0), (1, .int a1), (2, .int x_103)] → W p l e ({ frames := 0, cells := 0, slots := 0, locals := 0 } : Room) s m (List.toArray ([.ref a0, .int a1] : List Value)) below meth c H locs 0 0 Q (F0 m 2 ls []) := by
      intro n_113
      induction n_113 with
      | zero => intro x_103 ri_104 H locs ls h_117 hm_112 hG hP hD hS hl; exact absurd hm_112 (Nat.not_lt_zero _)
      | succ n_113 ih_115 =>
        intro x_103 ri_104 H locs ls h_117 hm_112 hG hP hD hS hl
        refine lv_iload_n hx hb dX11_fill_2 rfl (lv_at hl 2 rfl) ?_
        refine lv_aload_n hx hb dX11_fill_3 rfl (lv_at hl 0 rfl) ?_
        refine pn_i (v := 32) hx hb hK hP hL_a0 hK_a0 hN_a0 (by decide) dX11_fill_4 ?_
        refine lv_icmp_ge (tgt := 18) hx hb dX11_fill_5 (by decide) (fun c_118 => ?_) (fun c_118 => ?_)
        · have h_119 : rg x_103 32 32 := rg_le2 c_118 (rg_k (32 : Int32) 32 rfl) h_117 (by decide)
          subst hQ
          exact W.vret hx hb hr (fun t1 ht hW => ⟨⟨(σ, I, J, ri_104, rj, rq), rfl, ⟨ri_104, rfl, hG⟩, by rw [ht]; exact hP, va_K.moved hW.alike hK, hD⟩, hS.F ht⟩) hS.2.2 dX11_fill_18
        · have h_120 : rg x_103 0 31 := rg_lt1 (nle c_118) h_117 (rg_k (32 : Int32) 32 rfl) (by decide)
          refine lv_aload_n hx hb dX11_fill_8 rfl (lv_at hl 0 rfl) ?_
          refine lv_iload_n hx hb dX11_fill_9 rfl (lv_at hl 2 rfl) ?_
          refine lv_iload_n hx hb dX11_fill_10 rfl (lv_at hl 1 rfl) ?_
          refine pt_i hx hb hK hP hD hS hL_a0 hK_a0 hN_a0 (rg_in h_120 (by decide)) dX11_fill_11 (fun r_121 H locs er_121 hP hD hS => ?_)
          have hG := GX.wR hG hSH hT_a0 rfl er_121 (rg_w (rg_full _) (by decide)) (by decide)
          obtain ⟨x_122, ex_122⟩ : ∃ y : Int32, y = x_103 + Int32.ofInt 1 := ⟨_, rfl⟩
          have h_123 : rg x_122 1 32 := rg_of_eq ex_122 (rg_add h_120 (rg_k (Int32.ofInt 1) 1 rfl) (by decide))
          refine lv_iinc (v := x_122) (lv' := [(2, .int x_122), (0, .ref a0), (1, .int a1)]) hx hb dX11_fill_12 hl (k := 2) rfl ex_122.symm (by decide) rfl (fun ls hl => ?_)
          refine lv_goto (tgt := 2) hx hb dX11_fill_15 (by decide) ?_
          exact ih_115 x_122 r_121 _ _ _ (rg_w h_123 (by decide)) (ms_up 1 hm_112 ex_122 rfl (by decide) h_120 (by decide) (by decide)) hG hP hD hS (lv_sub hl [1, 2, 0] rfl)
    exact L_114 _ (0 : Int32) ri _ _ _ (rg_w (rg_k (0 : Int32) 0 rfl) (by decide)) (Nat.lt_succ_self _) hG hP hD hS (lv_sub hl [1, 2, 0] rfl)
  exact go _ _ _ hP hD hS hl

set_option maxHeartbeats 4000000 in
set_option maxRecDepth 100000 in
theorem s_X2_measure (l : Launch) (D : va_G) (t : pq_T) (σ : pq_S) (I : Nat → Nat → Int32) (J : Nat → Nat → Int64) (ri : Nat → Nat → Int32) (rj : Nat → Nat → Int64) (rq : Nat → Nat → Option Nat) (sz : Nat) (tg : Nat → Nat) (hSH : SH σ tg) (hG0 : GS tg σ I ri rq) (this : Nat) (a0 : Int32) (hL_this : this ∈ σ.1) (hK_this : σ.2.1 this = 2) (h_a0 : rg a0 0 20) : MetV l yX2_measure (wa yX2_measure cX2_measure 4 none) ({ frames := 0, cells := 0, slots := 0, locals := 0 }) [.ref this, .int a0] D t σ (I, J, ri, rj, rq) sz 0 0 (fun (u : pq_S × pq_M) => ∃ ri' : Nat → Nat → Int32, u = (σ, I, J, ri', rj, rq) ∧ GX [] tg σ I ri rj I ri' rj rq) := by
  refine Met.ofW (cc := cX2_measure) (maxL := 4) (ret := none) (by decide) rfl ?_
  intro p e s m args below meth c s₁ B hml hv
  obtain ⟨rfl, hsz, hP, hK, hD0, hN⟩ := hv
  have hx := B.exec
  have hb := B.bytes
  have hr := B.returns
  have hts := atoms_spec (ws := (wa yX2_measure cX2_measure 4 none)) B.pre
  have hown : s.vm.findClass RX2 = some m.cls := findClass_of_methodNamed B.named
  have hlocks := B.notSynchronized
  subst hsz
  have hD : va_D (pq_B t σ (I, J, ri, rj, rq) s.heap.size) (pq_P t σ (I, J, ri, rj, rq)) := hD0.self
  generalize hAe : pq_B t σ (I, J, ri, rj, rq) s.heap.size = A at hD ⊢
  have hA : ∀ q : Nat, s.heap.size ≤ q → A q := fun q h => by rw [← hAe]; exact Or.inr h
  have hS : va_S A s.heap s.heap [] := va_S.rf
  have hG : GX [] tg σ I ri rj I ri rj rq := ⟨hG0, fun _ _ _ => rfl, fun _ _ _ _ _ => rfl, fun _ _ _ _ _ => rfl⟩
  have hl := lv_entry ([.ref this, .int a0]) (n := 4) (Nat.le_of_ble_eq_true rfl)
  rw [lg_entry_eq]
  generalize (lg_sl ([.ref this, .int a0]) ++ List.replicate (4 - (lg_sl ([.ref this, .int a0])).length) Slot.unset).toArray = ls at hl ⊢
  have hl : lv_has ls 4 [(0, .ref this), (1, .int a0)] := hl
  refine q_gen (fun Q hQ => ?_)
  have go : ∀ (H : Heap) (locs : List Loc) (ls : Array Slot), va_P D vwCl (pq_P t σ (I, J, ri, rj, rq)) H → va_D A (pq_P t σ (I, J, ri, rj, rq)) → va_S A s.heap H locs → lv_has ls 4 [(0, .ref this), (1, .int a0)] → W p l e ({ frames := 0, cells := 0, slots := 0, locals := 0 } : Room) s m (List.toArray ([.ref this, .int a0] : List Value)) below meth c H locs 0 0 Q (F0 m 0 ls []) := by
    intro H locs ls hP hD hS hl
    refine lv_iload_n hx hb dX2_measure_0 rfl (lv_at hl 1 rfl) ?_
    refine lv_istore_n (lv' := [(2, .int a0), (0, .ref this), (1, .int a0)]) hx hb dX2_measure_1 rfl hl (by decide) rfl (fun ls hl => ?_)
    refine lv_iconst (v := 0) hx hb dX2_measure_2 (by decide) ?_
    refine lv_istore_n (lv' := [(3, .int 0), (2, .int a0), (0, .ref this), (1, .int a0)]) hx hb dX2_measure_3 rfl hl (by decide) rfl (fun ls hl => ?_)
    have L_1352 : ∀ (n_1351 : Nat) (x_1236 : Int32) (x_1237 : Int32) (ri_1238 : Nat → Nat → Int32) (H : Heap) (locs : List Loc) (ls : Array Slot), rg x_1236 0 20 → rg x_1237 0 21 → (21 - (x_1237).toInt).toNat < n_1351 → GX [] tg σ I ri rj I ri_1238 rj rq → va_P D vwCl (pq_P t σ (I, J, ri_1238, rj, rq)) H → va_D A (pq_P t σ (I, J, ri_1238, rj, rq)) → va_S A s.heap H locs → lv_has ls 4 [(0, .ref this), (1, .int a0), (2, .int x_1236), (3, .int x_1237)] → W p l e ({ frames := 0, cells := 0, slots := 0, locals := 0 } : Room) s m (List.toArray ([.ref this, .int a0] : List Value)) below meth c H locs 0 0 Q (F0 m 4 ls []) := by
      intro n_1351
      induction n_1351 with
      | zero => intro x_1236 x_1237 ri_1238 H locs ls h_1356 h_1357 hm_1350 hG hP hD hS hl; exact absurd hm_1350 (Nat.not_lt_zero _)
      | succ n_1351 ih_1353 =>
        intro x_1236 x_1237 ri_1238 H locs ls h_1356 h_1357 hm_1350 hG hP hD hS hl
        refine lv_iload_n hx hb dX2_measure_4 rfl (lv_at hl 3 rfl) ?_
        refine lv_iload_n hx hb dX2_measure_5 rfl (lv_at hl 1 rfl) ?_
        refine lv_icmp_gt (tgt := 54) hx hb dX2_measure_6 (by decide) (fun c_1358 => ?_) (fun c_1358 => ?_)
        · have h_1359 : rg x_1237 1 21 := rg_lt2 c_1358 h_a0 h_1357 (by decide)
          subst hQ
          exact W.vret hx hb hr (fun t1 ht hW => ⟨⟨(σ, I, J, ri_1238, rj, rq), rfl, ⟨ri_1238, rfl, hG⟩, by rw [ht]; exact hP, va_K.moved hW.alike hK, hD⟩, hS.F ht⟩) hS.2.2 dX2_measure_54
        · have h_1360 : rg x_1237 0 20 := rg_le1 (nlt c_1358) h_1357 h_a0 (by decide)
          refine lv_iload_n hx hb dX2_measure_9 rfl (lv_at hl 3 rfl) ?_
          refine lv_aload_n hx hb dX2_measure_10 rfl (lv_at hl 0 rfl) ?_
          obtain ⟨w_1361, hR_w_1361, hL_w_1361, hK_w_1361, hN_w_1361, hT_w_1361⟩ := sh_a hSH 83 (ci := 2) (kd := 13) (len := 21) rfl (by decide) hL_this hK_this
          refine pg_f (v := .ref w_1361) (C := RX2) (T := TX2) (N := 20) hx hb hts (tw_i inlX2) hown hK hP hL_this hK_this (by decide) rfl 19 (by decide) (hts _ (tw_c tw_100)) (pq_hv rfl hR_w_1361) dX2_measure_11 ?_
          refine pn_i (v := 21) hx hb hK hP hL_w_1361 hK_w_1361 hN_w_1361 (by decide) dX2_measure_14 ?_
          refine lv_icmp_ge (tgt := 54) hx hb dX2_measure_15 (by decide) (fun c_1362 => ?_) (fun c_1362 => ?_)
          · exact (rg_empty (rg_le2 c_1362 (rg_k (21 : Int32) 21 rfl) h_1360 (lo := 21) (hi := 20) (by decide)) (by decide)).elim
          · have L_1447 : ∀ (n_1446 : Nat) (x_1424 : Int32) (H : Heap) (locs : List Loc) (ls : Array Slot), rg x_1424 0 20 → ((x_1424).toInt - 0).toNat < n_1446 → GX [] tg σ I ri rj I ri_1238 rj rq → va_P D vwCl (pq_P t σ (I, J, ri_1238, rj, rq)) H → va_D A (pq_P t σ (I, J, ri_1238, rj, rq)) → va_S A s.heap H locs → lv_has ls 4 [(0, .ref this), (1, .int a0), (2, .int x_1424), (3, .int x_1237)] → W p l e ({ frames := 0, cells := 0, slots := 0, locals := 0 } : Room) s m (List.toArray ([.ref this, .int a0] : List Value)) below meth c H locs 0 0 Q (F0 m 18 ls []) := by
              intro n_1446
              induction n_1446 with
              | zero => intro x_1424 H locs ls h_1450 hm_1445 hG hP hD hS hl; exact absurd hm_1445 (Nat.not_lt_zero _)
              | succ n_1446 ih_1448 =>
                intro x_1424 H locs ls h_1450 hm_1445 hG hP hD hS hl
                refine lv_iload_n hx hb dX2_measure_18 rfl (lv_at hl 2 rfl) ?_
                have K_1470 : ∀  (H : Heap) (locs : List Loc) (ls : Array Slot), GX [] tg σ I ri rj I ri_1238 rj rq → va_P D vwCl (pq_P t σ (I, J, ri_1238, rj, rq)) H → va_D A (pq_P t σ (I, J, ri_1238, rj, rq)) → va_S A s.heap H locs → lv_has ls 4 [(0, .ref this), (1, .int a0), (2, .int x_1424), (3, .int x_1237)] → W p l e ({ frames := 0, cells := 0, slots := 0, locals := 0 } : Room) s m (List.toArray ([.ref this, .int a0] : List Value)) below meth c H locs 0 0 Q (F0 m 41 ls []) := by
                  intro H locs ls hG hP hD hS hl
                  refine lv_aload_n hx hb dX2_measure_41 rfl (lv_at hl 0 rfl) ?_
                  refine pg_f (v := .ref w_1361) (C := RX2) (T := TX2) (N := 20) hx hb hts (tw_i inlX2) hown hK hP hL_this hK_this (by decide) rfl 19 (by decide) (hts _ (tw_c tw_100)) (pq_hv rfl hR_w_1361) dX2_measure_42 ?_
                  refine lv_iload_n hx hb dX2_measure_45 rfl (lv_at hl 3 rfl) ?_
                  refine lv_iload_n hx hb dX2_measure_46 rfl (lv_at hl 2 rfl) ?_
                  refine pt_i hx hb hK hP hD hS hL_w_1361 hK_w_1361 hN_w_1361 (rg_in h_1360 (by decide)) dX2_measure_47 (fun r_1471 H locs er_1471 hP hD hS => ?_)
                  have hG := GX.wR hG hSH hT_w_1361 rfl er_1471 (rg_w h_1450 (by decide)) (by decide)
                  obtain ⟨x_1472, ex_1472⟩ : ∃ y : Int32, y = x_1237 + Int32.ofInt 1 := ⟨_, rfl⟩
                  have h_1473 : rg x_1472 1 21 := rg_of_eq ex_1472 (rg_add h_1360 (rg_k (Int32.ofInt 1) 1 rfl) (by decide))
                  refine lv_iinc (v := x_1472) (lv' := [(3, .int x_1472), (0, .ref this), (1, .int a0), (2, .int x_1424)]) hx hb dX2_measure_48 hl (k := 3) rfl ex_1472.symm (by decide) rfl (fun ls hl => ?_)
                  refine lv_goto (tgt := 4) hx hb dX2_measure_51 (by decide) ?_
                  exact ih_1353 x_1424 x_1472 r_1471 _ _ _ (rg_w h_1450 (by decide)) (rg_w h_1473 (by decide)) (ms_up 1 hm_1350 ex_1472 rfl (by decide) h_1360 (by decide) (by decide)) hG hP hD hS (lv_sub hl [1, 2, 3, 0] rfl)
                refine lv_if_le (tgt := 41) hx hb dX2_measure_19 (by decide) (fun c_1474 => ?_) (fun c_1474 => ?_)
                · have h_1475 : rg x_1424 0 0 := rg_le1 c_1474 h_1450 (rg_k (0 : Int32) 0 rfl) (by decide)
                  exact K_1470 _ _ _ hG hP hD hS (lv_sub hl [0, 1, 2, 3] rfl)
                · have h_1476 : rg x_1424 1 20 := rg_lt2 (nle c_1474) (rg_k (0 : Int32) 0 rfl) h_1450 (by decide)
                  refine lv_iload_n hx hb dX2_measure_22 rfl (lv_at hl 2 rfl) ?_
                  refine lv_iload_n hx hb dX2_measure_23 rfl (lv_at hl 2 rfl) ?_
                  refine lv_imul hx hb dX2_measure_24 ?_
                  refine lv_topi (fun x_1477 ex_1477 => ?_)
                  have h_1478 : rg x_1477 1 400 := rg_of_eq ex_1477 (rg_mul h_1476 h_1476 (by decide))
                  refine lv_iload_n hx hb dX2_measure_25 rfl (lv_at hl 3 rfl) ?_
                  refine lv_iload_n hx hb dX2_measure_26 rfl (lv_at hl 3 rfl) ?_
                  refine lv_imul hx hb dX2_measure_27 ?_
                  refine lv_topi (fun x_1479 ex_1479 => ?_)
                  have h_1480 : rg x_1479 0 400 := rg_of_eq ex_1479 (rg_mul h_1360 h_1360 (by decide))
                  refine lv_iadd hx hb dX2_measure_28 ?_
                  refine lv_topi (fun x_1481 ex_1481 => ?_)
                  have h_1482 : rg x_1481 1 800 := rg_of_eq ex_1481 (rg_add h_1478 h_1480 (by decide))
                  refine lv_iload_n hx hb dX2_measure_29 rfl (lv_at hl 1 rfl) ?_
                  refine lv_iload_n hx hb dX2_measure_30 rfl (lv_at hl 1 rfl) ?_
                  refine lv_imul hx hb dX2_measure_31 ?_
                  refine lv_topi (fun x_1483 ex_1483 => ?_)
                  have h_1484 : rg x_1483 0 400 := rg_of_eq ex_1483 (rg_mul h_a0 h_a0 (by decide))
                  refine lv_icmp_le (tgt := 41) hx hb dX2_measure_32 (by decide) (fun c_1485 => ?_) (fun c_1485 => ?_)
                  · have h_1486 : rg x_1481 1 400 := rg_le1 c_1485 h_1482 h_1484 (by decide)
                    have h_1487 : rg x_1483 1 400 := rg_le2 c_1485 h_1482 h_1484 (by decide)
                    exact K_1470 _ _ _ hG hP hD hS (lv_sub hl [0, 1, 2, 3] rfl)
                  · obtain ⟨x_1488, ex_1488⟩ : ∃ y : Int32, y = x_1424 + Int32.ofInt (-1) := ⟨_, rfl⟩
                    have h_1489 : rg x_1488 0 19 := rg_of_eq ex_1488 (rg_add h_1476 (rg_k (Int32.ofInt (-1)) (-1) rfl) (by decide))
                    refine lv_iinc (v := x_1488) (lv' := [(2, .int x_1488), (0, .ref this), (1, .int a0), (3, .int x_1237)]) hx hb dX2_measure_35 hl (k := 2) rfl ex_1488.symm (by decide) rfl (fun ls hl => ?_)
                    refine lv_goto (tgt := 18) hx hb dX2_measure_38 (by decide) ?_
                    exact ih_1448 x_1488 _ _ _ (rg_w h_1489 (by decide)) (ms_dn 1 hm_1445 ex_1488 rfl (by decide) h_1476 (by decide) (by decide)) hG hP hD hS (lv_sub hl [1, 2, 0, 3] rfl)
            exact L_1447 _ x_1236 _ _ _ (rg_w h_1356 (by decide)) (Nat.lt_succ_self _) hG hP hD hS (lv_sub hl [0, 1, 2, 3] rfl)
    exact L_1352 _ a0 (0 : Int32) ri _ _ _ (rg_w h_a0 (by decide)) (rg_w (rg_k (0 : Int32) 0 rfl) (by decide)) (Nat.lt_succ_self _) hG hP hD hS (lv_sub hl [2, 3, 1, 0] rfl)
  exact go _ _ _ hP hD hS hl

set_option maxHeartbeats 4000000 in
set_option maxRecDepth 100000 in
theorem s_J6_bitCount_0f7a4 (l : Launch) (D : va_G) (t : pq_T) (σ : pq_S) (I : Nat → Nat → Int32) (J : Nat → Nat → Int64) (ri : Nat → Nat → Int32) (rj : Nat → Nat → Int64) (rq : Nat → Nat → Option Nat) (sz : Nat) (tg : Nat → Nat) (hSH : SH σ tg) (hG0 : GS tg σ I ri rq) (a0 : Int32) : MetI l yJ6_bitCount_0f7a4 (wa yJ6_bitCount_0f7a4 cJ6_bitCount_0f7a4 1 (some .int)) ({ frames := 0, cells := 0, slots := 0, locals := 0 }) [.int a0] D t σ (I, J, ri, rj, rq) sz 0 0 (fun (r : Int32) (u : pq_S × pq_M) => u = (σ, I, J, ri, rj, rq)) := by
  refine Met.ofW (cc := cJ6_bitCount_0f7a4) (maxL := 1) (ret := (some .int)) (by decide) rfl ?_
  intro p e s m args below meth c s₁ B hml hv
  obtain ⟨rfl, hsz, hP, hK, hD0, hN⟩ := hv
  have hx := B.exec
  have hb := B.bytes
  have hr := B.returns
  have hts := atoms_spec (ws := (wa yJ6_bitCount_0f7a4 cJ6_bitCount_0f7a4 1 (some .int))) B.pre
  have hown : s.vm.findClass RJ6 = some m.cls := findClass_of_methodNamed B.named
  have hlocks := B.notSynchronized
  subst hsz
  have hD : va_D (pq_B t σ (I, J, ri, rj, rq) s.heap.size) (pq_P t σ (I, J, ri, rj, rq)) := hD0.self
  generalize hAe : pq_B t σ (I, J, ri, rj, rq) s.heap.size = A at hD ⊢
  have hA : ∀ q : Nat, s.heap.size ≤ q → A q := fun q h => by rw [← hAe]; exact Or.inr h
  have hS : va_S A s.heap s.heap [] := va_S.rf
  have hG : GX [] tg σ I ri rj I ri rj rq := ⟨hG0, fun _ _ _ => rfl, fun _ _ _ _ _ => rfl, fun _ _ _ _ _ => rfl⟩
  have hl := lv_entry ([.int a0]) (n := 1) (Nat.le_of_ble_eq_true rfl)
  rw [lg_entry_eq]
  generalize (lg_sl ([.int a0]) ++ List.replicate (1 - (lg_sl ([.int a0])).length) Slot.unset).toArray = ls at hl ⊢
  have hl : lv_has ls 1 [(0, .int a0)] := hl
  refine q_gen (fun Q hQ => ?_)
  have go : ∀ (H : Heap) (locs : List Loc) (ls : Array Slot), va_P D vwCl (pq_P t σ (I, J, ri, rj, rq)) H → va_D A (pq_P t σ (I, J, ri, rj, rq)) → va_S A s.heap H locs → lv_has ls 1 [(0, .int a0)] → W p l e ({ frames := 0, cells := 0, slots := 0, locals := 0 } : Room) s m (List.toArray ([.int a0] : List Value)) below meth c H locs 0 0 Q (F0 m 0 ls []) := by
    intro H locs ls hP hD hS hl
    refine lv_iload_n hx hb dJ6_bitCount_0f7a4_0 rfl (lv_at hl 0 rfl) ?_
    refine lv_iload_n hx hb dJ6_bitCount_0f7a4_1 rfl (lv_at hl 0 rfl) ?_
    refine lv_iconst (v := 1) hx hb dJ6_bitCount_0f7a4_2 (by decide) ?_
    refine lv_iushr hx hb dJ6_bitCount_0f7a4_3 rfl ?_
    refine lv_topi (fun x_1 ex_1 => ?_)
    refine lv_ldcw hx hb hown (hts _ (tw_c tw_1150)) dJ6_bitCount_0f7a4_4 ?_
    refine lv_iand hx hb dJ6_bitCount_0f7a4_7 ?_
    refine lv_topi (fun x_2 ex_2 => ?_)
    refine lv_isub hx hb dJ6_bitCount_0f7a4_8 ?_
    refine lv_topi (fun x_3 ex_3 => ?_)
    refine lv_istore_n (lv' := [(0, .int x_3)]) hx hb dJ6_bitCount_0f7a4_9 rfl hl (by decide) rfl (fun ls hl => ?_)
    refine lv_iload_n hx hb dJ6_bitCount_0f7a4_10 rfl (lv_at hl 0 rfl) ?_
    refine lv_ldcw hx hb hown (hts _ (tw_c tw_1151)) dJ6_bitCount_0f7a4_11 ?_
    refine lv_iand hx hb dJ6_bitCount_0f7a4_14 ?_
    refine lv_topi (fun x_4 ex_4 => ?_)
    refine lv_iload_n hx hb dJ6_bitCount_0f7a4_15 rfl (lv_at hl 0 rfl) ?_
    refine lv_iconst (v := 2) hx hb dJ6_bitCount_0f7a4_16 (by decide) ?_
    refine lv_iushr hx hb dJ6_bitCount_0f7a4_17 rfl ?_
    refine lv_topi (fun x_5 ex_5 => ?_)
    refine lv_ldcw hx hb hown (hts _ (tw_c tw_1151)) dJ6_bitCount_0f7a4_18 ?_
    refine lv_iand hx hb dJ6_bitCount_0f7a4_21 ?_
    refine lv_topi (fun x_6 ex_6 => ?_)
    refine lv_iadd hx hb dJ6_bitCount_0f7a4_22 ?_
    refine lv_topi (fun x_7 ex_7 => ?_)
    refine lv_istore_n (lv' := [(0, .int x_7)]) hx hb dJ6_bitCount_0f7a4_23 rfl hl (by decide) rfl (fun ls hl => ?_)
    refine lv_iload_n hx hb dJ6_bitCount_0f7a4_24 rfl (lv_at hl 0 rfl) ?_
    refine lv_iload_n hx hb dJ6_bitCount_0f7a4_25 rfl (lv_at hl 0 rfl) ?_
    refine lv_iconst (v := 4) hx hb dJ6_bitCount_0f7a4_26 (by decide) ?_
    refine lv_iushr hx hb dJ6_bitCount_0f7a4_27 rfl ?_
    refine lv_topi (fun x_8 ex_8 => ?_)
    refine lv_iadd hx hb dJ6_bitCount_0f7a4_28 ?_
    refine lv_topi (fun x_9 ex_9 => ?_)
    refine lv_ldcw hx hb hown (hts _ (tw_c tw_1152)) dJ6_bitCount_0f7a4_29 ?_
    refine lv_iand hx hb dJ6_bitCount_0f7a4_32 ?_
    refine lv_topi (fun x_10 ex_10 => ?_)
    refine lv_istore_n (lv' := [(0, .int x_10)]) hx hb dJ6_bitCount_0f7a4_33 rfl hl (by decide) rfl (fun ls hl => ?_)
    refine lv_iload_n hx hb dJ6_bitCount_0f7a4_34 rfl (lv_at hl 0 rfl) ?_
    refine lv_iload_n hx hb dJ6_bitCount_0f7a4_35 rfl (lv_at hl 0 rfl) ?_
    refine lv_bipush (v := 8) hx hb dJ6_bitCount_0f7a4_36 (by decide) ?_
    refine lv_iushr hx hb dJ6_bitCount_0f7a4_38 rfl ?_
    refine lv_topi (fun x_11 ex_11 => ?_)
    refine lv_iadd hx hb dJ6_bitCount_0f7a4_39 ?_
    refine lv_topi (fun x_12 ex_12 => ?_)
    refine lv_istore_n (lv' := [(0, .int x_12)]) hx hb dJ6_bitCount_0f7a4_40 rfl hl (by decide) rfl (fun ls hl => ?_)
    refine lv_iload_n hx hb dJ6_bitCount_0f7a4_41 rfl (lv_at hl 0 rfl) ?_
    refine lv_iload_n hx hb dJ6_bitCount_0f7a4_42 rfl (lv_at hl 0 rfl) ?_
    refine lv_bipush (v := 16) hx hb dJ6_bitCount_0f7a4_43 (by decide) ?_
    refine lv_iushr hx hb dJ6_bitCount_0f7a4_45 rfl ?_
    refine lv_topi (fun x_13 ex_13 => ?_)
    refine lv_iadd hx hb dJ6_bitCount_0f7a4_46 ?_
    refine lv_topi (fun x_14 ex_14 => ?_)
    refine lv_istore_n (lv' := [(0, .int x_14)]) hx hb dJ6_bitCount_0f7a4_47 rfl hl (by decide) rfl (fun ls hl => ?_)
    refine lv_iload_n hx hb dJ6_bitCount_0f7a4_48 rfl (lv_at hl 0 rfl) ?_
    refine lv_bipush (v := 63) hx hb dJ6_bitCount_0f7a4_49 (by decide) ?_
    refine lv_iand hx hb dJ6_bitCount_0f7a4_51 ?_
    refine lv_topi (fun x_15 ex_15 => ?_)
    subst hQ
    exact W.iret (v := x_15) hx hb hr (fun t1 ht hW => ⟨⟨x_15, (σ, I, J, ri, rj, rq), rfl, rfl, by rw [ht]; exact hP, va_K.moved hW.alike hK, hD⟩, hS.F ht⟩) hS.2.2 dJ6_bitCount_0f7a4_52
  exact go _ _ _ hP hD hS hl

set_option maxHeartbeats 4000000 in
set_option maxRecDepth 100000 in
theorem s_X2_mark (l : Launch) (D : va_G) (t : pq_T) (σ : pq_S) (I : Nat → Nat → Int32) (J : Nat → Nat → Int64) (ri : Nat → Nat → Int32) (rj : Nat → Nat → Int64) (rq : Nat → Nat → Option Nat) (sz : Nat) (tg : Nat → Nat) (hSH : SH σ tg) (hG0 : GS tg σ I ri rq) (this : Nat) (a0 : Int32) (a1 : Int32) (a2 : Int32) (hL_this : this ∈ σ.1) (hK_this : σ.2.1 this = 2) (h_a0 : rg a0 0 31) (h_a1 : rg a1 0 31) (h_a2 : rg a2 0 20) : MetV l yX2_mark (wa yX2_mark cX2_mark 10 none) ({ frames := 1, cells := 0, slots := 0, locals := 40 }) [.ref this, .int a0, .int a1, .int a2] D t σ (I, J, ri, rj, rq) sz 0 0 (fun (u : pq_S × pq_M) => ∃ ri' : Nat → Nat → Int32, u = (σ, I, J, ri', rj, rq) ∧ GX [] tg σ I ri rj I ri' rj rq) := by
  refine Met.ofW (cc := cX2_mark) (maxL := 10) (ret := none) (by decide) rfl ?_
  intro p e s m args below meth c s₁ B hml hv
  obtain ⟨rfl, hsz, hP, hK, hD0, hN⟩ := hv
  have hx := B.exec
  have hb := B.bytes
  have hr := B.returns
  have hts := atoms_spec (ws := (wa yX2_mark cX2_mark 10 none)) B.pre
  have hown : s.vm.findClass RX2 = some m.cls := findClass_of_methodNamed B.named
  have hlocks := B.notSynchronized
  subst hsz
  have hD : va_D (pq_B t σ (I, J, ri, rj, rq) s.heap.size) (pq_P t σ (I, J, ri, rj, rq)) := hD0.self
  generalize hAe : pq_B t σ (I, J, ri, rj, rq) s.heap.size = A at hD ⊢
  have hA : ∀ q : Nat, s.heap.size ≤ q → A q := fun q h => by rw [← hAe]; exact Or.inr h
  have hS : va_S A s.heap s.heap [] := va_S.rf
  have hG : GX [] tg σ I ri rj I ri rj rq := ⟨hG0, fun _ _ _ => rfl, fun _ _ _ _ _ => rfl, fun _ _ _ _ _ => rfl⟩
  have hl := lv_entry ([.ref this, .int a0, .int a1, .int a2]) (n := 10) (Nat.le_of_ble_eq_true rfl)
  rw [lg_entry_eq]
  generalize (lg_sl ([.ref this, .int a0, .int a1, .int a2]) ++ List.replicate (10 - (lg_sl ([.ref this, .int a0, .int a1, .int a2])).length) Slot.unset).toArray = ls at hl ⊢
  have hl : lv_has ls 10 [(0, .ref this), (1, .int a0), (2, .int a1), (3, .int a2)] := hl
  refine q_gen (fun Q hQ => ?_)
  have go : ∀ (H : Heap) (locs : List Loc) (ls : Array Slot), va_P D vwCl (pq_P t σ (I, J, ri, rj, rq)) H → va_D A (pq_P t σ (I, J, ri, rj, rq)) → va_S A s.heap H locs → lv_has ls 10 [(0, .ref this), (1, .int a0), (2, .int a1), (3, .int a2)] → W p l e ({ frames := 1, cells := 0, slots := 0, locals := 40 } : Room) s m (List.toArray ([.ref this, .int a0, .int a1, .int a2] : List Value)) below meth c H locs 0 0 Q (F0 m 0 ls []) := by
    intro H locs ls hP hD hS hl
    refine lv_iconst (v := 0) hx hb dX2_mark_0 (by decide) ?_
    refine lv_iload_n hx hb dX2_mark_1 rfl (lv_at hl 2 rfl) ?_
    refine lv_iload_n hx hb dX2_mark_2 rfl (lv_at hl 3 rfl) ?_
    refine lv_isub hx hb dX2_mark_3 ?_
    refine lv_topi (fun x_1 ex_1 => ?_)
    have h_2 : rg x_1 (-20) 31 := rg_of_eq ex_1 (rg_sub h_a1 h_a2 (by decide))
    refine va_mmax hx hb (hml.trans hl.1.symm) hown (hts _ (tw_c tw_1064)) (hts _ (tw_c tw_275)) (hts _ (tw_c tw_276)) (hts _ (tw_c tw_277)) (Nat.le_of_ble_eq_true rfl) (Nat.le_of_ble_eq_true rfl) (Nat.zero_le _) (Nat.zero_le _) dX2_mark_4 ?_
    refine lv_topi (fun x_3 ex_3 => ?_)
    have h_4 : rg x_3 0 31 := rg_of_eq ex_3 (rg_max2 (rg_k (0 : Int32) 0 rfl) h_2 (by decide))
    refine lv_istore (lv' := [(4, .int x_3), (0, .ref this), (1, .int a0), (2, .int a1), (3, .int a2)]) hx hb dX2_mark_7 hl (by decide) rfl (fun ls hl => ?_)
    refine lv_bipush (v := 31) hx hb dX2_mark_9 (by decide) ?_
    refine lv_iload_n hx hb dX2_mark_11 rfl (lv_at hl 3 rfl) ?_
    refine lv_iload_n hx hb dX2_mark_12 rfl (lv_at hl 4 rfl) ?_
    refine lv_iadd hx hb dX2_mark_13 ?_
    refine lv_topi (fun x_5 ex_5 => ?_)
    have h_6 : rg x_5 0 51 := rg_of_eq ex_5 (rg_add h_a1 h_a2 (by decide))
    refine va_mmin hx hb (hml.trans hl.1.symm) hown (hts _ (tw_c tw_1063)) (hts _ (tw_c tw_467)) (hts _ (tw_c tw_276)) (hts _ (tw_c tw_468)) (Nat.le_of_ble_eq_true rfl) (Nat.le_of_ble_eq_true rfl) (Nat.zero_le _) (Nat.zero_le _) dX2_mark_14 ?_
    refine lv_topi (fun x_7 ex_7 => ?_)
    have h_8 : rg x_7 0 31 := rg_of_eq ex_7 (rg_min2 (rg_k (31 : Int32) 31 rfl) h_6 (by decide))
    refine lv_istore (lv' := [(5, .int x_7), (4, .int x_3), (0, .ref this), (1, .int a0), (2, .int a1), (3, .int a2)]) hx hb dX2_mark_17 hl (by decide) rfl (fun ls hl => ?_)
    refine lv_iload hx hb dX2_mark_19 (lv_at hl 1 rfl) ?_
    refine lv_istore (lv' := [(6, .int x_3), (5, .int x_7), (4, .int x_3), (0, .ref this), (1, .int a0), (2, .int a1), (3, .int a2)]) hx hb dX2_mark_21 hl (by decide) rfl (fun ls hl => ?_)
    have L_260 : ∀ (n_259 : Nat) (x_222 : Int32) (ri_223 : Nat → Nat → Int32) (H : Heap) (locs : List Loc) (ls : Array Slot), rg x_222 0 32 → (32 - (x_222).toInt).toNat < n_259 → GX [] tg σ I ri rj I ri_223 rj rq → va_P D vwCl (pq_P t σ (I, J, ri_223, rj, rq)) H → va_D A (pq_P t σ (I, J, ri_223, rj, rq)) → va_S A s.heap H locs → lv_has ls 10 [(0, .ref this), (1, .int a0), (2, .int a1), (5, .int x_7), (6, .int x_222)] → W p l e ({ frames := 1, cells := 0, slots := 0, locals := 40 } : Room) s m (List.toArray ([.ref this, .int a0, .int a1, .int a2] : List Value)) below meth c H locs 0 0 Q (F0 m 23 ls []) := by
      intro n_259
      induction n_259 with
      | zero => intro x_222 ri_223 H locs ls h_263 hm_258 hG hP hD hS hl; exact absurd hm_258 (Nat.not_lt_zero _)
      | succ n_259 ih_261 =>
        intro x_222 ri_223 H locs ls h_263 hm_258 hG hP hD hS hl
        refine lv_iload hx hb dX2_mark_23 (lv_at hl 4 rfl) ?_
        refine lv_iload hx hb dX2_mark_25 (lv_at hl 3 rfl) ?_
        refine lv_icmp_gt (tgt := 108) hx hb dX2_mark_27 (by decide) (fun c_264 => ?_) (fun c_264 => ?_)
        · have h_265 : rg x_222 1 32 := rg_lt2 c_264 h_8 h_263 (by decide)
          subst hQ
          exact W.vret hx hb hr (fun t1 ht hW => ⟨⟨(σ, I, J, ri_223, rj, rq), rfl, ⟨ri_223, rfl, hG⟩, by rw [ht]; exact hP, va_K.moved hW.alike hK, hD⟩, hS.F ht⟩) hS.2.2 dX2_mark_108
        · have h_266 : rg x_222 0 31 := rg_le1 (nlt c_264) h_263 h_8 (by decide)
          refine lv_iload hx hb dX2_mark_30 (lv_at hl 4 rfl) ?_
          refine lv_iload_n hx hb dX2_mark_32 rfl (lv_at hl 2 rfl) ?_
          refine lv_isub hx hb dX2_mark_33 ?_
          refine lv_topi (fun x_267 ex_267 => ?_)
          have h_268 : rg x_267 (-31) 31 := rg_of_eq ex_267 (rg_sub h_266 h_a1 (by decide))
          refine va_mabs hx hb (hml.trans hl.1.symm) hown (hts _ (tw_c tw_1146)) (hts _ (tw_c tw_484)) (hts _ (tw_c tw_276)) (hts _ (tw_c tw_485)) (Nat.le_of_ble_eq_true rfl) (Nat.le_of_ble_eq_true rfl) (Nat.zero_le _) (Nat.zero_le _) dX2_mark_34 ?_
          refine lv_topi (fun x_269 ex_269 => ?_)
          have h_270 : rg x_269 0 31 := rg_of_eq ex_269 (rg_abs h_268 (by decide))
          refine lv_istore (lv' := [(7, .int x_269), (0, .ref this), (1, .int a0), (2, .int a1), (5, .int x_7), (6, .int x_222)]) hx hb dX2_mark_37 hl (by decide) rfl (fun ls hl => ?_)
          refine lv_iload hx hb dX2_mark_39 (lv_at hl 0 rfl) ?_
          refine lv_aload_n hx hb dX2_mark_41 rfl (lv_at hl 1 rfl) ?_
          obtain ⟨w_271, hR_w_271, hL_w_271, hK_w_271, hN_w_271, hT_w_271⟩ := sh_a hSH 83 (ci := 2) (kd := 13) (len := 21) rfl (by decide) hL_this hK_this
          refine pg_f (v := .ref w_271) (C := RX2) (T := TX2) (N := 20) hx hb hts (tw_i inlX2) hown hK hP hL_this hK_this (by decide) rfl 19 (by decide) (hts _ (tw_c tw_100)) (pq_hv rfl hR_w_271) dX2_mark_42 ?_
          refine pn_i (v := 21) hx hb hK hP hL_w_271 hK_w_271 hN_w_271 (by decide) dX2_mark_45 ?_
          have K_297 : ∀  (ri_294 : Nat → Nat → Int32) (H : Heap) (locs : List Loc) (ls : Array Slot), GX [] tg σ I ri rj I ri_294 rj rq → va_P D vwCl (pq_P t σ (I, J, ri_294, rj, rq)) H → va_D A (pq_P t σ (I, J, ri_294, rj, rq)) → va_S A s.heap H locs → lv_has ls 10 [(0, .ref this), (1, .int a0), (2, .int a1), (5, .int x_7), (6, .int x_222)] → W p l e ({ frames := 1, cells := 0, slots := 0, locals := 40 } : Room) s m (List.toArray ([.ref this, .int a0, .int a1, .int a2] : List Value)) below meth c H locs 0 0 Q (F0 m 102 ls []) := by
            intro ri_294 H locs ls hG hP hD hS hl
            obtain ⟨x_298, ex_298⟩ : ∃ y : Int32, y = x_222 + Int32.ofInt 1 := ⟨_, rfl⟩
            have h_299 : rg x_298 1 32 := rg_of_eq ex_298 (rg_add h_266 (rg_k (Int32.ofInt 1) 1 rfl) (by decide))
            refine lv_iinc (v := x_298) (lv' := [(6, .int x_298), (0, .ref this), (1, .int a0), (2, .int a1), (5, .int x_7)]) hx hb dX2_mark_102 hl (k := 4) rfl ex_298.symm (by decide) rfl (fun ls hl => ?_)
            refine lv_goto (tgt := 23) hx hb dX2_mark_105 (by decide) ?_
            exact ih_261 x_298 ri_294 _ _ _ (rg_w h_299 (by decide)) (ms_up 1 hm_258 ex_298 rfl (by decide) h_266 (by decide) (by decide)) hG hP hD hS (lv_sub hl [1, 2, 3, 4, 0] rfl)
          refine lv_icmp_ge (tgt := 102) hx hb dX2_mark_46 (by decide) (fun c_300 => ?_) (fun c_300 => ?_)
          · have h_301 : rg x_269 21 31 := rg_le2 c_300 (rg_k (21 : Int32) 21 rfl) h_270 (by decide)
            exact K_297 ri_223 _ _ _ hG hP hD hS (lv_sub hl [1, 2, 3, 4, 5] rfl)
          · have h_302 : rg x_269 0 20 := rg_lt1 (nle c_300) h_270 (rg_k (21 : Int32) 21 rfl) (by decide)
            refine lv_iconst (v := 0) hx hb dX2_mark_49 (by decide) ?_
            refine lv_iload_n hx hb dX2_mark_50 rfl (lv_at hl 2 rfl) ?_
            refine lv_aload_n hx hb dX2_mark_51 rfl (lv_at hl 1 rfl) ?_
            refine pg_f (v := .ref w_271) (C := RX2) (T := TX2) (N := 20) hx hb hts (tw_i inlX2) hown hK hP hL_this hK_this (by decide) rfl 19 (by decide) (hts _ (tw_c tw_100)) (pq_hv rfl hR_w_271) dX2_mark_52 ?_
            refine lv_iload hx hb dX2_mark_55 (lv_at hl 0 rfl) ?_
            refine pl_i hx hb hK hP hL_w_271 hK_w_271 hN_w_271 (rg_in h_302 (by decide)) dX2_mark_57 ?_
            refine lv_topi (fun x_303 ex_303 => ?_)
            have h_304 : rg x_303 0 20 := rg_of_eq ex_303 (GX.rR hG hT_w_271 rfl)
            refine lv_isub hx hb dX2_mark_58 ?_
            refine lv_topi (fun x_305 ex_305 => ?_)
            have h_306 : rg x_305 (-20) 31 := rg_of_eq ex_305 (rg_sub h_a0 h_304 (by decide))
            refine va_mmax hx hb (hml.trans hl.1.symm) hown (hts _ (tw_c tw_1064)) (hts _ (tw_c tw_275)) (hts _ (tw_c tw_276)) (hts _ (tw_c tw_277)) (Nat.le_of_ble_eq_true rfl) (Nat.le_of_ble_eq_true rfl) (Nat.zero_le _) (Nat.zero_le _) dX2_mark_59 ?_
            refine lv_topi (fun x_307 ex_307 => ?_)
            have h_308 : rg x_307 0 31 := rg_of_eq ex_307 (rg_max2 (rg_k (0 : Int32) 0 rfl) h_306 (by decide))
            refine lv_istore (lv' := [(8, .int x_307), (7, .int x_269), (0, .ref this), (1, .int a0), (2, .int a1), (5, .int x_7), (6, .int x_222)]) hx hb dX2_mark_62 hl (by decide) rfl (fun ls hl => ?_)
            refine lv_bipush (v := 31) hx hb dX2_mark_64 (by decide) ?_
            refine lv_iload_n hx hb dX2_mark_66 rfl (lv_at hl 3 rfl) ?_
            refine lv_aload_n hx hb dX2_mark_67 rfl (lv_at hl 2 rfl) ?_
            refine pg_f (v := .ref w_271) (C := RX2) (T := TX2) (N := 20) hx hb hts (tw_i inlX2) hown hK hP hL_this hK_this (by decide) rfl 19 (by decide) (hts _ (tw_c tw_100)) (pq_hv rfl hR_w_271) dX2_mark_68 ?_
            refine lv_iload hx hb dX2_mark_71 (lv_at hl 1 rfl) ?_
            refine pl_i hx hb hK hP hL_w_271 hK_w_271 hN_w_271 (rg_in h_302 (by decide)) dX2_mark_73 ?_
            refine lv_tov x_303 ex_303.symm ?_
            refine lv_iadd hx hb dX2_mark_74 ?_
            refine lv_topi (fun x_309 ex_309 => ?_)
            have h_310 : rg x_309 0 51 := rg_of_eq ex_309 (rg_add h_a0 h_304 (by decide))
            refine va_mmin hx hb (hml.trans hl.1.symm) hown (hts _ (tw_c tw_1063)) (hts _ (tw_c tw_467)) (hts _ (tw_c tw_276)) (hts _ (tw_c tw_468)) (Nat.le_of_ble_eq_true rfl) (Nat.le_of_ble_eq_true rfl) (Nat.zero_le _) (Nat.zero_le _) dX2_mark_75 ?_
            refine lv_topi (fun x_311 ex_311 => ?_)
            have h_312 : rg x_311 0 31 := rg_of_eq ex_311 (rg_min2 (rg_k (31 : Int32) 31 rfl) h_310 (by decide))
            refine lv_istore (lv' := [(9, .int x_311), (8, .int x_307), (7, .int x_269), (0, .ref this), (1, .int a0), (2, .int a1), (5, .int x_7), (6, .int x_222)]) hx hb dX2_mark_78 hl (by decide) rfl (fun ls hl => ?_)
            refine lv_aload_n hx hb dX2_mark_80 rfl (lv_at hl 3 rfl) ?_
            obtain ⟨w_313, hR_w_313, hL_w_313, hK_w_313, hN_w_313, hT_w_313⟩ := sh_a hSH 82 (ci := 2) (kd := 13) (len := 32) rfl (by decide) hL_this hK_this
            refine pg_f (v := .ref w_313) (C := RX2) (T := TX2) (N := 20) hx hb hts (tw_i inlX2) hown hK hP hL_this hK_this (by decide) rfl 18 (by decide) (hts _ (tw_c tw_99)) (pq_hv rfl hR_w_313) dX2_mark_81 ?_
            refine lv_iload hx hb dX2_mark_84 (lv_at hl 7 rfl) ?_
            refine lv_dup2_11 hx hb dX2_mark_86 rfl rfl ?_
            refine pl_i hx hb hK hP hL_w_313 hK_w_313 hN_w_313 (rg_in h_266 (by decide)) dX2_mark_87 ?_
            refine lv_topi (fun x_314 ex_314 => ?_)
            refine lv_iconst (v := (-1)) hx hb dX2_mark_88 (by decide) ?_
            refine lv_iload hx hb dX2_mark_89 (lv_at hl 1 rfl) ?_
            refine lv_ishl hx hb dX2_mark_91 ?_
            refine lv_topi (fun x_315 ex_315 => ?_)
            refine lv_iconst (v := (-1)) hx hb dX2_mark_92 (by decide) ?_
            refine lv_bipush (v := 31) hx hb dX2_mark_93 (by decide) ?_
            refine lv_iload hx hb dX2_mark_95 (lv_at hl 0 rfl) ?_
            refine lv_isub hx hb dX2_mark_97 ?_
            refine lv_topi (fun x_316 ex_316 => ?_)
            have h_317 : rg x_316 0 31 := rg_of_eq ex_316 (rg_sub (rg_k (31 : Int32) 31 rfl) h_312 (by decide))
            refine lv_iushr hx hb dX2_mark_98 rfl ?_
            refine lv_topi (fun x_318 ex_318 => ?_)
            refine lv_iand hx hb dX2_mark_99 ?_
            refine lv_topi (fun x_319 ex_319 => ?_)
            refine lv_ior hx hb dX2_mark_100 ?_
            refine lv_topi (fun x_320 ex_320 => ?_)
            refine pt_i hx hb hK hP hD hS hL_w_313 hK_w_313 hN_w_313 (rg_in h_266 (by decide)) dX2_mark_101 (fun r_321 H locs er_321 hP hD hS => ?_)
            have hG := GX.wR hG hSH hT_w_313 rfl er_321 (rg_w (rg_full _) (by decide)) (by decide)
            exact K_297 r_321 _ _ _ hG hP hD hS (lv_sub hl [3, 4, 5, 6, 7] rfl)
    exact L_260 _ x_3 ri _ _ _ (rg_w h_4 (by decide)) (Nat.lt_succ_self _) hG hP hD hS (lv_sub hl [3, 4, 5, 1, 0] rfl)
  exact go _ _ _ hP hD hS hl

set_option maxHeartbeats 4000000 in
set_option maxRecDepth 100000 in
theorem s_X2_countArea (l : Launch) (D : va_G) (t : pq_T) (σ : pq_S) (I : Nat → Nat → Int32) (J : Nat → Nat → Int64) (ri : Nat → Nat → Int32) (rj : Nat → Nat → Int64) (rq : Nat → Nat → Option Nat) (sz : Nat) (tg : Nat → Nat) (hSH : SH σ tg) (hG0 : GS tg σ I ri rq) (this : Nat) (a0 : Int64) (a1 : Int32) (hL_this : this ∈ σ.1) (hK_this : σ.2.1 this = 2) (h_a1 : rg a1 0 20) : MetI l yX2_countArea (wa yX2_countArea cX2_countArea 6 (some .int)) ({ frames := 2, cells := 0, slots := 0, locals := 69 }) [.ref this, .long a0, .int a1] D t σ (I, J, ri, rj, rq) sz 0 0 (fun (r : Int32) (u : pq_S × pq_M) => ∃ ri' : Nat → Nat → Int32, u = (σ, I, J, ri', rj, rq) ∧ GX [] tg σ I ri rj I ri' rj rq) := by
  refine Met.ofW (cc := cX2_countArea) (maxL := 6) (ret := (some .int)) (by decide) rfl ?_
  intro p e s m args below meth c s₁ B hml hv
  obtain ⟨rfl, hsz, hP, hK, hD0, hN⟩ := hv
  have hx := B.exec
  have hb := B.bytes
  have hr := B.returns
  have hts := atoms_spec (ws := (wa yX2_countArea cX2_countArea 6 (some .int))) B.pre
  have hown : s.vm.findClass RX2 = some m.cls := findClass_of_methodNamed B.named
  have hlocks := B.notSynchronized
  subst hsz
  have hD : va_D (pq_B t σ (I, J, ri, rj, rq) s.heap.size) (pq_P t σ (I, J, ri, rj, rq)) := hD0.self
  generalize hAe : pq_B t σ (I, J, ri, rj, rq) s.heap.size = A at hD ⊢
  have hA : ∀ q : Nat, s.heap.size ≤ q → A q := fun q h => by rw [← hAe]; exact Or.inr h
  have hS : va_S A s.heap s.heap [] := va_S.rf
  have hG : GX [] tg σ I ri rj I ri rj rq := ⟨hG0, fun _ _ _ => rfl, fun _ _ _ _ _ => rfl, fun _ _ _ _ _ => rfl⟩
  have hl := lv_entry ([.ref this, .long a0, .int a1]) (n := 6) (Nat.le_of_ble_eq_true rfl)
  rw [lg_entry_eq]
  generalize (lg_sl ([.ref this, .long a0, .int a1]) ++ List.replicate (6 - (lg_sl ([.ref this, .long a0, .int a1])).length) Slot.unset).toArray = ls at hl ⊢
  have hl : lv_has ls 6 [(0, .ref this), (1, .long a0), (3, .int a1)] := hl
  refine q_gen (fun Q hQ => ?_)
  have go : ∀ (H : Heap) (locs : List Loc) (ls : Array Slot), va_P D vwCl (pq_P t σ (I, J, ri, rj, rq)) H → va_D A (pq_P t σ (I, J, ri, rj, rq)) → va_S A s.heap H locs → lv_has ls 6 [(0, .ref this), (1, .long a0), (3, .int a1)] → W p l e ({ frames := 2, cells := 0, slots := 0, locals := 69 } : Room) s m (List.toArray ([.ref this, .long a0, .int a1] : List Value)) below meth c H locs 0 0 Q (F0 m 0 ls []) := by
    intro H locs ls hP hD hS hl
    refine lv_aload_n hx hb dX2_countArea_0 rfl (lv_at hl 0 rfl) ?_
    obtain ⟨w_1, hR_w_1, hL_w_1, hK_w_1, hN_w_1, hT_w_1⟩ := sh_a hSH 82 (ci := 2) (kd := 13) (len := 32) rfl (by decide) hL_this hK_this
    refine pg_f (v := .ref w_1) (C := RX2) (T := TX2) (N := 20) hx hb hts (tw_i inlX2) hown hK hP hL_this hK_this (by decide) rfl 18 (by decide) (hts _ (tw_c tw_99)) (pq_hv rfl hR_w_1) dX2_countArea_1 ?_
    refine lv_iconst (v := 0) hx hb dX2_countArea_4 (by decide) ?_
    refine pk_v (va_runSN (As := [.ref w_1, .int 0]) (rest := []) ⟨hx, hb, hml, hown, hts⟩ (s_X11_fill_82 l D t σ I J ri rj rq H.size tg hSH hG.1 w_1 (0 : Int32) hL_w_1 hK_w_1 hN_w_1 hT_w_1) ⟨va_cnB (host := "RingsUnder") 2 hts (tw_W tw_76) rfl rfl rfl (nl_2 hN) (hts _ (tw_c tw_2)) cd_yX11_fill_2 ⟨Nat.le_of_ble_eq_true rfl, Nat.le_of_ble_eq_true rfl⟩, hts (.static yX11_fill) (tw_c tq_static_yX11_fill), trivial⟩ ⟨pq_blind, pq_pre hK hN hP hD⟩ rfl rfl hl.1 rfl (lv_room (Nat.le_of_ble_eq_true rfl)) dX2_countArea_5 ⟨Nat.le_of_ble_eq_true rfl, Nat.le_of_ble_eq_true rfl⟩) hD hS hA (fun σ1 μ1 H locs hw_3 hP hD hS => ?_)
    obtain ⟨ri_4, hu_5, hg_6⟩ := hw_3
    obtain ⟨hu_5a, hu_5b⟩ := Prod.mk.inj hu_5
    rw [hu_5a, hu_5b] at hP hD
    have hG := GX.tr hG hg_6 (by decide)
    refine lv_aload_n hx hb dX2_countArea_8 rfl (lv_at hl 0 rfl) ?_
    refine lv_iload_n hx hb dX2_countArea_9 rfl (lv_at hl 2 rfl) ?_
    refine pk_v (va_runV (As := [.int a1]) (rest := []) ⟨hx, hb, hml, hown, hts⟩ (s_X2_measure l D t σ I J ri_4 rj rq H.size tg hSH hG.1 this a1 hL_this hK_this (rg_w h_a1 (by decide))) (cwV 1 hts (tw_V tw_1138 tw_1139 tw_1140 tw_41 tw_1141) rfl rfl rfl cv_yX2_measure_1 ⟨Nat.le_of_ble_eq_true rfl, Nat.le_of_ble_eq_true rfl⟩) ⟨pq_blind, pq_recv hK hP hL_this hK_this (by decide) rfl, pq_pre hK hN hP hD⟩ rfl rfl hl.1 rfl (lv_room (Nat.le_of_ble_eq_true rfl)) dX2_countArea_10 ⟨Nat.le_of_ble_eq_true rfl, Nat.le_of_ble_eq_true rfl⟩) hD hS hA (fun σ1 μ1 H locs hw_9 hP hD hS => ?_)
    obtain ⟨ri_10, hu_11, hg_12⟩ := hw_9
    obtain ⟨hu_11a, hu_11b⟩ := Prod.mk.inj hu_11
    rw [hu_11a, hu_11b] at hP hD
    have hG := GX.tr hG hg_12 (by decide)
    refine lv_iconst (v := 0) hx hb dX2_countArea_13 (by decide) ?_
    refine lv_istore (lv' := [(4, .int 0), (0, .ref this), (1, .long a0), (3, .int a1)]) hx hb dX2_countArea_14 hl (by decide) rfl (fun ls hl => ?_)
    have L_3107 : ∀ (n_3106 : Nat) (x_2867 : Int32) (ri_2868 : Nat → Nat → Int32) (H : Heap) (locs : List Loc) (ls : Array Slot), rg x_2867 0 40 → (40 - (x_2867).toInt).toNat < n_3106 → GX [] tg σ I ri rj I ri_2868 rj rq → va_P D vwCl (pq_P t σ (I, J, ri_2868, rj, rq)) H → va_D A (pq_P t σ (I, J, ri_2868, rj, rq)) → va_S A s.heap H locs → lv_has ls 6 [(0, .ref this), (1, .long a0), (3, .int a1), (4, .int x_2867)] → W p l e ({ frames := 2, cells := 0, slots := 0, locals := 69 } : Room) s m (List.toArray ([.ref this, .long a0, .int a1] : List Value)) below meth c H locs 0 0 Q (F0 m 16 ls []) := by
      intro n_3106
      induction n_3106 with
      | zero => intro x_2867 ri_2868 H locs ls h_3110 hm_3105 hG hP hD hS hl; exact absurd hm_3105 (Nat.not_lt_zero _)
      | succ n_3106 ih_3108 =>
        intro x_2867 ri_2868 H locs ls h_3110 hm_3105 hG hP hD hS hl
        refine lv_iload hx hb dX2_countArea_16 (lv_at hl 3 rfl) ?_
        refine lv_aload_n hx hb dX2_countArea_18 rfl (lv_at hl 0 rfl) ?_
        refine pg_f (v := .int (I 65 this)) (C := RX2) (T := TX2) (N := 20) hx hb hts (tw_i inlX2) hown hK hP hL_this hK_this (by decide) rfl 1 (by decide) (hts _ (tw_c tw_222)) rfl dX2_countArea_19 ?_
        have h_3111 : rg (I 65 this) 0 40 := GX.rI hG 65 rfl
        refine lv_icmp_ge (tgt := 59) hx hb dX2_countArea_22 (by decide) (fun c_3112 => ?_) (fun c_3112 => ?_)
        · refine lv_iconst (v := 0) hx hb dX2_countArea_59 (by decide) ?_
          refine lv_istore (lv' := [(4, .int 0), (0, .ref this), (1, .long a0), (3, .int a1)]) hx hb dX2_countArea_60 hl (by decide) rfl (fun ls hl => ?_)
          refine lv_iconst (v := 0) hx hb dX2_countArea_62 (by decide) ?_
          refine lv_istore (lv' := [(5, .int 0), (4, .int 0), (0, .ref this), (1, .long a0), (3, .int a1)]) hx hb dX2_countArea_63 hl (by decide) rfl (fun ls hl => ?_)
          have L_3307 : ∀ (n_3306 : Nat) (x_3290 : Int32) (x_3291 : Int32) (H : Heap) (locs : List Loc) (ls : Array Slot), rg x_3291 0 32 → (32 - (x_3291).toInt).toNat < n_3306 → GX [] tg σ I ri rj I ri_2868 rj rq → va_P D vwCl (pq_P t σ (I, J, ri_2868, rj, rq)) H → va_D A (pq_P t σ (I, J, ri_2868, rj, rq)) → va_S A s.heap H locs → lv_has ls 6 [(0, .ref this), (4, .int x_3290), (5, .int x_3291)] → W p l e ({ frames := 2, cells := 0, slots := 0, locals := 69 } : Room) s m (List.toArray ([.ref this, .long a0, .int a1] : List Value)) below meth c H locs 0 0 Q (F0 m 65 ls []) := by
            intro n_3306
            induction n_3306 with
            | zero => intro x_3290 x_3291 H locs ls h_3310 hm_3305 hG hP hD hS hl; exact absurd hm_3305 (Nat.not_lt_zero _)
            | succ n_3306 ih_3308 =>
              intro x_3290 x_3291 H locs ls h_3310 hm_3305 hG hP hD hS hl
              refine lv_iload hx hb dX2_countArea_65 (lv_at hl 2 rfl) ?_
              refine lv_bipush (v := 32) hx hb dX2_countArea_67 (by decide) ?_
              refine lv_icmp_ge (tgt := 93) hx hb dX2_countArea_69 (by decide) (fun c_3311 => ?_) (fun c_3311 => ?_)
              · have h_3312 : rg x_3291 32 32 := rg_le2 c_3311 (rg_k (32 : Int32) 32 rfl) h_3310 (by decide)
                refine lv_iload hx hb dX2_countArea_93 (lv_at hl 1 rfl) ?_
                subst hQ
                exact W.iret (v := x_3290) hx hb hr (fun t1 ht hW => ⟨⟨x_3290, (σ, I, J, ri_2868, rj, rq), rfl, ⟨ri_2868, rfl, hG⟩, by rw [ht]; exact hP, va_K.moved hW.alike hK, hD⟩, hS.F ht⟩) hS.2.2 dX2_countArea_95
              · have h_3313 : rg x_3291 0 31 := rg_lt1 (nle c_3311) h_3310 (rg_k (32 : Int32) 32 rfl) (by decide)
                refine lv_iload hx hb dX2_countArea_72 (lv_at hl 1 rfl) ?_
                refine lv_aload_n hx hb dX2_countArea_74 rfl (lv_at hl 0 rfl) ?_
                refine pg_f (v := .ref w_1) (C := RX2) (T := TX2) (N := 20) hx hb hts (tw_i inlX2) hown hK hP hL_this hK_this (by decide) rfl 18 (by decide) (hts _ (tw_c tw_99)) (pq_hv rfl hR_w_1) dX2_countArea_75 ?_
                refine lv_iload hx hb dX2_countArea_78 (lv_at hl 2 rfl) ?_
                refine pl_i hx hb hK hP hL_w_1 hK_w_1 hN_w_1 (rg_in h_3313 (by decide)) dX2_countArea_80 ?_
                refine lv_topi (fun x_3314 ex_3314 => ?_)
                refine pk_i (va_runS (As := [.int x_3314]) (rest := [.int x_3290]) ⟨hx, hb, hml, hown, hts⟩ (s_J6_bitCount_0f7a4 l D t σ I J ri_2868 rj rq H.size tg hSH hG.1 x_3314) (va_cwS 1 hts (tw_S tw_1147 tw_1148 tw_492 tw_1149) rfl rfl rfl cd_yJ6_bitCount_0f7a4_1 ⟨Nat.le_of_ble_eq_true rfl, Nat.le_of_ble_eq_true rfl⟩) ⟨pq_blind, pq_pre hK hN hP hD⟩ rfl rfl hl.1 rfl (lv_room (Nat.le_of_ble_eq_true rfl)) dX2_countArea_81 ⟨Nat.le_of_ble_eq_true rfl, Nat.le_of_ble_eq_true rfl⟩) hD hS hA (fun x_3315 σ1 μ1 H locs hw_3316 hP hD hS => ?_)
                have hu_3317 := hw_3316
                obtain ⟨hu_3317a, hu_3317b⟩ := Prod.mk.inj hu_3317
                rw [hu_3317a, hu_3317b] at hP hD
                refine lv_iadd hx hb dX2_countArea_84 ?_
                refine lv_topi (fun x_3320 ex_3320 => ?_)
                refine lv_istore (lv' := [(4, .int x_3320), (0, .ref this), (5, .int x_3291)]) hx hb dX2_countArea_85 hl (by decide) rfl (fun ls hl => ?_)
                obtain ⟨x_3321, ex_3321⟩ : ∃ y : Int32, y = x_3291 + Int32.ofInt 1 := ⟨_, rfl⟩
                have h_3322 : rg x_3321 1 32 := rg_of_eq ex_3321 (rg_add h_3313 (rg_k (Int32.ofInt 1) 1 rfl) (by decide))
                refine lv_iinc (v := x_3321) (lv' := [(5, .int x_3321), (4, .int x_3320), (0, .ref this)]) hx hb dX2_countArea_87 hl (k := 2) rfl ex_3321.symm (by decide) rfl (fun ls hl => ?_)
                refine lv_goto (tgt := 65) hx hb dX2_countArea_90 (by decide) ?_
                exact ih_3308 x_3320 x_3321 _ _ _ (rg_w h_3322 (by decide)) (ms_up 1 hm_3305 ex_3321 rfl (by decide) h_3313 (by decide) (by decide)) hG hP hD hS (lv_sub hl [2, 1, 0] rfl)
          exact L_3307 _ (0 : Int32) (0 : Int32) _ _ _ (rg_w (rg_k (0 : Int32) 0 rfl) (by decide)) (Nat.lt_succ_self _) hG hP hD hS (lv_sub hl [2, 1, 0] rfl)
        · have h_3323 : rg x_2867 0 39 := rg_lt1 (nle c_3112) h_3110 h_3111 (by decide)
          have h_3324 : rg (I 65 this) 1 40 := rg_lt2 (nle c_3112) h_3110 h_3111 (by decide)
          refine lv_lload_n hx hb dX2_countArea_25 rfl (lv_at hl 1 rfl) ?_
          refine lv_iload hx hb dX2_countArea_26 (lv_at hl 3 rfl) ?_
          refine pk_i (va_runSN (As := [.long a0, .int x_2867]) (rest := []) ⟨hx, hb, hml, hown, hts⟩ (s_X11_hasBit l D t σ I J ri_2868 rj rq H.size tg hSH hG.1 a0 x_2867) ⟨va_cnB (host := "RingsUnder") 2 hts (tw_W tw_560) rfl rfl rfl (nl_11 hN) (hts _ (tw_c tw_2)) cd_yX11_hasBit_2 ⟨Nat.le_of_ble_eq_true rfl, Nat.le_of_ble_eq_true rfl⟩, hts (.static yX11_hasBit) (tw_c tq_static_yX11_hasBit), trivial⟩ ⟨pq_blind, pq_pre hK hN hP hD⟩ rfl rfl hl.1 rfl (lv_room (Nat.le_of_ble_eq_true rfl)) dX2_countArea_28 ⟨Nat.le_of_ble_eq_true rfl, Nat.le_of_ble_eq_true rfl⟩) hD hS hA (fun x_3325 σ1 μ1 H locs hw_3326 hP hD hS => ?_)
          obtain ⟨hu_3327, hr_3329⟩ := hw_3326
          obtain ⟨hu_3327a, hu_3327b⟩ := Prod.mk.inj hu_3327
          rw [hu_3327a, hu_3327b] at hP hD
          have h_3330 : rg x_3325 0 1 := by rcases hr_3329 with ⟨q, -⟩ | ⟨q, -⟩ <;> rw [q] <;> exact ⟨by decide, by decide⟩
          have K_3349 : ∀  (ri_3346 : Nat → Nat → Int32) (H : Heap) (locs : List Loc) (ls : Array Slot), GX [] tg σ I ri rj I ri_3346 rj rq → va_P D vwCl (pq_P t σ (I, J, ri_3346, rj, rq)) H → va_D A (pq_P t σ (I, J, ri_3346, rj, rq)) → va_S A s.heap H locs → lv_has ls 6 [(0, .ref this), (1, .long a0), (3, .int a1), (4, .int x_2867)] → W p l e ({ frames := 2, cells := 0, slots := 0, locals := 69 } : Room) s m (List.toArray ([.ref this, .long a0, .int a1] : List Value)) below meth c H locs 0 0 Q (F0 m 53 ls []) := by
            intro ri_3346 H locs ls hG hP hD hS hl
            obtain ⟨x_3350, ex_3350⟩ : ∃ y : Int32, y = x_2867 + Int32.ofInt 1 := ⟨_, rfl⟩
            have h_3351 : rg x_3350 1 40 := rg_of_eq ex_3350 (rg_add h_3323 (rg_k (Int32.ofInt 1) 1 rfl) (by decide))
            refine lv_iinc (v := x_3350) (lv' := [(4, .int x_3350), (0, .ref this), (1, .long a0), (3, .int a1)]) hx hb dX2_countArea_53 hl (k := 3) rfl ex_3350.symm (by decide) rfl (fun ls hl => ?_)
            refine lv_goto (tgt := 16) hx hb dX2_countArea_56 (by decide) ?_
            exact ih_3108 x_3350 ri_3346 _ _ _ (rg_w h_3351 (by decide)) (ms_up 1 hm_3105 ex_3350 rfl (by decide) h_3323 (by decide) (by decide)) hG hP hD hS (lv_sub hl [1, 2, 3, 0] rfl)
          refine lv_if_eq (tgt := 53) hx hb dX2_countArea_31 (by decide) (fun c_3352 => ?_) (fun c_3352 => ?_)
          · have h_3353 : rg x_3325 0 0 := rg_and h_3330 (rg_of_eq c_3352 (rg_k (0 : Int32) 0 rfl)) (by decide)
            exact K_3349 ri_2868 _ _ _ hG hP hD hS (lv_sub hl [0, 1, 2, 3] rfl)
          · have h_3354 : rg x_3325 1 1 := rg_ne c_3352 h_3330 0 rfl (by decide)
            refine lv_aload_n hx hb dX2_countArea_34 rfl (lv_at hl 0 rfl) ?_
            refine lv_aload_n hx hb dX2_countArea_35 rfl (lv_at hl 0 rfl) ?_
            obtain ⟨w_3355, hR_w_3355, hL_w_3355, hK_w_3355, hN_w_3355, hT_w_3355⟩ := sh_a hSH 71 (ci := 2) (kd := 13) (len := 40) rfl (by decide) hL_this hK_this
            refine pg_f (v := .ref w_3355) (C := RX2) (T := TX2) (N := 20) hx hb hts (tw_i inlX2) hown hK hP hL_this hK_this (by decide) rfl 7 (by decide) (hts _ (tw_c tw_85)) (pq_hv rfl hR_w_3355) dX2_countArea_36 ?_
            refine lv_iload hx hb dX2_countArea_39 (lv_at hl 3 rfl) ?_
            refine pl_i hx hb hK hP hL_w_3355 hK_w_3355 hN_w_3355 (rg_in h_3323 (by decide)) dX2_countArea_41 ?_
            refine lv_topi (fun x_3356 ex_3356 => ?_)
            have h_3357 : rg x_3356 0 31 := rg_of_eq ex_3356 (GX.rR hG hT_w_3355 rfl)
            refine lv_aload_n hx hb dX2_countArea_42 rfl (lv_at hl 0 rfl) ?_
            obtain ⟨w_3358, hR_w_3358, hL_w_3358, hK_w_3358, hN_w_3358, hT_w_3358⟩ := sh_a hSH 72 (ci := 2) (kd := 13) (len := 40) rfl (by decide) hL_this hK_this
            refine pg_f (v := .ref w_3358) (C := RX2) (T := TX2) (N := 20) hx hb hts (tw_i inlX2) hown hK hP hL_this hK_this (by decide) rfl 8 (by decide) (hts _ (tw_c tw_86)) (pq_hv rfl hR_w_3358) dX2_countArea_43 ?_
            refine lv_iload hx hb dX2_countArea_46 (lv_at hl 3 rfl) ?_
            refine pl_i hx hb hK hP hL_w_3358 hK_w_3358 hN_w_3358 (rg_in h_3323 (by decide)) dX2_countArea_48 ?_
            refine lv_topi (fun x_3359 ex_3359 => ?_)
            have h_3360 : rg x_3359 0 31 := rg_of_eq ex_3359 (GX.rR hG hT_w_3358 rfl)
            refine lv_iload_n hx hb dX2_countArea_49 rfl (lv_at hl 2 rfl) ?_
            refine pk_v (va_runV (As := [.int x_3356, .int x_3359, .int a1]) (rest := []) ⟨hx, hb, hml, hown, hts⟩ (s_X2_mark l D t σ I J ri_2868 rj rq H.size tg hSH hG.1 this x_3356 x_3359 a1 hL_this hK_this (rg_w h_3357 (by decide)) (rg_w h_3360 (by decide)) (rg_w h_a1 (by decide))) (cwV 3 hts (tw_V tw_1142 tw_1143 tw_1144 tw_41 tw_1145) rfl rfl rfl cv_yX2_mark_3 ⟨Nat.le_of_ble_eq_true rfl, Nat.le_of_ble_eq_true rfl⟩) ⟨pq_blind, pq_recv hK hP hL_this hK_this (by decide) rfl, pq_pre hK hN hP hD⟩ rfl rfl hl.1 rfl (lv_room (Nat.le_of_ble_eq_true rfl)) dX2_countArea_50 ⟨Nat.le_of_ble_eq_true rfl, Nat.le_of_ble_eq_true rfl⟩) hD hS hA (fun σ1 μ1 H locs hw_3362 hP hD hS => ?_)
            obtain ⟨ri_3363, hu_3364, hg_3365⟩ := hw_3362
            obtain ⟨hu_3364a, hu_3364b⟩ := Prod.mk.inj hu_3364
            rw [hu_3364a, hu_3364b] at hP hD
            have hG := GX.tr hG hg_3365 (by decide)
            exact K_3349 ri_3363 _ _ _ hG hP hD hS (lv_sub hl [0, 1, 2, 3] rfl)
    exact L_3107 _ (0 : Int32) ri_10 _ _ _ (rg_w (rg_k (0 : Int32) 0 rfl) (by decide)) (Nat.lt_succ_self _) hG hP hD hS (lv_sub hl [1, 2, 3, 0] rfl)
  exact go _ _ _ hP hD hS hl

set_option maxHeartbeats 4000000 in
set_option maxRecDepth 100000 in
theorem s_X11_copy_99_99 (l : Launch) (D : va_G) (t : pq_T) (σ : pq_S) (I : Nat → Nat → Int32) (J : Nat → Nat → Int64) (ri : Nat → Nat → Int32) (rj : Nat → Nat → Int64) (rq : Nat → Nat → Option Nat) (sz : Nat) (tg : Nat → Nat) (hSH : SH σ tg) (hG0 : GS tg σ I ri rq) (a0 : Nat) (a1 : Nat) (hL_a0 : a0 ∈ σ.1) (hK_a0 : σ.2.1 a0 = 13) (hN_a0 : σ.2.2.2 a0 = 30) (hT_a0 : tg a0 = 99) (hL_a1 : a1 ∈ σ.1) (hK_a1 : σ.2.1 a1 = 13) (hN_a1 : σ.2.2.2 a1 = 30) (hT_a1 : tg a1 = 99) : MetV l yX11_copy (wa yX11_copy cX11_copy 2 none) ({ frames := 1, cells := 0, slots := 0, locals := 60 }) [.ref a0, .ref a1] D t σ (I, J, ri, rj, rq) sz 0 0 (fun (u : pq_S × pq_M) => ∃ ri' : Nat → Nat → Int32, u = (σ, I, J, ri', rj, rq) ∧ GX [] tg σ I ri rj I ri' rj rq ∧ (∀ j, j < 30 → ri' a1 j = ri a0 j) ∧ (∀ q, q ≠ a1 → ri' q = ri q)) := by
  refine Met.ofW (cc := cX11_copy) (maxL := 2) (ret := none) (by decide) rfl ?_
  intro p e s m args below meth c s₁ B hml hv
  obtain ⟨rfl, hsz, hP, hK, hD0, hN⟩ := hv
  have hx := B.exec
  have hb := B.bytes
  have hr := B.returns
  have hts := atoms_spec (ws := (wa yX11_copy cX11_copy 2 none)) B.pre
  have hown : s.vm.findClass RX11 = some m.cls := findClass_of_methodNamed B.named
  have hlocks := B.notSynchronized
  subst hsz
  have hD : va_D (pq_B t σ (I, J, ri, rj, rq) s.heap.size) (pq_P t σ (I, J, ri, rj, rq)) := hD0.self
  generalize hAe : pq_B t σ (I, J, ri, rj, rq) s.heap.size = A at hD ⊢
  have hA : ∀ q : Nat, s.heap.size ≤ q → A q := fun q h => by rw [← hAe]; exact Or.inr h
  have hS : va_S A s.heap s.heap [] := va_S.rf
  have hG : GX [] tg σ I ri rj I ri rj rq := ⟨hG0, fun _ _ _ => rfl, fun _ _ _ _ _ => rfl, fun _ _ _ _ _ => rfl⟩
  have hl := lv_entry ([.ref a0, .ref a1]) (n := 2) (Nat.le_of_ble_eq_true rfl)
  rw [lg_entry_eq]
  generalize (lg_sl ([.ref a0, .ref a1]) ++ List.replicate (2 - (lg_sl ([.ref a0, .ref a1])).length) Slot.unset).toArray = ls at hl ⊢
  have hl : lv_has ls 2 [(0, .ref a0), (1, .ref a1)] := hl
  refine q_gen (fun Q hQ => ?_)
  have go : ∀ (H : Heap) (locs : List Loc) (ls : Array Slot), va_P D vwCl (pq_P t σ (I, J, ri, rj, rq)) H → va_D A (pq_P t σ (I, J, ri, rj, rq)) → va_S A s.heap H locs → lv_has ls 2 [(0, .ref a0), (1, .ref a1)] → W p l e ({ frames := 1, cells := 0, slots := 0, locals := 60 } : Room) s m (List.toArray ([.ref a0, .ref a1] : List Value)) below meth c H locs 0 0 Q (F0 m 0 ls []) := by
    intro H locs ls hP hD hS hl
    refine lv_aload_n hx hb dX11_copy_0 rfl (lv_at hl 0 rfl) ?_
    refine lv_iconst (v := 0) hx hb dX11_copy_1 (by decide) ?_
    refine lv_aload_n hx hb dX11_copy_2 rfl (lv_at hl 1 rfl) ?_
    refine lv_iconst (v := 0) hx hb dX11_copy_3 (by decide) ?_
    refine lv_aload_n hx hb dX11_copy_4 rfl (lv_at hl 0 rfl) ?_
    refine pn_i (v := 30) hx hb hK hP hL_a0 hK_a0 hN_a0 (by decide) dX11_copy_5 ?_
    refine lv_aload_n hx hb dX11_copy_6 rfl (lv_at hl 1 rfl) ?_
    refine pn_i (v := 30) hx hb hK hP hL_a1 hK_a1 hN_a1 (by decide) dX11_copy_7 ?_
    refine va_mmin hx hb (hml.trans hl.1.symm) hown (hts _ (tw_c tw_1103)) (hts _ (tw_c tw_467)) (hts _ (tw_c tw_276)) (hts _ (tw_c tw_468)) (Nat.le_of_ble_eq_true rfl) (Nat.le_of_ble_eq_true rfl) (Nat.zero_le _) (Nat.zero_le _) dX11_copy_8 ?_
    refine lv_topi (fun x_1 ex_1 => ?_)
    have h_2 : rg x_1 30 30 := rg_of_eq ex_1 (rg_min2 (rg_k (30 : Int32) 30 rfl) (rg_k (30 : Int32) 30 rfl) (by decide))
    refine pc_i hx hb (hml.trans hl.1.symm) hown (hts _ (tw_c tw_1104)) (hts _ (tw_c tw_1105)) (hts _ (tw_c tw_1106)) (hts _ (tw_c tw_1107)) hK hP hD hS hL_a0 hK_a0 hN_a0 hL_a1 hK_a1 hN_a1 (rg_pos (rg_k (0 : Int32) 0 rfl) (by decide)) (rg_pos h_2 (by decide)) (rg_cp (rg_k (0 : Int32) 0 rfl) h_2 (by decide)) (rg_cl h_2 (by decide)) (Nat.le_of_ble_eq_true rfl) (Nat.le_of_ble_eq_true rfl) dX11_copy_11 (fun r_3 H locs er_3 hP hD hS => ?_)
    have hG := GX.cR hG hSH hT_a0 rfl hT_a1 rfl er_3 (by decide)
    subst hQ
    exact W.vret hx hb hr (fun t1 ht hW => ⟨⟨(σ, I, J, r_3, rj, rq), rfl, ⟨r_3, rfl, hG, (cpy_eq er_3 h_2 rfl), (fun q hq => by rw [er_3, va_up_ne _ _ hq])⟩, by rw [ht]; exact hP, va_K.moved hW.alike hK, hD⟩, hS.F ht⟩) hS.2.2 dX11_copy_14
  exact go _ _ _ hP hD hS hl

set_option maxHeartbeats 4000000 in
set_option maxRecDepth 100000 in
theorem s_X11_copy_100_100 (l : Launch) (D : va_G) (t : pq_T) (σ : pq_S) (I : Nat → Nat → Int32) (J : Nat → Nat → Int64) (ri : Nat → Nat → Int32) (rj : Nat → Nat → Int64) (rq : Nat → Nat → Option Nat) (sz : Nat) (tg : Nat → Nat) (hSH : SH σ tg) (hG0 : GS tg σ I ri rq) (a0 : Nat) (a1 : Nat) (hL_a0 : a0 ∈ σ.1) (hK_a0 : σ.2.1 a0 = 13) (hN_a0 : σ.2.2.2 a0 = 30) (hT_a0 : tg a0 = 100) (hL_a1 : a1 ∈ σ.1) (hK_a1 : σ.2.1 a1 = 13) (hN_a1 : σ.2.2.2 a1 = 30) (hT_a1 : tg a1 = 100) : MetV l yX11_copy (wa yX11_copy cX11_copy 2 none) ({ frames := 1, cells := 0, slots := 0, locals := 60 }) [.ref a0, .ref a1] D t σ (I, J, ri, rj, rq) sz 0 0 (fun (u : pq_S × pq_M) => ∃ ri' : Nat → Nat → Int32, u = (σ, I, J, ri', rj, rq) ∧ GX [] tg σ I ri rj I ri' rj rq ∧ (∀ j, j < 30 → ri' a1 j = ri a0 j) ∧ (∀ q, q ≠ a1 → ri' q = ri q)) := by
  refine Met.ofW (cc := cX11_copy) (maxL := 2) (ret := none) (by decide) rfl ?_
  intro p e s m args below meth c s₁ B hml hv
  obtain ⟨rfl, hsz, hP, hK, hD0, hN⟩ := hv
  have hx := B.exec
  have hb := B.bytes
  have hr := B.returns
  have hts := atoms_spec (ws := (wa yX11_copy cX11_copy 2 none)) B.pre
  have hown : s.vm.findClass RX11 = some m.cls := findClass_of_methodNamed B.named
  have hlocks := B.notSynchronized
  subst hsz
  have hD : va_D (pq_B t σ (I, J, ri, rj, rq) s.heap.size) (pq_P t σ (I, J, ri, rj, rq)) := hD0.self
  generalize hAe : pq_B t σ (I, J, ri, rj, rq) s.heap.size = A at hD ⊢
  have hA : ∀ q : Nat, s.heap.size ≤ q → A q := fun q h => by rw [← hAe]; exact Or.inr h
  have hS : va_S A s.heap s.heap [] := va_S.rf
  have hG : GX [] tg σ I ri rj I ri rj rq := ⟨hG0, fun _ _ _ => rfl, fun _ _ _ _ _ => rfl, fun _ _ _ _ _ => rfl⟩
  have hl := lv_entry ([.ref a0, .ref a1]) (n := 2) (Nat.le_of_ble_eq_true rfl)
  rw [lg_entry_eq]
  generalize (lg_sl ([.ref a0, .ref a1]) ++ List.replicate (2 - (lg_sl ([.ref a0, .ref a1])).length) Slot.unset).toArray = ls at hl ⊢
  have hl : lv_has ls 2 [(0, .ref a0), (1, .ref a1)] := hl
  refine q_gen (fun Q hQ => ?_)
  have go : ∀ (H : Heap) (locs : List Loc) (ls : Array Slot), va_P D vwCl (pq_P t σ (I, J, ri, rj, rq)) H → va_D A (pq_P t σ (I, J, ri, rj, rq)) → va_S A s.heap H locs → lv_has ls 2 [(0, .ref a0), (1, .ref a1)] → W p l e ({ frames := 1, cells := 0, slots := 0, locals := 60 } : Room) s m (List.toArray ([.ref a0, .ref a1] : List Value)) below meth c H locs 0 0 Q (F0 m 0 ls []) := by
    intro H locs ls hP hD hS hl
    refine lv_aload_n hx hb dX11_copy_0 rfl (lv_at hl 0 rfl) ?_
    refine lv_iconst (v := 0) hx hb dX11_copy_1 (by decide) ?_
    refine lv_aload_n hx hb dX11_copy_2 rfl (lv_at hl 1 rfl) ?_
    refine lv_iconst (v := 0) hx hb dX11_copy_3 (by decide) ?_
    refine lv_aload_n hx hb dX11_copy_4 rfl (lv_at hl 0 rfl) ?_
    refine pn_i (v := 30) hx hb hK hP hL_a0 hK_a0 hN_a0 (by decide) dX11_copy_5 ?_
    refine lv_aload_n hx hb dX11_copy_6 rfl (lv_at hl 1 rfl) ?_
    refine pn_i (v := 30) hx hb hK hP hL_a1 hK_a1 hN_a1 (by decide) dX11_copy_7 ?_
    refine va_mmin hx hb (hml.trans hl.1.symm) hown (hts _ (tw_c tw_1103)) (hts _ (tw_c tw_467)) (hts _ (tw_c tw_276)) (hts _ (tw_c tw_468)) (Nat.le_of_ble_eq_true rfl) (Nat.le_of_ble_eq_true rfl) (Nat.zero_le _) (Nat.zero_le _) dX11_copy_8 ?_
    refine lv_topi (fun x_1 ex_1 => ?_)
    have h_2 : rg x_1 30 30 := rg_of_eq ex_1 (rg_min2 (rg_k (30 : Int32) 30 rfl) (rg_k (30 : Int32) 30 rfl) (by decide))
    refine pc_i hx hb (hml.trans hl.1.symm) hown (hts _ (tw_c tw_1104)) (hts _ (tw_c tw_1105)) (hts _ (tw_c tw_1106)) (hts _ (tw_c tw_1107)) hK hP hD hS hL_a0 hK_a0 hN_a0 hL_a1 hK_a1 hN_a1 (rg_pos (rg_k (0 : Int32) 0 rfl) (by decide)) (rg_pos h_2 (by decide)) (rg_cp (rg_k (0 : Int32) 0 rfl) h_2 (by decide)) (rg_cl h_2 (by decide)) (Nat.le_of_ble_eq_true rfl) (Nat.le_of_ble_eq_true rfl) dX11_copy_11 (fun r_3 H locs er_3 hP hD hS => ?_)
    have hG := GX.cR hG hSH hT_a0 rfl hT_a1 rfl er_3 (by decide)
    subst hQ
    exact W.vret hx hb hr (fun t1 ht hW => ⟨⟨(σ, I, J, r_3, rj, rq), rfl, ⟨r_3, rfl, hG, (cpy_eq er_3 h_2 rfl), (fun q hq => by rw [er_3, va_up_ne _ _ hq])⟩, by rw [ht]; exact hP, va_K.moved hW.alike hK, hD⟩, hS.F ht⟩) hS.2.2 dX11_copy_14
  exact go _ _ _ hP hD hS hl

set_option maxHeartbeats 4000000 in
set_option maxRecDepth 100000 in
theorem s_X11_copy_101_101 (l : Launch) (D : va_G) (t : pq_T) (σ : pq_S) (I : Nat → Nat → Int32) (J : Nat → Nat → Int64) (ri : Nat → Nat → Int32) (rj : Nat → Nat → Int64) (rq : Nat → Nat → Option Nat) (sz : Nat) (tg : Nat → Nat) (hSH : SH σ tg) (hG0 : GS tg σ I ri rq) (a0 : Nat) (a1 : Nat) (hL_a0 : a0 ∈ σ.1) (hK_a0 : σ.2.1 a0 = 13) (hN_a0 : σ.2.2.2 a0 = 30) (hT_a0 : tg a0 = 101) (hL_a1 : a1 ∈ σ.1) (hK_a1 : σ.2.1 a1 = 13) (hN_a1 : σ.2.2.2 a1 = 30) (hT_a1 : tg a1 = 101) : MetV l yX11_copy (wa yX11_copy cX11_copy 2 none) ({ frames := 1, cells := 0, slots := 0, locals := 60 }) [.ref a0, .ref a1] D t σ (I, J, ri, rj, rq) sz 0 0 (fun (u : pq_S × pq_M) => ∃ ri' : Nat → Nat → Int32, u = (σ, I, J, ri', rj, rq) ∧ GX [] tg σ I ri rj I ri' rj rq ∧ (∀ j, j < 30 → ri' a1 j = ri a0 j) ∧ (∀ q, q ≠ a1 → ri' q = ri q)) := by
  refine Met.ofW (cc := cX11_copy) (maxL := 2) (ret := none) (by decide) rfl ?_
  intro p e s m args below meth c s₁ B hml hv
  obtain ⟨rfl, hsz, hP, hK, hD0, hN⟩ := hv
  have hx := B.exec
  have hb := B.bytes
  have hr := B.returns
  have hts := atoms_spec (ws := (wa yX11_copy cX11_copy 2 none)) B.pre
  have hown : s.vm.findClass RX11 = some m.cls := findClass_of_methodNamed B.named
  have hlocks := B.notSynchronized
  subst hsz
  have hD : va_D (pq_B t σ (I, J, ri, rj, rq) s.heap.size) (pq_P t σ (I, J, ri, rj, rq)) := hD0.self
  generalize hAe : pq_B t σ (I, J, ri, rj, rq) s.heap.size = A at hD ⊢
  have hA : ∀ q : Nat, s.heap.size ≤ q → A q := fun q h => by rw [← hAe]; exact Or.inr h
  have hS : va_S A s.heap s.heap [] := va_S.rf
  have hG : GX [] tg σ I ri rj I ri rj rq := ⟨hG0, fun _ _ _ => rfl, fun _ _ _ _ _ => rfl, fun _ _ _ _ _ => rfl⟩
  have hl := lv_entry ([.ref a0, .ref a1]) (n := 2) (Nat.le_of_ble_eq_true rfl)
  rw [lg_entry_eq]
  generalize (lg_sl ([.ref a0, .ref a1]) ++ List.replicate (2 - (lg_sl ([.ref a0, .ref a1])).length) Slot.unset).toArray = ls at hl ⊢
  have hl : lv_has ls 2 [(0, .ref a0), (1, .ref a1)] := hl
  refine q_gen (fun Q hQ => ?_)
  have go : ∀ (H : Heap) (locs : List Loc) (ls : Array Slot), va_P D vwCl (pq_P t σ (I, J, ri, rj, rq)) H → va_D A (pq_P t σ (I, J, ri, rj, rq)) → va_S A s.heap H locs → lv_has ls 2 [(0, .ref a0), (1, .ref a1)] → W p l e ({ frames := 1, cells := 0, slots := 0, locals := 60 } : Room) s m (List.toArray ([.ref a0, .ref a1] : List Value)) below meth c H locs 0 0 Q (F0 m 0 ls []) := by
    intro H locs ls hP hD hS hl
    refine lv_aload_n hx hb dX11_copy_0 rfl (lv_at hl 0 rfl) ?_
    refine lv_iconst (v := 0) hx hb dX11_copy_1 (by decide) ?_
    refine lv_aload_n hx hb dX11_copy_2 rfl (lv_at hl 1 rfl) ?_
    refine lv_iconst (v := 0) hx hb dX11_copy_3 (by decide) ?_
    refine lv_aload_n hx hb dX11_copy_4 rfl (lv_at hl 0 rfl) ?_
    refine pn_i (v := 30) hx hb hK hP hL_a0 hK_a0 hN_a0 (by decide) dX11_copy_5 ?_
    refine lv_aload_n hx hb dX11_copy_6 rfl (lv_at hl 1 rfl) ?_
    refine pn_i (v := 30) hx hb hK hP hL_a1 hK_a1 hN_a1 (by decide) dX11_copy_7 ?_
    refine va_mmin hx hb (hml.trans hl.1.symm) hown (hts _ (tw_c tw_1103)) (hts _ (tw_c tw_467)) (hts _ (tw_c tw_276)) (hts _ (tw_c tw_468)) (Nat.le_of_ble_eq_true rfl) (Nat.le_of_ble_eq_true rfl) (Nat.zero_le _) (Nat.zero_le _) dX11_copy_8 ?_
    refine lv_topi (fun x_1 ex_1 => ?_)
    have h_2 : rg x_1 30 30 := rg_of_eq ex_1 (rg_min2 (rg_k (30 : Int32) 30 rfl) (rg_k (30 : Int32) 30 rfl) (by decide))
    refine pc_i hx hb (hml.trans hl.1.symm) hown (hts _ (tw_c tw_1104)) (hts _ (tw_c tw_1105)) (hts _ (tw_c tw_1106)) (hts _ (tw_c tw_1107)) hK hP hD hS hL_a0 hK_a0 hN_a0 hL_a1 hK_a1 hN_a1 (rg_pos (rg_k (0 : Int32) 0 rfl) (by decide)) (rg_pos h_2 (by decide)) (rg_cp (rg_k (0 : Int32) 0 rfl) h_2 (by decide)) (rg_cl h_2 (by decide)) (Nat.le_of_ble_eq_true rfl) (Nat.le_of_ble_eq_true rfl) dX11_copy_11 (fun r_3 H locs er_3 hP hD hS => ?_)
    have hG := GX.cR hG hSH hT_a0 rfl hT_a1 rfl er_3 (by decide)
    subst hQ
    exact W.vret hx hb hr (fun t1 ht hW => ⟨⟨(σ, I, J, r_3, rj, rq), rfl, ⟨r_3, rfl, hG, (cpy_eq er_3 h_2 rfl), (fun q hq => by rw [er_3, va_up_ne _ _ hq])⟩, by rw [ht]; exact hP, va_K.moved hW.alike hK, hD⟩, hS.F ht⟩) hS.2.2 dX11_copy_14
  exact go _ _ _ hP hD hS hl

set_option maxHeartbeats 4000000 in
set_option maxRecDepth 100000 in
theorem s_X3_copyFrom (l : Launch) (D : va_G) (t : pq_T) (σ : pq_S) (I : Nat → Nat → Int32) (J : Nat → Nat → Int64) (ri : Nat → Nat → Int32) (rj : Nat → Nat → Int64) (rq : Nat → Nat → Option Nat) (sz : Nat) (tg : Nat → Nat) (hSH : SH σ tg) (hG0 : GS tg σ I ri rq) (this : Nat) (a0 : Nat) (hL_this : this ∈ σ.1) (hK_this : σ.2.1 this = 3) (hL_a0 : a0 ∈ σ.1) (hK_a0 : σ.2.1 a0 = 3) : MetV l yX3_copyFrom (wa yX3_copyFrom cX3_copyFrom 3 none) ({ frames := 2, cells := 0, slots := 0, locals := 81 }) [.ref this, .ref a0] D t σ (I, J, ri, rj, rq) sz 0 0 (fun (u : pq_S × pq_M) => ∃ I' : Nat → Nat → Int32, ∃ ri' : Nat → Nat → Int32, ∃ rq' : Nat → Nat → Option Nat, u = (σ, I', J, ri', rj, rq') ∧ GX [96, 98] tg σ I ri rj I' ri' rj rq') := by
  refine Met.ofW (cc := cX3_copyFrom) (maxL := 3) (ret := none) (by decide) rfl ?_
  intro p e s m args below meth c s₁ B hml hv
  obtain ⟨rfl, hsz, hP, hK, hD0, hN⟩ := hv
  have hx := B.exec
  have hb := B.bytes
  have hr := B.returns
  have hts := atoms_spec (ws := (wa yX3_copyFrom cX3_copyFrom 3 none)) B.pre
  have hown : s.vm.findClass RX3 = some m.cls := findClass_of_methodNamed B.named
  have hlocks := B.notSynchronized
  subst hsz
  have hD : va_D (pq_B t σ (I, J, ri, rj, rq) s.heap.size) (pq_P t σ (I, J, ri, rj, rq)) := hD0.self
  generalize hAe : pq_B t σ (I, J, ri, rj, rq) s.heap.size = A at hD ⊢
  have hA : ∀ q : Nat, s.heap.size ≤ q → A q := fun q h => by rw [← hAe]; exact Or.inr h
  have hS : va_S A s.heap s.heap [] := va_S.rf
  have hG : GX [96, 98] tg σ I ri rj I ri rj rq := ⟨hG0, fun _ _ _ => rfl, fun _ _ _ _ _ => rfl, fun _ _ _ _ _ => rfl⟩
  have hl := lv_entry ([.ref this, .ref a0]) (n := 3) (Nat.le_of_ble_eq_true rfl)
  rw [lg_entry_eq]
  generalize (lg_sl ([.ref this, .ref a0]) ++ List.replicate (3 - (lg_sl ([.ref this, .ref a0])).length) Slot.unset).toArray = ls at hl ⊢
  have hl : lv_has ls 3 [(0, .ref this), (1, .ref a0)] := hl
  refine q_gen (fun Q hQ => ?_)
  have go : ∀ (H : Heap) (locs : List Loc) (ls : Array Slot), va_P D vwCl (pq_P t σ (I, J, ri, rj, rq)) H → va_D A (pq_P t σ (I, J, ri, rj, rq)) → va_S A s.heap H locs → lv_has ls 3 [(0, .ref this), (1, .ref a0)] → W p l e ({ frames := 2, cells := 0, slots := 0, locals := 81 } : Room) s m (List.toArray ([.ref this, .ref a0] : List Value)) below meth c H locs 0 0 Q (F0 m 0 ls []) := by
    intro H locs ls hP hD hS hl
    refine lv_aload_n hx hb dX3_copyFrom_0 rfl (lv_at hl 0 rfl) ?_
    refine lv_aload_n hx hb dX3_copyFrom_1 rfl (lv_at hl 1 rfl) ?_
    refine pg_f (v := .int (I 96 a0)) (C := RX3) (T := TX3) (N := 8) hx hb hts (tw_i inlX3) hown hK hP hL_a0 hK_a0 (by decide) rfl 0 (by decide) (hts _ (tw_c tw_1388)) rfl dX3_copyFrom_2 ?_
    have h_1 : rg (I 96 a0) 0 10 := GX.rI hG 96 rfl
    refine pp_i (v := (I 96 a0)) (ty := .int) (C := RX3) (T := TX3) (N := 8) hx hb hts (tw_i inlX3) tyX3 tyX3_ok nmX3 hown hK hP hD hS hL_this hK_this (by decide) rfl 0 96 (by decide) (hts _ (tw_c tw_1388)) rfl (tyX3_ok 0 (by decide)) rfl rfl (Nat.le_of_ble_eq_true rfl) (ps_96 _ _ _ _ _) dX3_copyFrom_5 (fun I_2 H locs eI_2 hP hD hS => ?_)
    have hG := GX.wI hG 96 rfl eI_2 (rg_w h_1 (by decide)) (by decide)
    refine lv_iconst (v := 0) hx hb dX3_copyFrom_8 (by decide) ?_
    refine lv_istore_n (lv' := [(2, .int 0), (0, .ref this), (1, .ref a0)]) hx hb dX3_copyFrom_9 rfl hl (by decide) rfl (fun ls hl => ?_)
    have L_208 : ∀ (n_207 : Nat) (x_159 : Int32) (rq_160 : Nat → Nat → Option Nat) (H : Heap) (locs : List Loc) (ls : Array Slot), rg x_159 0 10 → (10 - (x_159).toInt).toNat < n_207 → GX [96, 98] tg σ I ri rj I_2 ri rj rq_160 → va_P D vwCl (pq_P t σ (I_2, J, ri, rj, rq_160)) H → va_D A (pq_P t σ (I_2, J, ri, rj, rq_160)) → va_S A s.heap H locs → lv_has ls 3 [(0, .ref this), (1, .ref a0), (2, .int x_159)] → W p l e ({ frames := 2, cells := 0, slots := 0, locals := 81 } : Room) s m (List.toArray ([.ref this, .ref a0] : List Value)) below meth c H locs 0 0 Q (F0 m 10 ls []) := by
      intro n_207
      induction n_207 with
      | zero => intro x_159 rq_160 H locs ls h_211 hm_206 hG hP hD hS hl; exact absurd hm_206 (Nat.not_lt_zero _)
      | succ n_207 ih_209 =>
        intro x_159 rq_160 H locs ls h_211 hm_206 hG hP hD hS hl
        refine lv_iload_n hx hb dX3_copyFrom_10 rfl (lv_at hl 2 rfl) ?_
        refine lv_bipush (v := 10) hx hb dX3_copyFrom_11 (by decide) ?_
        refine lv_icmp_ge (tgt := 34) hx hb dX3_copyFrom_13 (by decide) (fun c_212 => ?_) (fun c_212 => ?_)
        · have h_213 : rg x_159 10 10 := rg_le2 c_212 (rg_k (10 : Int32) 10 rfl) h_211 (by decide)
          refine lv_aload_n hx hb dX3_copyFrom_34 rfl (lv_at hl 0 rfl) ?_
          refine lv_aload_n hx hb dX3_copyFrom_35 rfl (lv_at hl 1 rfl) ?_
          refine pg_f (v := .int (I_2 98 a0)) (C := RX3) (T := TX3) (N := 8) hx hb hts (tw_i inlX3) hown hK hP hL_a0 hK_a0 (by decide) rfl 2 (by decide) (hts _ (tw_c tw_473)) rfl dX3_copyFrom_36 ?_
          have h_214 : rg (I_2 98 a0) 0 30 := GX.rI hG 98 rfl
          refine pp_i (v := (I_2 98 a0)) (ty := .int) (C := RX3) (T := TX3) (N := 8) hx hb hts (tw_i inlX3) tyX3 tyX3_ok nmX3 hown hK hP hD hS hL_this hK_this (by decide) rfl 2 98 (by decide) (hts _ (tw_c tw_473)) rfl (tyX3_ok 2 (by decide)) rfl rfl (Nat.le_of_ble_eq_true rfl) (ps_98 _ _ _ _ _) dX3_copyFrom_39 (fun I_215 H locs eI_215 hP hD hS => ?_)
          have hG := GX.wI hG 98 rfl eI_215 (rg_w h_214 (by decide)) (by decide)
          refine lv_aload_n hx hb dX3_copyFrom_42 rfl (lv_at hl 1 rfl) ?_
          obtain ⟨w_216, hR_w_216, hL_w_216, hK_w_216, hN_w_216, hT_w_216⟩ := sh_a hSH 99 (ci := 3) (kd := 13) (len := 30) rfl (by decide) hL_a0 hK_a0
          refine pg_f (v := .ref w_216) (C := RX3) (T := TX3) (N := 8) hx hb hts (tw_i inlX3) hown hK hP hL_a0 hK_a0 (by decide) rfl 3 (by decide) (hts _ (tw_c tw_129)) (pq_hv rfl hR_w_216) dX3_copyFrom_43 ?_
          refine lv_aload_n hx hb dX3_copyFrom_46 rfl (lv_at hl 0 rfl) ?_
          obtain ⟨w_217, hR_w_217, hL_w_217, hK_w_217, hN_w_217, hT_w_217⟩ := sh_a hSH 99 (ci := 3) (kd := 13) (len := 30) rfl (by decide) hL_this hK_this
          refine pg_f (v := .ref w_217) (C := RX3) (T := TX3) (N := 8) hx hb hts (tw_i inlX3) hown hK hP hL_this hK_this (by decide) rfl 3 (by decide) (hts _ (tw_c tw_129)) (pq_hv rfl hR_w_217) dX3_copyFrom_47 ?_
          refine pk_v (va_runSN (As := [.ref w_216, .ref w_217]) (rest := []) ⟨hx, hb, hml, hown, hts⟩ (s_X11_copy_99_99 l D t σ I_215 J ri rj rq_160 H.size tg hSH hG.1 w_216 w_217 hL_w_216 hK_w_216 hN_w_216 hT_w_216 hL_w_217 hK_w_217 hN_w_217 hT_w_217) ⟨va_cnB (host := "RingsUnder") 2 hts (tw_W tw_1102) rfl rfl rfl (nl_21 hN) (hts _ (tw_c tw_2)) cd_yX11_copy_2 ⟨Nat.le_of_ble_eq_true rfl, Nat.le_of_ble_eq_true rfl⟩, hts (.static yX11_copy) (tw_c tq_static_yX11_copy), trivial⟩ ⟨pq_blind, pq_pre hK hN hP hD⟩ rfl rfl hl.1 rfl (lv_room (Nat.le_of_ble_eq_true rfl)) dX3_copyFrom_50 ⟨Nat.le_of_ble_eq_true rfl, Nat.le_of_ble_eq_true rfl⟩) hD hS hA (fun σ1 μ1 H locs hw_219 hP hD hS => ?_)
          obtain ⟨ri_220, hu_221, hg_222, hp_224, hp_225⟩ := hw_219
          obtain ⟨hu_221a, hu_221b⟩ := Prod.mk.inj hu_221
          rw [hu_221a, hu_221b] at hP hD
          have hG := GX.tr hG hg_222 (by decide)
          refine lv_aload_n hx hb dX3_copyFrom_53 rfl (lv_at hl 1 rfl) ?_
          obtain ⟨w_226, hR_w_226, hL_w_226, hK_w_226, hN_w_226, hT_w_226⟩ := sh_a hSH 100 (ci := 3) (kd := 13) (len := 30) rfl (by decide) hL_a0 hK_a0
          refine pg_f (v := .ref w_226) (C := RX3) (T := TX3) (N := 8) hx hb hts (tw_i inlX3) hown hK hP hL_a0 hK_a0 (by decide) rfl 4 (by decide) (hts _ (tw_c tw_130)) (pq_hv rfl hR_w_226) dX3_copyFrom_54 ?_
          refine lv_aload_n hx hb dX3_copyFrom_57 rfl (lv_at hl 0 rfl) ?_
          obtain ⟨w_227, hR_w_227, hL_w_227, hK_w_227, hN_w_227, hT_w_227⟩ := sh_a hSH 100 (ci := 3) (kd := 13) (len := 30) rfl (by decide) hL_this hK_this
          refine pg_f (v := .ref w_227) (C := RX3) (T := TX3) (N := 8) hx hb hts (tw_i inlX3) hown hK hP hL_this hK_this (by decide) rfl 4 (by decide) (hts _ (tw_c tw_130)) (pq_hv rfl hR_w_227) dX3_copyFrom_58 ?_
          refine pk_v (va_runSN (As := [.ref w_226, .ref w_227]) (rest := []) ⟨hx, hb, hml, hown, hts⟩ (s_X11_copy_100_100 l D t σ I_215 J ri_220 rj rq_160 H.size tg hSH hG.1 w_226 w_227 hL_w_226 hK_w_226 hN_w_226 hT_w_226 hL_w_227 hK_w_227 hN_w_227 hT_w_227) ⟨va_cnB (host := "RingsUnder") 2 hts (tw_W tw_1102) rfl rfl rfl (nl_21 hN) (hts _ (tw_c tw_2)) cd_yX11_copy_2 ⟨Nat.le_of_ble_eq_true rfl, Nat.le_of_ble_eq_true rfl⟩, hts (.static yX11_copy) (tw_c tq_static_yX11_copy), trivial⟩ ⟨pq_blind, pq_pre hK hN hP hD⟩ rfl rfl hl.1 rfl (lv_room (Nat.le_of_ble_eq_true rfl)) dX3_copyFrom_61 ⟨Nat.le_of_ble_eq_true rfl, Nat.le_of_ble_eq_true rfl⟩) hD hS hA (fun σ1 μ1 H locs hw_229 hP hD hS => ?_)
          obtain ⟨ri_230, hu_231, hg_232, hp_234, hp_235⟩ := hw_229
          obtain ⟨hu_231a, hu_231b⟩ := Prod.mk.inj hu_231
          rw [hu_231a, hu_231b] at hP hD
          have hG := GX.tr hG hg_232 (by decide)
          refine lv_aload_n hx hb dX3_copyFrom_64 rfl (lv_at hl 1 rfl) ?_
          obtain ⟨w_236, hR_w_236, hL_w_236, hK_w_236, hN_w_236, hT_w_236⟩ := sh_a hSH 101 (ci := 3) (kd := 13) (len := 30) rfl (by decide) hL_a0 hK_a0
          refine pg_f (v := .ref w_236) (C := RX3) (T := TX3) (N := 8) hx hb hts (tw_i inlX3) hown hK hP hL_a0 hK_a0 (by decide) rfl 5 (by decide) (hts _ (tw_c tw_131)) (pq_hv rfl hR_w_236) dX3_copyFrom_65 ?_
          refine lv_aload_n hx hb dX3_copyFrom_68 rfl (lv_at hl 0 rfl) ?_
          obtain ⟨w_237, hR_w_237, hL_w_237, hK_w_237, hN_w_237, hT_w_237⟩ := sh_a hSH 101 (ci := 3) (kd := 13) (len := 30) rfl (by decide) hL_this hK_this
          refine pg_f (v := .ref w_237) (C := RX3) (T := TX3) (N := 8) hx hb hts (tw_i inlX3) hown hK hP hL_this hK_this (by decide) rfl 5 (by decide) (hts _ (tw_c tw_131)) (pq_hv rfl hR_w_237) dX3_copyFrom_69 ?_
          refine pk_v (va_runSN (As := [.ref w_236, .ref w_237]) (rest := []) ⟨hx, hb, hml, hown, hts⟩ (s_X11_copy_101_101 l D t σ I_215 J ri_230 rj rq_160 H.size tg hSH hG.1 w_236 w_237 hL_w_236 hK_w_236 hN_w_236 hT_w_236 hL_w_237 hK_w_237 hN_w_237 hT_w_237) ⟨va_cnB (host := "RingsUnder") 2 hts (tw_W tw_1102) rfl rfl rfl (nl_21 hN) (hts _ (tw_c tw_2)) cd_yX11_copy_2 ⟨Nat.le_of_ble_eq_true rfl, Nat.le_of_ble_eq_true rfl⟩, hts (.static yX11_copy) (tw_c tq_static_yX11_copy), trivial⟩ ⟨pq_blind, pq_pre hK hN hP hD⟩ rfl rfl hl.1 rfl (lv_room (Nat.le_of_ble_eq_true rfl)) dX3_copyFrom_72 ⟨Nat.le_of_ble_eq_true rfl, Nat.le_of_ble_eq_true rfl⟩) hD hS hA (fun σ1 μ1 H locs hw_239 hP hD hS => ?_)
          obtain ⟨ri_240, hu_241, hg_242, hp_244, hp_245⟩ := hw_239
          obtain ⟨hu_241a, hu_241b⟩ := Prod.mk.inj hu_241
          rw [hu_241a, hu_241b] at hP hD
          have hG := GX.tr hG hg_242 (by decide)
          subst hQ
          exact W.vret hx hb hr (fun t1 ht hW => ⟨⟨(σ, I_215, J, ri_240, rj, rq_160), rfl, ⟨I_215, ri_240, rq_160, rfl, hG⟩, by rw [ht]; exact hP, va_K.moved hW.alike hK, hD⟩, hS.F ht⟩) hS.2.2 dX3_copyFrom_75
        · have h_246 : rg x_159 0 9 := rg_lt1 (nle c_212) h_211 (rg_k (10 : Int32) 10 rfl) (by decide)
          refine lv_aload_n hx hb dX3_copyFrom_16 rfl (lv_at hl 0 rfl) ?_
          obtain ⟨w_247, hR_w_247, hL_w_247, hK_w_247, hN_w_247, hT_w_247⟩ := sh_a hSH 97 (ci := 3) (kd := 16) (len := 10) rfl (by decide) hL_this hK_this
          refine pg_f (v := .ref w_247) (C := RX3) (T := TX3) (N := 8) hx hb hts (tw_i inlX3) hown hK hP hL_this hK_this (by decide) rfl 1 (by decide) (hts _ (tw_c tw_128)) (pq_hv rfl hR_w_247) dX3_copyFrom_17 ?_
          refine lv_iload_n hx hb dX3_copyFrom_20 rfl (lv_at hl 2 rfl) ?_
          refine lv_aload_n hx hb dX3_copyFrom_21 rfl (lv_at hl 1 rfl) ?_
          obtain ⟨w_248, hR_w_248, hL_w_248, hK_w_248, hN_w_248, hT_w_248⟩ := sh_a hSH 97 (ci := 3) (kd := 16) (len := 10) rfl (by decide) hL_a0 hK_a0
          refine pg_f (v := .ref w_248) (C := RX3) (T := TX3) (N := 8) hx hb hts (tw_i inlX3) hown hK hP hL_a0 hK_a0 (by decide) rfl 1 (by decide) (hts _ (tw_c tw_128)) (pq_hv rfl hR_w_248) dX3_copyFrom_22 ?_
          refine lv_iload_n hx hb dX3_copyFrom_25 rfl (lv_at hl 2 rfl) ?_
          refine pl_q hx hb hK hP hL_w_248 hK_w_248 hN_w_248 (rg_in h_246 (by decide)) dX3_copyFrom_26 ?_
          obtain ⟨o_x_249, eo_x_249⟩ : ∃ o, o = rq_160 w_248 (x_159).toNatClampNeg := ⟨_, rfl⟩
          rw [← eo_x_249]
          rcases o_x_249 with _ | w_x_249
          · refine pt_qn hx hb hK hP hD hS hL_w_247 hK_w_247 hN_w_247 (rg_in h_246 (by decide)) dX3_copyFrom_27 (fun rq_250 H locs erq_250 hP hD hS => ?_)
            have hG := GX.wQn hG erq_250
            obtain ⟨x_251, ex_251⟩ : ∃ y : Int32, y = x_159 + Int32.ofInt 1 := ⟨_, rfl⟩
            have h_252 : rg x_251 1 10 := rg_of_eq ex_251 (rg_add h_246 (rg_k (Int32.ofInt 1) 1 rfl) (by decide))
            refine lv_iinc (v := x_251) (lv' := [(2, .int x_251), (0, .ref this), (1, .ref a0)]) hx hb dX3_copyFrom_28 hl (k := 2) rfl ex_251.symm (by decide) rfl (fun ls hl => ?_)
            refine lv_goto (tgt := 10) hx hb dX3_copyFrom_31 (by decide) ?_
            exact ih_209 x_251 rq_250 _ _ _ (rg_w h_252 (by decide)) (ms_up 1 hm_206 ex_251 rfl (by decide) h_246 (by decide) (by decide)) hG hP hD hS (lv_sub hl [1, 2, 0] rfl)
          · have hL_w_x_249 := (GX.rQ hG eo_x_249.symm).1
            have hK_w_x_249 := (GX.rQ hG eo_x_249.symm).2
            refine pt_q hx hb hK hP hD hS hL_w_247 hK_w_247 hN_w_247 hL_w_x_249 hK_w_x_249 (rg_in h_246 (by decide)) dX3_copyFrom_27 (fun rq_253 H locs erq_253 hP hD hS => ?_)
            have hG := GX.wQ hG hL_w_x_249 hK_w_x_249 erq_253
            obtain ⟨x_254, ex_254⟩ : ∃ y : Int32, y = x_159 + Int32.ofInt 1 := ⟨_, rfl⟩
            have h_255 : rg x_254 1 10 := rg_of_eq ex_254 (rg_add h_246 (rg_k (Int32.ofInt 1) 1 rfl) (by decide))
            refine lv_iinc (v := x_254) (lv' := [(2, .int x_254), (0, .ref this), (1, .ref a0)]) hx hb dX3_copyFrom_28 hl (k := 2) rfl ex_254.symm (by decide) rfl (fun ls hl => ?_)
            refine lv_goto (tgt := 10) hx hb dX3_copyFrom_31 (by decide) ?_
            exact ih_209 x_254 rq_253 _ _ _ (rg_w h_255 (by decide)) (ms_up 1 hm_206 ex_254 rfl (by decide) h_246 (by decide) (by decide)) hG hP hD hS (lv_sub hl [1, 2, 0] rfl)
    exact L_208 _ (0 : Int32) rq _ _ _ (rg_w (rg_k (0 : Int32) 0 rfl) (by decide)) (Nat.lt_succ_self _) hG hP hD hS (lv_sub hl [1, 2, 0] rfl)
  exact go _ _ _ hP hD hS hl
