theorem dX12_topOf_0 : decode cX12_topOf 0 = .ok (.aload_n 0, 1) := oc_42 (by decide +kernel)
theorem dX12_topOf_1 : decode cX12_topOf 1 = .ok (.iload_n 1, 1) := oc_27 (by decide +kernel)
theorem dX12_topOf_2 : decode cX12_topOf 2 = .ok (.iconst 1, 1) := oc_4 (by decide +kernel)
theorem dX12_topOf_3 : decode cX12_topOf 3 = .ok (.invokevirtual 91, 3) := oc_182 (a := 0) (b := 91) (by decide +kernel)
theorem dX12_topOf_6 : decode cX12_topOf 6 = .ok (.aload_n 0, 1) := oc_42 (by decide +kernel)
theorem dX12_topOf_7 : decode cX12_topOf 7 = .ok (.iload_n 1, 1) := oc_27 (by decide +kernel)
theorem dX12_topOf_8 : decode cX12_topOf 8 = .ok (.iconst 4, 1) := oc_7 (by decide +kernel)
theorem dX12_topOf_9 : decode cX12_topOf 9 = .ok (.invokevirtual 91, 3) := oc_182 (a := 0) (b := 91) (by decide +kernel)
theorem dX12_topOf_12 : decode cX12_topOf 12 = .ok (.iadd, 1) := oc_96 (by decide +kernel)
theorem dX12_topOf_13 : decode cX12_topOf 13 = .ok (.aload_n 0, 1) := oc_42 (by decide +kernel)
theorem dX12_topOf_14 : decode cX12_topOf 14 = .ok (.iload_n 1, 1) := oc_27 (by decide +kernel)
theorem dX12_topOf_15 : decode cX12_topOf 15 = .ok (.iconst 5, 1) := oc_8 (by decide +kernel)
theorem dX12_topOf_16 : decode cX12_topOf 16 = .ok (.invokevirtual 91, 3) := oc_182 (a := 0) (b := 91) (by decide +kernel)
theorem dX12_topOf_19 : decode cX12_topOf 19 = .ok (.iconst 4, 1) := oc_7 (by decide +kernel)
theorem dX12_topOf_20 : decode cX12_topOf 20 = .ok (.idiv, 1) := oc_108 (by decide +kernel)
theorem dX12_topOf_21 : decode cX12_topOf 21 = .ok (.iadd, 1) := oc_96 (by decide +kernel)
theorem dX12_topOf_22 : decode cX12_topOf 22 = .ok (.aload_n 0, 1) := oc_42 (by decide +kernel)
theorem dX12_topOf_23 : decode cX12_topOf 23 = .ok (.iload_n 1, 1) := oc_27 (by decide +kernel)
theorem dX12_topOf_24 : decode cX12_topOf 24 = .ok (.bipush 6, 2) := oc_16 (a := 6) (by decide +kernel)
theorem dX12_topOf_26 : decode cX12_topOf 26 = .ok (.invokevirtual 91, 3) := oc_182 (a := 0) (b := 91) (by decide +kernel)
theorem dX12_topOf_29 : decode cX12_topOf 29 = .ok (.iadd, 1) := oc_96 (by decide +kernel)
theorem dX12_topOf_30 : decode cX12_topOf 30 = .ok (.ireturn, 1) := oc_172 (by decide +kernel)
theorem dX12_tableAt_0 : decode cX12_tableAt 0 = .ok (.aload_n 0, 1) := oc_42 (by decide +kernel)
theorem dX12_tableAt_1 : decode cX12_tableAt 1 = .ok (.getfield 7, 3) := oc_180 (a := 0) (b := 7) (by decide +kernel)
theorem dX12_tableAt_4 : decode cX12_tableAt 4 = .ok (.bipush 20, 2) := oc_16 (a := 20) (by decide +kernel)
theorem dX12_tableAt_6 : decode cX12_tableAt 6 = .ok (.iconst 5, 1) := oc_8 (by decide +kernel)
theorem dX12_tableAt_7 : decode cX12_tableAt 7 = .ok (.iload_n 1, 1) := oc_27 (by decide +kernel)
theorem dX12_tableAt_8 : decode cX12_tableAt 8 = .ok (.bipush 12, 2) := oc_16 (a := 12) (by decide +kernel)
theorem dX12_tableAt_10 : decode cX12_tableAt 10 = .ok (.irem, 1) := oc_112 (by decide +kernel)
theorem dX12_tableAt_11 : decode cX12_tableAt 11 = .ok (.imul, 1) := oc_104 (by decide +kernel)
theorem dX12_tableAt_12 : decode cX12_tableAt 12 = .ok (.iadd, 1) := oc_96 (by decide +kernel)
theorem dX12_tableAt_13 : decode cX12_tableAt 13 = .ok (.iload_n 2, 1) := oc_28 (by decide +kernel)
theorem dX12_tableAt_14 : decode cX12_tableAt 14 = .ok (.iadd, 1) := oc_96 (by decide +kernel)
theorem dX12_tableAt_15 : decode cX12_tableAt 15 = .ok (.iaload, 1) := oc_46 (by decide +kernel)
theorem dX12_tableAt_16 : decode cX12_tableAt 16 = .ok (.ireturn, 1) := oc_172 (by decide +kernel)
theorem dX12_reefGoes_0 : decode cX12_reefGoes 0 = .ok (.iconst 0, 1) := oc_3 (by decide +kernel)
theorem dX12_reefGoes_1 : decode cX12_reefGoes 1 = .ok (.istore_n 2, 1) := oc_61 (by decide +kernel)
theorem dX12_reefGoes_2 : decode cX12_reefGoes 2 = .ok (.iload_n 2, 1) := oc_28 (by decide +kernel)
theorem dX12_reefGoes_3 : decode cX12_reefGoes 3 = .ok (.aload_n 0, 1) := oc_42 (by decide +kernel)
theorem dX12_reefGoes_4 : decode cX12_reefGoes 4 = .ok (.getfield 7, 3) := oc_180 (a := 0) (b := 7) (by decide +kernel)
theorem dX12_reefGoes_7 : decode cX12_reefGoes 7 = .ok (.iconst 2, 1) := oc_5 (by decide +kernel)
theorem dX12_reefGoes_8 : decode cX12_reefGoes 8 = .ok (.iaload, 1) := oc_46 (by decide +kernel)
theorem dX12_reefGoes_9 : decode cX12_reefGoes 9 = .ok (.if_icmp .ge 99, 3) := oc_162 (a := 0) (b := 99) (by decide +kernel)
theorem dX12_reefGoes_108 : decode cX12_reefGoes 108 = .ok (.return_, 1) := oc_177 (by decide +kernel)
theorem dX12_reefGoes_12 : decode cX12_reefGoes 12 = .ok (.bipush 100, 2) := oc_16 (a := 100) (by decide +kernel)
theorem dX12_reefGoes_14 : decode cX12_reefGoes 14 = .ok (.bipush 16, 2) := oc_16 (a := 16) (by decide +kernel)
theorem dX12_reefGoes_16 : decode cX12_reefGoes 16 = .ok (.iload_n 2, 1) := oc_28 (by decide +kernel)
theorem dX12_reefGoes_17 : decode cX12_reefGoes 17 = .ok (.imul, 1) := oc_104 (by decide +kernel)
theorem dX12_reefGoes_18 : decode cX12_reefGoes 18 = .ok (.iadd, 1) := oc_96 (by decide +kernel)
theorem dX12_reefGoes_19 : decode cX12_reefGoes 19 = .ok (.iconst 5, 1) := oc_8 (by decide +kernel)
theorem dX12_reefGoes_20 : decode cX12_reefGoes 20 = .ok (.iadd, 1) := oc_96 (by decide +kernel)
theorem dX12_reefGoes_21 : decode cX12_reefGoes 21 = .ok (.istore_n 3, 1) := oc_62 (by decide +kernel)
theorem dX12_reefGoes_22 : decode cX12_reefGoes 22 = .ok (.aload_n 0, 1) := oc_42 (by decide +kernel)
theorem dX12_reefGoes_23 : decode cX12_reefGoes 23 = .ok (.getfield 7, 3) := oc_180 (a := 0) (b := 7) (by decide +kernel)
theorem dX12_reefGoes_26 : decode cX12_reefGoes 26 = .ok (.iload_n 3, 1) := oc_29 (by decide +kernel)
theorem dX12_reefGoes_27 : decode cX12_reefGoes 27 = .ok (.dup2, 1) := oc_92 (by decide +kernel)
theorem dX12_reefGoes_28 : decode cX12_reefGoes 28 = .ok (.iaload, 1) := oc_46 (by decide +kernel)
theorem dX12_reefGoes_29 : decode cX12_reefGoes 29 = .ok (.aload_n 0, 1) := oc_42 (by decide +kernel)
theorem dX12_reefGoes_30 : decode cX12_reefGoes 30 = .ok (.iload_n 1, 1) := oc_27 (by decide +kernel)
theorem dX12_reefGoes_31 : decode cX12_reefGoes 31 = .ok (.iconst 2, 1) := oc_5 (by decide +kernel)
theorem tw_1201 : Cond.methodLink RX12 310 yX12_tableAt ∈ wsL_law := sg_51 _ (List.mem_of_getElem? (i := 1) rfl)
theorem tw_1202 : Cond.instanceMethod yX12_tableAt ∈ wsL_law := sg_51 _ (List.mem_of_getElem? (i := 2) rfl)
theorem tw_1203 : Cond.selects RX12 yX12_tableAt yX12_tableAt ∈ wsL_law := sg_51 _ (List.mem_of_getElem? (i := 3) rfl)
theorem tw_1204 : Cond.code yX12_tableAt cX12_tableAt 3 (some .int) ∈ wsL_law := sg_51 _ (List.mem_of_getElem? (i := 4) rfl)
theorem dX12_reefGoes_32 : decode cX12_reefGoes 32 = .ok (.invokevirtual 310, 3) := oc_182 (a := 1) (b := 54) (by decide +kernel)
theorem dX12_reefGoes_35 : decode cX12_reefGoes 35 = .ok (.aload_n 0, 1) := oc_42 (by decide +kernel)
theorem dX12_reefGoes_36 : decode cX12_reefGoes 36 = .ok (.getfield 7, 3) := oc_180 (a := 0) (b := 7) (by decide +kernel)
theorem dX12_reefGoes_39 : decode cX12_reefGoes 39 = .ok (.bipush 13, 2) := oc_16 (a := 13) (by decide +kernel)
theorem dX12_reefGoes_41 : decode cX12_reefGoes 41 = .ok (.iaload, 1) := oc_46 (by decide +kernel)
theorem dX12_reefGoes_63 : decode cX12_reefGoes 63 = .ok (.iadd, 1) := oc_96 (by decide +kernel)
theorem dX12_reefGoes_64 : decode cX12_reefGoes 64 = .ok (.iastore, 1) := oc_79 (by decide +kernel)
theorem dX12_reefGoes_65 : decode cX12_reefGoes 65 = .ok (.aload_n 0, 1) := oc_42 (by decide +kernel)
theorem dX12_reefGoes_66 : decode cX12_reefGoes 66 = .ok (.getfield 7, 3) := oc_180 (a := 0) (b := 7) (by decide +kernel)
theorem dX12_reefGoes_69 : decode cX12_reefGoes 69 = .ok (.iload_n 3, 1) := oc_29 (by decide +kernel)
theorem dX12_reefGoes_70 : decode cX12_reefGoes 70 = .ok (.iaload, 1) := oc_46 (by decide +kernel)
theorem dX12_reefGoes_71 : decode cX12_reefGoes 71 = .ok (.sipush 400, 3) := oc_17 (a := 1) (b := 144) (by decide +kernel)
theorem dX12_reefGoes_86 : decode cX12_reefGoes 86 = .ok (.aload_n 0, 1) := oc_42 (by decide +kernel)
theorem dX12_reefGoes_87 : decode cX12_reefGoes 87 = .ok (.getfield 7, 3) := oc_180 (a := 0) (b := 7) (by decide +kernel)
theorem dX12_reefGoes_90 : decode cX12_reefGoes 90 = .ok (.iload_n 3, 1) := oc_29 (by decide +kernel)
theorem dX12_reefGoes_91 : decode cX12_reefGoes 91 = .ok (.iaload, 1) := oc_46 (by decide +kernel)
theorem dX12_reefGoes_102 : decode cX12_reefGoes 102 = .ok (.iinc 2 1, 3) := oc_132 (b := 1) (by decide +kernel)
theorem dX12_reefGoes_105 : decode cX12_reefGoes 105 = .ok (.goto (-103), 3) := oc_167 (a := 255) (b := 153) (by decide +kernel)
theorem dX12_reefGoes_92 : decode cX12_reefGoes 92 = .ok (.ifCond .ge 10, 3) := oc_156 (a := 0) (b := 10) (by decide +kernel)
theorem dX12_reefGoes_95 : decode cX12_reefGoes 95 = .ok (.aload_n 0, 1) := oc_42 (by decide +kernel)
theorem dX12_reefGoes_96 : decode cX12_reefGoes 96 = .ok (.getfield 7, 3) := oc_180 (a := 0) (b := 7) (by decide +kernel)
theorem dX12_reefGoes_99 : decode cX12_reefGoes 99 = .ok (.iload_n 3, 1) := oc_29 (by decide +kernel)
theorem dX12_reefGoes_100 : decode cX12_reefGoes 100 = .ok (.iconst 0, 1) := oc_3 (by decide +kernel)
theorem dX12_reefGoes_101 : decode cX12_reefGoes 101 = .ok (.iastore, 1) := oc_79 (by decide +kernel)
theorem dX12_reefGoes_74 : decode cX12_reefGoes 74 = .ok (.if_icmp .le 12, 3) := oc_164 (a := 0) (b := 12) (by decide +kernel)
theorem dX12_reefGoes_77 : decode cX12_reefGoes 77 = .ok (.aload_n 0, 1) := oc_42 (by decide +kernel)
theorem dX12_reefGoes_78 : decode cX12_reefGoes 78 = .ok (.getfield 7, 3) := oc_180 (a := 0) (b := 7) (by decide +kernel)
theorem dX12_reefGoes_81 : decode cX12_reefGoes 81 = .ok (.iload_n 3, 1) := oc_29 (by decide +kernel)
theorem dX12_reefGoes_82 : decode cX12_reefGoes 82 = .ok (.sipush 400, 3) := oc_17 (a := 1) (b := 144) (by decide +kernel)
theorem dX12_reefGoes_85 : decode cX12_reefGoes 85 = .ok (.iastore, 1) := oc_79 (by decide +kernel)
theorem dX12_reefGoes_42 : decode cX12_reefGoes 42 = .ok (.if_icmp .gt 13, 3) := oc_163 (a := 0) (b := 13) (by decide +kernel)
theorem dX12_reefGoes_55 : decode cX12_reefGoes 55 = .ok (.aload_n 0, 1) := oc_42 (by decide +kernel)
theorem dX12_reefGoes_56 : decode cX12_reefGoes 56 = .ok (.getfield 7, 3) := oc_180 (a := 0) (b := 7) (by decide +kernel)
theorem dX12_reefGoes_59 : decode cX12_reefGoes 59 = .ok (.bipush 15, 2) := oc_16 (a := 15) (by decide +kernel)
theorem dX12_reefGoes_61 : decode cX12_reefGoes 61 = .ok (.iaload, 1) := oc_46 (by decide +kernel)
theorem dX12_reefGoes_62 : decode cX12_reefGoes 62 = .ok (.ineg, 1) := oc_116 (by decide +kernel)
theorem dX12_reefGoes_45 : decode cX12_reefGoes 45 = .ok (.aload_n 0, 1) := oc_42 (by decide +kernel)
theorem dX12_reefGoes_46 : decode cX12_reefGoes 46 = .ok (.getfield 7, 3) := oc_180 (a := 0) (b := 7) (by decide +kernel)
theorem dX12_reefGoes_49 : decode cX12_reefGoes 49 = .ok (.bipush 14, 2) := oc_16 (a := 14) (by decide +kernel)
theorem dX12_reefGoes_51 : decode cX12_reefGoes 51 = .ok (.iaload, 1) := oc_46 (by decide +kernel)
theorem dX12_reefGoes_52 : decode cX12_reefGoes 52 = .ok (.goto 11, 3) := oc_167 (a := 0) (b := 11) (by decide +kernel)
theorem dX12_sandGoes_0 : decode cX12_sandGoes 0 = .ok (.iconst 0, 1) := oc_3 (by decide +kernel)
theorem dX12_sandGoes_1 : decode cX12_sandGoes 1 = .ok (.istore_n 2, 1) := oc_61 (by decide +kernel)
theorem dX12_sandGoes_2 : decode cX12_sandGoes 2 = .ok (.iload_n 2, 1) := oc_28 (by decide +kernel)
theorem dX12_sandGoes_3 : decode cX12_sandGoes 3 = .ok (.aload_n 0, 1) := oc_42 (by decide +kernel)
theorem dX12_sandGoes_4 : decode cX12_sandGoes 4 = .ok (.getfield 7, 3) := oc_180 (a := 0) (b := 7) (by decide +kernel)
theorem dX12_sandGoes_7 : decode cX12_sandGoes 7 = .ok (.iconst 2, 1) := oc_5 (by decide +kernel)
theorem dX12_sandGoes_8 : decode cX12_sandGoes 8 = .ok (.iaload, 1) := oc_46 (by decide +kernel)
theorem dX12_sandGoes_9 : decode cX12_sandGoes 9 = .ok (.if_icmp .ge 56, 3) := oc_162 (a := 0) (b := 56) (by decide +kernel)
theorem dX12_sandGoes_65 : decode cX12_sandGoes 65 = .ok (.iconst 0, 1) := oc_3 (by decide +kernel)
theorem dX12_sandGoes_66 : decode cX12_sandGoes 66 = .ok (.istore_n 2, 1) := oc_61 (by decide +kernel)
theorem dX12_sandGoes_67 : decode cX12_sandGoes 67 = .ok (.iload_n 2, 1) := oc_28 (by decide +kernel)
theorem dX12_sandGoes_68 : decode cX12_sandGoes 68 = .ok (.aload_n 0, 1) := oc_42 (by decide +kernel)
theorem dX12_sandGoes_69 : decode cX12_sandGoes 69 = .ok (.getfield 7, 3) := oc_180 (a := 0) (b := 7) (by decide +kernel)
theorem dX12_sandGoes_72 : decode cX12_sandGoes 72 = .ok (.iconst 2, 1) := oc_5 (by decide +kernel)
theorem dX12_sandGoes_73 : decode cX12_sandGoes 73 = .ok (.iaload, 1) := oc_46 (by decide +kernel)
theorem dX12_sandGoes_74 : decode cX12_sandGoes 74 = .ok (.if_icmp .ge 119, 3) := oc_162 (a := 0) (b := 119) (by decide +kernel)
theorem dX12_sandGoes_193 : decode cX12_sandGoes 193 = .ok (.return_, 1) := oc_177 (by decide +kernel)
theorem dX12_sandGoes_77 : decode cX12_sandGoes 77 = .ok (.aload_n 0, 1) := oc_42 (by decide +kernel)
theorem dX12_sandGoes_78 : decode cX12_sandGoes 78 = .ok (.getfield 7, 3) := oc_180 (a := 0) (b := 7) (by decide +kernel)
theorem dX12_sandGoes_81 : decode cX12_sandGoes 81 = .ok (.bipush 100, 2) := oc_16 (a := 100) (by decide +kernel)
theorem dX12_sandGoes_83 : decode cX12_sandGoes 83 = .ok (.bipush 16, 2) := oc_16 (a := 16) (by decide +kernel)
theorem dX12_sandGoes_85 : decode cX12_sandGoes 85 = .ok (.iload_n 2, 1) := oc_28 (by decide +kernel)
theorem dX12_sandGoes_86 : decode cX12_sandGoes 86 = .ok (.imul, 1) := oc_104 (by decide +kernel)
theorem dX12_sandGoes_87 : decode cX12_sandGoes 87 = .ok (.iadd, 1) := oc_96 (by decide +kernel)
theorem dX12_sandGoes_88 : decode cX12_sandGoes 88 = .ok (.iconst 4, 1) := oc_7 (by decide +kernel)
theorem dX12_sandGoes_89 : decode cX12_sandGoes 89 = .ok (.iadd, 1) := oc_96 (by decide +kernel)
theorem dX12_sandGoes_90 : decode cX12_sandGoes 90 = .ok (.dup2, 1) := oc_92 (by decide +kernel)
theorem dX12_sandGoes_91 : decode cX12_sandGoes 91 = .ok (.iaload, 1) := oc_46 (by decide +kernel)
theorem dX12_sandGoes_92 : decode cX12_sandGoes 92 = .ok (.aload_n 0, 1) := oc_42 (by decide +kernel)
theorem tw_187 : Cond.fieldLink RX12 43 "RingsUnderModel" "leaves" "[I" ∈ wsL_law := sg_8 _ (List.mem_of_getElem? (i := 19) rfl)
theorem dX12_sandGoes_93 : decode cX12_sandGoes 93 = .ok (.getfield 43, 3) := oc_180 (a := 0) (b := 43) (by decide +kernel)
theorem dX12_sandGoes_96 : decode cX12_sandGoes 96 = .ok (.iload_n 2, 1) := oc_28 (by decide +kernel)
theorem dX12_sandGoes_97 : decode cX12_sandGoes 97 = .ok (.iaload, 1) := oc_46 (by decide +kernel)
theorem dX12_sandGoes_98 : decode cX12_sandGoes 98 = .ok (.isub, 1) := oc_100 (by decide +kernel)
theorem dX12_sandGoes_99 : decode cX12_sandGoes 99 = .ok (.iastore, 1) := oc_79 (by decide +kernel)
theorem dX12_sandGoes_100 : decode cX12_sandGoes 100 = .ok (.iload_n 2, 1) := oc_28 (by decide +kernel)
theorem dX12_sandGoes_101 : decode cX12_sandGoes 101 = .ok (.iconst 1, 1) := oc_4 (by decide +kernel)
theorem dX12_sandGoes_102 : decode cX12_sandGoes 102 = .ok (.iadd, 1) := oc_96 (by decide +kernel)
theorem dX12_sandGoes_103 : decode cX12_sandGoes 103 = .ok (.istore_n 3, 1) := oc_62 (by decide +kernel)
theorem dX12_sandGoes_104 : decode cX12_sandGoes 104 = .ok (.iload_n 3, 1) := oc_29 (by decide +kernel)
theorem dX12_sandGoes_105 : decode cX12_sandGoes 105 = .ok (.aload_n 0, 1) := oc_42 (by decide +kernel)
theorem dX12_sandGoes_106 : decode cX12_sandGoes 106 = .ok (.getfield 7, 3) := oc_180 (a := 0) (b := 7) (by decide +kernel)
theorem dX12_sandGoes_109 : decode cX12_sandGoes 109 = .ok (.iconst 2, 1) := oc_5 (by decide +kernel)
theorem dX12_sandGoes_110 : decode cX12_sandGoes 110 = .ok (.iaload, 1) := oc_46 (by decide +kernel)
theorem dX12_sandGoes_135 : decode cX12_sandGoes 135 = .ok (.iload_n 3, 1) := oc_29 (by decide +kernel)
theorem dX12_sandGoes_136 : decode cX12_sandGoes 136 = .ok (.aload_n 0, 1) := oc_42 (by decide +kernel)
theorem dX12_sandGoes_137 : decode cX12_sandGoes 137 = .ok (.getfield 7, 3) := oc_180 (a := 0) (b := 7) (by decide +kernel)
theorem dX12_sandGoes_140 : decode cX12_sandGoes 140 = .ok (.iconst 2, 1) := oc_5 (by decide +kernel)
theorem dX12_sandGoes_141 : decode cX12_sandGoes 141 = .ok (.iaload, 1) := oc_46 (by decide +kernel)
theorem dX12_sandGoes_187 : decode cX12_sandGoes 187 = .ok (.iinc 2 1, 3) := oc_132 (b := 1) (by decide +kernel)
theorem dX12_sandGoes_190 : decode cX12_sandGoes 190 = .ok (.goto (-123), 3) := oc_167 (a := 255) (b := 133) (by decide +kernel)
theorem dX12_sandGoes_142 : decode cX12_sandGoes 142 = .ok (.if_icmp .ge 29, 3) := oc_162 (a := 0) (b := 29) (by decide +kernel)
theorem dX12_sandGoes_171 : decode cX12_sandGoes 171 = .ok (.aload_n 0, 1) := oc_42 (by decide +kernel)
theorem dX12_sandGoes_172 : decode cX12_sandGoes 172 = .ok (.getfield 7, 3) := oc_180 (a := 0) (b := 7) (by decide +kernel)
theorem dX12_sandGoes_175 : decode cX12_sandGoes 175 = .ok (.bipush 9, 2) := oc_16 (a := 9) (by decide +kernel)
theorem dX12_sandGoes_177 : decode cX12_sandGoes 177 = .ok (.dup2, 1) := oc_92 (by decide +kernel)
theorem dX12_sandGoes_178 : decode cX12_sandGoes 178 = .ok (.iaload, 1) := oc_46 (by decide +kernel)
theorem dX12_sandGoes_179 : decode cX12_sandGoes 179 = .ok (.aload_n 0, 1) := oc_42 (by decide +kernel)
theorem dX12_sandGoes_180 : decode cX12_sandGoes 180 = .ok (.getfield 43, 3) := oc_180 (a := 0) (b := 43) (by decide +kernel)
theorem dX12_sandGoes_183 : decode cX12_sandGoes 183 = .ok (.iload_n 2, 1) := oc_28 (by decide +kernel)
theorem dX12_sandGoes_184 : decode cX12_sandGoes 184 = .ok (.iaload, 1) := oc_46 (by decide +kernel)
theorem dX12_sandGoes_185 : decode cX12_sandGoes 185 = .ok (.iadd, 1) := oc_96 (by decide +kernel)
theorem dX12_sandGoes_186 : decode cX12_sandGoes 186 = .ok (.iastore, 1) := oc_79 (by decide +kernel)
theorem dX12_sandGoes_145 : decode cX12_sandGoes 145 = .ok (.aload_n 0, 1) := oc_42 (by decide +kernel)
theorem dX12_sandGoes_146 : decode cX12_sandGoes 146 = .ok (.getfield 7, 3) := oc_180 (a := 0) (b := 7) (by decide +kernel)
theorem dX12_sandGoes_149 : decode cX12_sandGoes 149 = .ok (.bipush 100, 2) := oc_16 (a := 100) (by decide +kernel)
theorem dX12_sandGoes_151 : decode cX12_sandGoes 151 = .ok (.bipush 16, 2) := oc_16 (a := 16) (by decide +kernel)
theorem dX12_sandGoes_153 : decode cX12_sandGoes 153 = .ok (.iload_n 3, 1) := oc_29 (by decide +kernel)
theorem dX12_sandGoes_154 : decode cX12_sandGoes 154 = .ok (.imul, 1) := oc_104 (by decide +kernel)
theorem dX12_sandGoes_155 : decode cX12_sandGoes 155 = .ok (.iadd, 1) := oc_96 (by decide +kernel)
theorem dX12_sandGoes_156 : decode cX12_sandGoes 156 = .ok (.iconst 4, 1) := oc_7 (by decide +kernel)
theorem dX12_sandGoes_157 : decode cX12_sandGoes 157 = .ok (.iadd, 1) := oc_96 (by decide +kernel)
theorem dX12_sandGoes_158 : decode cX12_sandGoes 158 = .ok (.dup2, 1) := oc_92 (by decide +kernel)
theorem dX12_sandGoes_159 : decode cX12_sandGoes 159 = .ok (.iaload, 1) := oc_46 (by decide +kernel)
theorem dX12_sandGoes_160 : decode cX12_sandGoes 160 = .ok (.aload_n 0, 1) := oc_42 (by decide +kernel)
theorem dX12_sandGoes_161 : decode cX12_sandGoes 161 = .ok (.getfield 43, 3) := oc_180 (a := 0) (b := 43) (by decide +kernel)
theorem dX12_sandGoes_164 : decode cX12_sandGoes 164 = .ok (.iload_n 2, 1) := oc_28 (by decide +kernel)
theorem dX12_sandGoes_165 : decode cX12_sandGoes 165 = .ok (.iaload, 1) := oc_46 (by decide +kernel)
theorem dX12_sandGoes_166 : decode cX12_sandGoes 166 = .ok (.iadd, 1) := oc_96 (by decide +kernel)
theorem dX12_sandGoes_167 : decode cX12_sandGoes 167 = .ok (.iastore, 1) := oc_79 (by decide +kernel)
theorem dX12_sandGoes_168 : decode cX12_sandGoes 168 = .ok (.goto 19, 3) := oc_167 (a := 0) (b := 19) (by decide +kernel)
theorem dX12_sandGoes_111 : decode cX12_sandGoes 111 = .ok (.if_icmp .ge 24, 3) := oc_162 (a := 0) (b := 24) (by decide +kernel)
theorem dX12_sandGoes_114 : decode cX12_sandGoes 114 = .ok (.aload_n 0, 1) := oc_42 (by decide +kernel)
theorem dX12_sandGoes_115 : decode cX12_sandGoes 115 = .ok (.iload_n 3, 1) := oc_29 (by decide +kernel)
theorem dX12_sandGoes_116 : decode cX12_sandGoes 116 = .ok (.iconst 0, 1) := oc_3 (by decide +kernel)
theorem dX12_sandGoes_117 : decode cX12_sandGoes 117 = .ok (.invokevirtual 91, 3) := oc_182 (a := 0) (b := 91) (by decide +kernel)
theorem dX12_sandGoes_120 : decode cX12_sandGoes 120 = .ok (.aload_n 0, 1) := oc_42 (by decide +kernel)
theorem dX12_sandGoes_121 : decode cX12_sandGoes 121 = .ok (.iload_n 2, 1) := oc_28 (by decide +kernel)
theorem dX12_sandGoes_122 : decode cX12_sandGoes 122 = .ok (.iconst 0, 1) := oc_3 (by decide +kernel)
theorem dX12_sandGoes_123 : decode cX12_sandGoes 123 = .ok (.invokevirtual 91, 3) := oc_182 (a := 0) (b := 91) (by decide +kernel)
theorem dX12_sandGoes_126 : decode cX12_sandGoes 126 = .ok (.if_icmp .eq 9, 3) := oc_159 (a := 0) (b := 9) (by decide +kernel)
theorem dX12_sandGoes_129 : decode cX12_sandGoes 129 = .ok (.iinc 3 1, 3) := oc_132 (b := 1) (by decide +kernel)
theorem dX12_sandGoes_132 : decode cX12_sandGoes 132 = .ok (.goto (-28), 3) := oc_167 (a := 255) (b := 228) (by decide +kernel)
theorem dX12_sandGoes_12 : decode cX12_sandGoes 12 = .ok (.aload_n 0, 1) := oc_42 (by decide +kernel)
theorem dX12_sandGoes_13 : decode cX12_sandGoes 13 = .ok (.iload_n 1, 1) := oc_27 (by decide +kernel)
theorem dX12_sandGoes_14 : decode cX12_sandGoes 14 = .ok (.iconst 3, 1) := oc_6 (by decide +kernel)
theorem dX12_sandGoes_15 : decode cX12_sandGoes 15 = .ok (.invokevirtual 310, 3) := oc_182 (a := 1) (b := 54) (by decide +kernel)
theorem dX12_sandGoes_18 : decode cX12_sandGoes 18 = .ok (.istore_n 3, 1) := oc_62 (by decide +kernel)
theorem dX12_sandGoes_19 : decode cX12_sandGoes 19 = .ok (.aload_n 0, 1) := oc_42 (by decide +kernel)
theorem dX12_sandGoes_20 : decode cX12_sandGoes 20 = .ok (.getfield 43, 3) := oc_180 (a := 0) (b := 43) (by decide +kernel)
theorem dX12_sandGoes_23 : decode cX12_sandGoes 23 = .ok (.iload_n 2, 1) := oc_28 (by decide +kernel)
theorem dX12_sandGoes_24 : decode cX12_sandGoes 24 = .ok (.aload_n 0, 1) := oc_42 (by decide +kernel)
theorem dX12_sandGoes_25 : decode cX12_sandGoes 25 = .ok (.iload_n 2, 1) := oc_28 (by decide +kernel)
theorem dX12_sandGoes_26 : decode cX12_sandGoes 26 = .ok (.bipush 6, 2) := oc_16 (a := 6) (by decide +kernel)
theorem dX12_sandGoes_28 : decode cX12_sandGoes 28 = .ok (.invokevirtual 91, 3) := oc_182 (a := 0) (b := 91) (by decide +kernel)
theorem dX12_sandGoes_58 : decode cX12_sandGoes 58 = .ok (.iastore, 1) := oc_79 (by decide +kernel)
theorem dX12_sandGoes_59 : decode cX12_sandGoes 59 = .ok (.iinc 2 1, 3) := oc_132 (b := 1) (by decide +kernel)
theorem dX12_sandGoes_62 : decode cX12_sandGoes 62 = .ok (.goto (-60), 3) := oc_167 (a := 255) (b := 196) (by decide +kernel)
theorem dX12_sandGoes_31 : decode cX12_sandGoes 31 = .ok (.ifCond .le 7, 3) := oc_158 (a := 0) (b := 7) (by decide +kernel)
theorem dX12_sandGoes_38 : decode cX12_sandGoes 38 = .ok (.aload_n 0, 1) := oc_42 (by decide +kernel)
theorem dX12_sandGoes_39 : decode cX12_sandGoes 39 = .ok (.iload_n 2, 1) := oc_28 (by decide +kernel)
theorem dX12_sandGoes_40 : decode cX12_sandGoes 40 = .ok (.iconst 4, 1) := oc_7 (by decide +kernel)
theorem dX12_sandGoes_41 : decode cX12_sandGoes 41 = .ok (.invokevirtual 91, 3) := oc_182 (a := 0) (b := 91) (by decide +kernel)
theorem dX12_sandGoes_44 : decode cX12_sandGoes 44 = .ok (.iload_n 3, 1) := oc_29 (by decide +kernel)
theorem dX12_sandGoes_45 : decode cX12_sandGoes 45 = .ok (.if_icmp .ge 12, 3) := oc_162 (a := 0) (b := 12) (by decide +kernel)
theorem dX12_sandGoes_57 : decode cX12_sandGoes 57 = .ok (.iload_n 3, 1) := oc_29 (by decide +kernel)
theorem dX12_sandGoes_48 : decode cX12_sandGoes 48 = .ok (.aload_n 0, 1) := oc_42 (by decide +kernel)
theorem dX12_sandGoes_49 : decode cX12_sandGoes 49 = .ok (.iload_n 2, 1) := oc_28 (by decide +kernel)
theorem dX12_sandGoes_50 : decode cX12_sandGoes 50 = .ok (.iconst 4, 1) := oc_7 (by decide +kernel)
theorem dX12_sandGoes_51 : decode cX12_sandGoes 51 = .ok (.invokevirtual 91, 3) := oc_182 (a := 0) (b := 91) (by decide +kernel)
theorem dX12_sandGoes_54 : decode cX12_sandGoes 54 = .ok (.goto 4, 3) := oc_167 (a := 0) (b := 4) (by decide +kernel)
theorem dX12_sandGoes_34 : decode cX12_sandGoes 34 = .ok (.iconst 0, 1) := oc_3 (by decide +kernel)
theorem dX12_sandGoes_35 : decode cX12_sandGoes 35 = .ok (.goto 23, 3) := oc_167 (a := 0) (b := 23) (by decide +kernel)
theorem dX12_seaStands_0 : decode cX12_seaStands 0 = .ok (.iconst 0, 1) := oc_3 (by decide +kernel)
theorem dX12_seaStands_1 : decode cX12_seaStands 1 = .ok (.istore_n 3, 1) := oc_62 (by decide +kernel)
theorem dX12_seaStands_2 : decode cX12_seaStands 2 = .ok (.iconst 0, 1) := oc_3 (by decide +kernel)
theorem dX12_seaStands_3 : decode cX12_seaStands 3 = .ok (.istore 4, 2) := oc_54 (by decide +kernel)
theorem dX12_seaStands_5 : decode cX12_seaStands 5 = .ok (.iconst 0, 1) := oc_3 (by decide +kernel)
theorem dX12_seaStands_6 : decode cX12_seaStands 6 = .ok (.istore 5, 2) := oc_54 (by decide +kernel)
theorem dX12_seaStands_8 : decode cX12_seaStands 8 = .ok (.iload 5, 2) := oc_21 (by decide +kernel)
theorem dX12_seaStands_10 : decode cX12_seaStands 10 = .ok (.aload_n 0, 1) := oc_42 (by decide +kernel)
theorem dX12_seaStands_11 : decode cX12_seaStands 11 = .ok (.getfield 7, 3) := oc_180 (a := 0) (b := 7) (by decide +kernel)
theorem dX12_seaStands_14 : decode cX12_seaStands 14 = .ok (.iconst 2, 1) := oc_5 (by decide +kernel)
theorem dX12_seaStands_15 : decode cX12_seaStands 15 = .ok (.iaload, 1) := oc_46 (by decide +kernel)
theorem dX12_seaStands_16 : decode cX12_seaStands 16 = .ok (.if_icmp .ge 350, 3) := oc_162 (a := 1) (b := 94) (by decide +kernel)
theorem dX12_seaStands_366 : decode cX12_seaStands 366 = .ok (.aload_n 0, 1) := oc_42 (by decide +kernel)
theorem dX12_seaStands_367 : decode cX12_seaStands 367 = .ok (.getfield 7, 3) := oc_180 (a := 0) (b := 7) (by decide +kernel)
theorem dX12_seaStands_370 : decode cX12_seaStands 370 = .ok (.sipush 2520, 3) := oc_17 (a := 9) (b := 216) (by decide +kernel)
theorem dX12_seaStands_373 : decode cX12_seaStands 373 = .ok (.iconst 2, 1) := oc_5 (by decide +kernel)
theorem dX12_seaStands_374 : decode cX12_seaStands 374 = .ok (.iload_n 1, 1) := oc_27 (by decide +kernel)
theorem dX12_seaStands_375 : decode cX12_seaStands 375 = .ok (.imul, 1) := oc_104 (by decide +kernel)
theorem dX12_seaStands_376 : decode cX12_seaStands 376 = .ok (.iadd, 1) := oc_96 (by decide +kernel)
theorem dX12_seaStands_377 : decode cX12_seaStands 377 = .ok (.iload_n 3, 1) := oc_29 (by decide +kernel)
theorem dX12_seaStands_378 : decode cX12_seaStands 378 = .ok (.iastore, 1) := oc_79 (by decide +kernel)
theorem dX12_seaStands_379 : decode cX12_seaStands 379 = .ok (.aload_n 0, 1) := oc_42 (by decide +kernel)
theorem dX12_seaStands_380 : decode cX12_seaStands 380 = .ok (.getfield 7, 3) := oc_180 (a := 0) (b := 7) (by decide +kernel)
theorem dX12_seaStands_383 : decode cX12_seaStands 383 = .ok (.sipush 2520, 3) := oc_17 (a := 9) (b := 216) (by decide +kernel)
theorem dX12_seaStands_386 : decode cX12_seaStands 386 = .ok (.iconst 2, 1) := oc_5 (by decide +kernel)
theorem dX12_seaStands_387 : decode cX12_seaStands 387 = .ok (.iload_n 1, 1) := oc_27 (by decide +kernel)
theorem dX12_seaStands_388 : decode cX12_seaStands 388 = .ok (.imul, 1) := oc_104 (by decide +kernel)
theorem dX12_seaStands_389 : decode cX12_seaStands 389 = .ok (.iadd, 1) := oc_96 (by decide +kernel)
theorem dX12_seaStands_390 : decode cX12_seaStands 390 = .ok (.iconst 1, 1) := oc_4 (by decide +kernel)
theorem dX12_seaStands_391 : decode cX12_seaStands 391 = .ok (.iadd, 1) := oc_96 (by decide +kernel)
theorem dX12_seaStands_392 : decode cX12_seaStands 392 = .ok (.iload 4, 2) := oc_21 (by decide +kernel)
theorem dX12_seaStands_394 : decode cX12_seaStands 394 = .ok (.iastore, 1) := oc_79 (by decide +kernel)
theorem dX12_seaStands_395 : decode cX12_seaStands 395 = .ok (.return_, 1) := oc_177 (by decide +kernel)
theorem dX12_seaStands_19 : decode cX12_seaStands 19 = .ok (.bipush 100, 2) := oc_16 (a := 100) (by decide +kernel)
theorem dX12_seaStands_21 : decode cX12_seaStands 21 = .ok (.bipush 16, 2) := oc_16 (a := 16) (by decide +kernel)
theorem dX12_seaStands_23 : decode cX12_seaStands 23 = .ok (.iload 5, 2) := oc_21 (by decide +kernel)
theorem dX12_seaStands_25 : decode cX12_seaStands 25 = .ok (.imul, 1) := oc_104 (by decide +kernel)
theorem dX12_seaStands_26 : decode cX12_seaStands 26 = .ok (.iadd, 1) := oc_96 (by decide +kernel)
theorem dX12_seaStands_27 : decode cX12_seaStands 27 = .ok (.istore 6, 2) := oc_54 (by decide +kernel)
theorem dX12_seaStands_29 : decode cX12_seaStands 29 = .ok (.aload_n 0, 1) := oc_42 (by decide +kernel)
theorem dX12_seaStands_30 : decode cX12_seaStands 30 = .ok (.iload 5, 2) := oc_21 (by decide +kernel)
theorem tw_1213 : Cond.methodLink RX12 313 yX12_topOf ∈ wsL_law := sg_51 _ (List.mem_of_getElem? (i := 13) rfl)
theorem tw_1214 : Cond.instanceMethod yX12_topOf ∈ wsL_law := sg_51 _ (List.mem_of_getElem? (i := 14) rfl)
theorem tw_1215 : Cond.selects RX12 yX12_topOf yX12_topOf ∈ wsL_law := sg_51 _ (List.mem_of_getElem? (i := 15) rfl)
theorem tw_1216 : Cond.code yX12_topOf cX12_topOf 2 (some .int) ∈ wsL_law := sg_51 _ (List.mem_of_getElem? (i := 16) rfl)
theorem dX12_seaStands_32 : decode cX12_seaStands 32 = .ok (.invokevirtual 313, 3) := oc_182 (a := 1) (b := 57) (by decide +kernel)
theorem dX12_seaStands_35 : decode cX12_seaStands 35 = .ok (.iload_n 2, 1) := oc_28 (by decide +kernel)
theorem dX12_seaStands_36 : decode cX12_seaStands 36 = .ok (.aload_n 0, 1) := oc_42 (by decide +kernel)
theorem dX12_seaStands_37 : decode cX12_seaStands 37 = .ok (.iload_n 1, 1) := oc_27 (by decide +kernel)
theorem dX12_seaStands_38 : decode cX12_seaStands 38 = .ok (.iconst 1, 1) := oc_4 (by decide +kernel)
theorem dX12_seaStands_39 : decode cX12_seaStands 39 = .ok (.invokevirtual 310, 3) := oc_182 (a := 1) (b := 54) (by decide +kernel)
theorem dX12_seaStands_42 : decode cX12_seaStands 42 = .ok (.iadd, 1) := oc_96 (by decide +kernel)
theorem dX12_seaStands_51 : decode cX12_seaStands 51 = .ok (.istore 7, 2) := oc_54 (by decide +kernel)
theorem dX12_seaStands_53 : decode cX12_seaStands 53 = .ok (.aload_n 0, 1) := oc_42 (by decide +kernel)
theorem dX12_seaStands_54 : decode cX12_seaStands 54 = .ok (.iload 5, 2) := oc_21 (by decide +kernel)
theorem dX12_seaStands_56 : decode cX12_seaStands 56 = .ok (.invokevirtual 313, 3) := oc_182 (a := 1) (b := 57) (by decide +kernel)
theorem dX12_seaStands_59 : decode cX12_seaStands 59 = .ok (.iload_n 2, 1) := oc_28 (by decide +kernel)
theorem dX12_seaStands_60 : decode cX12_seaStands 60 = .ok (.aload_n 0, 1) := oc_42 (by decide +kernel)
theorem dX12_seaStands_61 : decode cX12_seaStands 61 = .ok (.iload_n 1, 1) := oc_27 (by decide +kernel)
theorem dX12_seaStands_62 : decode cX12_seaStands 62 = .ok (.iconst 0, 1) := oc_3 (by decide +kernel)
theorem dX12_seaStands_63 : decode cX12_seaStands 63 = .ok (.invokevirtual 310, 3) := oc_182 (a := 1) (b := 54) (by decide +kernel)
theorem dX12_seaStands_66 : decode cX12_seaStands 66 = .ok (.iadd, 1) := oc_96 (by decide +kernel)
theorem dX12_seaStands_75 : decode cX12_seaStands 75 = .ok (.istore 8, 2) := oc_54 (by decide +kernel)
theorem dX12_seaStands_77 : decode cX12_seaStands 77 = .ok (.aload_n 0, 1) := oc_42 (by decide +kernel)
theorem dX12_seaStands_78 : decode cX12_seaStands 78 = .ok (.getfield 7, 3) := oc_180 (a := 0) (b := 7) (by decide +kernel)
theorem dX12_seaStands_81 : decode cX12_seaStands 81 = .ok (.iload 6, 2) := oc_21 (by decide +kernel)
theorem dX12_seaStands_83 : decode cX12_seaStands 83 = .ok (.bipush 12, 2) := oc_16 (a := 12) (by decide +kernel)
theorem dX12_seaStands_85 : decode cX12_seaStands 85 = .ok (.iadd, 1) := oc_96 (by decide +kernel)
theorem dX12_seaStands_86 : decode cX12_seaStands 86 = .ok (.iload 7, 2) := oc_21 (by decide +kernel)
theorem dX12_seaStands_96 : decode cX12_seaStands 96 = .ok (.iastore, 1) := oc_79 (by decide +kernel)
theorem dX12_seaStands_97 : decode cX12_seaStands 97 = .ok (.aload_n 0, 1) := oc_42 (by decide +kernel)
theorem dX12_seaStands_98 : decode cX12_seaStands 98 = .ok (.getfield 7, 3) := oc_180 (a := 0) (b := 7) (by decide +kernel)
theorem dX12_seaStands_101 : decode cX12_seaStands 101 = .ok (.iload 6, 2) := oc_21 (by decide +kernel)
theorem dX12_seaStands_103 : decode cX12_seaStands 103 = .ok (.bipush 13, 2) := oc_16 (a := 13) (by decide +kernel)
theorem dX12_seaStands_105 : decode cX12_seaStands 105 = .ok (.iadd, 1) := oc_96 (by decide +kernel)
theorem dX12_seaStands_106 : decode cX12_seaStands 106 = .ok (.iload 8, 2) := oc_21 (by decide +kernel)
theorem dX12_seaStands_116 : decode cX12_seaStands 116 = .ok (.iastore, 1) := oc_79 (by decide +kernel)
theorem dX12_seaStands_117 : decode cX12_seaStands 117 = .ok (.aload_n 0, 1) := oc_42 (by decide +kernel)
theorem dX12_seaStands_118 : decode cX12_seaStands 118 = .ok (.getfield 7, 3) := oc_180 (a := 0) (b := 7) (by decide +kernel)
theorem dX12_seaStands_121 : decode cX12_seaStands 121 = .ok (.iload 6, 2) := oc_21 (by decide +kernel)
theorem dX12_seaStands_123 : decode cX12_seaStands 123 = .ok (.bipush 11, 2) := oc_16 (a := 11) (by decide +kernel)
theorem dX12_seaStands_125 : decode cX12_seaStands 125 = .ok (.iadd, 1) := oc_96 (by decide +kernel)
theorem dX12_seaStands_126 : decode cX12_seaStands 126 = .ok (.iload 7, 2) := oc_21 (by decide +kernel)
theorem dX12_seaStands_147 : decode cX12_seaStands 147 = .ok (.iastore, 1) := oc_79 (by decide +kernel)
theorem dX12_seaStands_148 : decode cX12_seaStands 148 = .ok (.iload 8, 2) := oc_21 (by decide +kernel)
theorem dX12_seaStands_167 : decode cX12_seaStands 167 = .ok (.iload 8, 2) := oc_21 (by decide +kernel)
theorem dX12_seaStands_191 : decode cX12_seaStands 191 = .ok (.iload 7, 2) := oc_21 (by decide +kernel)
theorem dX12_seaStands_207 : decode cX12_seaStands 207 = .ok (.aload_n 0, 1) := oc_42 (by decide +kernel)
theorem dX12_seaStands_208 : decode cX12_seaStands 208 = .ok (.getfield 7, 3) := oc_180 (a := 0) (b := 7) (by decide +kernel)
theorem dX12_seaStands_211 : decode cX12_seaStands 211 = .ok (.iload 6, 2) := oc_21 (by decide +kernel)
theorem dX12_seaStands_213 : decode cX12_seaStands 213 = .ok (.bipush 8, 2) := oc_16 (a := 8) (by decide +kernel)
theorem dX12_seaStands_215 : decode cX12_seaStands 215 = .ok (.iadd, 1) := oc_96 (by decide +kernel)
theorem dX12_seaStands_216 : decode cX12_seaStands 216 = .ok (.iaload, 1) := oc_46 (by decide +kernel)
theorem dX12_seaStands_360 : decode cX12_seaStands 360 = .ok (.iinc 5 1, 3) := oc_132 (b := 1) (by decide +kernel)
theorem dX12_seaStands_363 : decode cX12_seaStands 363 = .ok (.goto (-355), 3) := oc_167 (a := 254) (b := 157) (by decide +kernel)
theorem dX12_seaStands_217 : decode cX12_seaStands 217 = .ok (.ifCond .ne 6, 3) := oc_154 (a := 0) (b := 6) (by decide +kernel)
theorem dX12_seaStands_223 : decode cX12_seaStands 223 = .ok (.iload 7, 2) := oc_21 (by decide +kernel)
theorem dX12_seaStands_225 : decode cX12_seaStands 225 = .ok (.ifCond .eq 92, 3) := oc_153 (a := 0) (b := 92) (by decide +kernel)
theorem dX12_seaStands_317 : decode cX12_seaStands 317 = .ok (.aload_n 0, 1) := oc_42 (by decide +kernel)
theorem dX12_seaStands_318 : decode cX12_seaStands 318 = .ok (.getfield 7, 3) := oc_180 (a := 0) (b := 7) (by decide +kernel)
theorem dX12_seaStands_321 : decode cX12_seaStands 321 = .ok (.iload 6, 2) := oc_21 (by decide +kernel)
theorem dX12_seaStands_323 : decode cX12_seaStands 323 = .ok (.bipush 10, 2) := oc_16 (a := 10) (by decide +kernel)
theorem dX12_seaStands_325 : decode cX12_seaStands 325 = .ok (.iadd, 1) := oc_96 (by decide +kernel)
theorem dX12_seaStands_326 : decode cX12_seaStands 326 = .ok (.aload_n 0, 1) := oc_42 (by decide +kernel)
theorem dX12_seaStands_327 : decode cX12_seaStands 327 = .ok (.getfield 7, 3) := oc_180 (a := 0) (b := 7) (by decide +kernel)
theorem dX12_seaStands_330 : decode cX12_seaStands 330 = .ok (.iload 6, 2) := oc_21 (by decide +kernel)
theorem dX12_seaStands_332 : decode cX12_seaStands 332 = .ok (.bipush 10, 2) := oc_16 (a := 10) (by decide +kernel)
theorem dX12_seaStands_334 : decode cX12_seaStands 334 = .ok (.iadd, 1) := oc_96 (by decide +kernel)
theorem dX12_seaStands_335 : decode cX12_seaStands 335 = .ok (.iaload, 1) := oc_46 (by decide +kernel)
theorem dX12_seaStands_336 : decode cX12_seaStands 336 = .ok (.bipush 90, 2) := oc_16 (a := 90) (by decide +kernel)
theorem dX12_seaStands_359 : decode cX12_seaStands 359 = .ok (.iastore, 1) := oc_79 (by decide +kernel)
theorem dX12_seaStands_338 : decode cX12_seaStands 338 = .ok (.if_icmp .le 8, 3) := oc_164 (a := 0) (b := 8) (by decide +kernel)
theorem dX12_seaStands_346 : decode cX12_seaStands 346 = .ok (.aload_n 0, 1) := oc_42 (by decide +kernel)
theorem dX12_seaStands_347 : decode cX12_seaStands 347 = .ok (.getfield 7, 3) := oc_180 (a := 0) (b := 7) (by decide +kernel)
theorem dX12_seaStands_350 : decode cX12_seaStands 350 = .ok (.iload 6, 2) := oc_21 (by decide +kernel)
theorem dX12_seaStands_352 : decode cX12_seaStands 352 = .ok (.bipush 10, 2) := oc_16 (a := 10) (by decide +kernel)
theorem dX12_seaStands_354 : decode cX12_seaStands 354 = .ok (.iadd, 1) := oc_96 (by decide +kernel)
theorem dX12_seaStands_355 : decode cX12_seaStands 355 = .ok (.iaload, 1) := oc_46 (by decide +kernel)
theorem dX12_seaStands_356 : decode cX12_seaStands 356 = .ok (.bipush 10, 2) := oc_16 (a := 10) (by decide +kernel)
theorem dX12_seaStands_358 : decode cX12_seaStands 358 = .ok (.iadd, 1) := oc_96 (by decide +kernel)
theorem dX12_seaStands_341 : decode cX12_seaStands 341 = .ok (.bipush 100, 2) := oc_16 (a := 100) (by decide +kernel)
theorem dX12_seaStands_343 : decode cX12_seaStands 343 = .ok (.goto 16, 3) := oc_167 (a := 0) (b := 16) (by decide +kernel)
theorem dX12_seaStands_220 : decode cX12_seaStands 220 = .ok (.goto 140, 3) := oc_167 (a := 0) (b := 140) (by decide +kernel)
theorem dX12_seaStands_193 : decode cX12_seaStands 193 = .ok (.ifCond .ne 14, 3) := oc_154 (a := 0) (b := 14) (by decide +kernel)
theorem dX12_seaStands_196 : decode cX12_seaStands 196 = .ok (.aload_n 0, 1) := oc_42 (by decide +kernel)
theorem dX12_seaStands_197 : decode cX12_seaStands 197 = .ok (.getfield 7, 3) := oc_180 (a := 0) (b := 7) (by decide +kernel)
theorem dX12_seaStands_200 : decode cX12_seaStands 200 = .ok (.iload 6, 2) := oc_21 (by decide +kernel)
theorem dX12_seaStands_202 : decode cX12_seaStands 202 = .ok (.bipush 7, 2) := oc_16 (a := 7) (by decide +kernel)
theorem dX12_seaStands_204 : decode cX12_seaStands 204 = .ok (.iadd, 1) := oc_96 (by decide +kernel)
theorem dX12_seaStands_205 : decode cX12_seaStands 205 = .ok (.iconst 0, 1) := oc_3 (by decide +kernel)
theorem dX12_seaStands_206 : decode cX12_seaStands 206 = .ok (.iastore, 1) := oc_79 (by decide +kernel)
theorem dX12_seaStands_169 : decode cX12_seaStands 169 = .ok (.ifCond .eq 22, 3) := oc_153 (a := 0) (b := 22) (by decide +kernel)
theorem dX12_seaStands_150 : decode cX12_seaStands 150 = .ok (.ifCond .eq 17, 3) := oc_153 (a := 0) (b := 17) (by decide +kernel)
theorem dX12_seaStands_128 : decode cX12_seaStands 128 = .ok (.ifCond .eq 7, 3) := oc_153 (a := 0) (b := 7) (by decide +kernel)
theorem dX12_seaStands_135 : decode cX12_seaStands 135 = .ok (.aload_n 0, 1) := oc_42 (by decide +kernel)
theorem dX12_seaStands_136 : decode cX12_seaStands 136 = .ok (.getfield 7, 3) := oc_180 (a := 0) (b := 7) (by decide +kernel)
theorem dX12_seaStands_139 : decode cX12_seaStands 139 = .ok (.iload 6, 2) := oc_21 (by decide +kernel)
theorem dX12_seaStands_141 : decode cX12_seaStands 141 = .ok (.bipush 11, 2) := oc_16 (a := 11) (by decide +kernel)
theorem dX12_seaStands_143 : decode cX12_seaStands 143 = .ok (.iadd, 1) := oc_96 (by decide +kernel)
theorem dX12_seaStands_144 : decode cX12_seaStands 144 = .ok (.iaload, 1) := oc_46 (by decide +kernel)
theorem dX12_seaStands_145 : decode cX12_seaStands 145 = .ok (.iconst 1, 1) := oc_4 (by decide +kernel)
theorem dX12_seaStands_146 : decode cX12_seaStands 146 = .ok (.iadd, 1) := oc_96 (by decide +kernel)
theorem dX12_seaStands_108 : decode cX12_seaStands 108 = .ok (.ifCond .eq 7, 3) := oc_153 (a := 0) (b := 7) (by decide +kernel)
theorem dX12_seaStands_115 : decode cX12_seaStands 115 = .ok (.iconst 0, 1) := oc_3 (by decide +kernel)
theorem dX12_seaStands_88 : decode cX12_seaStands 88 = .ok (.ifCond .eq 7, 3) := oc_153 (a := 0) (b := 7) (by decide +kernel)
theorem dX12_seaStands_95 : decode cX12_seaStands 95 = .ok (.iconst 0, 1) := oc_3 (by decide +kernel)
theorem dX12_seaStands_172 : decode cX12_seaStands 172 = .ok (.iload 5, 2) := oc_21 (by decide +kernel)
theorem dX12_seaStands_174 : decode cX12_seaStands 174 = .ok (.bipush 20, 2) := oc_16 (a := 20) (by decide +kernel)
theorem dX12_seaStands_176 : decode cX12_seaStands 176 = .ok (.if_icmp .lt 15, 3) := oc_161 (a := 0) (b := 15) (by decide +kernel)
theorem dX12_seaStands_179 : decode cX12_seaStands 179 = .ok (.iload 4, 2) := oc_21 (by decide +kernel)
theorem dX12_seaStands_181 : decode cX12_seaStands 181 = .ok (.iconst 1, 1) := oc_4 (by decide +kernel)
theorem dX12_seaStands_182 : decode cX12_seaStands 182 = .ok (.iload 5, 2) := oc_21 (by decide +kernel)
theorem dX12_seaStands_184 : decode cX12_seaStands 184 = .ok (.bipush 20, 2) := oc_16 (a := 20) (by decide +kernel)
theorem dX12_seaStands_186 : decode cX12_seaStands 186 = .ok (.isub, 1) := oc_100 (by decide +kernel)
theorem dX12_seaStands_187 : decode cX12_seaStands 187 = .ok (.ishl, 1) := oc_120 (by decide +kernel)
theorem dX12_seaStands_188 : decode cX12_seaStands 188 = .ok (.ior, 1) := oc_128 (by decide +kernel)
theorem dX12_seaStands_189 : decode cX12_seaStands 189 = .ok (.istore 4, 2) := oc_54 (by decide +kernel)
theorem dX12_seaStands_153 : decode cX12_seaStands 153 = .ok (.iload 5, 2) := oc_21 (by decide +kernel)
theorem dX12_seaStands_155 : decode cX12_seaStands 155 = .ok (.bipush 20, 2) := oc_16 (a := 20) (by decide +kernel)
theorem dX12_seaStands_157 : decode cX12_seaStands 157 = .ok (.if_icmp .ge 10, 3) := oc_162 (a := 0) (b := 10) (by decide +kernel)
theorem dX12_seaStands_160 : decode cX12_seaStands 160 = .ok (.iload_n 3, 1) := oc_29 (by decide +kernel)
theorem dX12_seaStands_161 : decode cX12_seaStands 161 = .ok (.iconst 1, 1) := oc_4 (by decide +kernel)
theorem dX12_seaStands_162 : decode cX12_seaStands 162 = .ok (.iload 5, 2) := oc_21 (by decide +kernel)
theorem dX12_seaStands_164 : decode cX12_seaStands 164 = .ok (.ishl, 1) := oc_120 (by decide +kernel)
theorem dX12_seaStands_165 : decode cX12_seaStands 165 = .ok (.ior, 1) := oc_128 (by decide +kernel)
theorem dX12_seaStands_166 : decode cX12_seaStands 166 = .ok (.istore_n 3, 1) := oc_62 (by decide +kernel)
theorem dX12_seaStands_111 : decode cX12_seaStands 111 = .ok (.iconst 1, 1) := oc_4 (by decide +kernel)
theorem dX12_seaStands_112 : decode cX12_seaStands 112 = .ok (.goto 4, 3) := oc_167 (a := 0) (b := 4) (by decide +kernel)
theorem dX12_seaStands_67 : decode cX12_seaStands 67 = .ok (.if_icmp .le 7, 3) := oc_164 (a := 0) (b := 7) (by decide +kernel)
theorem dX12_seaStands_74 : decode cX12_seaStands 74 = .ok (.iconst 0, 1) := oc_3 (by decide +kernel)
theorem dX12_seaStands_70 : decode cX12_seaStands 70 = .ok (.iconst 1, 1) := oc_4 (by decide +kernel)
theorem dX12_seaStands_71 : decode cX12_seaStands 71 = .ok (.goto 4, 3) := oc_167 (a := 0) (b := 4) (by decide +kernel)
theorem dX12_seaStands_228 : decode cX12_seaStands 228 = .ok (.aload_n 0, 1) := oc_42 (by decide +kernel)
theorem dX12_seaStands_229 : decode cX12_seaStands 229 = .ok (.getfield 7, 3) := oc_180 (a := 0) (b := 7) (by decide +kernel)
theorem dX12_seaStands_232 : decode cX12_seaStands 232 = .ok (.iload 6, 2) := oc_21 (by decide +kernel)
theorem dX12_seaStands_234 : decode cX12_seaStands 234 = .ok (.bipush 9, 2) := oc_16 (a := 9) (by decide +kernel)
theorem dX12_seaStands_236 : decode cX12_seaStands 236 = .ok (.iadd, 1) := oc_96 (by decide +kernel)
theorem dX12_seaStands_237 : decode cX12_seaStands 237 = .ok (.dup2, 1) := oc_92 (by decide +kernel)
theorem dX12_seaStands_238 : decode cX12_seaStands 238 = .ok (.iaload, 1) := oc_46 (by decide +kernel)
theorem dX12_seaStands_239 : decode cX12_seaStands 239 = .ok (.aload_n 0, 1) := oc_42 (by decide +kernel)
theorem dX12_seaStands_240 : decode cX12_seaStands 240 = .ok (.iload_n 1, 1) := oc_27 (by decide +kernel)
theorem dX12_seaStands_241 : decode cX12_seaStands 241 = .ok (.iconst 4, 1) := oc_7 (by decide +kernel)
theorem dX12_seaStands_242 : decode cX12_seaStands 242 = .ok (.invokevirtual 310, 3) := oc_182 (a := 1) (b := 54) (by decide +kernel)
theorem dX12_seaStands_245 : decode cX12_seaStands 245 = .ok (.aload_n 0, 1) := oc_42 (by decide +kernel)
theorem dX12_seaStands_246 : decode cX12_seaStands 246 = .ok (.getfield 7, 3) := oc_180 (a := 0) (b := 7) (by decide +kernel)
theorem dX12_seaStands_249 : decode cX12_seaStands 249 = .ok (.iload 6, 2) := oc_21 (by decide +kernel)
theorem dX12_seaStands_251 : decode cX12_seaStands 251 = .ok (.bipush 8, 2) := oc_16 (a := 8) (by decide +kernel)
theorem dX12_seaStands_253 : decode cX12_seaStands 253 = .ok (.iadd, 1) := oc_96 (by decide +kernel)
theorem dX12_seaStands_254 : decode cX12_seaStands 254 = .ok (.iaload, 1) := oc_46 (by decide +kernel)
theorem dX12_seaStands_255 : decode cX12_seaStands 255 = .ok (.imul, 1) := oc_104 (by decide +kernel)
theorem dX12_seaStands_256 : decode cX12_seaStands 256 = .ok (.iadd, 1) := oc_96 (by decide +kernel)
theorem dX12_seaStands_257 : decode cX12_seaStands 257 = .ok (.iastore, 1) := oc_79 (by decide +kernel)
theorem dX12_seaStands_258 : decode cX12_seaStands 258 = .ok (.aload_n 0, 1) := oc_42 (by decide +kernel)
theorem dX12_seaStands_259 : decode cX12_seaStands 259 = .ok (.getfield 7, 3) := oc_180 (a := 0) (b := 7) (by decide +kernel)
theorem dX12_seaStands_262 : decode cX12_seaStands 262 = .ok (.iload 6, 2) := oc_21 (by decide +kernel)
theorem dX12_seaStands_264 : decode cX12_seaStands 264 = .ok (.bipush 9, 2) := oc_16 (a := 9) (by decide +kernel)
theorem dX12_seaStands_266 : decode cX12_seaStands 266 = .ok (.iadd, 1) := oc_96 (by decide +kernel)
theorem dX12_seaStands_267 : decode cX12_seaStands 267 = .ok (.iaload, 1) := oc_46 (by decide +kernel)
theorem dX12_seaStands_268 : decode cX12_seaStands 268 = .ok (.sipush 10000, 3) := oc_17 (a := 39) (b := 16) (by decide +kernel)
theorem dX12_seaStands_287 : decode cX12_seaStands 287 = .ok (.aload_n 0, 1) := oc_42 (by decide +kernel)
theorem dX12_seaStands_288 : decode cX12_seaStands 288 = .ok (.getfield 7, 3) := oc_180 (a := 0) (b := 7) (by decide +kernel)
theorem dX12_seaStands_291 : decode cX12_seaStands 291 = .ok (.iload 6, 2) := oc_21 (by decide +kernel)
theorem dX12_seaStands_293 : decode cX12_seaStands 293 = .ok (.bipush 10, 2) := oc_16 (a := 10) (by decide +kernel)
theorem dX12_seaStands_295 : decode cX12_seaStands 295 = .ok (.iadd, 1) := oc_96 (by decide +kernel)
theorem dX12_seaStands_296 : decode cX12_seaStands 296 = .ok (.iaload, 1) := oc_46 (by decide +kernel)
theorem dX12_seaStands_297 : decode cX12_seaStands 297 = .ok (.ifCond .le 63, 3) := oc_158 (a := 0) (b := 63) (by decide +kernel)
theorem dX12_seaStands_300 : decode cX12_seaStands 300 = .ok (.aload_n 0, 1) := oc_42 (by decide +kernel)
theorem dX12_seaStands_301 : decode cX12_seaStands 301 = .ok (.getfield 7, 3) := oc_180 (a := 0) (b := 7) (by decide +kernel)
theorem dX12_seaStands_304 : decode cX12_seaStands 304 = .ok (.iload 6, 2) := oc_21 (by decide +kernel)
theorem dX12_seaStands_306 : decode cX12_seaStands 306 = .ok (.bipush 10, 2) := oc_16 (a := 10) (by decide +kernel)
theorem dX12_seaStands_308 : decode cX12_seaStands 308 = .ok (.iadd, 1) := oc_96 (by decide +kernel)
theorem dX12_seaStands_309 : decode cX12_seaStands 309 = .ok (.dup2, 1) := oc_92 (by decide +kernel)
theorem dX12_seaStands_310 : decode cX12_seaStands 310 = .ok (.iaload, 1) := oc_46 (by decide +kernel)
theorem dX12_seaStands_311 : decode cX12_seaStands 311 = .ok (.iconst 1, 1) := oc_4 (by decide +kernel)
theorem dX12_seaStands_312 : decode cX12_seaStands 312 = .ok (.isub, 1) := oc_100 (by decide +kernel)
theorem dX12_seaStands_313 : decode cX12_seaStands 313 = .ok (.iastore, 1) := oc_79 (by decide +kernel)
theorem dX12_seaStands_314 : decode cX12_seaStands 314 = .ok (.goto 46, 3) := oc_167 (a := 0) (b := 46) (by decide +kernel)
theorem dX12_seaStands_271 : decode cX12_seaStands 271 = .ok (.if_icmp .le 16, 3) := oc_164 (a := 0) (b := 16) (by decide +kernel)
theorem dX12_seaStands_274 : decode cX12_seaStands 274 = .ok (.aload_n 0, 1) := oc_42 (by decide +kernel)
theorem dX12_seaStands_275 : decode cX12_seaStands 275 = .ok (.getfield 7, 3) := oc_180 (a := 0) (b := 7) (by decide +kernel)
theorem dX12_seaStands_278 : decode cX12_seaStands 278 = .ok (.iload 6, 2) := oc_21 (by decide +kernel)
theorem dX12_seaStands_280 : decode cX12_seaStands 280 = .ok (.bipush 9, 2) := oc_16 (a := 9) (by decide +kernel)
theorem dX12_seaStands_282 : decode cX12_seaStands 282 = .ok (.iadd, 1) := oc_96 (by decide +kernel)
theorem dX12_seaStands_283 : decode cX12_seaStands 283 = .ok (.sipush 10000, 3) := oc_17 (a := 39) (b := 16) (by decide +kernel)
theorem dX12_seaStands_286 : decode cX12_seaStands 286 = .ok (.iastore, 1) := oc_79 (by decide +kernel)
theorem dX12_seaStands_131 : decode cX12_seaStands 131 = .ok (.iconst 0, 1) := oc_3 (by decide +kernel)
theorem dX12_seaStands_132 : decode cX12_seaStands 132 = .ok (.goto 15, 3) := oc_167 (a := 0) (b := 15) (by decide +kernel)
theorem dX12_seaStands_91 : decode cX12_seaStands 91 = .ok (.iconst 1, 1) := oc_4 (by decide +kernel)
theorem dX12_seaStands_92 : decode cX12_seaStands 92 = .ok (.goto 4, 3) := oc_167 (a := 0) (b := 4) (by decide +kernel)
theorem dX12_seaStands_43 : decode cX12_seaStands 43 = .ok (.if_icmp .le 7, 3) := oc_164 (a := 0) (b := 7) (by decide +kernel)
theorem dX12_seaStands_50 : decode cX12_seaStands 50 = .ok (.iconst 0, 1) := oc_3 (by decide +kernel)
theorem dX12_seaStands_46 : decode cX12_seaStands 46 = .ok (.iconst 1, 1) := oc_4 (by decide +kernel)
theorem dX12_seaStands_47 : decode cX12_seaStands 47 = .ok (.goto 4, 3) := oc_167 (a := 0) (b := 4) (by decide +kernel)
set_option maxHeartbeats 4000000 in
set_option maxRecDepth 100000 in
theorem s_X12_topOf (l : Launch) (D : va_G) (t : pq_T) (σ : pq_S) (I : Nat → Nat → Int32) (J : Nat → Nat → Int64) (ri : Nat → Nat → Int32) (rj : Nat → Nat → Int64) (rq : Nat → Nat → Option Nat) (sz : Nat) (tg : Nat → Nat) (hSH : SH σ tg) (hG0 : GT tg I ri) (this : Nat) (a0 : Int32) (hL_this : this ∈ σ.1) (hK_this : σ.2.1 this = 12) (h_a0 : rg a0 0 39) : MetI l yX12_topOf (wa yX12_topOf cX12_topOf 2 (some .int)) ({ frames := 1, cells := 0, slots := 0, locals := 22 }) [.ref this, .int a0] D t σ (I, J, ri, rj, rq) sz 0 0 (fun (r : Int32) (u : pq_S × pq_M) => u = (σ, I, J, ri, rj, rq)) := by
  refine Met.ofW (cc := cX12_topOf) (maxL := 2) (ret := (some .int)) (by decide) rfl ?_
  intro p e s m args below meth c s₁ B hml hv
  obtain ⟨rfl, hsz, hP, hK, hD0, hN⟩ := hv
  have hx := B.exec
  have hb := B.bytes
  have hr := B.returns
  have hts := atoms_spec (ws := (wa yX12_topOf cX12_topOf 2 (some .int))) B.pre
  have hown : s.vm.findClass RX12 = some m.cls := findClass_of_methodNamed B.named
  have hlocks := B.notSynchronized
  subst hsz
  have hD : va_D (pq_B t σ (I, J, ri, rj, rq) s.heap.size) (pq_P t σ (I, J, ri, rj, rq)) := hD0.self
  generalize hAe : pq_B t σ (I, J, ri, rj, rq) s.heap.size = A at hD ⊢
  have hA : ∀ q : Nat, s.heap.size ≤ q → A q := fun q h => by rw [← hAe]; exact Or.inr h
  have hS : va_S A s.heap s.heap [] := va_S.rf
  have hG : GM [] tg σ I ri I ri rq := ⟨hG0, fun _ _ _ => rfl, fun _ _ _ _ _ => rfl, fun _ _ _ _ _ _ => rfl⟩
  have hl := lv_entry ([.ref this, .int a0]) (n := 2) (Nat.le_of_ble_eq_true rfl)
  rw [lg_entry_eq]
  generalize (lg_sl ([.ref this, .int a0]) ++ List.replicate (2 - (lg_sl ([.ref this, .int a0])).length) Slot.unset).toArray = ls at hl ⊢
  have hl : lv_has ls 2 [(0, .ref this), (1, .int a0)] := hl
  refine q_gen (fun Q hQ => ?_)
  have go : ∀ (H : Heap) (locs : List Loc) (ls : Array Slot), va_P D vwCl (pq_P t σ (I, J, ri, rj, rq)) H → va_D A (pq_P t σ (I, J, ri, rj, rq)) → va_S A s.heap H locs → lv_has ls 2 [(0, .ref this), (1, .int a0)] → W p l e ({ frames := 1, cells := 0, slots := 0, locals := 22 } : Room) s m (List.toArray ([.ref this, .int a0] : List Value)) below meth c H locs 0 0 Q (F0 m 0 ls []) := by
    intro H locs ls hP hD hS hl
    refine lv_aload_n hx hb dX12_topOf_0 rfl (lv_at hl 0 rfl) ?_
    refine lv_iload_n hx hb dX12_topOf_1 rfl (lv_at hl 1 rfl) ?_
    refine lv_iconst (v := 1) hx hb dX12_topOf_2 (by decide) ?_
    refine pk_i (va_runV (As := [.int a0, .int 1]) (rest := []) ⟨hx, hb, hml, hown, hts⟩ (s_X12_cellAt_c1 l D t σ I J ri rj rq H.size tg hSH hG.1 this a0 hL_this hK_this (rg_w h_a0 (by decide))) (cwV 2 hts (tw_V tw_361 tw_362 tw_363 tw_5 tw_364) rfl rfl rfl cv_yX12_cellAt_2 ⟨Nat.le_of_ble_eq_true rfl, Nat.le_of_ble_eq_true rfl⟩) ⟨pq_blind, pq_recv hK hP hL_this hK_this (by decide) rfl, pq_pre hK hN hP hD⟩ rfl rfl hl.1 rfl (lv_room (Nat.le_of_ble_eq_true rfl)) dX12_topOf_3 ⟨Nat.le_of_ble_eq_true rfl, Nat.le_of_ble_eq_true rfl⟩) hD hS hA (fun x_1 σ1 μ1 H locs hw_2 hP hD hS => ?_)
    have hu_3 := hw_2
    obtain ⟨hu_3a, hu_3b⟩ := Prod.mk.inj hu_3
    rw [hu_3a, hu_3b] at hP hD
    refine lv_aload_n hx hb dX12_topOf_6 rfl (lv_at hl 0 rfl) ?_
    refine lv_iload_n hx hb dX12_topOf_7 rfl (lv_at hl 1 rfl) ?_
    refine lv_iconst (v := 4) hx hb dX12_topOf_8 (by decide) ?_
    refine pk_i (va_runV (As := [.int a0, .int 4]) (rest := [.int x_1]) ⟨hx, hb, hml, hown, hts⟩ (s_X12_cellAt_c4 l D t σ I J ri rj rq H.size tg hSH hG.1 this a0 hL_this hK_this (rg_w h_a0 (by decide))) (cwV 2 hts (tw_V tw_361 tw_362 tw_363 tw_5 tw_364) rfl rfl rfl cv_yX12_cellAt_2 ⟨Nat.le_of_ble_eq_true rfl, Nat.le_of_ble_eq_true rfl⟩) ⟨pq_blind, pq_recv hK hP hL_this hK_this (by decide) rfl, pq_pre hK hN hP hD⟩ rfl rfl hl.1 rfl (lv_room (Nat.le_of_ble_eq_true rfl)) dX12_topOf_9 ⟨Nat.le_of_ble_eq_true rfl, Nat.le_of_ble_eq_true rfl⟩) hD hS hA (fun x_6 σ1 μ1 H locs hw_7 hP hD hS => ?_)
    have hu_8 := hw_7
    obtain ⟨hu_8a, hu_8b⟩ := Prod.mk.inj hu_8
    rw [hu_8a, hu_8b] at hP hD
    refine lv_iadd hx hb dX12_topOf_12 ?_
    refine lv_topi (fun x_11 ex_11 => ?_)
    refine lv_aload_n hx hb dX12_topOf_13 rfl (lv_at hl 0 rfl) ?_
    refine lv_iload_n hx hb dX12_topOf_14 rfl (lv_at hl 1 rfl) ?_
    refine lv_iconst (v := 5) hx hb dX12_topOf_15 (by decide) ?_
    refine pk_i (va_runV (As := [.int a0, .int 5]) (rest := [.int x_11]) ⟨hx, hb, hml, hown, hts⟩ (s_X12_cellAt_c5 l D t σ I J ri rj rq H.size tg hSH hG.1 this a0 hL_this hK_this (rg_w h_a0 (by decide))) (cwV 2 hts (tw_V tw_361 tw_362 tw_363 tw_5 tw_364) rfl rfl rfl cv_yX12_cellAt_2 ⟨Nat.le_of_ble_eq_true rfl, Nat.le_of_ble_eq_true rfl⟩) ⟨pq_blind, pq_recv hK hP hL_this hK_this (by decide) rfl, pq_pre hK hN hP hD⟩ rfl rfl hl.1 rfl (lv_room (Nat.le_of_ble_eq_true rfl)) dX12_topOf_16 ⟨Nat.le_of_ble_eq_true rfl, Nat.le_of_ble_eq_true rfl⟩) hD hS hA (fun x_12 σ1 μ1 H locs hw_13 hP hD hS => ?_)
    have hu_14 := hw_13
    obtain ⟨hu_14a, hu_14b⟩ := Prod.mk.inj hu_14
    rw [hu_14a, hu_14b] at hP hD
    refine lv_iconst (v := 4) hx hb dX12_topOf_19 (by decide) ?_
    refine lv_idiv hx hb dX12_topOf_20 (by decide) ?_
    refine lv_topi (fun x_17 ex_17 => ?_)
    refine lv_iadd hx hb dX12_topOf_21 ?_
    refine lv_topi (fun x_18 ex_18 => ?_)
    refine lv_aload_n hx hb dX12_topOf_22 rfl (lv_at hl 0 rfl) ?_
    refine lv_iload_n hx hb dX12_topOf_23 rfl (lv_at hl 1 rfl) ?_
    refine lv_bipush (v := 6) hx hb dX12_topOf_24 (by decide) ?_
    refine pk_i (va_runV (As := [.int a0, .int 6]) (rest := [.int x_18]) ⟨hx, hb, hml, hown, hts⟩ (s_X12_cellAt_c6 l D t σ I J ri rj rq H.size tg hSH hG.1 this a0 hL_this hK_this (rg_w h_a0 (by decide))) (cwV 2 hts (tw_V tw_361 tw_362 tw_363 tw_5 tw_364) rfl rfl rfl cv_yX12_cellAt_2 ⟨Nat.le_of_ble_eq_true rfl, Nat.le_of_ble_eq_true rfl⟩) ⟨pq_blind, pq_recv hK hP hL_this hK_this (by decide) rfl, pq_pre hK hN hP hD⟩ rfl rfl hl.1 rfl (lv_room (Nat.le_of_ble_eq_true rfl)) dX12_topOf_26 ⟨Nat.le_of_ble_eq_true rfl, Nat.le_of_ble_eq_true rfl⟩) hD hS hA (fun x_19 σ1 μ1 H locs hw_20 hP hD hS => ?_)
    have hu_21 := hw_20
    obtain ⟨hu_21a, hu_21b⟩ := Prod.mk.inj hu_21
    rw [hu_21a, hu_21b] at hP hD
    refine lv_iadd hx hb dX12_topOf_29 ?_
    refine lv_topi (fun x_24 ex_24 => ?_)
    subst hQ
    exact W.iret (v := x_24) hx hb hr (fun t1 ht hW => ⟨⟨x_24, (σ, I, J, ri, rj, rq), rfl, rfl, by rw [ht]; exact hP, va_K.moved hW.alike hK, hD⟩, hS.F ht⟩) hS.2.2 dX12_topOf_30
  exact go _ _ _ hP hD hS hl

set_option maxHeartbeats 4000000 in
set_option maxRecDepth 100000 in
theorem s_X12_tableAt_c2 (l : Launch) (D : va_G) (t : pq_T) (σ : pq_S) (I : Nat → Nat → Int32) (J : Nat → Nat → Int64) (ri : Nat → Nat → Int32) (rj : Nat → Nat → Int64) (rq : Nat → Nat → Option Nat) (sz : Nat) (tg : Nat → Nat) (hSH : SH σ tg) (hG0 : GT tg I ri) (this : Nat) (a0 : Int32) (hL_this : this ∈ σ.1) (hK_this : σ.2.1 this = 12) (h_a0 : rg a0 0 600) : MetI l yX12_tableAt (wa yX12_tableAt cX12_tableAt 3 (some .int)) ({ frames := 0, cells := 0, slots := 0, locals := 0 }) [.ref this, .int a0, .int 2] D t σ (I, J, ri, rj, rq) sz 0 0 (fun (r : Int32) (u : pq_S × pq_M) => u = (σ, I, J, ri, rj, rq)) := by
  refine Met.ofW (cc := cX12_tableAt) (maxL := 3) (ret := (some .int)) (by decide) rfl ?_
  intro p e s m args below meth c s₁ B hml hv
  obtain ⟨rfl, hsz, hP, hK, hD0, hN⟩ := hv
  have hx := B.exec
  have hb := B.bytes
  have hr := B.returns
  have hts := atoms_spec (ws := (wa yX12_tableAt cX12_tableAt 3 (some .int))) B.pre
  have hown : s.vm.findClass RX12 = some m.cls := findClass_of_methodNamed B.named
  have hlocks := B.notSynchronized
  subst hsz
  have hD : va_D (pq_B t σ (I, J, ri, rj, rq) s.heap.size) (pq_P t σ (I, J, ri, rj, rq)) := hD0.self
  generalize hAe : pq_B t σ (I, J, ri, rj, rq) s.heap.size = A at hD ⊢
  have hA : ∀ q : Nat, s.heap.size ≤ q → A q := fun q h => by rw [← hAe]; exact Or.inr h
  have hS : va_S A s.heap s.heap [] := va_S.rf
  have hG : GM [] tg σ I ri I ri rq := ⟨hG0, fun _ _ _ => rfl, fun _ _ _ _ _ => rfl, fun _ _ _ _ _ _ => rfl⟩
  have hl := lv_entry ([.ref this, .int a0, .int 2]) (n := 3) (Nat.le_of_ble_eq_true rfl)
  rw [lg_entry_eq]
  generalize (lg_sl ([.ref this, .int a0, .int 2]) ++ List.replicate (3 - (lg_sl ([.ref this, .int a0, .int 2])).length) Slot.unset).toArray = ls at hl ⊢
  have hl : lv_has ls 3 [(0, .ref this), (1, .int a0), (2, .int 2)] := hl
  refine q_gen (fun Q hQ => ?_)
  have go : ∀ (H : Heap) (locs : List Loc) (ls : Array Slot), va_P D vwCl (pq_P t σ (I, J, ri, rj, rq)) H → va_D A (pq_P t σ (I, J, ri, rj, rq)) → va_S A s.heap H locs → lv_has ls 3 [(0, .ref this), (1, .int a0), (2, .int 2)] → W p l e ({ frames := 0, cells := 0, slots := 0, locals := 0 } : Room) s m (List.toArray ([.ref this, .int a0, .int 2] : List Value)) below meth c H locs 0 0 Q (F0 m 0 ls []) := by
    intro H locs ls hP hD hS hl
    refine lv_aload_n hx hb dX12_tableAt_0 rfl (lv_at hl 0 rfl) ?_
    obtain ⟨w_1, hR_w_1, hL_w_1, hK_w_1, hN_w_1, hT_w_1⟩ := sh_a hSH 384 (ci := 12) (kd := 13) (len := 12720) rfl (by decide) hL_this hK_this
    refine pg_f (v := .ref w_1) (C := RX12) (T := TX12) (N := 31) hx hb hts (tw_i inlX12) hown hK hP hL_this hK_this (by decide) rfl 0 (by decide) (hts _ (tw_c tw_176)) (pq_hv rfl hR_w_1) dX12_tableAt_1 ?_
    refine lv_bipush (v := 20) hx hb dX12_tableAt_4 (by decide) ?_
    refine lv_iconst (v := 5) hx hb dX12_tableAt_6 (by decide) ?_
    refine lv_iload_n hx hb dX12_tableAt_7 rfl (lv_at hl 1 rfl) ?_
    refine lv_bipush (v := 12) hx hb dX12_tableAt_8 (by decide) ?_
    refine lv_irem hx hb dX12_tableAt_10 (by decide) ?_
    refine lv_topi (fun x_2 ex_2 => ?_)
    have h_3 : rg x_2 0 11 := rg_of_eq ex_2 (rg_rem h_a0 rfl (by decide))
    have uh_3 := h_3.1
    have vh_3 := h_3.2
    refine lv_imul hx hb dX12_tableAt_11 ?_
    refine lv_topi (fun x_4 ex_4 => ?_)
    have h_5 : rg x_4 0 55 := rg_of_eq ex_4 (rg_mul (rg_k (5 : Int32) 5 rfl) h_3 (by decide))
    have uh_5 := h_5.1
    have vh_5 := h_5.2
    have tx_4 : (x_4).toInt = 5 * (x_2).toInt := by rw [ex_4]; exact i_mul_rg (a2 := 5) (b2 := (x_2).toInt) rfl rfl (rg_k (5 : Int32) 5 rfl) h_3 (by decide)
    refine lv_iadd hx hb dX12_tableAt_12 ?_
    refine lv_topi (fun x_6 ex_6 => ?_)
    have h_7 : rg x_6 20 75 := rg_of_eq ex_6 (rg_add (rg_k (20 : Int32) 20 rfl) h_5 (by decide))
    have uh_7 := h_7.1
    have vh_7 := h_7.2
    have tx_6 : (x_6).toInt = 20 + (x_4).toInt := by rw [ex_6]; exact i_add_rg (a2 := 20) (b2 := (x_4).toInt) rfl rfl (rg_k (20 : Int32) 20 rfl) h_5 (by decide)
    refine lv_iload_n hx hb dX12_tableAt_13 rfl (lv_at hl 2 rfl) ?_
    refine lv_iadd hx hb dX12_tableAt_14 ?_
    refine lv_topi (fun x_8 ex_8 => ?_)
    have h_9 : rg x_8 22 77 := rg_of_eq ex_8 (rg_add h_7 (rg_k (2 : Int32) 2 rfl) (by decide))
    have uh_9 := h_9.1
    have vh_9 := h_9.2
    have tx_8 : (x_8).toInt = (x_6).toInt + 2 := by rw [ex_8]; exact i_add_rg (a2 := (x_6).toInt) (b2 := 2) rfl rfl h_7 (rg_k (2 : Int32) 2 rfl) (by decide)
    refine pl_i hx hb hK hP hL_w_1 hK_w_1 hN_w_1 (rg_in h_9 (by decide)) dX12_tableAt_15 ?_
    refine lv_topi (fun x_10 ex_10 => ?_)
    subst hQ
    exact W.iret (v := x_10) hx hb hr (fun t1 ht hW => ⟨⟨x_10, (σ, I, J, ri, rj, rq), rfl, rfl, by rw [ht]; exact hP, va_K.moved hW.alike hK, hD⟩, hS.F ht⟩) hS.2.2 dX12_tableAt_16
  exact go _ _ _ hP hD hS hl

set_option maxHeartbeats 4000000 in
set_option maxRecDepth 100000 in
theorem s_X12_reefGoes (l : Launch) (D : va_G) (t : pq_T) (σ : pq_S) (I : Nat → Nat → Int32) (J : Nat → Nat → Int64) (ri : Nat → Nat → Int32) (rj : Nat → Nat → Int64) (rq : Nat → Nat → Option Nat) (sz : Nat) (tg : Nat → Nat) (hSH : SH σ tg) (hG0 : GT tg I ri) (this : Nat) (a0 : Int32) (hL_this : this ∈ σ.1) (hK_this : σ.2.1 this = 12) (h_a0 : rg a0 0 599) : MetV l yX12_reefGoes (wa yX12_reefGoes cX12_reefGoes 4 none) ({ frames := 1, cells := 0, slots := 0, locals := 22 }) [.ref this, .int a0] D t σ (I, J, ri, rj, rq) sz 0 0 (fun (u : pq_S × pq_M) => ∃ ri' : Nat → Nat → Int32, u = (σ, I, J, ri', rj, rq) ∧ GM [1305] tg σ I ri I ri' rq) := by
  refine Met.ofW (cc := cX12_reefGoes) (maxL := 4) (ret := none) (by decide) rfl ?_
  intro p e s m args below meth c s₁ B hml hv
  obtain ⟨rfl, hsz, hP, hK, hD0, hN⟩ := hv
  have hx := B.exec
  have hb := B.bytes
  have hr := B.returns
  have hts := atoms_spec (ws := (wa yX12_reefGoes cX12_reefGoes 4 none)) B.pre
  have hown : s.vm.findClass RX12 = some m.cls := findClass_of_methodNamed B.named
  have hlocks := B.notSynchronized
  subst hsz
  have hD : va_D (pq_B t σ (I, J, ri, rj, rq) s.heap.size) (pq_P t σ (I, J, ri, rj, rq)) := hD0.self
  generalize hAe : pq_B t σ (I, J, ri, rj, rq) s.heap.size = A at hD ⊢
  have hA : ∀ q : Nat, s.heap.size ≤ q → A q := fun q h => by rw [← hAe]; exact Or.inr h
  have hS : va_S A s.heap s.heap [] := va_S.rf
  have hG : GM [1305] tg σ I ri I ri rq := ⟨hG0, fun _ _ _ => rfl, fun _ _ _ _ _ => rfl, fun _ _ _ _ _ _ => rfl⟩
  have hl := lv_entry ([.ref this, .int a0]) (n := 4) (Nat.le_of_ble_eq_true rfl)
  rw [lg_entry_eq]
  generalize (lg_sl ([.ref this, .int a0]) ++ List.replicate (4 - (lg_sl ([.ref this, .int a0])).length) Slot.unset).toArray = ls at hl ⊢
  have hl : lv_has ls 4 [(0, .ref this), (1, .int a0)] := hl
  refine q_gen (fun Q hQ => ?_)
  have go : ∀ (H : Heap) (locs : List Loc) (ls : Array Slot), va_P D vwCl (pq_P t σ (I, J, ri, rj, rq)) H → va_D A (pq_P t σ (I, J, ri, rj, rq)) → va_S A s.heap H locs → lv_has ls 4 [(0, .ref this), (1, .int a0)] → W p l e ({ frames := 1, cells := 0, slots := 0, locals := 22 } : Room) s m (List.toArray ([.ref this, .int a0] : List Value)) below meth c H locs 0 0 Q (F0 m 0 ls []) := by
    intro H locs ls hP hD hS hl
    refine lv_iconst (v := 0) hx hb dX12_reefGoes_0 (by decide) ?_
    refine lv_istore_n (lv' := [(2, .int 0), (0, .ref this), (1, .int a0)]) hx hb dX12_reefGoes_1 rfl hl (by decide) rfl (fun ls hl => ?_)
    have L_670 : ∀ (n_669 : Nat) (x_616 : Int32) (ri_617 : Nat → Nat → Int32) (H : Heap) (locs : List Loc) (ls : Array Slot), rg x_616 0 40 → (40 - (x_616).toInt).toNat < n_669 → GM [1305] tg σ I ri I ri_617 rq → va_P D vwCl (pq_P t σ (I, J, ri_617, rj, rq)) H → va_D A (pq_P t σ (I, J, ri_617, rj, rq)) → va_S A s.heap H locs → lv_has ls 4 [(0, .ref this), (1, .int a0), (2, .int x_616)] → W p l e ({ frames := 1, cells := 0, slots := 0, locals := 22 } : Room) s m (List.toArray ([.ref this, .int a0] : List Value)) below meth c H locs 0 0 Q (F0 m 2 ls []) := by
      intro n_669
      induction n_669 with
      | zero => intro x_616 ri_617 H locs ls h_673 hm_668 hG hP hD hS hl; exact absurd hm_668 (Nat.not_lt_zero _)
      | succ n_669 ih_671 =>
        intro x_616 ri_617 H locs ls h_673 hm_668 hG hP hD hS hl
        have uh_673 := h_673.1
        have vh_673 := h_673.2
        refine lv_iload_n hx hb dX12_reefGoes_2 rfl (lv_at hl 2 rfl) ?_
        refine lv_aload_n hx hb dX12_reefGoes_3 rfl (lv_at hl 0 rfl) ?_
        obtain ⟨w_674, hR_w_674, hL_w_674, hK_w_674, hN_w_674, hT_w_674⟩ := sh_a hSH 384 (ci := 12) (kd := 13) (len := 12720) rfl (by decide) hL_this hK_this
        refine pg_f (v := .ref w_674) (C := RX12) (T := TX12) (N := 31) hx hb hts (tw_i inlX12) hown hK hP hL_this hK_this (by decide) rfl 0 (by decide) (hts _ (tw_c tw_176)) (pq_hv rfl hR_w_674) dX12_reefGoes_4 ?_
        refine lv_iconst (v := 2) hx hb dX12_reefGoes_7 (by decide) ?_
        refine pl_i hx hb hK hP hL_w_674 hK_w_674 hN_w_674 (vp_in_iff.mpr (by decide)) dX12_reefGoes_8 ?_
        refine lv_tov (ri w_674 2) (hG.2.2.1 w_674 hT_w_674 2 (by decide) (by decide)) ?_
        have h_675 : rg (ri w_674 2) 0 40 := GM.z0 hG0 (by rw [hT_w_674]; decide) (i := 2) (k := 2) (by decide) rfl
        have uh_675 := h_675.1
        have vh_675 := h_675.2
        refine lv_icmp_ge (tgt := 108) hx hb dX12_reefGoes_9 (by decide) (fun c_676 => ?_) (fun c_676 => ?_)
        · have tc_677 : (ri w_674 2).toInt ≤ (x_616).toInt := Int32.le_iff_toInt_le.mp c_676
          subst hQ
          exact W.vret hx hb hr (fun t1 ht hW => ⟨⟨(σ, I, J, ri_617, rj, rq), rfl, ⟨ri_617, rfl, hG⟩, by rw [ht]; exact hP, va_K.moved hW.alike hK, hD⟩, hS.F ht⟩) hS.2.2 dX12_reefGoes_108
        · have tc_678 : (x_616).toInt < (ri w_674 2).toInt := Int32.lt_iff_toInt_lt.mp (nle c_676)
          have h_679 : rg x_616 0 39 := rg_lt1 (nle c_676) h_673 h_675 (by decide)
          have uh_679 := h_679.1
          have vh_679 := h_679.2
          have h_680 : rg (ri w_674 2) 1 40 := rg_lt2 (nle c_676) h_673 h_675 (by decide)
          have uh_680 := h_680.1
          have vh_680 := h_680.2
          refine lv_bipush (v := 100) hx hb dX12_reefGoes_12 (by decide) ?_
          refine lv_bipush (v := 16) hx hb dX12_reefGoes_14 (by decide) ?_
          refine lv_iload_n hx hb dX12_reefGoes_16 rfl (lv_at hl 2 rfl) ?_
          refine lv_imul hx hb dX12_reefGoes_17 ?_
          refine lv_topi (fun x_681 ex_681 => ?_)
          have h_682 : rg x_681 0 624 := rg_of_eq ex_681 (rg_mul (rg_k (16 : Int32) 16 rfl) h_679 (by decide))
          have uh_682 := h_682.1
          have vh_682 := h_682.2
          have tx_681 : (x_681).toInt = 16 * (x_616).toInt := by rw [ex_681]; exact i_mul_rg (a2 := 16) (b2 := (x_616).toInt) rfl rfl (rg_k (16 : Int32) 16 rfl) h_679 (by decide)
          refine lv_iadd hx hb dX12_reefGoes_18 ?_
          refine lv_topi (fun x_683 ex_683 => ?_)
          have h_684 : rg x_683 100 724 := rg_of_eq ex_683 (rg_add (rg_k (100 : Int32) 100 rfl) h_682 (by decide))
          have uh_684 := h_684.1
          have vh_684 := h_684.2
          have tx_683 : (x_683).toInt = 100 + (x_681).toInt := by rw [ex_683]; exact i_add_rg (a2 := 100) (b2 := (x_681).toInt) rfl rfl (rg_k (100 : Int32) 100 rfl) h_682 (by decide)
          refine lv_iconst (v := 5) hx hb dX12_reefGoes_19 (by decide) ?_
          refine lv_iadd hx hb dX12_reefGoes_20 ?_
          refine lv_topi (fun x_685 ex_685 => ?_)
          have h_686 : rg x_685 105 729 := rg_of_eq ex_685 (rg_add h_684 (rg_k (5 : Int32) 5 rfl) (by decide))
          have uh_686 := h_686.1
          have vh_686 := h_686.2
          have tx_685 : (x_685).toInt = (x_683).toInt + 5 := by rw [ex_685]; exact i_add_rg (a2 := (x_683).toInt) (b2 := 5) rfl rfl h_684 (rg_k (5 : Int32) 5 rfl) (by decide)
          refine lv_istore_n (lv' := [(3, .int x_685), (0, .ref this), (1, .int a0), (2, .int x_616)]) hx hb dX12_reefGoes_21 rfl hl (by decide) rfl (fun ls hl => ?_)
          refine lv_aload_n hx hb dX12_reefGoes_22 rfl (lv_at hl 1 rfl) ?_
          refine pg_f (v := .ref w_674) (C := RX12) (T := TX12) (N := 31) hx hb hts (tw_i inlX12) hown hK hP hL_this hK_this (by decide) rfl 0 (by decide) (hts _ (tw_c tw_176)) (pq_hv rfl hR_w_674) dX12_reefGoes_23 ?_
          refine lv_iload_n hx hb dX12_reefGoes_26 rfl (lv_at hl 0 rfl) ?_
          refine lv_dup2_11 hx hb dX12_reefGoes_27 rfl rfl ?_
          refine pl_i hx hb hK hP hL_w_674 hK_w_674 hN_w_674 (rg_in h_686 (by decide)) dX12_reefGoes_28 ?_
          refine lv_topi (fun x_687 ex_687 => ?_)
          refine lv_aload_n hx hb dX12_reefGoes_29 rfl (lv_at hl 1 rfl) ?_
          refine lv_iload_n hx hb dX12_reefGoes_30 rfl (lv_at hl 2 rfl) ?_
          refine lv_iconst (v := 2) hx hb dX12_reefGoes_31 (by decide) ?_
          refine pk_i (va_runV (As := [.int a0, .int 2]) (rest := [.int x_687, .int x_685, .ref w_674]) ⟨hx, hb, hml, hown, hts⟩ (s_X12_tableAt_c2 l D t σ I J ri_617 rj rq H.size tg hSH hG.1 this a0 hL_this hK_this (rg_w h_a0 (by decide))) (cwV 2 hts (tw_V tw_1201 tw_1202 tw_1203 tw_5 tw_1204) rfl rfl rfl cv_yX12_tableAt_2 ⟨Nat.le_of_ble_eq_true rfl, Nat.le_of_ble_eq_true rfl⟩) ⟨pq_blind, pq_recv hK hP hL_this hK_this (by decide) rfl, pq_pre hK hN hP hD⟩ rfl rfl hl.1 rfl (lv_room (Nat.le_of_ble_eq_true rfl)) dX12_reefGoes_32 ⟨Nat.le_of_ble_eq_true rfl, Nat.le_of_ble_eq_true rfl⟩) hD hS hA (fun x_688 σ1 μ1 H locs hw_689 hP hD hS => ?_)
          have hu_690 := hw_689
          obtain ⟨hu_690a, hu_690b⟩ := Prod.mk.inj hu_690
          rw [hu_690a, hu_690b] at hP hD
          refine lv_aload_n hx hb dX12_reefGoes_35 rfl (lv_at hl 1 rfl) ?_
          refine pg_f (v := .ref w_674) (C := RX12) (T := TX12) (N := 31) hx hb hts (tw_i inlX12) hown hK hP hL_this hK_this (by decide) rfl 0 (by decide) (hts _ (tw_c tw_176)) (pq_hv rfl hR_w_674) dX12_reefGoes_36 ?_
          refine lv_bipush (v := 13) hx hb dX12_reefGoes_39 (by decide) ?_
          refine pl_i hx hb hK hP hL_w_674 hK_w_674 hN_w_674 (vp_in_iff.mpr (by decide)) dX12_reefGoes_41 ?_
          refine lv_topi (fun x_693 ex_693 => ?_)
          have K_723 : ∀  (x_702 : Int32) (H : Heap) (locs : List Loc) (ls : Array Slot), GM [1305] tg σ I ri I ri_617 rq → va_P D vwCl (pq_P t σ (I, J, ri_617, rj, rq)) H → va_D A (pq_P t σ (I, J, ri_617, rj, rq)) → va_S A s.heap H locs → lv_has ls 4 [(0, .ref this), (1, .int a0), (2, .int x_616), (3, .int x_685)] → W p l e ({ frames := 1, cells := 0, slots := 0, locals := 22 } : Room) s m (List.toArray ([.ref this, .int a0] : List Value)) below meth c H locs 0 0 Q (F0 m 63 ls [.int x_702, .int x_687, .int x_685, .ref w_674]) := by
            intro x_702 H locs ls hG hP hD hS hl
            refine lv_iadd hx hb dX12_reefGoes_63 ?_
            refine lv_topi (fun x_724 ex_724 => ?_)
            refine pt_i hx hb hK hP hD hS hL_w_674 hK_w_674 hN_w_674 (rg_in h_686 (by decide)) dX12_reefGoes_64 (fun r_725 H locs er_725 hP hD hS => ?_)
            have hG := GM.wz hG hT_w_674 (by decide) er_725 (zn_CELL (c := x_616.toNatClampNeg) (k := 5) (by have z_i := clampE x_685; have z_0 := clampE x_616; omega) (rg_cl1 h_679 (by decide)) (by decide)) rfl (rg_w (rg_full _) (by decide)) (by decide)
            refine lv_aload_n hx hb dX12_reefGoes_65 rfl (lv_at hl 0 rfl) ?_
            refine pg_f (v := .ref w_674) (C := RX12) (T := TX12) (N := 31) hx hb hts (tw_i inlX12) hown hK hP hL_this hK_this (by decide) rfl 0 (by decide) (hts _ (tw_c tw_176)) (pq_hv rfl hR_w_674) dX12_reefGoes_66 ?_
            refine lv_iload_n hx hb dX12_reefGoes_69 rfl (lv_at hl 3 rfl) ?_
            refine pl_i hx hb hK hP hL_w_674 hK_w_674 hN_w_674 (rg_in h_686 (by decide)) dX12_reefGoes_70 ?_
            refine lv_topi (fun x_726 ex_726 => ?_)
            refine lv_sipush (v := 400) hx hb dX12_reefGoes_71 (by decide) ?_
            have K_744 : ∀  (ri_733 : Nat → Nat → Int32) (H : Heap) (locs : List Loc) (ls : Array Slot), GM [1305] tg σ I ri I ri_733 rq → va_P D vwCl (pq_P t σ (I, J, ri_733, rj, rq)) H → va_D A (pq_P t σ (I, J, ri_733, rj, rq)) → va_S A s.heap H locs → lv_has ls 4 [(0, .ref this), (1, .int a0), (2, .int x_616), (3, .int x_685)] → W p l e ({ frames := 1, cells := 0, slots := 0, locals := 22 } : Room) s m (List.toArray ([.ref this, .int a0] : List Value)) below meth c H locs 0 0 Q (F0 m 86 ls []) := by
              intro ri_733 H locs ls hG hP hD hS hl
              refine lv_aload_n hx hb dX12_reefGoes_86 rfl (lv_at hl 0 rfl) ?_
              refine pg_f (v := .ref w_674) (C := RX12) (T := TX12) (N := 31) hx hb hts (tw_i inlX12) hown hK hP hL_this hK_this (by decide) rfl 0 (by decide) (hts _ (tw_c tw_176)) (pq_hv rfl hR_w_674) dX12_reefGoes_87 ?_
              refine lv_iload_n hx hb dX12_reefGoes_90 rfl (lv_at hl 3 rfl) ?_
              refine pl_i hx hb hK hP hL_w_674 hK_w_674 hN_w_674 (rg_in h_686 (by decide)) dX12_reefGoes_91 ?_
              refine lv_topi (fun x_745 ex_745 => ?_)
              have K_755 : ∀  (ri_752 : Nat → Nat → Int32) (H : Heap) (locs : List Loc) (ls : Array Slot), GM [1305] tg σ I ri I ri_752 rq → va_P D vwCl (pq_P t σ (I, J, ri_752, rj, rq)) H → va_D A (pq_P t σ (I, J, ri_752, rj, rq)) → va_S A s.heap H locs → lv_has ls 4 [(0, .ref this), (1, .int a0), (2, .int x_616)] → W p l e ({ frames := 1, cells := 0, slots := 0, locals := 22 } : Room) s m (List.toArray ([.ref this, .int a0] : List Value)) below meth c H locs 0 0 Q (F0 m 102 ls []) := by
                intro ri_752 H locs ls hG hP hD hS hl
                obtain ⟨x_756, ex_756⟩ : ∃ y : Int32, y = x_616 + Int32.ofInt 1 := ⟨_, rfl⟩
                have h_757 : rg x_756 1 40 := rg_of_eq ex_756 (rg_add h_679 (rg_k (Int32.ofInt 1) 1 rfl) (by decide))
                have uh_757 := h_757.1
                have vh_757 := h_757.2
                have tx_756 : (x_756).toInt = (x_616).toInt + 1 := by rw [ex_756]; exact i_add_rg (a2 := (x_616).toInt) (b2 := 1) rfl rfl h_679 (rg_k (Int32.ofInt 1) 1 rfl) (by decide)
                refine lv_iinc (v := x_756) (lv' := [(2, .int x_756), (0, .ref this), (1, .int a0)]) hx hb dX12_reefGoes_102 hl (k := 2) rfl ex_756.symm (by decide) rfl (fun ls hl => ?_)
                refine lv_goto (tgt := 2) hx hb dX12_reefGoes_105 (by decide) ?_
                exact ih_671 x_756 ri_752 _ _ _ (rg_w h_757 (by decide)) (ms_up 1 hm_668 ex_756 rfl (by decide) h_679 (by decide) (by decide)) hG hP hD hS (lv_sub hl [1, 2, 0] rfl)
              refine lv_if_ge (tgt := 102) hx hb dX12_reefGoes_92 (by decide) (fun c_758 => ?_) (fun c_758 => ?_)
              · have tc_759 : 0 ≤ (x_745).toInt := Int32.le_iff_toInt_le.mp c_758
                have h_760 : rg x_745 0 2147483647 := rg_le2 c_758 (rg_k (0 : Int32) 0 rfl) (rg_full _) (by decide)
                have uh_760 := h_760.1
                have vh_760 := h_760.2
                exact K_755 ri_733 _ _ _ hG hP hD hS (lv_sub hl [0, 1, 2] rfl)
              · have tc_761 : (x_745).toInt < 0 := Int32.lt_iff_toInt_lt.mp (nle c_758)
                have h_762 : rg x_745 (-2147483648) (-1) := rg_lt1 (nle c_758) (rg_full _) (rg_k (0 : Int32) 0 rfl) (by decide)
                have uh_762 := h_762.1
                have vh_762 := h_762.2
                refine lv_aload_n hx hb dX12_reefGoes_95 rfl (lv_at hl 0 rfl) ?_
                refine pg_f (v := .ref w_674) (C := RX12) (T := TX12) (N := 31) hx hb hts (tw_i inlX12) hown hK hP hL_this hK_this (by decide) rfl 0 (by decide) (hts _ (tw_c tw_176)) (pq_hv rfl hR_w_674) dX12_reefGoes_96 ?_
                refine lv_iload_n hx hb dX12_reefGoes_99 rfl (lv_at hl 3 rfl) ?_
                refine lv_iconst (v := 0) hx hb dX12_reefGoes_100 (by decide) ?_
                refine pt_i hx hb hK hP hD hS hL_w_674 hK_w_674 hN_w_674 (rg_in h_686 (by decide)) dX12_reefGoes_101 (fun r_763 H locs er_763 hP hD hS => ?_)
                have hG := GM.wz hG hT_w_674 (by decide) er_763 (zn_CELL (c := x_616.toNatClampNeg) (k := 5) (by have z_i := clampE x_685; have z_0 := clampE x_616; omega) (rg_cl1 h_679 (by decide)) (by decide)) rfl (rg_w (rg_k (0 : Int32) 0 rfl) (by decide)) (by decide)
                exact K_755 r_763 _ _ _ hG hP hD hS (lv_sub hl [0, 1, 2] rfl)
            refine lv_icmp_le (tgt := 86) hx hb dX12_reefGoes_74 (by decide) (fun c_764 => ?_) (fun c_764 => ?_)
            · have tc_765 : (x_726).toInt ≤ 400 := Int32.le_iff_toInt_le.mp c_764
              have h_766 : rg x_726 (-2147483648) 400 := rg_le1 c_764 (rg_full _) (rg_k (400 : Int32) 400 rfl) (by decide)
              have uh_766 := h_766.1
              have vh_766 := h_766.2
              exact K_744 r_725 _ _ _ hG hP hD hS (lv_sub hl [0, 1, 2, 3] rfl)
            · have tc_767 : 400 < (x_726).toInt := Int32.lt_iff_toInt_lt.mp (nle c_764)
              have h_768 : rg x_726 401 2147483647 := rg_lt2 (nle c_764) (rg_k (400 : Int32) 400 rfl) (rg_full _) (by decide)
              have uh_768 := h_768.1
              have vh_768 := h_768.2
              refine lv_aload_n hx hb dX12_reefGoes_77 rfl (lv_at hl 0 rfl) ?_
              refine pg_f (v := .ref w_674) (C := RX12) (T := TX12) (N := 31) hx hb hts (tw_i inlX12) hown hK hP hL_this hK_this (by decide) rfl 0 (by decide) (hts _ (tw_c tw_176)) (pq_hv rfl hR_w_674) dX12_reefGoes_78 ?_
              refine lv_iload_n hx hb dX12_reefGoes_81 rfl (lv_at hl 3 rfl) ?_
              refine lv_sipush (v := 400) hx hb dX12_reefGoes_82 (by decide) ?_
              refine pt_i hx hb hK hP hD hS hL_w_674 hK_w_674 hN_w_674 (rg_in h_686 (by decide)) dX12_reefGoes_85 (fun r_769 H locs er_769 hP hD hS => ?_)
              have hG := GM.wz hG hT_w_674 (by decide) er_769 (zn_CELL (c := x_616.toNatClampNeg) (k := 5) (by have z_i := clampE x_685; have z_0 := clampE x_616; omega) (rg_cl1 h_679 (by decide)) (by decide)) rfl (rg_w (rg_k (400 : Int32) 400 rfl) (by decide)) (by decide)
              exact K_744 r_769 _ _ _ hG hP hD hS (lv_sub hl [0, 1, 2, 3] rfl)
          refine lv_icmp_gt (tgt := 55) hx hb dX12_reefGoes_42 (by decide) (fun c_770 => ?_) (fun c_770 => ?_)
          · have tc_771 : (x_693).toInt < (x_688).toInt := Int32.lt_iff_toInt_lt.mp c_770
            have h_772 : rg x_693 (-2147483648) 2147483646 := rg_lt1 c_770 (rg_full _) (rg_full _) (by decide)
            have uh_772 := h_772.1
            have vh_772 := h_772.2
            have h_773 : rg x_688 (-2147483647) 2147483647 := rg_lt2 c_770 (rg_full _) (rg_full _) (by decide)
            have uh_773 := h_773.1
            have vh_773 := h_773.2
            refine lv_aload_n hx hb dX12_reefGoes_55 rfl (lv_at hl 1 rfl) ?_
            refine pg_f (v := .ref w_674) (C := RX12) (T := TX12) (N := 31) hx hb hts (tw_i inlX12) hown hK hP hL_this hK_this (by decide) rfl 0 (by decide) (hts _ (tw_c tw_176)) (pq_hv rfl hR_w_674) dX12_reefGoes_56 ?_
            refine lv_bipush (v := 15) hx hb dX12_reefGoes_59 (by decide) ?_
            refine pl_i hx hb hK hP hL_w_674 hK_w_674 hN_w_674 (vp_in_iff.mpr (by decide)) dX12_reefGoes_61 ?_
            refine lv_topi (fun x_774 ex_774 => ?_)
            refine lv_ineg hx hb dX12_reefGoes_62 ?_
            refine lv_topi (fun x_775 ex_775 => ?_)
            exact K_723 x_775 _ _ _ hG hP hD hS (lv_sub hl [1, 2, 3, 0] rfl)
          · have tc_776 : (x_688).toInt ≤ (x_693).toInt := Int32.le_iff_toInt_le.mp (nlt c_770)
            refine lv_aload_n hx hb dX12_reefGoes_45 rfl (lv_at hl 1 rfl) ?_
            refine pg_f (v := .ref w_674) (C := RX12) (T := TX12) (N := 31) hx hb hts (tw_i inlX12) hown hK hP hL_this hK_this (by decide) rfl 0 (by decide) (hts _ (tw_c tw_176)) (pq_hv rfl hR_w_674) dX12_reefGoes_46 ?_
            refine lv_bipush (v := 14) hx hb dX12_reefGoes_49 (by decide) ?_
            refine pl_i hx hb hK hP hL_w_674 hK_w_674 hN_w_674 (vp_in_iff.mpr (by decide)) dX12_reefGoes_51 ?_
            refine lv_topi (fun x_777 ex_777 => ?_)
            refine lv_goto (tgt := 63) hx hb dX12_reefGoes_52 (by decide) ?_
            exact K_723 x_777 _ _ _ hG hP hD hS (lv_sub hl [1, 2, 3, 0] rfl)
    exact L_670 _ (0 : Int32) ri _ _ _ (rg_w (rg_k (0 : Int32) 0 rfl) (by decide)) (Nat.lt_succ_self _) hG hP hD hS (lv_sub hl [1, 2, 0] rfl)
  exact go _ _ _ hP hD hS hl

set_option maxHeartbeats 4000000 in
set_option maxRecDepth 100000 in
theorem s_X12_tableAt_c3 (l : Launch) (D : va_G) (t : pq_T) (σ : pq_S) (I : Nat → Nat → Int32) (J : Nat → Nat → Int64) (ri : Nat → Nat → Int32) (rj : Nat → Nat → Int64) (rq : Nat → Nat → Option Nat) (sz : Nat) (tg : Nat → Nat) (hSH : SH σ tg) (hG0 : GT tg I ri) (this : Nat) (a0 : Int32) (hL_this : this ∈ σ.1) (hK_this : σ.2.1 this = 12) (h_a0 : rg a0 0 600) : MetI l yX12_tableAt (wa yX12_tableAt cX12_tableAt 3 (some .int)) ({ frames := 0, cells := 0, slots := 0, locals := 0 }) [.ref this, .int a0, .int 3] D t σ (I, J, ri, rj, rq) sz 0 0 (fun (r : Int32) (u : pq_S × pq_M) => u = (σ, I, J, ri, rj, rq)) := by
  refine Met.ofW (cc := cX12_tableAt) (maxL := 3) (ret := (some .int)) (by decide) rfl ?_
  intro p e s m args below meth c s₁ B hml hv
  obtain ⟨rfl, hsz, hP, hK, hD0, hN⟩ := hv
  have hx := B.exec
  have hb := B.bytes
  have hr := B.returns
  have hts := atoms_spec (ws := (wa yX12_tableAt cX12_tableAt 3 (some .int))) B.pre
  have hown : s.vm.findClass RX12 = some m.cls := findClass_of_methodNamed B.named
  have hlocks := B.notSynchronized
  subst hsz
  have hD : va_D (pq_B t σ (I, J, ri, rj, rq) s.heap.size) (pq_P t σ (I, J, ri, rj, rq)) := hD0.self
  generalize hAe : pq_B t σ (I, J, ri, rj, rq) s.heap.size = A at hD ⊢
  have hA : ∀ q : Nat, s.heap.size ≤ q → A q := fun q h => by rw [← hAe]; exact Or.inr h
  have hS : va_S A s.heap s.heap [] := va_S.rf
  have hG : GM [] tg σ I ri I ri rq := ⟨hG0, fun _ _ _ => rfl, fun _ _ _ _ _ => rfl, fun _ _ _ _ _ _ => rfl⟩
  have hl := lv_entry ([.ref this, .int a0, .int 3]) (n := 3) (Nat.le_of_ble_eq_true rfl)
  rw [lg_entry_eq]
  generalize (lg_sl ([.ref this, .int a0, .int 3]) ++ List.replicate (3 - (lg_sl ([.ref this, .int a0, .int 3])).length) Slot.unset).toArray = ls at hl ⊢
  have hl : lv_has ls 3 [(0, .ref this), (1, .int a0), (2, .int 3)] := hl
  refine q_gen (fun Q hQ => ?_)
  have go : ∀ (H : Heap) (locs : List Loc) (ls : Array Slot), va_P D vwCl (pq_P t σ (I, J, ri, rj, rq)) H → va_D A (pq_P t σ (I, J, ri, rj, rq)) → va_S A s.heap H locs → lv_has ls 3 [(0, .ref this), (1, .int a0), (2, .int 3)] → W p l e ({ frames := 0, cells := 0, slots := 0, locals := 0 } : Room) s m (List.toArray ([.ref this, .int a0, .int 3] : List Value)) below meth c H locs 0 0 Q (F0 m 0 ls []) := by
    intro H locs ls hP hD hS hl
    refine lv_aload_n hx hb dX12_tableAt_0 rfl (lv_at hl 0 rfl) ?_
    obtain ⟨w_1, hR_w_1, hL_w_1, hK_w_1, hN_w_1, hT_w_1⟩ := sh_a hSH 384 (ci := 12) (kd := 13) (len := 12720) rfl (by decide) hL_this hK_this
    refine pg_f (v := .ref w_1) (C := RX12) (T := TX12) (N := 31) hx hb hts (tw_i inlX12) hown hK hP hL_this hK_this (by decide) rfl 0 (by decide) (hts _ (tw_c tw_176)) (pq_hv rfl hR_w_1) dX12_tableAt_1 ?_
    refine lv_bipush (v := 20) hx hb dX12_tableAt_4 (by decide) ?_
    refine lv_iconst (v := 5) hx hb dX12_tableAt_6 (by decide) ?_
    refine lv_iload_n hx hb dX12_tableAt_7 rfl (lv_at hl 1 rfl) ?_
    refine lv_bipush (v := 12) hx hb dX12_tableAt_8 (by decide) ?_
    refine lv_irem hx hb dX12_tableAt_10 (by decide) ?_
    refine lv_topi (fun x_2 ex_2 => ?_)
    have h_3 : rg x_2 0 11 := rg_of_eq ex_2 (rg_rem h_a0 rfl (by decide))
    have uh_3 := h_3.1
    have vh_3 := h_3.2
    refine lv_imul hx hb dX12_tableAt_11 ?_
    refine lv_topi (fun x_4 ex_4 => ?_)
    have h_5 : rg x_4 0 55 := rg_of_eq ex_4 (rg_mul (rg_k (5 : Int32) 5 rfl) h_3 (by decide))
    have uh_5 := h_5.1
    have vh_5 := h_5.2
    have tx_4 : (x_4).toInt = 5 * (x_2).toInt := by rw [ex_4]; exact i_mul_rg (a2 := 5) (b2 := (x_2).toInt) rfl rfl (rg_k (5 : Int32) 5 rfl) h_3 (by decide)
    refine lv_iadd hx hb dX12_tableAt_12 ?_
    refine lv_topi (fun x_6 ex_6 => ?_)
    have h_7 : rg x_6 20 75 := rg_of_eq ex_6 (rg_add (rg_k (20 : Int32) 20 rfl) h_5 (by decide))
    have uh_7 := h_7.1
    have vh_7 := h_7.2
    have tx_6 : (x_6).toInt = 20 + (x_4).toInt := by rw [ex_6]; exact i_add_rg (a2 := 20) (b2 := (x_4).toInt) rfl rfl (rg_k (20 : Int32) 20 rfl) h_5 (by decide)
    refine lv_iload_n hx hb dX12_tableAt_13 rfl (lv_at hl 2 rfl) ?_
    refine lv_iadd hx hb dX12_tableAt_14 ?_
    refine lv_topi (fun x_8 ex_8 => ?_)
    have h_9 : rg x_8 23 78 := rg_of_eq ex_8 (rg_add h_7 (rg_k (3 : Int32) 3 rfl) (by decide))
    have uh_9 := h_9.1
    have vh_9 := h_9.2
    have tx_8 : (x_8).toInt = (x_6).toInt + 3 := by rw [ex_8]; exact i_add_rg (a2 := (x_6).toInt) (b2 := 3) rfl rfl h_7 (rg_k (3 : Int32) 3 rfl) (by decide)
    refine pl_i hx hb hK hP hL_w_1 hK_w_1 hN_w_1 (rg_in h_9 (by decide)) dX12_tableAt_15 ?_
    refine lv_topi (fun x_10 ex_10 => ?_)
    subst hQ
    exact W.iret (v := x_10) hx hb hr (fun t1 ht hW => ⟨⟨x_10, (σ, I, J, ri, rj, rq), rfl, rfl, by rw [ht]; exact hP, va_K.moved hW.alike hK, hD⟩, hS.F ht⟩) hS.2.2 dX12_tableAt_16
  exact go _ _ _ hP hD hS hl

set_option maxHeartbeats 4000000 in
set_option maxRecDepth 100000 in
theorem s_X12_cellAt_c0 (l : Launch) (D : va_G) (t : pq_T) (σ : pq_S) (I : Nat → Nat → Int32) (J : Nat → Nat → Int64) (ri : Nat → Nat → Int32) (rj : Nat → Nat → Int64) (rq : Nat → Nat → Option Nat) (sz : Nat) (tg : Nat → Nat) (hSH : SH σ tg) (hG0 : GT tg I ri) (this : Nat) (a0 : Int32) (hL_this : this ∈ σ.1) (hK_this : σ.2.1 this = 12) (h_a0 : rg a0 0 39) : MetI l yX12_cellAt (wa yX12_cellAt cX12_cellAt 3 (some .int)) ({ frames := 0, cells := 0, slots := 0, locals := 0 }) [.ref this, .int a0, .int 0] D t σ (I, J, ri, rj, rq) sz 0 0 (fun (r : Int32) (u : pq_S × pq_M) => u = (σ, I, J, ri, rj, rq)) := by
  refine Met.ofW (cc := cX12_cellAt) (maxL := 3) (ret := (some .int)) (by decide) rfl ?_
  intro p e s m args below meth c s₁ B hml hv
  obtain ⟨rfl, hsz, hP, hK, hD0, hN⟩ := hv
  have hx := B.exec
  have hb := B.bytes
  have hr := B.returns
  have hts := atoms_spec (ws := (wa yX12_cellAt cX12_cellAt 3 (some .int))) B.pre
  have hown : s.vm.findClass RX12 = some m.cls := findClass_of_methodNamed B.named
  have hlocks := B.notSynchronized
  subst hsz
  have hD : va_D (pq_B t σ (I, J, ri, rj, rq) s.heap.size) (pq_P t σ (I, J, ri, rj, rq)) := hD0.self
  generalize hAe : pq_B t σ (I, J, ri, rj, rq) s.heap.size = A at hD ⊢
  have hA : ∀ q : Nat, s.heap.size ≤ q → A q := fun q h => by rw [← hAe]; exact Or.inr h
  have hS : va_S A s.heap s.heap [] := va_S.rf
  have hG : GM [] tg σ I ri I ri rq := ⟨hG0, fun _ _ _ => rfl, fun _ _ _ _ _ => rfl, fun _ _ _ _ _ _ => rfl⟩
  have hl := lv_entry ([.ref this, .int a0, .int 0]) (n := 3) (Nat.le_of_ble_eq_true rfl)
  rw [lg_entry_eq]
  generalize (lg_sl ([.ref this, .int a0, .int 0]) ++ List.replicate (3 - (lg_sl ([.ref this, .int a0, .int 0])).length) Slot.unset).toArray = ls at hl ⊢
  have hl : lv_has ls 3 [(0, .ref this), (1, .int a0), (2, .int 0)] := hl
  refine q_gen (fun Q hQ => ?_)
  have go : ∀ (H : Heap) (locs : List Loc) (ls : Array Slot), va_P D vwCl (pq_P t σ (I, J, ri, rj, rq)) H → va_D A (pq_P t σ (I, J, ri, rj, rq)) → va_S A s.heap H locs → lv_has ls 3 [(0, .ref this), (1, .int a0), (2, .int 0)] → W p l e ({ frames := 0, cells := 0, slots := 0, locals := 0 } : Room) s m (List.toArray ([.ref this, .int a0, .int 0] : List Value)) below meth c H locs 0 0 Q (F0 m 0 ls []) := by
    intro H locs ls hP hD hS hl
    refine lv_aload_n hx hb dX12_cellAt_0 rfl (lv_at hl 0 rfl) ?_
    obtain ⟨w_1, hR_w_1, hL_w_1, hK_w_1, hN_w_1, hT_w_1⟩ := sh_a hSH 384 (ci := 12) (kd := 13) (len := 12720) rfl (by decide) hL_this hK_this
    refine pg_f (v := .ref w_1) (C := RX12) (T := TX12) (N := 31) hx hb hts (tw_i inlX12) hown hK hP hL_this hK_this (by decide) rfl 0 (by decide) (hts _ (tw_c tw_176)) (pq_hv rfl hR_w_1) dX12_cellAt_1 ?_
    refine lv_bipush (v := 100) hx hb dX12_cellAt_4 (by decide) ?_
    refine lv_bipush (v := 16) hx hb dX12_cellAt_6 (by decide) ?_
    refine lv_iload_n hx hb dX12_cellAt_8 rfl (lv_at hl 1 rfl) ?_
    refine lv_imul hx hb dX12_cellAt_9 ?_
    refine lv_topi (fun x_2 ex_2 => ?_)
    have h_3 : rg x_2 0 624 := rg_of_eq ex_2 (rg_mul (rg_k (16 : Int32) 16 rfl) h_a0 (by decide))
    have uh_3 := h_3.1
    have vh_3 := h_3.2
    have tx_2 : (x_2).toInt = 16 * (a0).toInt := by rw [ex_2]; exact i_mul_rg (a2 := 16) (b2 := (a0).toInt) rfl rfl (rg_k (16 : Int32) 16 rfl) h_a0 (by decide)
    refine lv_iadd hx hb dX12_cellAt_10 ?_
    refine lv_topi (fun x_4 ex_4 => ?_)
    have h_5 : rg x_4 100 724 := rg_of_eq ex_4 (rg_add (rg_k (100 : Int32) 100 rfl) h_3 (by decide))
    have uh_5 := h_5.1
    have vh_5 := h_5.2
    have tx_4 : (x_4).toInt = 100 + (x_2).toInt := by rw [ex_4]; exact i_add_rg (a2 := 100) (b2 := (x_2).toInt) rfl rfl (rg_k (100 : Int32) 100 rfl) h_3 (by decide)
    refine lv_iload_n hx hb dX12_cellAt_11 rfl (lv_at hl 2 rfl) ?_
    refine lv_iadd hx hb dX12_cellAt_12 ?_
    refine lv_topi (fun x_6 ex_6 => ?_)
    have h_7 : rg x_6 100 724 := rg_of_eq ex_6 (rg_add h_5 (rg_k (0 : Int32) 0 rfl) (by decide))
    have uh_7 := h_7.1
    have vh_7 := h_7.2
    have tx_6 : (x_6).toInt = (x_4).toInt + 0 := by rw [ex_6]; exact i_add_rg (a2 := (x_4).toInt) (b2 := 0) rfl rfl h_5 (rg_k (0 : Int32) 0 rfl) (by decide)
    refine pl_i hx hb hK hP hL_w_1 hK_w_1 hN_w_1 (rg_in h_7 (by decide)) dX12_cellAt_13 ?_
    refine lv_topi (fun x_8 ex_8 => ?_)
    subst hQ
    exact W.iret (v := x_8) hx hb hr (fun t1 ht hW => ⟨⟨x_8, (σ, I, J, ri, rj, rq), rfl, rfl, by rw [ht]; exact hP, va_K.moved hW.alike hK, hD⟩, hS.F ht⟩) hS.2.2 dX12_cellAt_14
  exact go _ _ _ hP hD hS hl

set_option maxHeartbeats 4000000 in
set_option maxRecDepth 100000 in
theorem s_X12_sandGoes (l : Launch) (D : va_G) (t : pq_T) (σ : pq_S) (I : Nat → Nat → Int32) (J : Nat → Nat → Int64) (ri : Nat → Nat → Int32) (rj : Nat → Nat → Int64) (rq : Nat → Nat → Option Nat) (sz : Nat) (tg : Nat → Nat) (hSH : SH σ tg) (hG0 : GT tg I ri) (this : Nat) (a0 : Int32) (hL_this : this ∈ σ.1) (hK_this : σ.2.1 this = 12) (h_a0 : rg a0 0 599) : MetV l yX12_sandGoes (wa yX12_sandGoes cX12_sandGoes 4 none) ({ frames := 1, cells := 0, slots := 0, locals := 22 }) [.ref this, .int a0] D t σ (I, J, ri, rj, rq) sz 0 0 (fun (u : pq_S × pq_M) => ∃ ri' : Nat → Nat → Int32, u = (σ, I, J, ri', rj, rq) ∧ GM [1304] tg σ I ri I ri' rq) := by
  refine Met.ofW (cc := cX12_sandGoes) (maxL := 4) (ret := none) (by decide) rfl ?_
  intro p e s m args below meth c s₁ B hml hv
  obtain ⟨rfl, hsz, hP, hK, hD0, hN⟩ := hv
  have hx := B.exec
  have hb := B.bytes
  have hr := B.returns
  have hts := atoms_spec (ws := (wa yX12_sandGoes cX12_sandGoes 4 none)) B.pre
  have hown : s.vm.findClass RX12 = some m.cls := findClass_of_methodNamed B.named
  have hlocks := B.notSynchronized
  subst hsz
  have hD : va_D (pq_B t σ (I, J, ri, rj, rq) s.heap.size) (pq_P t σ (I, J, ri, rj, rq)) := hD0.self
  generalize hAe : pq_B t σ (I, J, ri, rj, rq) s.heap.size = A at hD ⊢
  have hA : ∀ q : Nat, s.heap.size ≤ q → A q := fun q h => by rw [← hAe]; exact Or.inr h
  have hS : va_S A s.heap s.heap [] := va_S.rf
  have hG : GM [1304] tg σ I ri I ri rq := ⟨hG0, fun _ _ _ => rfl, fun _ _ _ _ _ => rfl, fun _ _ _ _ _ _ => rfl⟩
  have hl := lv_entry ([.ref this, .int a0]) (n := 4) (Nat.le_of_ble_eq_true rfl)
  rw [lg_entry_eq]
  generalize (lg_sl ([.ref this, .int a0]) ++ List.replicate (4 - (lg_sl ([.ref this, .int a0])).length) Slot.unset).toArray = ls at hl ⊢
  have hl : lv_has ls 4 [(0, .ref this), (1, .int a0)] := hl
  refine q_gen (fun Q hQ => ?_)
  have go : ∀ (H : Heap) (locs : List Loc) (ls : Array Slot), va_P D vwCl (pq_P t σ (I, J, ri, rj, rq)) H → va_D A (pq_P t σ (I, J, ri, rj, rq)) → va_S A s.heap H locs → lv_has ls 4 [(0, .ref this), (1, .int a0)] → W p l e ({ frames := 1, cells := 0, slots := 0, locals := 22 } : Room) s m (List.toArray ([.ref this, .int a0] : List Value)) below meth c H locs 0 0 Q (F0 m 0 ls []) := by
    intro H locs ls hP hD hS hl
    refine lv_iconst (v := 0) hx hb dX12_sandGoes_0 (by decide) ?_
    refine lv_istore_n (lv' := [(2, .int 0), (0, .ref this), (1, .int a0)]) hx hb dX12_sandGoes_1 rfl hl (by decide) rfl (fun ls hl => ?_)
    have L_40038 : ∀ (n_40037 : Nat) (x_34492 : Int32) (ri_34493 : Nat → Nat → Int32) (H : Heap) (locs : List Loc) (ls : Array Slot), rg x_34492 0 40 → (40 - (x_34492).toInt).toNat < n_40037 → GM [1304] tg σ I ri I ri_34493 rq → va_P D vwCl (pq_P t σ (I, J, ri_34493, rj, rq)) H → va_D A (pq_P t σ (I, J, ri_34493, rj, rq)) → va_S A s.heap H locs → lv_has ls 4 [(0, .ref this), (1, .int a0), (2, .int x_34492)] → W p l e ({ frames := 1, cells := 0, slots := 0, locals := 22 } : Room) s m (List.toArray ([.ref this, .int a0] : List Value)) below meth c H locs 0 0 Q (F0 m 2 ls []) := by
      intro n_40037
      induction n_40037 with
      | zero => intro x_34492 ri_34493 H locs ls h_40041 hm_40036 hG hP hD hS hl; exact absurd hm_40036 (Nat.not_lt_zero _)
      | succ n_40037 ih_40039 =>
        intro x_34492 ri_34493 H locs ls h_40041 hm_40036 hG hP hD hS hl
        have uh_40041 := h_40041.1
        have vh_40041 := h_40041.2
        refine lv_iload_n hx hb dX12_sandGoes_2 rfl (lv_at hl 2 rfl) ?_
        refine lv_aload_n hx hb dX12_sandGoes_3 rfl (lv_at hl 0 rfl) ?_
        obtain ⟨w_40042, hR_w_40042, hL_w_40042, hK_w_40042, hN_w_40042, hT_w_40042⟩ := sh_a hSH 384 (ci := 12) (kd := 13) (len := 12720) rfl (by decide) hL_this hK_this
        refine pg_f (v := .ref w_40042) (C := RX12) (T := TX12) (N := 31) hx hb hts (tw_i inlX12) hown hK hP hL_this hK_this (by decide) rfl 0 (by decide) (hts _ (tw_c tw_176)) (pq_hv rfl hR_w_40042) dX12_sandGoes_4 ?_
        refine lv_iconst (v := 2) hx hb dX12_sandGoes_7 (by decide) ?_
        refine pl_i hx hb hK hP hL_w_40042 hK_w_40042 hN_w_40042 (vp_in_iff.mpr (by decide)) dX12_sandGoes_8 ?_
        refine lv_tov (ri w_40042 2) (hG.2.2.1 w_40042 hT_w_40042 2 (by decide) (by decide)) ?_
        have h_40043 : rg (ri w_40042 2) 0 40 := GM.z0 hG0 (by rw [hT_w_40042]; decide) (i := 2) (k := 2) (by decide) rfl
        have uh_40043 := h_40043.1
        have vh_40043 := h_40043.2
        refine lv_icmp_ge (tgt := 65) hx hb dX12_sandGoes_9 (by decide) (fun c_40044 => ?_) (fun c_40044 => ?_)
        · have tc_40045 : (ri w_40042 2).toInt ≤ (x_34492).toInt := Int32.le_iff_toInt_le.mp c_40044
          refine lv_iconst (v := 0) hx hb dX12_sandGoes_65 (by decide) ?_
          refine lv_istore_n (lv' := [(2, .int 0), (0, .ref this), (1, .int a0)]) hx hb dX12_sandGoes_66 rfl hl (by decide) rfl (fun ls hl => ?_)
          have L_45307 : ∀ (n_45306 : Nat) (x_45065 : Int32) (ri_45066 : Nat → Nat → Int32) (H : Heap) (locs : List Loc) (ls : Array Slot), rg x_45065 0 40 → (40 - (x_45065).toInt).toNat < n_45306 → GM [1304] tg σ I ri I ri_45066 rq → va_P D vwCl (pq_P t σ (I, J, ri_45066, rj, rq)) H → va_D A (pq_P t σ (I, J, ri_45066, rj, rq)) → va_S A s.heap H locs → lv_has ls 4 [(0, .ref this), (2, .int x_45065)] → W p l e ({ frames := 1, cells := 0, slots := 0, locals := 22 } : Room) s m (List.toArray ([.ref this, .int a0] : List Value)) below meth c H locs 0 0 Q (F0 m 67 ls []) := by
            intro n_45306
            induction n_45306 with
            | zero => intro x_45065 ri_45066 H locs ls h_45310 hm_45305 hG hP hD hS hl; exact absurd hm_45305 (Nat.not_lt_zero _)
            | succ n_45306 ih_45308 =>
              intro x_45065 ri_45066 H locs ls h_45310 hm_45305 hG hP hD hS hl
              have uh_45310 := h_45310.1
              have vh_45310 := h_45310.2
              refine lv_iload_n hx hb dX12_sandGoes_67 rfl (lv_at hl 1 rfl) ?_
              refine lv_aload_n hx hb dX12_sandGoes_68 rfl (lv_at hl 0 rfl) ?_
              refine pg_f (v := .ref w_40042) (C := RX12) (T := TX12) (N := 31) hx hb hts (tw_i inlX12) hown hK hP hL_this hK_this (by decide) rfl 0 (by decide) (hts _ (tw_c tw_176)) (pq_hv rfl hR_w_40042) dX12_sandGoes_69 ?_
              refine lv_iconst (v := 2) hx hb dX12_sandGoes_72 (by decide) ?_
              refine pl_i hx hb hK hP hL_w_40042 hK_w_40042 hN_w_40042 (vp_in_iff.mpr (by decide)) dX12_sandGoes_73 ?_
              refine lv_tov (ri w_40042 2) (hG.2.2.1 w_40042 hT_w_40042 2 (by decide) (by decide)) ?_
              refine lv_icmp_ge (tgt := 193) hx hb dX12_sandGoes_74 (by decide) (fun c_45311 => ?_) (fun c_45311 => ?_)
              · have tc_45312 : (ri w_40042 2).toInt ≤ (x_45065).toInt := Int32.le_iff_toInt_le.mp c_45311
                subst hQ
                exact W.vret hx hb hr (fun t1 ht hW => ⟨⟨(σ, I, J, ri_45066, rj, rq), rfl, ⟨ri_45066, rfl, hG⟩, by rw [ht]; exact hP, va_K.moved hW.alike hK, hD⟩, hS.F ht⟩) hS.2.2 dX12_sandGoes_193
              · have tc_45313 : (x_45065).toInt < (ri w_40042 2).toInt := Int32.lt_iff_toInt_lt.mp (nle c_45311)
                have h_45314 : rg x_45065 0 39 := rg_lt1 (nle c_45311) h_45310 h_40043 (by decide)
                have uh_45314 := h_45314.1
                have vh_45314 := h_45314.2
                have h_45315 : rg (ri w_40042 2) 1 40 := rg_lt2 (nle c_45311) h_45310 h_40043 (by decide)
                have uh_45315 := h_45315.1
                have vh_45315 := h_45315.2
                refine lv_aload_n hx hb dX12_sandGoes_77 rfl (lv_at hl 0 rfl) ?_
                refine pg_f (v := .ref w_40042) (C := RX12) (T := TX12) (N := 31) hx hb hts (tw_i inlX12) hown hK hP hL_this hK_this (by decide) rfl 0 (by decide) (hts _ (tw_c tw_176)) (pq_hv rfl hR_w_40042) dX12_sandGoes_78 ?_
                refine lv_bipush (v := 100) hx hb dX12_sandGoes_81 (by decide) ?_
                refine lv_bipush (v := 16) hx hb dX12_sandGoes_83 (by decide) ?_
                refine lv_iload_n hx hb dX12_sandGoes_85 rfl (lv_at hl 1 rfl) ?_
                refine lv_imul hx hb dX12_sandGoes_86 ?_
                refine lv_topi (fun x_45316 ex_45316 => ?_)
                have h_45317 : rg x_45316 0 624 := rg_of_eq ex_45316 (rg_mul (rg_k (16 : Int32) 16 rfl) h_45314 (by decide))
                have uh_45317 := h_45317.1
                have vh_45317 := h_45317.2
                have tx_45316 : (x_45316).toInt = 16 * (x_45065).toInt := by rw [ex_45316]; exact i_mul_rg (a2 := 16) (b2 := (x_45065).toInt) rfl rfl (rg_k (16 : Int32) 16 rfl) h_45314 (by decide)
                refine lv_iadd hx hb dX12_sandGoes_87 ?_
                refine lv_topi (fun x_45318 ex_45318 => ?_)
                have h_45319 : rg x_45318 100 724 := rg_of_eq ex_45318 (rg_add (rg_k (100 : Int32) 100 rfl) h_45317 (by decide))
                have uh_45319 := h_45319.1
                have vh_45319 := h_45319.2
                have tx_45318 : (x_45318).toInt = 100 + (x_45316).toInt := by rw [ex_45318]; exact i_add_rg (a2 := 100) (b2 := (x_45316).toInt) rfl rfl (rg_k (100 : Int32) 100 rfl) h_45317 (by decide)
                refine lv_iconst (v := 4) hx hb dX12_sandGoes_88 (by decide) ?_
                refine lv_iadd hx hb dX12_sandGoes_89 ?_
                refine lv_topi (fun x_45320 ex_45320 => ?_)
                have h_45321 : rg x_45320 104 728 := rg_of_eq ex_45320 (rg_add h_45319 (rg_k (4 : Int32) 4 rfl) (by decide))
                have uh_45321 := h_45321.1
                have vh_45321 := h_45321.2
                have tx_45320 : (x_45320).toInt = (x_45318).toInt + 4 := by rw [ex_45320]; exact i_add_rg (a2 := (x_45318).toInt) (b2 := 4) rfl rfl h_45319 (rg_k (4 : Int32) 4 rfl) (by decide)
                refine lv_dup2_11 hx hb dX12_sandGoes_90 rfl rfl ?_
                refine pl_i hx hb hK hP hL_w_40042 hK_w_40042 hN_w_40042 (rg_in h_45321 (by decide)) dX12_sandGoes_91 ?_
                refine lv_topi (fun x_45322 ex_45322 => ?_)
                refine lv_aload_n hx hb dX12_sandGoes_92 rfl (lv_at hl 0 rfl) ?_
                obtain ⟨w_45323, hR_w_45323, hL_w_45323, hK_w_45323, hN_w_45323, hT_w_45323⟩ := sh_a hSH 409 (ci := 12) (kd := 13) (len := 40) rfl (by decide) hL_this hK_this
                refine pg_f (v := .ref w_45323) (C := RX12) (T := TX12) (N := 31) hx hb hts (tw_i inlX12) hown hK hP hL_this hK_this (by decide) rfl 25 (by decide) (hts _ (tw_c tw_187)) (pq_hv rfl hR_w_45323) dX12_sandGoes_93 ?_
                refine lv_iload_n hx hb dX12_sandGoes_96 rfl (lv_at hl 1 rfl) ?_
                refine pl_i hx hb hK hP hL_w_45323 hK_w_45323 hN_w_45323 (rg_in h_45314 (by decide)) dX12_sandGoes_97 ?_
                refine lv_topi (fun x_45324 ex_45324 => ?_)
                refine lv_isub hx hb dX12_sandGoes_98 ?_
                refine lv_topi (fun x_45325 ex_45325 => ?_)
                refine pt_i hx hb hK hP hD hS hL_w_40042 hK_w_40042 hN_w_40042 (rg_in h_45321 (by decide)) dX12_sandGoes_99 (fun r_45326 H locs er_45326 hP hD hS => ?_)
                have hG := GM.wz hG hT_w_40042 (by decide) er_45326 (zn_CELL (c := x_45065.toNatClampNeg) (k := 4) (by have z_i := clampE x_45320; have z_0 := clampE x_45065; omega) (rg_cl1 h_45314 (by decide)) (by decide)) rfl (rg_w (rg_full _) (by decide)) (by decide)
                refine lv_iload_n hx hb dX12_sandGoes_100 rfl (lv_at hl 1 rfl) ?_
                refine lv_iconst (v := 1) hx hb dX12_sandGoes_101 (by decide) ?_
                refine lv_iadd hx hb dX12_sandGoes_102 ?_
                refine lv_topi (fun x_45327 ex_45327 => ?_)
                have h_45328 : rg x_45327 1 40 := rg_of_eq ex_45327 (rg_add h_45314 (rg_k (1 : Int32) 1 rfl) (by decide))
                have uh_45328 := h_45328.1
                have vh_45328 := h_45328.2
                have tx_45327 : (x_45327).toInt = (x_45065).toInt + 1 := by rw [ex_45327]; exact i_add_rg (a2 := (x_45065).toInt) (b2 := 1) rfl rfl h_45314 (rg_k (1 : Int32) 1 rfl) (by decide)
                refine lv_istore_n (lv' := [(3, .int x_45327), (0, .ref this), (2, .int x_45065)]) hx hb dX12_sandGoes_103 rfl hl (by decide) rfl (fun ls hl => ?_)
                have L_45505 : ∀ (n_45504 : Nat) (x_45459 : Int32) (H : Heap) (locs : List Loc) (ls : Array Slot), rg x_45459 1 40 → (40 - (x_45459).toInt).toNat < n_45504 → GM [1304] tg σ I ri I r_45326 rq → va_P D vwCl (pq_P t σ (I, J, r_45326, rj, rq)) H → va_D A (pq_P t σ (I, J, r_45326, rj, rq)) → va_S A s.heap H locs → lv_has ls 4 [(0, .ref this), (2, .int x_45065), (3, .int x_45459)] → W p l e ({ frames := 1, cells := 0, slots := 0, locals := 22 } : Room) s m (List.toArray ([.ref this, .int a0] : List Value)) below meth c H locs 0 0 Q (F0 m 104 ls []) := by
                  intro n_45504
                  induction n_45504 with
                  | zero => intro x_45459 H locs ls h_45508 hm_45503 hG hP hD hS hl; exact absurd hm_45503 (Nat.not_lt_zero _)
                  | succ n_45504 ih_45506 =>
                    intro x_45459 H locs ls h_45508 hm_45503 hG hP hD hS hl
                    have uh_45508 := h_45508.1
                    have vh_45508 := h_45508.2
                    refine lv_iload_n hx hb dX12_sandGoes_104 rfl (lv_at hl 2 rfl) ?_
                    refine lv_aload_n hx hb dX12_sandGoes_105 rfl (lv_at hl 0 rfl) ?_
                    refine pg_f (v := .ref w_40042) (C := RX12) (T := TX12) (N := 31) hx hb hts (tw_i inlX12) hown hK hP hL_this hK_this (by decide) rfl 0 (by decide) (hts _ (tw_c tw_176)) (pq_hv rfl hR_w_40042) dX12_sandGoes_106 ?_
                    refine lv_iconst (v := 2) hx hb dX12_sandGoes_109 (by decide) ?_
                    refine pl_i hx hb hK hP hL_w_40042 hK_w_40042 hN_w_40042 (vp_in_iff.mpr (by decide)) dX12_sandGoes_110 ?_
                    refine lv_tov (ri w_40042 2) (hG.2.2.1 w_40042 hT_w_40042 2 (by decide) (by decide)) ?_
                    have K_45551 : ∀  (H : Heap) (locs : List Loc) (ls : Array Slot), GM [1304] tg σ I ri I r_45326 rq → va_P D vwCl (pq_P t σ (I, J, r_45326, rj, rq)) H → va_D A (pq_P t σ (I, J, r_45326, rj, rq)) → va_S A s.heap H locs → lv_has ls 4 [(0, .ref this), (2, .int x_45065), (3, .int x_45459)] → W p l e ({ frames := 1, cells := 0, slots := 0, locals := 22 } : Room) s m (List.toArray ([.ref this, .int a0] : List Value)) below meth c H locs 0 0 Q (F0 m 135 ls []) := by
                      intro H locs ls hG hP hD hS hl
                      refine lv_iload_n hx hb dX12_sandGoes_135 rfl (lv_at hl 2 rfl) ?_
                      refine lv_aload_n hx hb dX12_sandGoes_136 rfl (lv_at hl 0 rfl) ?_
                      refine pg_f (v := .ref w_40042) (C := RX12) (T := TX12) (N := 31) hx hb hts (tw_i inlX12) hown hK hP hL_this hK_this (by decide) rfl 0 (by decide) (hts _ (tw_c tw_176)) (pq_hv rfl hR_w_40042) dX12_sandGoes_137 ?_
                      refine lv_iconst (v := 2) hx hb dX12_sandGoes_140 (by decide) ?_
                      refine pl_i hx hb hK hP hL_w_40042 hK_w_40042 hN_w_40042 (vp_in_iff.mpr (by decide)) dX12_sandGoes_141 ?_
                      refine lv_tov (ri w_40042 2) (hG.2.2.1 w_40042 hT_w_40042 2 (by decide) (by decide)) ?_
                      have K_45574 : ∀  (ri_45571 : Nat → Nat → Int32) (H : Heap) (locs : List Loc) (ls : Array Slot), GM [1304] tg σ I ri I ri_45571 rq → va_P D vwCl (pq_P t σ (I, J, ri_45571, rj, rq)) H → va_D A (pq_P t σ (I, J, ri_45571, rj, rq)) → va_S A s.heap H locs → lv_has ls 4 [(0, .ref this), (2, .int x_45065)] → W p l e ({ frames := 1, cells := 0, slots := 0, locals := 22 } : Room) s m (List.toArray ([.ref this, .int a0] : List Value)) below meth c H locs 0 0 Q (F0 m 187 ls []) := by
                        intro ri_45571 H locs ls hG hP hD hS hl
                        obtain ⟨x_45575, ex_45575⟩ : ∃ y : Int32, y = x_45065 + Int32.ofInt 1 := ⟨_, rfl⟩
                        have h_45576 : rg x_45575 1 40 := rg_of_eq ex_45575 (rg_add h_45314 (rg_k (Int32.ofInt 1) 1 rfl) (by decide))
                        have uh_45576 := h_45576.1
                        have vh_45576 := h_45576.2
                        have tx_45575 : (x_45575).toInt = (x_45065).toInt + 1 := by rw [ex_45575]; exact i_add_rg (a2 := (x_45065).toInt) (b2 := 1) rfl rfl h_45314 (rg_k (Int32.ofInt 1) 1 rfl) (by decide)
                        refine lv_iinc (v := x_45575) (lv' := [(2, .int x_45575), (0, .ref this)]) hx hb dX12_sandGoes_187 hl (k := 1) rfl ex_45575.symm (by decide) rfl (fun ls hl => ?_)
                        refine lv_goto (tgt := 67) hx hb dX12_sandGoes_190 (by decide) ?_
                        exact ih_45308 x_45575 ri_45571 _ _ _ (rg_w h_45576 (by decide)) (ms_up 1 hm_45305 ex_45575 rfl (by decide) h_45314 (by decide) (by decide)) hG hP hD hS (lv_sub hl [1, 0] rfl)
                      refine lv_icmp_ge (tgt := 171) hx hb dX12_sandGoes_142 (by decide) (fun c_45577 => ?_) (fun c_45577 => ?_)
                      · have tc_45578 : (ri w_40042 2).toInt ≤ (x_45459).toInt := Int32.le_iff_toInt_le.mp c_45577
                        refine lv_aload_n hx hb dX12_sandGoes_171 rfl (lv_at hl 0 rfl) ?_
                        refine pg_f (v := .ref w_40042) (C := RX12) (T := TX12) (N := 31) hx hb hts (tw_i inlX12) hown hK hP hL_this hK_this (by decide) rfl 0 (by decide) (hts _ (tw_c tw_176)) (pq_hv rfl hR_w_40042) dX12_sandGoes_172 ?_
                        refine lv_bipush (v := 9) hx hb dX12_sandGoes_175 (by decide) ?_
                        refine lv_dup2_11 hx hb dX12_sandGoes_177 rfl rfl ?_
                        refine pl_i hx hb hK hP hL_w_40042 hK_w_40042 hN_w_40042 (vp_in_iff.mpr (by decide)) dX12_sandGoes_178 ?_
                        refine lv_topi (fun x_45579 ex_45579 => ?_)
                        refine lv_aload_n hx hb dX12_sandGoes_179 rfl (lv_at hl 0 rfl) ?_
                        refine pg_f (v := .ref w_45323) (C := RX12) (T := TX12) (N := 31) hx hb hts (tw_i inlX12) hown hK hP hL_this hK_this (by decide) rfl 25 (by decide) (hts _ (tw_c tw_187)) (pq_hv rfl hR_w_45323) dX12_sandGoes_180 ?_
                        refine lv_iload_n hx hb dX12_sandGoes_183 rfl (lv_at hl 1 rfl) ?_
                        refine pl_i hx hb hK hP hL_w_45323 hK_w_45323 hN_w_45323 (rg_in h_45314 (by decide)) dX12_sandGoes_184 ?_
                        refine lv_topi (fun x_45580 ex_45580 => ?_)
                        refine lv_iadd hx hb dX12_sandGoes_185 ?_
                        refine lv_topi (fun x_45581 ex_45581 => ?_)
                        refine pt_i hx hb hK hP hD hS hL_w_40042 hK_w_40042 hN_w_40042 (vp_in_iff.mpr (by decide)) dX12_sandGoes_186 (fun r_45582 H locs er_45582 hP hD hS => ?_)
                        have hG := GM.wz hG hT_w_40042 (by decide) er_45582 (show zn ((9 : Int32)).toNatClampNeg = 9 from by decide) rfl (rg_w (rg_full _) (by decide)) (by decide)
                        exact K_45574 r_45582 _ _ _ hG hP hD hS (lv_sub hl [0, 1] rfl)
                      · have tc_45583 : (x_45459).toInt < (ri w_40042 2).toInt := Int32.lt_iff_toInt_lt.mp (nle c_45577)
                        have h_45584 : rg x_45459 1 39 := rg_lt1 (nle c_45577) h_45508 h_45315 (by decide)
                        have uh_45584 := h_45584.1
                        have vh_45584 := h_45584.2
                        have h_45585 : rg (ri w_40042 2) 2 40 := rg_lt2 (nle c_45577) h_45508 h_45315 (by decide)
                        have uh_45585 := h_45585.1
                        have vh_45585 := h_45585.2
                        refine lv_aload_n hx hb dX12_sandGoes_145 rfl (lv_at hl 0 rfl) ?_
                        refine pg_f (v := .ref w_40042) (C := RX12) (T := TX12) (N := 31) hx hb hts (tw_i inlX12) hown hK hP hL_this hK_this (by decide) rfl 0 (by decide) (hts _ (tw_c tw_176)) (pq_hv rfl hR_w_40042) dX12_sandGoes_146 ?_
                        refine lv_bipush (v := 100) hx hb dX12_sandGoes_149 (by decide) ?_
                        refine lv_bipush (v := 16) hx hb dX12_sandGoes_151 (by decide) ?_
                        refine lv_iload_n hx hb dX12_sandGoes_153 rfl (lv_at hl 2 rfl) ?_
                        refine lv_imul hx hb dX12_sandGoes_154 ?_
                        refine lv_topi (fun x_45586 ex_45586 => ?_)
                        have h_45587 : rg x_45586 16 624 := rg_of_eq ex_45586 (rg_mul (rg_k (16 : Int32) 16 rfl) h_45584 (by decide))
                        have uh_45587 := h_45587.1
                        have vh_45587 := h_45587.2
                        have tx_45586 : (x_45586).toInt = 16 * (x_45459).toInt := by rw [ex_45586]; exact i_mul_rg (a2 := 16) (b2 := (x_45459).toInt) rfl rfl (rg_k (16 : Int32) 16 rfl) h_45584 (by decide)
                        refine lv_iadd hx hb dX12_sandGoes_155 ?_
                        refine lv_topi (fun x_45588 ex_45588 => ?_)
                        have h_45589 : rg x_45588 116 724 := rg_of_eq ex_45588 (rg_add (rg_k (100 : Int32) 100 rfl) h_45587 (by decide))
                        have uh_45589 := h_45589.1
                        have vh_45589 := h_45589.2
                        have tx_45588 : (x_45588).toInt = 100 + (x_45586).toInt := by rw [ex_45588]; exact i_add_rg (a2 := 100) (b2 := (x_45586).toInt) rfl rfl (rg_k (100 : Int32) 100 rfl) h_45587 (by decide)
                        refine lv_iconst (v := 4) hx hb dX12_sandGoes_156 (by decide) ?_
                        refine lv_iadd hx hb dX12_sandGoes_157 ?_
                        refine lv_topi (fun x_45590 ex_45590 => ?_)
                        have h_45591 : rg x_45590 120 728 := rg_of_eq ex_45590 (rg_add h_45589 (rg_k (4 : Int32) 4 rfl) (by decide))
                        have uh_45591 := h_45591.1
                        have vh_45591 := h_45591.2
                        have tx_45590 : (x_45590).toInt = (x_45588).toInt + 4 := by rw [ex_45590]; exact i_add_rg (a2 := (x_45588).toInt) (b2 := 4) rfl rfl h_45589 (rg_k (4 : Int32) 4 rfl) (by decide)
                        refine lv_dup2_11 hx hb dX12_sandGoes_158 rfl rfl ?_
                        refine pl_i hx hb hK hP hL_w_40042 hK_w_40042 hN_w_40042 (rg_in h_45591 (by decide)) dX12_sandGoes_159 ?_
                        refine lv_topi (fun x_45592 ex_45592 => ?_)
                        refine lv_aload_n hx hb dX12_sandGoes_160 rfl (lv_at hl 0 rfl) ?_
                        refine pg_f (v := .ref w_45323) (C := RX12) (T := TX12) (N := 31) hx hb hts (tw_i inlX12) hown hK hP hL_this hK_this (by decide) rfl 25 (by decide) (hts _ (tw_c tw_187)) (pq_hv rfl hR_w_45323) dX12_sandGoes_161 ?_
                        refine lv_iload_n hx hb dX12_sandGoes_164 rfl (lv_at hl 1 rfl) ?_
                        refine pl_i hx hb hK hP hL_w_45323 hK_w_45323 hN_w_45323 (rg_in h_45314 (by decide)) dX12_sandGoes_165 ?_
                        refine lv_topi (fun x_45593 ex_45593 => ?_)
                        refine lv_iadd hx hb dX12_sandGoes_166 ?_
                        refine lv_topi (fun x_45594 ex_45594 => ?_)
                        refine pt_i hx hb hK hP hD hS hL_w_40042 hK_w_40042 hN_w_40042 (rg_in h_45591 (by decide)) dX12_sandGoes_167 (fun r_45595 H locs er_45595 hP hD hS => ?_)
                        have hG := GM.wz hG hT_w_40042 (by decide) er_45595 (zn_CELL (c := x_45459.toNatClampNeg) (k := 4) (by have z_i := clampE x_45590; have z_0 := clampE x_45459; omega) (rg_cl1 h_45584 (by decide)) (by decide)) rfl (rg_w (rg_full _) (by decide)) (by decide)
                        refine lv_goto (tgt := 187) hx hb dX12_sandGoes_168 (by decide) ?_
                        exact K_45574 r_45595 _ _ _ hG hP hD hS (lv_sub hl [0, 1] rfl)
                    refine lv_icmp_ge (tgt := 135) hx hb dX12_sandGoes_111 (by decide) (fun c_45596 => ?_) (fun c_45596 => ?_)
                    · have tc_45597 : (ri w_40042 2).toInt ≤ (x_45459).toInt := Int32.le_iff_toInt_le.mp c_45596
                      exact K_45551 _ _ _ hG hP hD hS (lv_sub hl [0, 1, 2] rfl)
                    · have tc_45598 : (x_45459).toInt < (ri w_40042 2).toInt := Int32.lt_iff_toInt_lt.mp (nle c_45596)
                      have h_45599 : rg x_45459 1 39 := rg_lt1 (nle c_45596) h_45508 h_45315 (by decide)
                      have uh_45599 := h_45599.1
                      have vh_45599 := h_45599.2
                      have h_45600 : rg (ri w_40042 2) 2 40 := rg_lt2 (nle c_45596) h_45508 h_45315 (by decide)
                      have uh_45600 := h_45600.1
                      have vh_45600 := h_45600.2
                      refine lv_aload_n hx hb dX12_sandGoes_114 rfl (lv_at hl 0 rfl) ?_
                      refine lv_iload_n hx hb dX12_sandGoes_115 rfl (lv_at hl 2 rfl) ?_
                      refine lv_iconst (v := 0) hx hb dX12_sandGoes_116 (by decide) ?_
                      refine pk_i (va_runV (As := [.int x_45459, .int 0]) (rest := []) ⟨hx, hb, hml, hown, hts⟩ (s_X12_cellAt_c0 l D t σ I J r_45326 rj rq H.size tg hSH hG.1 this x_45459 hL_this hK_this (rg_w h_45599 (by decide))) (cwV 2 hts (tw_V tw_361 tw_362 tw_363 tw_5 tw_364) rfl rfl rfl cv_yX12_cellAt_2 ⟨Nat.le_of_ble_eq_true rfl, Nat.le_of_ble_eq_true rfl⟩) ⟨pq_blind, pq_recv hK hP hL_this hK_this (by decide) rfl, pq_pre hK hN hP hD⟩ rfl rfl hl.1 rfl (lv_room (Nat.le_of_ble_eq_true rfl)) dX12_sandGoes_117 ⟨Nat.le_of_ble_eq_true rfl, Nat.le_of_ble_eq_true rfl⟩) hD hS hA (fun x_45601 σ1 μ1 H locs hw_45602 hP hD hS => ?_)
                      have hu_45603 := hw_45602
                      obtain ⟨hu_45603a, hu_45603b⟩ := Prod.mk.inj hu_45603
                      rw [hu_45603a, hu_45603b] at hP hD
                      refine lv_aload_n hx hb dX12_sandGoes_120 rfl (lv_at hl 0 rfl) ?_
                      refine lv_iload_n hx hb dX12_sandGoes_121 rfl (lv_at hl 1 rfl) ?_
                      refine lv_iconst (v := 0) hx hb dX12_sandGoes_122 (by decide) ?_
                      refine pk_i (va_runV (As := [.int x_45065, .int 0]) (rest := [.int x_45601]) ⟨hx, hb, hml, hown, hts⟩ (s_X12_cellAt_c0 l D t σ I J r_45326 rj rq H.size tg hSH hG.1 this x_45065 hL_this hK_this (rg_w h_45314 (by decide))) (cwV 2 hts (tw_V tw_361 tw_362 tw_363 tw_5 tw_364) rfl rfl rfl cv_yX12_cellAt_2 ⟨Nat.le_of_ble_eq_true rfl, Nat.le_of_ble_eq_true rfl⟩) ⟨pq_blind, pq_recv hK hP hL_this hK_this (by decide) rfl, pq_pre hK hN hP hD⟩ rfl rfl hl.1 rfl (lv_room (Nat.le_of_ble_eq_true rfl)) dX12_sandGoes_123 ⟨Nat.le_of_ble_eq_true rfl, Nat.le_of_ble_eq_true rfl⟩) hD hS hA (fun x_45606 σ1 μ1 H locs hw_45607 hP hD hS => ?_)
                      have hu_45608 := hw_45607
                      obtain ⟨hu_45608a, hu_45608b⟩ := Prod.mk.inj hu_45608
                      rw [hu_45608a, hu_45608b] at hP hD
                      refine lv_icmp_eq (tgt := 135) hx hb dX12_sandGoes_126 (by decide) (fun c_45611 => ?_) (fun c_45611 => ?_)
                      · have tc_45612 : (x_45601).toInt = (x_45606).toInt := congrArg Int32.toInt c_45611
                        exact K_45551 _ _ _ hG hP hD hS (lv_sub hl [0, 1, 2] rfl)
                      · have tc_45613 : (x_45601).toInt ≠ (x_45606).toInt := fun q => c_45611 (Int32.toInt_inj.mp q)
                        obtain ⟨x_45614, ex_45614⟩ : ∃ y : Int32, y = x_45459 + Int32.ofInt 1 := ⟨_, rfl⟩
                        have h_45615 : rg x_45614 2 40 := rg_of_eq ex_45614 (rg_add h_45599 (rg_k (Int32.ofInt 1) 1 rfl) (by decide))
                        have uh_45615 := h_45615.1
                        have vh_45615 := h_45615.2
                        have tx_45614 : (x_45614).toInt = (x_45459).toInt + 1 := by rw [ex_45614]; exact i_add_rg (a2 := (x_45459).toInt) (b2 := 1) rfl rfl h_45599 (rg_k (Int32.ofInt 1) 1 rfl) (by decide)
                        refine lv_iinc (v := x_45614) (lv' := [(3, .int x_45614), (0, .ref this), (2, .int x_45065)]) hx hb dX12_sandGoes_129 hl (k := 2) rfl ex_45614.symm (by decide) rfl (fun ls hl => ?_)
                        refine lv_goto (tgt := 104) hx hb dX12_sandGoes_132 (by decide) ?_
                        exact ih_45506 x_45614 _ _ _ (rg_w h_45615 (by decide)) (ms_up 1 hm_45503 ex_45614 rfl (by decide) h_45599 (by decide) (by decide)) hG hP hD hS (lv_sub hl [1, 2, 0] rfl)
                exact L_45505 _ x_45327 _ _ _ (rg_w h_45328 (by decide)) (Nat.lt_succ_self _) hG hP hD hS (lv_sub hl [1, 2, 0] rfl)
          exact L_45307 _ (0 : Int32) ri_34493 _ _ _ (rg_w (rg_k (0 : Int32) 0 rfl) (by decide)) (Nat.lt_succ_self _) hG hP hD hS (lv_sub hl [1, 0] rfl)
        · have tc_45616 : (x_34492).toInt < (ri w_40042 2).toInt := Int32.lt_iff_toInt_lt.mp (nle c_40044)
          have h_45617 : rg x_34492 0 39 := rg_lt1 (nle c_40044) h_40041 h_40043 (by decide)
          have uh_45617 := h_45617.1
          have vh_45617 := h_45617.2
          have h_45618 : rg (ri w_40042 2) 1 40 := rg_lt2 (nle c_40044) h_40041 h_40043 (by decide)
          have uh_45618 := h_45618.1
          have vh_45618 := h_45618.2
          refine lv_aload_n hx hb dX12_sandGoes_12 rfl (lv_at hl 0 rfl) ?_
          refine lv_iload_n hx hb dX12_sandGoes_13 rfl (lv_at hl 1 rfl) ?_
          refine lv_iconst (v := 3) hx hb dX12_sandGoes_14 (by decide) ?_
          refine pk_i (va_runV (As := [.int a0, .int 3]) (rest := []) ⟨hx, hb, hml, hown, hts⟩ (s_X12_tableAt_c3 l D t σ I J ri_34493 rj rq H.size tg hSH hG.1 this a0 hL_this hK_this (rg_w h_a0 (by decide))) (cwV 2 hts (tw_V tw_1201 tw_1202 tw_1203 tw_5 tw_1204) rfl rfl rfl cv_yX12_tableAt_2 ⟨Nat.le_of_ble_eq_true rfl, Nat.le_of_ble_eq_true rfl⟩) ⟨pq_blind, pq_recv hK hP hL_this hK_this (by decide) rfl, pq_pre hK hN hP hD⟩ rfl rfl hl.1 rfl (lv_room (Nat.le_of_ble_eq_true rfl)) dX12_sandGoes_15 ⟨Nat.le_of_ble_eq_true rfl, Nat.le_of_ble_eq_true rfl⟩) hD hS hA (fun x_45619 σ1 μ1 H locs hw_45620 hP hD hS => ?_)
          have hu_45621 := hw_45620
          obtain ⟨hu_45621a, hu_45621b⟩ := Prod.mk.inj hu_45621
          rw [hu_45621a, hu_45621b] at hP hD
          refine lv_istore_n (lv' := [(3, .int x_45619), (0, .ref this), (1, .int a0), (2, .int x_34492)]) hx hb dX12_sandGoes_18 rfl hl (by decide) rfl (fun ls hl => ?_)
          refine lv_aload_n hx hb dX12_sandGoes_19 rfl (lv_at hl 1 rfl) ?_
          obtain ⟨w_45624, hR_w_45624, hL_w_45624, hK_w_45624, hN_w_45624, hT_w_45624⟩ := sh_a hSH 409 (ci := 12) (kd := 13) (len := 40) rfl (by decide) hL_this hK_this
          refine pg_f (v := .ref w_45624) (C := RX12) (T := TX12) (N := 31) hx hb hts (tw_i inlX12) hown hK hP hL_this hK_this (by decide) rfl 25 (by decide) (hts _ (tw_c tw_187)) (pq_hv rfl hR_w_45624) dX12_sandGoes_20 ?_
          refine lv_iload_n hx hb dX12_sandGoes_23 rfl (lv_at hl 3 rfl) ?_
          refine lv_aload_n hx hb dX12_sandGoes_24 rfl (lv_at hl 1 rfl) ?_
          refine lv_iload_n hx hb dX12_sandGoes_25 rfl (lv_at hl 3 rfl) ?_
          refine lv_bipush (v := 6) hx hb dX12_sandGoes_26 (by decide) ?_
          refine pk_i (va_runV (As := [.int x_34492, .int 6]) (rest := [.int x_34492, .ref w_45624]) ⟨hx, hb, hml, hown, hts⟩ (s_X12_cellAt_c6 l D t σ I J ri_34493 rj rq H.size tg hSH hG.1 this x_34492 hL_this hK_this (rg_w h_45617 (by decide))) (cwV 2 hts (tw_V tw_361 tw_362 tw_363 tw_5 tw_364) rfl rfl rfl cv_yX12_cellAt_2 ⟨Nat.le_of_ble_eq_true rfl, Nat.le_of_ble_eq_true rfl⟩) ⟨pq_blind, pq_recv hK hP hL_this hK_this (by decide) rfl, pq_pre hK hN hP hD⟩ rfl rfl hl.1 rfl (lv_room (Nat.le_of_ble_eq_true rfl)) dX12_sandGoes_28 ⟨Nat.le_of_ble_eq_true rfl, Nat.le_of_ble_eq_true rfl⟩) hD hS hA (fun x_45625 σ1 μ1 H locs hw_45626 hP hD hS => ?_)
          have hu_45627 := hw_45626
          obtain ⟨hu_45627a, hu_45627b⟩ := Prod.mk.inj hu_45627
          rw [hu_45627a, hu_45627b] at hP hD
          have K_45654 : ∀  (x_45650 : Int32) (H : Heap) (locs : List Loc) (ls : Array Slot), GM [1304] tg σ I ri I ri_34493 rq → va_P D vwCl (pq_P t σ (I, J, ri_34493, rj, rq)) H → va_D A (pq_P t σ (I, J, ri_34493, rj, rq)) → va_S A s.heap H locs → lv_has ls 4 [(0, .ref this), (1, .int a0), (2, .int x_34492)] → W p l e ({ frames := 1, cells := 0, slots := 0, locals := 22 } : Room) s m (List.toArray ([.ref this, .int a0] : List Value)) below meth c H locs 0 0 Q (F0 m 58 ls [.int x_45650, .int x_34492, .ref w_45624]) := by
            intro x_45650 H locs ls hG hP hD hS hl
            refine pt_i hx hb hK hP hD hS hL_w_45624 hK_w_45624 hN_w_45624 (rg_in h_45617 (by decide)) dX12_sandGoes_58 (fun r_45655 H locs er_45655 hP hD hS => ?_)
            have hG := GM.wR hG hSH hT_w_45624 rfl er_45655 (rg_w (rg_full _) (by decide)) (by decide)
            obtain ⟨x_45656, ex_45656⟩ : ∃ y : Int32, y = x_34492 + Int32.ofInt 1 := ⟨_, rfl⟩
            have h_45657 : rg x_45656 1 40 := rg_of_eq ex_45656 (rg_add h_45617 (rg_k (Int32.ofInt 1) 1 rfl) (by decide))
            have uh_45657 := h_45657.1
            have vh_45657 := h_45657.2
            have tx_45656 : (x_45656).toInt = (x_34492).toInt + 1 := by rw [ex_45656]; exact i_add_rg (a2 := (x_34492).toInt) (b2 := 1) rfl rfl h_45617 (rg_k (Int32.ofInt 1) 1 rfl) (by decide)
            refine lv_iinc (v := x_45656) (lv' := [(2, .int x_45656), (0, .ref this), (1, .int a0)]) hx hb dX12_sandGoes_59 hl (k := 2) rfl ex_45656.symm (by decide) rfl (fun ls hl => ?_)
            refine lv_goto (tgt := 2) hx hb dX12_sandGoes_62 (by decide) ?_
            exact ih_40039 x_45656 r_45655 _ _ _ (rg_w h_45657 (by decide)) (ms_up 1 hm_40036 ex_45656 rfl (by decide) h_45617 (by decide) (by decide)) hG hP hD hS (lv_sub hl [1, 2, 0] rfl)
          refine lv_if_le (tgt := 38) hx hb dX12_sandGoes_31 (by decide) (fun c_45658 => ?_) (fun c_45658 => ?_)
          · have tc_45659 : (x_45625).toInt ≤ 0 := Int32.le_iff_toInt_le.mp c_45658
            have h_45660 : rg x_45625 (-2147483648) 0 := rg_le1 c_45658 (rg_full _) (rg_k (0 : Int32) 0 rfl) (by decide)
            have uh_45660 := h_45660.1
            have vh_45660 := h_45660.2
            refine lv_aload_n hx hb dX12_sandGoes_38 rfl (lv_at hl 1 rfl) ?_
            refine lv_iload_n hx hb dX12_sandGoes_39 rfl (lv_at hl 3 rfl) ?_
            refine lv_iconst (v := 4) hx hb dX12_sandGoes_40 (by decide) ?_
            refine pk_i (va_runV (As := [.int x_34492, .int 4]) (rest := [.int x_34492, .ref w_45624]) ⟨hx, hb, hml, hown, hts⟩ (s_X12_cellAt_c4 l D t σ I J ri_34493 rj rq H.size tg hSH hG.1 this x_34492 hL_this hK_this (rg_w h_45617 (by decide))) (cwV 2 hts (tw_V tw_361 tw_362 tw_363 tw_5 tw_364) rfl rfl rfl cv_yX12_cellAt_2 ⟨Nat.le_of_ble_eq_true rfl, Nat.le_of_ble_eq_true rfl⟩) ⟨pq_blind, pq_recv hK hP hL_this hK_this (by decide) rfl, pq_pre hK hN hP hD⟩ rfl rfl hl.1 rfl (lv_room (Nat.le_of_ble_eq_true rfl)) dX12_sandGoes_41 ⟨Nat.le_of_ble_eq_true rfl, Nat.le_of_ble_eq_true rfl⟩) hD hS hA (fun x_45661 σ1 μ1 H locs hw_45662 hP hD hS => ?_)
            have hu_45663 := hw_45662
            obtain ⟨hu_45663a, hu_45663b⟩ := Prod.mk.inj hu_45663
            rw [hu_45663a, hu_45663b] at hP hD
            refine lv_iload_n hx hb dX12_sandGoes_44 rfl (lv_at hl 0 rfl) ?_
            refine lv_icmp_ge (tgt := 57) hx hb dX12_sandGoes_45 (by decide) (fun c_45666 => ?_) (fun c_45666 => ?_)
            · have tc_45667 : (x_45619).toInt ≤ (x_45661).toInt := Int32.le_iff_toInt_le.mp c_45666
              refine lv_iload_n hx hb dX12_sandGoes_57 rfl (lv_at hl 0 rfl) ?_
              exact K_45654 x_45619 _ _ _ hG hP hD hS (lv_sub hl [1, 2, 3] rfl)
            · have tc_45668 : (x_45661).toInt < (x_45619).toInt := Int32.lt_iff_toInt_lt.mp (nle c_45666)
              have h_45669 : rg x_45661 (-2147483648) 2147483646 := rg_lt1 (nle c_45666) (rg_full _) (rg_full _) (by decide)
              have uh_45669 := h_45669.1
              have vh_45669 := h_45669.2
              have h_45670 : rg x_45619 (-2147483647) 2147483647 := rg_lt2 (nle c_45666) (rg_full _) (rg_full _) (by decide)
              have uh_45670 := h_45670.1
              have vh_45670 := h_45670.2
              refine lv_aload_n hx hb dX12_sandGoes_48 rfl (lv_at hl 1 rfl) ?_
              refine lv_iload_n hx hb dX12_sandGoes_49 rfl (lv_at hl 3 rfl) ?_
              refine lv_iconst (v := 4) hx hb dX12_sandGoes_50 (by decide) ?_
              refine pk_i (va_runV (As := [.int x_34492, .int 4]) (rest := [.int x_34492, .ref w_45624]) ⟨hx, hb, hml, hown, hts⟩ (s_X12_cellAt_c4 l D t σ I J ri_34493 rj rq H.size tg hSH hG.1 this x_34492 hL_this hK_this (rg_w h_45617 (by decide))) (cwV 2 hts (tw_V tw_361 tw_362 tw_363 tw_5 tw_364) rfl rfl rfl cv_yX12_cellAt_2 ⟨Nat.le_of_ble_eq_true rfl, Nat.le_of_ble_eq_true rfl⟩) ⟨pq_blind, pq_recv hK hP hL_this hK_this (by decide) rfl, pq_pre hK hN hP hD⟩ rfl rfl hl.1 rfl (lv_room (Nat.le_of_ble_eq_true rfl)) dX12_sandGoes_51 ⟨Nat.le_of_ble_eq_true rfl, Nat.le_of_ble_eq_true rfl⟩) hD hS hA (fun x_45671 σ1 μ1 H locs hw_45672 hP hD hS => ?_)
              have hu_45673 := hw_45672
              obtain ⟨hu_45673a, hu_45673b⟩ := Prod.mk.inj hu_45673
              rw [hu_45673a, hu_45673b] at hP hD
              refine lv_goto (tgt := 58) hx hb dX12_sandGoes_54 (by decide) ?_
              exact K_45654 x_45671 _ _ _ hG hP hD hS (lv_sub hl [1, 2, 3] rfl)
          · have tc_45676 : 0 < (x_45625).toInt := Int32.lt_iff_toInt_lt.mp (nle c_45658)
            have h_45677 : rg x_45625 1 2147483647 := rg_lt2 (nle c_45658) (rg_k (0 : Int32) 0 rfl) (rg_full _) (by decide)
            have uh_45677 := h_45677.1
            have vh_45677 := h_45677.2
            refine lv_iconst (v := 0) hx hb dX12_sandGoes_34 (by decide) ?_
            refine lv_goto (tgt := 58) hx hb dX12_sandGoes_35 (by decide) ?_
            exact K_45654 (0 : Int32) _ _ _ hG hP hD hS (lv_sub hl [1, 2, 3] rfl)
    exact L_40038 _ (0 : Int32) ri _ _ _ (rg_w (rg_k (0 : Int32) 0 rfl) (by decide)) (Nat.lt_succ_self _) hG hP hD hS (lv_sub hl [1, 2, 0] rfl)
  exact go _ _ _ hP hD hS hl

set_option maxHeartbeats 4000000 in
set_option maxRecDepth 100000 in
theorem s_X12_tableAt_c1 (l : Launch) (D : va_G) (t : pq_T) (σ : pq_S) (I : Nat → Nat → Int32) (J : Nat → Nat → Int64) (ri : Nat → Nat → Int32) (rj : Nat → Nat → Int64) (rq : Nat → Nat → Option Nat) (sz : Nat) (tg : Nat → Nat) (hSH : SH σ tg) (hG0 : GT tg I ri) (this : Nat) (a0 : Int32) (hL_this : this ∈ σ.1) (hK_this : σ.2.1 this = 12) (h_a0 : rg a0 0 600) : MetI l yX12_tableAt (wa yX12_tableAt cX12_tableAt 3 (some .int)) ({ frames := 0, cells := 0, slots := 0, locals := 0 }) [.ref this, .int a0, .int 1] D t σ (I, J, ri, rj, rq) sz 0 0 (fun (r : Int32) (u : pq_S × pq_M) => u = (σ, I, J, ri, rj, rq)) := by
  refine Met.ofW (cc := cX12_tableAt) (maxL := 3) (ret := (some .int)) (by decide) rfl ?_
  intro p e s m args below meth c s₁ B hml hv
  obtain ⟨rfl, hsz, hP, hK, hD0, hN⟩ := hv
  have hx := B.exec
  have hb := B.bytes
  have hr := B.returns
  have hts := atoms_spec (ws := (wa yX12_tableAt cX12_tableAt 3 (some .int))) B.pre
  have hown : s.vm.findClass RX12 = some m.cls := findClass_of_methodNamed B.named
  have hlocks := B.notSynchronized
  subst hsz
  have hD : va_D (pq_B t σ (I, J, ri, rj, rq) s.heap.size) (pq_P t σ (I, J, ri, rj, rq)) := hD0.self
  generalize hAe : pq_B t σ (I, J, ri, rj, rq) s.heap.size = A at hD ⊢
  have hA : ∀ q : Nat, s.heap.size ≤ q → A q := fun q h => by rw [← hAe]; exact Or.inr h
  have hS : va_S A s.heap s.heap [] := va_S.rf
  have hG : GM [] tg σ I ri I ri rq := ⟨hG0, fun _ _ _ => rfl, fun _ _ _ _ _ => rfl, fun _ _ _ _ _ _ => rfl⟩
  have hl := lv_entry ([.ref this, .int a0, .int 1]) (n := 3) (Nat.le_of_ble_eq_true rfl)
  rw [lg_entry_eq]
  generalize (lg_sl ([.ref this, .int a0, .int 1]) ++ List.replicate (3 - (lg_sl ([.ref this, .int a0, .int 1])).length) Slot.unset).toArray = ls at hl ⊢
  have hl : lv_has ls 3 [(0, .ref this), (1, .int a0), (2, .int 1)] := hl
  refine q_gen (fun Q hQ => ?_)
  have go : ∀ (H : Heap) (locs : List Loc) (ls : Array Slot), va_P D vwCl (pq_P t σ (I, J, ri, rj, rq)) H → va_D A (pq_P t σ (I, J, ri, rj, rq)) → va_S A s.heap H locs → lv_has ls 3 [(0, .ref this), (1, .int a0), (2, .int 1)] → W p l e ({ frames := 0, cells := 0, slots := 0, locals := 0 } : Room) s m (List.toArray ([.ref this, .int a0, .int 1] : List Value)) below meth c H locs 0 0 Q (F0 m 0 ls []) := by
    intro H locs ls hP hD hS hl
    refine lv_aload_n hx hb dX12_tableAt_0 rfl (lv_at hl 0 rfl) ?_
    obtain ⟨w_1, hR_w_1, hL_w_1, hK_w_1, hN_w_1, hT_w_1⟩ := sh_a hSH 384 (ci := 12) (kd := 13) (len := 12720) rfl (by decide) hL_this hK_this
    refine pg_f (v := .ref w_1) (C := RX12) (T := TX12) (N := 31) hx hb hts (tw_i inlX12) hown hK hP hL_this hK_this (by decide) rfl 0 (by decide) (hts _ (tw_c tw_176)) (pq_hv rfl hR_w_1) dX12_tableAt_1 ?_
    refine lv_bipush (v := 20) hx hb dX12_tableAt_4 (by decide) ?_
    refine lv_iconst (v := 5) hx hb dX12_tableAt_6 (by decide) ?_
    refine lv_iload_n hx hb dX12_tableAt_7 rfl (lv_at hl 1 rfl) ?_
    refine lv_bipush (v := 12) hx hb dX12_tableAt_8 (by decide) ?_
    refine lv_irem hx hb dX12_tableAt_10 (by decide) ?_
    refine lv_topi (fun x_2 ex_2 => ?_)
    have h_3 : rg x_2 0 11 := rg_of_eq ex_2 (rg_rem h_a0 rfl (by decide))
    have uh_3 := h_3.1
    have vh_3 := h_3.2
    refine lv_imul hx hb dX12_tableAt_11 ?_
    refine lv_topi (fun x_4 ex_4 => ?_)
    have h_5 : rg x_4 0 55 := rg_of_eq ex_4 (rg_mul (rg_k (5 : Int32) 5 rfl) h_3 (by decide))
    have uh_5 := h_5.1
    have vh_5 := h_5.2
    have tx_4 : (x_4).toInt = 5 * (x_2).toInt := by rw [ex_4]; exact i_mul_rg (a2 := 5) (b2 := (x_2).toInt) rfl rfl (rg_k (5 : Int32) 5 rfl) h_3 (by decide)
    refine lv_iadd hx hb dX12_tableAt_12 ?_
    refine lv_topi (fun x_6 ex_6 => ?_)
    have h_7 : rg x_6 20 75 := rg_of_eq ex_6 (rg_add (rg_k (20 : Int32) 20 rfl) h_5 (by decide))
    have uh_7 := h_7.1
    have vh_7 := h_7.2
    have tx_6 : (x_6).toInt = 20 + (x_4).toInt := by rw [ex_6]; exact i_add_rg (a2 := 20) (b2 := (x_4).toInt) rfl rfl (rg_k (20 : Int32) 20 rfl) h_5 (by decide)
    refine lv_iload_n hx hb dX12_tableAt_13 rfl (lv_at hl 2 rfl) ?_
    refine lv_iadd hx hb dX12_tableAt_14 ?_
    refine lv_topi (fun x_8 ex_8 => ?_)
    have h_9 : rg x_8 21 76 := rg_of_eq ex_8 (rg_add h_7 (rg_k (1 : Int32) 1 rfl) (by decide))
    have uh_9 := h_9.1
    have vh_9 := h_9.2
    have tx_8 : (x_8).toInt = (x_6).toInt + 1 := by rw [ex_8]; exact i_add_rg (a2 := (x_6).toInt) (b2 := 1) rfl rfl h_7 (rg_k (1 : Int32) 1 rfl) (by decide)
    refine pl_i hx hb hK hP hL_w_1 hK_w_1 hN_w_1 (rg_in h_9 (by decide)) dX12_tableAt_15 ?_
    refine lv_topi (fun x_10 ex_10 => ?_)
    subst hQ
    exact W.iret (v := x_10) hx hb hr (fun t1 ht hW => ⟨⟨x_10, (σ, I, J, ri, rj, rq), rfl, rfl, by rw [ht]; exact hP, va_K.moved hW.alike hK, hD⟩, hS.F ht⟩) hS.2.2 dX12_tableAt_16
  exact go _ _ _ hP hD hS hl

set_option maxHeartbeats 4000000 in
set_option maxRecDepth 100000 in
theorem s_X12_tableAt_c0 (l : Launch) (D : va_G) (t : pq_T) (σ : pq_S) (I : Nat → Nat → Int32) (J : Nat → Nat → Int64) (ri : Nat → Nat → Int32) (rj : Nat → Nat → Int64) (rq : Nat → Nat → Option Nat) (sz : Nat) (tg : Nat → Nat) (hSH : SH σ tg) (hG0 : GT tg I ri) (this : Nat) (a0 : Int32) (hL_this : this ∈ σ.1) (hK_this : σ.2.1 this = 12) (h_a0 : rg a0 0 600) : MetI l yX12_tableAt (wa yX12_tableAt cX12_tableAt 3 (some .int)) ({ frames := 0, cells := 0, slots := 0, locals := 0 }) [.ref this, .int a0, .int 0] D t σ (I, J, ri, rj, rq) sz 0 0 (fun (r : Int32) (u : pq_S × pq_M) => u = (σ, I, J, ri, rj, rq)) := by
  refine Met.ofW (cc := cX12_tableAt) (maxL := 3) (ret := (some .int)) (by decide) rfl ?_
  intro p e s m args below meth c s₁ B hml hv
  obtain ⟨rfl, hsz, hP, hK, hD0, hN⟩ := hv
  have hx := B.exec
  have hb := B.bytes
  have hr := B.returns
  have hts := atoms_spec (ws := (wa yX12_tableAt cX12_tableAt 3 (some .int))) B.pre
  have hown : s.vm.findClass RX12 = some m.cls := findClass_of_methodNamed B.named
  have hlocks := B.notSynchronized
  subst hsz
  have hD : va_D (pq_B t σ (I, J, ri, rj, rq) s.heap.size) (pq_P t σ (I, J, ri, rj, rq)) := hD0.self
  generalize hAe : pq_B t σ (I, J, ri, rj, rq) s.heap.size = A at hD ⊢
  have hA : ∀ q : Nat, s.heap.size ≤ q → A q := fun q h => by rw [← hAe]; exact Or.inr h
  have hS : va_S A s.heap s.heap [] := va_S.rf
  have hG : GM [] tg σ I ri I ri rq := ⟨hG0, fun _ _ _ => rfl, fun _ _ _ _ _ => rfl, fun _ _ _ _ _ _ => rfl⟩
  have hl := lv_entry ([.ref this, .int a0, .int 0]) (n := 3) (Nat.le_of_ble_eq_true rfl)
  rw [lg_entry_eq]
  generalize (lg_sl ([.ref this, .int a0, .int 0]) ++ List.replicate (3 - (lg_sl ([.ref this, .int a0, .int 0])).length) Slot.unset).toArray = ls at hl ⊢
  have hl : lv_has ls 3 [(0, .ref this), (1, .int a0), (2, .int 0)] := hl
  refine q_gen (fun Q hQ => ?_)
  have go : ∀ (H : Heap) (locs : List Loc) (ls : Array Slot), va_P D vwCl (pq_P t σ (I, J, ri, rj, rq)) H → va_D A (pq_P t σ (I, J, ri, rj, rq)) → va_S A s.heap H locs → lv_has ls 3 [(0, .ref this), (1, .int a0), (2, .int 0)] → W p l e ({ frames := 0, cells := 0, slots := 0, locals := 0 } : Room) s m (List.toArray ([.ref this, .int a0, .int 0] : List Value)) below meth c H locs 0 0 Q (F0 m 0 ls []) := by
    intro H locs ls hP hD hS hl
    refine lv_aload_n hx hb dX12_tableAt_0 rfl (lv_at hl 0 rfl) ?_
    obtain ⟨w_1, hR_w_1, hL_w_1, hK_w_1, hN_w_1, hT_w_1⟩ := sh_a hSH 384 (ci := 12) (kd := 13) (len := 12720) rfl (by decide) hL_this hK_this
    refine pg_f (v := .ref w_1) (C := RX12) (T := TX12) (N := 31) hx hb hts (tw_i inlX12) hown hK hP hL_this hK_this (by decide) rfl 0 (by decide) (hts _ (tw_c tw_176)) (pq_hv rfl hR_w_1) dX12_tableAt_1 ?_
    refine lv_bipush (v := 20) hx hb dX12_tableAt_4 (by decide) ?_
    refine lv_iconst (v := 5) hx hb dX12_tableAt_6 (by decide) ?_
    refine lv_iload_n hx hb dX12_tableAt_7 rfl (lv_at hl 1 rfl) ?_
    refine lv_bipush (v := 12) hx hb dX12_tableAt_8 (by decide) ?_
    refine lv_irem hx hb dX12_tableAt_10 (by decide) ?_
    refine lv_topi (fun x_2 ex_2 => ?_)
    have h_3 : rg x_2 0 11 := rg_of_eq ex_2 (rg_rem h_a0 rfl (by decide))
    have uh_3 := h_3.1
    have vh_3 := h_3.2
    refine lv_imul hx hb dX12_tableAt_11 ?_
    refine lv_topi (fun x_4 ex_4 => ?_)
    have h_5 : rg x_4 0 55 := rg_of_eq ex_4 (rg_mul (rg_k (5 : Int32) 5 rfl) h_3 (by decide))
    have uh_5 := h_5.1
    have vh_5 := h_5.2
    have tx_4 : (x_4).toInt = 5 * (x_2).toInt := by rw [ex_4]; exact i_mul_rg (a2 := 5) (b2 := (x_2).toInt) rfl rfl (rg_k (5 : Int32) 5 rfl) h_3 (by decide)
    refine lv_iadd hx hb dX12_tableAt_12 ?_
    refine lv_topi (fun x_6 ex_6 => ?_)
    have h_7 : rg x_6 20 75 := rg_of_eq ex_6 (rg_add (rg_k (20 : Int32) 20 rfl) h_5 (by decide))
    have uh_7 := h_7.1
    have vh_7 := h_7.2
    have tx_6 : (x_6).toInt = 20 + (x_4).toInt := by rw [ex_6]; exact i_add_rg (a2 := 20) (b2 := (x_4).toInt) rfl rfl (rg_k (20 : Int32) 20 rfl) h_5 (by decide)
    refine lv_iload_n hx hb dX12_tableAt_13 rfl (lv_at hl 2 rfl) ?_
    refine lv_iadd hx hb dX12_tableAt_14 ?_
    refine lv_topi (fun x_8 ex_8 => ?_)
    have h_9 : rg x_8 20 75 := rg_of_eq ex_8 (rg_add h_7 (rg_k (0 : Int32) 0 rfl) (by decide))
    have uh_9 := h_9.1
    have vh_9 := h_9.2
    have tx_8 : (x_8).toInt = (x_6).toInt + 0 := by rw [ex_8]; exact i_add_rg (a2 := (x_6).toInt) (b2 := 0) rfl rfl h_7 (rg_k (0 : Int32) 0 rfl) (by decide)
    refine pl_i hx hb hK hP hL_w_1 hK_w_1 hN_w_1 (rg_in h_9 (by decide)) dX12_tableAt_15 ?_
    refine lv_topi (fun x_10 ex_10 => ?_)
    subst hQ
    exact W.iret (v := x_10) hx hb hr (fun t1 ht hW => ⟨⟨x_10, (σ, I, J, ri, rj, rq), rfl, rfl, by rw [ht]; exact hP, va_K.moved hW.alike hK, hD⟩, hS.F ht⟩) hS.2.2 dX12_tableAt_16
  exact go _ _ _ hP hD hS hl

set_option maxHeartbeats 4000000 in
set_option maxRecDepth 100000 in
theorem s_X12_tableAt_c4 (l : Launch) (D : va_G) (t : pq_T) (σ : pq_S) (I : Nat → Nat → Int32) (J : Nat → Nat → Int64) (ri : Nat → Nat → Int32) (rj : Nat → Nat → Int64) (rq : Nat → Nat → Option Nat) (sz : Nat) (tg : Nat → Nat) (hSH : SH σ tg) (hG0 : GT tg I ri) (this : Nat) (a0 : Int32) (hL_this : this ∈ σ.1) (hK_this : σ.2.1 this = 12) (h_a0 : rg a0 0 600) : MetI l yX12_tableAt (wa yX12_tableAt cX12_tableAt 3 (some .int)) ({ frames := 0, cells := 0, slots := 0, locals := 0 }) [.ref this, .int a0, .int 4] D t σ (I, J, ri, rj, rq) sz 0 0 (fun (r : Int32) (u : pq_S × pq_M) => u = (σ, I, J, ri, rj, rq)) := by
  refine Met.ofW (cc := cX12_tableAt) (maxL := 3) (ret := (some .int)) (by decide) rfl ?_
  intro p e s m args below meth c s₁ B hml hv
  obtain ⟨rfl, hsz, hP, hK, hD0, hN⟩ := hv
  have hx := B.exec
  have hb := B.bytes
  have hr := B.returns
  have hts := atoms_spec (ws := (wa yX12_tableAt cX12_tableAt 3 (some .int))) B.pre
  have hown : s.vm.findClass RX12 = some m.cls := findClass_of_methodNamed B.named
  have hlocks := B.notSynchronized
  subst hsz
  have hD : va_D (pq_B t σ (I, J, ri, rj, rq) s.heap.size) (pq_P t σ (I, J, ri, rj, rq)) := hD0.self
  generalize hAe : pq_B t σ (I, J, ri, rj, rq) s.heap.size = A at hD ⊢
  have hA : ∀ q : Nat, s.heap.size ≤ q → A q := fun q h => by rw [← hAe]; exact Or.inr h
  have hS : va_S A s.heap s.heap [] := va_S.rf
  have hG : GM [] tg σ I ri I ri rq := ⟨hG0, fun _ _ _ => rfl, fun _ _ _ _ _ => rfl, fun _ _ _ _ _ _ => rfl⟩
  have hl := lv_entry ([.ref this, .int a0, .int 4]) (n := 3) (Nat.le_of_ble_eq_true rfl)
  rw [lg_entry_eq]
  generalize (lg_sl ([.ref this, .int a0, .int 4]) ++ List.replicate (3 - (lg_sl ([.ref this, .int a0, .int 4])).length) Slot.unset).toArray = ls at hl ⊢
  have hl : lv_has ls 3 [(0, .ref this), (1, .int a0), (2, .int 4)] := hl
  refine q_gen (fun Q hQ => ?_)
  have go : ∀ (H : Heap) (locs : List Loc) (ls : Array Slot), va_P D vwCl (pq_P t σ (I, J, ri, rj, rq)) H → va_D A (pq_P t σ (I, J, ri, rj, rq)) → va_S A s.heap H locs → lv_has ls 3 [(0, .ref this), (1, .int a0), (2, .int 4)] → W p l e ({ frames := 0, cells := 0, slots := 0, locals := 0 } : Room) s m (List.toArray ([.ref this, .int a0, .int 4] : List Value)) below meth c H locs 0 0 Q (F0 m 0 ls []) := by
    intro H locs ls hP hD hS hl
    refine lv_aload_n hx hb dX12_tableAt_0 rfl (lv_at hl 0 rfl) ?_
    obtain ⟨w_1, hR_w_1, hL_w_1, hK_w_1, hN_w_1, hT_w_1⟩ := sh_a hSH 384 (ci := 12) (kd := 13) (len := 12720) rfl (by decide) hL_this hK_this
    refine pg_f (v := .ref w_1) (C := RX12) (T := TX12) (N := 31) hx hb hts (tw_i inlX12) hown hK hP hL_this hK_this (by decide) rfl 0 (by decide) (hts _ (tw_c tw_176)) (pq_hv rfl hR_w_1) dX12_tableAt_1 ?_
    refine lv_bipush (v := 20) hx hb dX12_tableAt_4 (by decide) ?_
    refine lv_iconst (v := 5) hx hb dX12_tableAt_6 (by decide) ?_
    refine lv_iload_n hx hb dX12_tableAt_7 rfl (lv_at hl 1 rfl) ?_
    refine lv_bipush (v := 12) hx hb dX12_tableAt_8 (by decide) ?_
    refine lv_irem hx hb dX12_tableAt_10 (by decide) ?_
    refine lv_topi (fun x_2 ex_2 => ?_)
    have h_3 : rg x_2 0 11 := rg_of_eq ex_2 (rg_rem h_a0 rfl (by decide))
    have uh_3 := h_3.1
    have vh_3 := h_3.2
    refine lv_imul hx hb dX12_tableAt_11 ?_
    refine lv_topi (fun x_4 ex_4 => ?_)
    have h_5 : rg x_4 0 55 := rg_of_eq ex_4 (rg_mul (rg_k (5 : Int32) 5 rfl) h_3 (by decide))
    have uh_5 := h_5.1
    have vh_5 := h_5.2
    have tx_4 : (x_4).toInt = 5 * (x_2).toInt := by rw [ex_4]; exact i_mul_rg (a2 := 5) (b2 := (x_2).toInt) rfl rfl (rg_k (5 : Int32) 5 rfl) h_3 (by decide)
    refine lv_iadd hx hb dX12_tableAt_12 ?_
    refine lv_topi (fun x_6 ex_6 => ?_)
    have h_7 : rg x_6 20 75 := rg_of_eq ex_6 (rg_add (rg_k (20 : Int32) 20 rfl) h_5 (by decide))
    have uh_7 := h_7.1
    have vh_7 := h_7.2
    have tx_6 : (x_6).toInt = 20 + (x_4).toInt := by rw [ex_6]; exact i_add_rg (a2 := 20) (b2 := (x_4).toInt) rfl rfl (rg_k (20 : Int32) 20 rfl) h_5 (by decide)
    refine lv_iload_n hx hb dX12_tableAt_13 rfl (lv_at hl 2 rfl) ?_
    refine lv_iadd hx hb dX12_tableAt_14 ?_
    refine lv_topi (fun x_8 ex_8 => ?_)
    have h_9 : rg x_8 24 79 := rg_of_eq ex_8 (rg_add h_7 (rg_k (4 : Int32) 4 rfl) (by decide))
    have uh_9 := h_9.1
    have vh_9 := h_9.2
    have tx_8 : (x_8).toInt = (x_6).toInt + 4 := by rw [ex_8]; exact i_add_rg (a2 := (x_6).toInt) (b2 := 4) rfl rfl h_7 (rg_k (4 : Int32) 4 rfl) (by decide)
    refine pl_i hx hb hK hP hL_w_1 hK_w_1 hN_w_1 (rg_in h_9 (by decide)) dX12_tableAt_15 ?_
    refine lv_topi (fun x_10 ex_10 => ?_)
    subst hQ
    exact W.iret (v := x_10) hx hb hr (fun t1 ht hW => ⟨⟨x_10, (σ, I, J, ri, rj, rq), rfl, rfl, by rw [ht]; exact hP, va_K.moved hW.alike hK, hD⟩, hS.F ht⟩) hS.2.2 dX12_tableAt_16
  exact go _ _ _ hP hD hS hl

set_option maxHeartbeats 4000000 in
set_option maxRecDepth 100000 in
theorem s_X12_seaStands (l : Launch) (D : va_G) (t : pq_T) (σ : pq_S) (I : Nat → Nat → Int32) (J : Nat → Nat → Int64) (ri : Nat → Nat → Int32) (rj : Nat → Nat → Int64) (rq : Nat → Nat → Option Nat) (sz : Nat) (tg : Nat → Nat) (hSH : SH σ tg) (hG0 : GT tg I ri) (this : Nat) (a0 : Int32) (a1 : Int32) (hL_this : this ∈ σ.1) (hK_this : σ.2.1 this = 12) (h_a0 : rg a0 0 599) : MetV l yX12_seaStands (wa yX12_seaStands cX12_seaStands 9 none) ({ frames := 2, cells := 0, slots := 0, locals := 43 }) [.ref this, .int a0, .int a1] D t σ (I, J, ri, rj, rq) sz 0 0 (fun (u : pq_S × pq_M) => ∃ ri' : Nat → Nat → Int32, u = (σ, I, J, ri', rj, rq) ∧ GM [] tg σ I ri I ri' rq) := by
  refine Met.ofW (cc := cX12_seaStands) (maxL := 9) (ret := none) (by decide) rfl ?_
  intro p e s m args below meth c s₁ B hml hv
  obtain ⟨rfl, hsz, hP, hK, hD0, hN⟩ := hv
  have hx := B.exec
  have hb := B.bytes
  have hr := B.returns
  have hts := atoms_spec (ws := (wa yX12_seaStands cX12_seaStands 9 none)) B.pre
  have hown : s.vm.findClass RX12 = some m.cls := findClass_of_methodNamed B.named
  have hlocks := B.notSynchronized
  subst hsz
  have hD : va_D (pq_B t σ (I, J, ri, rj, rq) s.heap.size) (pq_P t σ (I, J, ri, rj, rq)) := hD0.self
  generalize hAe : pq_B t σ (I, J, ri, rj, rq) s.heap.size = A at hD ⊢
  have hA : ∀ q : Nat, s.heap.size ≤ q → A q := fun q h => by rw [← hAe]; exact Or.inr h
  have hS : va_S A s.heap s.heap [] := va_S.rf
  have hG : GM [] tg σ I ri I ri rq := ⟨hG0, fun _ _ _ => rfl, fun _ _ _ _ _ => rfl, fun _ _ _ _ _ _ => rfl⟩
  have hl := lv_entry ([.ref this, .int a0, .int a1]) (n := 9) (Nat.le_of_ble_eq_true rfl)
  rw [lg_entry_eq]
  generalize (lg_sl ([.ref this, .int a0, .int a1]) ++ List.replicate (9 - (lg_sl ([.ref this, .int a0, .int a1])).length) Slot.unset).toArray = ls at hl ⊢
  have hl : lv_has ls 9 [(0, .ref this), (1, .int a0), (2, .int a1)] := hl
  refine q_gen (fun Q hQ => ?_)
  have go : ∀ (H : Heap) (locs : List Loc) (ls : Array Slot), va_P D vwCl (pq_P t σ (I, J, ri, rj, rq)) H → va_D A (pq_P t σ (I, J, ri, rj, rq)) → va_S A s.heap H locs → lv_has ls 9 [(0, .ref this), (1, .int a0), (2, .int a1)] → W p l e ({ frames := 2, cells := 0, slots := 0, locals := 43 } : Room) s m (List.toArray ([.ref this, .int a0, .int a1] : List Value)) below meth c H locs 0 0 Q (F0 m 0 ls []) := by
    intro H locs ls hP hD hS hl
    refine lv_iconst (v := 0) hx hb dX12_seaStands_0 (by decide) ?_
    refine lv_istore_n (lv' := [(3, .int 0), (0, .ref this), (1, .int a0), (2, .int a1)]) hx hb dX12_seaStands_1 rfl hl (by decide) rfl (fun ls hl => ?_)
    refine lv_iconst (v := 0) hx hb dX12_seaStands_2 (by decide) ?_
    refine lv_istore (lv' := [(4, .int 0), (3, .int 0), (0, .ref this), (1, .int a0), (2, .int a1)]) hx hb dX12_seaStands_3 hl (by decide) rfl (fun ls hl => ?_)
    refine lv_iconst (v := 0) hx hb dX12_seaStands_5 (by decide) ?_
    refine lv_istore (lv' := [(5, .int 0), (4, .int 0), (3, .int 0), (0, .ref this), (1, .int a0), (2, .int a1)]) hx hb dX12_seaStands_6 hl (by decide) rfl (fun ls hl => ?_)
    have L_4698 : ∀ (n_4697 : Nat) (x_4346 : Int32) (x_4347 : Int32) (x_4348 : Int32) (ri_4349 : Nat → Nat → Int32) (H : Heap) (locs : List Loc) (ls : Array Slot), rg x_4348 0 40 → (40 - (x_4348).toInt).toNat < n_4697 → GM [] tg σ I ri I ri_4349 rq → va_P D vwCl (pq_P t σ (I, J, ri_4349, rj, rq)) H → va_D A (pq_P t σ (I, J, ri_4349, rj, rq)) → va_S A s.heap H locs → lv_has ls 9 [(0, .ref this), (1, .int a0), (2, .int a1), (3, .int x_4346), (4, .int x_4347), (5, .int x_4348)] → W p l e ({ frames := 2, cells := 0, slots := 0, locals := 43 } : Room) s m (List.toArray ([.ref this, .int a0, .int a1] : List Value)) below meth c H locs 0 0 Q (F0 m 8 ls []) := by
      intro n_4697
      induction n_4697 with
      | zero => intro x_4346 x_4347 x_4348 ri_4349 H locs ls h_4701 hm_4696 hG hP hD hS hl; exact absurd hm_4696 (Nat.not_lt_zero _)
      | succ n_4697 ih_4699 =>
        intro x_4346 x_4347 x_4348 ri_4349 H locs ls h_4701 hm_4696 hG hP hD hS hl
        have uh_4701 := h_4701.1
        have vh_4701 := h_4701.2
        refine lv_iload hx hb dX12_seaStands_8 (lv_at hl 5 rfl) ?_
        refine lv_aload_n hx hb dX12_seaStands_10 rfl (lv_at hl 0 rfl) ?_
        obtain ⟨w_4702, hR_w_4702, hL_w_4702, hK_w_4702, hN_w_4702, hT_w_4702⟩ := sh_a hSH 384 (ci := 12) (kd := 13) (len := 12720) rfl (by decide) hL_this hK_this
        refine pg_f (v := .ref w_4702) (C := RX12) (T := TX12) (N := 31) hx hb hts (tw_i inlX12) hown hK hP hL_this hK_this (by decide) rfl 0 (by decide) (hts _ (tw_c tw_176)) (pq_hv rfl hR_w_4702) dX12_seaStands_11 ?_
        refine lv_iconst (v := 2) hx hb dX12_seaStands_14 (by decide) ?_
        refine pl_i hx hb hK hP hL_w_4702 hK_w_4702 hN_w_4702 (vp_in_iff.mpr (by decide)) dX12_seaStands_15 ?_
        refine lv_tov (ri w_4702 2) (hG.2.2.1 w_4702 hT_w_4702 2 (by decide) (by decide)) ?_
        have h_4703 : rg (ri w_4702 2) 0 40 := GM.z0 hG0 (by rw [hT_w_4702]; decide) (i := 2) (k := 2) (by decide) rfl
        have uh_4703 := h_4703.1
        have vh_4703 := h_4703.2
        refine lv_icmp_ge (tgt := 366) hx hb dX12_seaStands_16 (by decide) (fun c_4704 => ?_) (fun c_4704 => ?_)
        · have tc_4705 : (ri w_4702 2).toInt ≤ (x_4348).toInt := Int32.le_iff_toInt_le.mp c_4704
          refine lv_aload_n hx hb dX12_seaStands_366 rfl (lv_at hl 0 rfl) ?_
          refine pg_f (v := .ref w_4702) (C := RX12) (T := TX12) (N := 31) hx hb hts (tw_i inlX12) hown hK hP hL_this hK_this (by decide) rfl 0 (by decide) (hts _ (tw_c tw_176)) (pq_hv rfl hR_w_4702) dX12_seaStands_367 ?_
          refine lv_sipush (v := 2520) hx hb dX12_seaStands_370 (by decide) ?_
          refine lv_iconst (v := 2) hx hb dX12_seaStands_373 (by decide) ?_
          refine lv_iload_n hx hb dX12_seaStands_374 rfl (lv_at hl 1 rfl) ?_
          refine lv_imul hx hb dX12_seaStands_375 ?_
          refine lv_topi (fun x_4706 ex_4706 => ?_)
          have h_4707 : rg x_4706 0 1198 := rg_of_eq ex_4706 (rg_mul (rg_k (2 : Int32) 2 rfl) h_a0 (by decide))
          have uh_4707 := h_4707.1
          have vh_4707 := h_4707.2
          have tx_4706 : (x_4706).toInt = 2 * (a0).toInt := by rw [ex_4706]; exact i_mul_rg (a2 := 2) (b2 := (a0).toInt) rfl rfl (rg_k (2 : Int32) 2 rfl) h_a0 (by decide)
          refine lv_iadd hx hb dX12_seaStands_376 ?_
          refine lv_topi (fun x_4708 ex_4708 => ?_)
          have h_4709 : rg x_4708 2520 3718 := rg_of_eq ex_4708 (rg_add (rg_k (2520 : Int32) 2520 rfl) h_4707 (by decide))
          have uh_4709 := h_4709.1
          have vh_4709 := h_4709.2
          have tx_4708 : (x_4708).toInt = 2520 + (x_4706).toInt := by rw [ex_4708]; exact i_add_rg (a2 := 2520) (b2 := (x_4706).toInt) rfl rfl (rg_k (2520 : Int32) 2520 rfl) h_4707 (by decide)
          refine lv_iload_n hx hb dX12_seaStands_377 rfl (lv_at hl 3 rfl) ?_
          refine pt_i hx hb hK hP hD hS hL_w_4702 hK_w_4702 hN_w_4702 (rg_in h_4709 (by decide)) dX12_seaStands_378 (fun r_4710 H locs er_4710 hP hD hS => ?_)
          have hG := GM.wz hG hT_w_4702 (by decide) er_4710 (zn_ROCKS (c := a0.toNatClampNeg) (k := 0) (by have z_i := clampE x_4708; have z_0 := clampE a0; omega) (rg_cl1 h_a0 (by decide)) (by decide)) rfl (rg_w (rg_full _) (by decide)) (by decide)
          refine lv_aload_n hx hb dX12_seaStands_379 rfl (lv_at hl 0 rfl) ?_
          refine pg_f (v := .ref w_4702) (C := RX12) (T := TX12) (N := 31) hx hb hts (tw_i inlX12) hown hK hP hL_this hK_this (by decide) rfl 0 (by decide) (hts _ (tw_c tw_176)) (pq_hv rfl hR_w_4702) dX12_seaStands_380 ?_
          refine lv_sipush (v := 2520) hx hb dX12_seaStands_383 (by decide) ?_
          refine lv_iconst (v := 2) hx hb dX12_seaStands_386 (by decide) ?_
          refine lv_iload_n hx hb dX12_seaStands_387 rfl (lv_at hl 1 rfl) ?_
          refine lv_imul hx hb dX12_seaStands_388 ?_
          refine lv_topi (fun x_4711 ex_4711 => ?_)
          have h_4712 : rg x_4711 0 1198 := rg_of_eq ex_4711 (rg_mul (rg_k (2 : Int32) 2 rfl) h_a0 (by decide))
          have uh_4712 := h_4712.1
          have vh_4712 := h_4712.2
          have tx_4711 : (x_4711).toInt = 2 * (a0).toInt := by rw [ex_4711]; exact i_mul_rg (a2 := 2) (b2 := (a0).toInt) rfl rfl (rg_k (2 : Int32) 2 rfl) h_a0 (by decide)
          refine lv_iadd hx hb dX12_seaStands_389 ?_
          refine lv_topi (fun x_4713 ex_4713 => ?_)
          have h_4714 : rg x_4713 2520 3718 := rg_of_eq ex_4713 (rg_add (rg_k (2520 : Int32) 2520 rfl) h_4712 (by decide))
          have uh_4714 := h_4714.1
          have vh_4714 := h_4714.2
          have tx_4713 : (x_4713).toInt = 2520 + (x_4711).toInt := by rw [ex_4713]; exact i_add_rg (a2 := 2520) (b2 := (x_4711).toInt) rfl rfl (rg_k (2520 : Int32) 2520 rfl) h_4712 (by decide)
          refine lv_iconst (v := 1) hx hb dX12_seaStands_390 (by decide) ?_
          refine lv_iadd hx hb dX12_seaStands_391 ?_
          refine lv_topi (fun x_4715 ex_4715 => ?_)
          have h_4716 : rg x_4715 2521 3719 := rg_of_eq ex_4715 (rg_add h_4714 (rg_k (1 : Int32) 1 rfl) (by decide))
          have uh_4716 := h_4716.1
          have vh_4716 := h_4716.2
          have tx_4715 : (x_4715).toInt = (x_4713).toInt + 1 := by rw [ex_4715]; exact i_add_rg (a2 := (x_4713).toInt) (b2 := 1) rfl rfl h_4714 (rg_k (1 : Int32) 1 rfl) (by decide)
          refine lv_iload hx hb dX12_seaStands_392 (lv_at hl 4 rfl) ?_
          refine pt_i hx hb hK hP hD hS hL_w_4702 hK_w_4702 hN_w_4702 (rg_in h_4716 (by decide)) dX12_seaStands_394 (fun r_4717 H locs er_4717 hP hD hS => ?_)
          have hG := GM.wz hG hT_w_4702 (by decide) er_4717 (zn_ROCKS (c := a0.toNatClampNeg) (k := 1) (by have z_i := clampE x_4715; have z_0 := clampE a0; omega) (rg_cl1 h_a0 (by decide)) (by decide)) rfl (rg_w (rg_full _) (by decide)) (by decide)
          subst hQ
          exact W.vret hx hb hr (fun t1 ht hW => ⟨⟨(σ, I, J, r_4717, rj, rq), rfl, ⟨r_4717, rfl, hG⟩, by rw [ht]; exact hP, va_K.moved hW.alike hK, hD⟩, hS.F ht⟩) hS.2.2 dX12_seaStands_395
        · have tc_4718 : (x_4348).toInt < (ri w_4702 2).toInt := Int32.lt_iff_toInt_lt.mp (nle c_4704)
          have h_4719 : rg x_4348 0 39 := rg_lt1 (nle c_4704) h_4701 h_4703 (by decide)
          have uh_4719 := h_4719.1
          have vh_4719 := h_4719.2
          have h_4720 : rg (ri w_4702 2) 1 40 := rg_lt2 (nle c_4704) h_4701 h_4703 (by decide)
          have uh_4720 := h_4720.1
          have vh_4720 := h_4720.2
          refine lv_bipush (v := 100) hx hb dX12_seaStands_19 (by decide) ?_
          refine lv_bipush (v := 16) hx hb dX12_seaStands_21 (by decide) ?_
          refine lv_iload hx hb dX12_seaStands_23 (lv_at hl 5 rfl) ?_
          refine lv_imul hx hb dX12_seaStands_25 ?_
          refine lv_topi (fun x_4721 ex_4721 => ?_)
          have h_4722 : rg x_4721 0 624 := rg_of_eq ex_4721 (rg_mul (rg_k (16 : Int32) 16 rfl) h_4719 (by decide))
          have uh_4722 := h_4722.1
          have vh_4722 := h_4722.2
          have tx_4721 : (x_4721).toInt = 16 * (x_4348).toInt := by rw [ex_4721]; exact i_mul_rg (a2 := 16) (b2 := (x_4348).toInt) rfl rfl (rg_k (16 : Int32) 16 rfl) h_4719 (by decide)
          refine lv_iadd hx hb dX12_seaStands_26 ?_
          refine lv_topi (fun x_4723 ex_4723 => ?_)
          have h_4724 : rg x_4723 100 724 := rg_of_eq ex_4723 (rg_add (rg_k (100 : Int32) 100 rfl) h_4722 (by decide))
          have uh_4724 := h_4724.1
          have vh_4724 := h_4724.2
          have tx_4723 : (x_4723).toInt = 100 + (x_4721).toInt := by rw [ex_4723]; exact i_add_rg (a2 := 100) (b2 := (x_4721).toInt) rfl rfl (rg_k (100 : Int32) 100 rfl) h_4722 (by decide)
          refine lv_istore (lv' := [(6, .int x_4723), (0, .ref this), (1, .int a0), (2, .int a1), (3, .int x_4346), (4, .int x_4347), (5, .int x_4348)]) hx hb dX12_seaStands_27 hl (by decide) rfl (fun ls hl => ?_)
          refine lv_aload_n hx hb dX12_seaStands_29 rfl (lv_at hl 1 rfl) ?_
          refine lv_iload hx hb dX12_seaStands_30 (lv_at hl 6 rfl) ?_
          refine pk_i (va_runV (As := [.int x_4348]) (rest := []) ⟨hx, hb, hml, hown, hts⟩ (s_X12_topOf l D t σ I J ri_4349 rj rq H.size tg hSH hG.1 this x_4348 hL_this hK_this (rg_w h_4719 (by decide))) (cwV 1 hts (tw_V tw_1213 tw_1214 tw_1215 tw_5 tw_1216) rfl rfl rfl cv_yX12_topOf_1 ⟨Nat.le_of_ble_eq_true rfl, Nat.le_of_ble_eq_true rfl⟩) ⟨pq_blind, pq_recv hK hP hL_this hK_this (by decide) rfl, pq_pre hK hN hP hD⟩ rfl rfl hl.1 rfl (lv_room (Nat.le_of_ble_eq_true rfl)) dX12_seaStands_32 ⟨Nat.le_of_ble_eq_true rfl, Nat.le_of_ble_eq_true rfl⟩) hD hS hA (fun x_4725 σ1 μ1 H locs hw_4726 hP hD hS => ?_)
          have hu_4727 := hw_4726
          obtain ⟨hu_4727a, hu_4727b⟩ := Prod.mk.inj hu_4727
          rw [hu_4727a, hu_4727b] at hP hD
          refine lv_iload_n hx hb dX12_seaStands_35 rfl (lv_at hl 3 rfl) ?_
          refine lv_aload_n hx hb dX12_seaStands_36 rfl (lv_at hl 1 rfl) ?_
          refine lv_iload_n hx hb dX12_seaStands_37 rfl (lv_at hl 2 rfl) ?_
          refine lv_iconst (v := 1) hx hb dX12_seaStands_38 (by decide) ?_
          refine pk_i (va_runV (As := [.int a0, .int 1]) (rest := [.int a1, .int x_4725]) ⟨hx, hb, hml, hown, hts⟩ (s_X12_tableAt_c1 l D t σ I J ri_4349 rj rq H.size tg hSH hG.1 this a0 hL_this hK_this (rg_w h_a0 (by decide))) (cwV 2 hts (tw_V tw_1201 tw_1202 tw_1203 tw_5 tw_1204) rfl rfl rfl cv_yX12_tableAt_2 ⟨Nat.le_of_ble_eq_true rfl, Nat.le_of_ble_eq_true rfl⟩) ⟨pq_blind, pq_recv hK hP hL_this hK_this (by decide) rfl, pq_pre hK hN hP hD⟩ rfl rfl hl.1 rfl (lv_room (Nat.le_of_ble_eq_true rfl)) dX12_seaStands_39 ⟨Nat.le_of_ble_eq_true rfl, Nat.le_of_ble_eq_true rfl⟩) hD hS hA (fun x_4730 σ1 μ1 H locs hw_4731 hP hD hS => ?_)
          have hu_4732 := hw_4731
          obtain ⟨hu_4732a, hu_4732b⟩ := Prod.mk.inj hu_4732
          rw [hu_4732a, hu_4732b] at hP hD
          refine lv_iadd hx hb dX12_seaStands_42 ?_
          refine lv_topi (fun x_4735 ex_4735 => ?_)
          have K_5047 : ∀  (H : Heap) (locs : List Loc) (ls : Array Slot), GM [] tg σ I ri I ri_4349 rq → va_P D vwCl (pq_P t σ (I, J, ri_4349, rj, rq)) H → va_D A (pq_P t σ (I, J, ri_4349, rj, rq)) → va_S A s.heap H locs → lv_has ls 9 [(0, .ref this), (1, .int a0), (2, .int a1), (3, .int x_4346), (4, .int x_4347), (5, .int x_4348), (6, .int x_4723)] → W p l e ({ frames := 2, cells := 0, slots := 0, locals := 43 } : Room) s m (List.toArray ([.ref this, .int a0, .int a1] : List Value)) below meth c H locs 0 0 Q (F0 m 51 ls [.int 0]) := by
            intro H locs ls hG hP hD hS hl
            refine lv_istore (lv' := [(7, .int 0), (0, .ref this), (1, .int a0), (2, .int a1), (3, .int x_4346), (4, .int x_4347), (5, .int x_4348), (6, .int x_4723)]) hx hb dX12_seaStands_51 hl (by decide) rfl (fun ls hl => ?_)
            refine lv_aload_n hx hb dX12_seaStands_53 rfl (lv_at hl 1 rfl) ?_
            refine lv_iload hx hb dX12_seaStands_54 (lv_at hl 6 rfl) ?_
            refine pk_i (va_runV (As := [.int x_4348]) (rest := []) ⟨hx, hb, hml, hown, hts⟩ (s_X12_topOf l D t σ I J ri_4349 rj rq H.size tg hSH hG.1 this x_4348 hL_this hK_this (rg_w h_4719 (by decide))) (cwV 1 hts (tw_V tw_1213 tw_1214 tw_1215 tw_5 tw_1216) rfl rfl rfl cv_yX12_topOf_1 ⟨Nat.le_of_ble_eq_true rfl, Nat.le_of_ble_eq_true rfl⟩) ⟨pq_blind, pq_recv hK hP hL_this hK_this (by decide) rfl, pq_pre hK hN hP hD⟩ rfl rfl hl.1 rfl (lv_room (Nat.le_of_ble_eq_true rfl)) dX12_seaStands_56 ⟨Nat.le_of_ble_eq_true rfl, Nat.le_of_ble_eq_true rfl⟩) hD hS hA (fun x_5048 σ1 μ1 H locs hw_5049 hP hD hS => ?_)
            have hu_5050 := hw_5049
            obtain ⟨hu_5050a, hu_5050b⟩ := Prod.mk.inj hu_5050
            rw [hu_5050a, hu_5050b] at hP hD
            refine lv_iload_n hx hb dX12_seaStands_59 rfl (lv_at hl 3 rfl) ?_
            refine lv_aload_n hx hb dX12_seaStands_60 rfl (lv_at hl 1 rfl) ?_
            refine lv_iload_n hx hb dX12_seaStands_61 rfl (lv_at hl 2 rfl) ?_
            refine lv_iconst (v := 0) hx hb dX12_seaStands_62 (by decide) ?_
            refine pk_i (va_runV (As := [.int a0, .int 0]) (rest := [.int a1, .int x_5048]) ⟨hx, hb, hml, hown, hts⟩ (s_X12_tableAt_c0 l D t σ I J ri_4349 rj rq H.size tg hSH hG.1 this a0 hL_this hK_this (rg_w h_a0 (by decide))) (cwV 2 hts (tw_V tw_1201 tw_1202 tw_1203 tw_5 tw_1204) rfl rfl rfl cv_yX12_tableAt_2 ⟨Nat.le_of_ble_eq_true rfl, Nat.le_of_ble_eq_true rfl⟩) ⟨pq_blind, pq_recv hK hP hL_this hK_this (by decide) rfl, pq_pre hK hN hP hD⟩ rfl rfl hl.1 rfl (lv_room (Nat.le_of_ble_eq_true rfl)) dX12_seaStands_63 ⟨Nat.le_of_ble_eq_true rfl, Nat.le_of_ble_eq_true rfl⟩) hD hS hA (fun x_5053 σ1 μ1 H locs hw_5054 hP hD hS => ?_)
            have hu_5055 := hw_5054
            obtain ⟨hu_5055a, hu_5055b⟩ := Prod.mk.inj hu_5055
            rw [hu_5055a, hu_5055b] at hP hD
            refine lv_iadd hx hb dX12_seaStands_66 ?_
            refine lv_topi (fun x_5058 ex_5058 => ?_)
            have K_5186 : ∀  (H : Heap) (locs : List Loc) (ls : Array Slot), GM [] tg σ I ri I ri_4349 rq → va_P D vwCl (pq_P t σ (I, J, ri_4349, rj, rq)) H → va_D A (pq_P t σ (I, J, ri_4349, rj, rq)) → va_S A s.heap H locs → lv_has ls 9 [(0, .ref this), (1, .int a0), (2, .int a1), (3, .int x_4346), (4, .int x_4347), (5, .int x_4348), (6, .int x_4723), (7, .int 0)] → W p l e ({ frames := 2, cells := 0, slots := 0, locals := 43 } : Room) s m (List.toArray ([.ref this, .int a0, .int a1] : List Value)) below meth c H locs 0 0 Q (F0 m 75 ls [.int 0]) := by
              intro H locs ls hG hP hD hS hl
              refine lv_istore (lv' := [(8, .int 0), (0, .ref this), (1, .int a0), (2, .int a1), (3, .int x_4346), (4, .int x_4347), (5, .int x_4348), (6, .int x_4723), (7, .int 0)]) hx hb dX12_seaStands_75 hl (by decide) rfl (fun ls hl => ?_)
              refine lv_aload_n hx hb dX12_seaStands_77 rfl (lv_at hl 1 rfl) ?_
              refine pg_f (v := .ref w_4702) (C := RX12) (T := TX12) (N := 31) hx hb hts (tw_i inlX12) hown hK hP hL_this hK_this (by decide) rfl 0 (by decide) (hts _ (tw_c tw_176)) (pq_hv rfl hR_w_4702) dX12_seaStands_78 ?_
              refine lv_iload hx hb dX12_seaStands_81 (lv_at hl 7 rfl) ?_
              refine lv_bipush (v := 12) hx hb dX12_seaStands_83 (by decide) ?_
              refine lv_iadd hx hb dX12_seaStands_85 ?_
              refine lv_topi (fun x_5187 ex_5187 => ?_)
              have h_5188 : rg x_5187 112 736 := rg_of_eq ex_5187 (rg_add h_4724 (rg_k (12 : Int32) 12 rfl) (by decide))
              have uh_5188 := h_5188.1
              have vh_5188 := h_5188.2
              have tx_5187 : (x_5187).toInt = (x_4723).toInt + 12 := by rw [ex_5187]; exact i_add_rg (a2 := (x_4723).toInt) (b2 := 12) rfl rfl h_4724 (rg_k (12 : Int32) 12 rfl) (by decide)
              refine lv_iload hx hb dX12_seaStands_86 (lv_at hl 8 rfl) ?_
              have K_5238 : ∀  (H : Heap) (locs : List Loc) (ls : Array Slot), GM [] tg σ I ri I ri_4349 rq → va_P D vwCl (pq_P t σ (I, J, ri_4349, rj, rq)) H → va_D A (pq_P t σ (I, J, ri_4349, rj, rq)) → va_S A s.heap H locs → lv_has ls 9 [(0, .ref this), (1, .int a0), (2, .int a1), (3, .int x_4346), (4, .int x_4347), (5, .int x_4348), (6, .int x_4723), (7, .int 0), (8, .int 0)] → W p l e ({ frames := 2, cells := 0, slots := 0, locals := 43 } : Room) s m (List.toArray ([.ref this, .int a0, .int a1] : List Value)) below meth c H locs 0 0 Q (F0 m 96 ls [.int 0, .int x_5187, .ref w_4702]) := by
                intro H locs ls hG hP hD hS hl
                refine pt_i hx hb hK hP hD hS hL_w_4702 hK_w_4702 hN_w_4702 (rg_in h_5188 (by decide)) dX12_seaStands_96 (fun r_5239 H locs er_5239 hP hD hS => ?_)
                have hG := GM.wz hG hT_w_4702 (by decide) er_5239 (zn_CELL (c := x_4348.toNatClampNeg) (k := 12) (by have z_i := clampE x_5187; have z_0 := clampE x_4348; omega) (rg_cl1 h_4719 (by decide)) (by decide)) rfl (rg_w (rg_k (0 : Int32) 0 rfl) (by decide)) (by decide)
                refine lv_aload_n hx hb dX12_seaStands_97 rfl (lv_at hl 0 rfl) ?_
                refine pg_f (v := .ref w_4702) (C := RX12) (T := TX12) (N := 31) hx hb hts (tw_i inlX12) hown hK hP hL_this hK_this (by decide) rfl 0 (by decide) (hts _ (tw_c tw_176)) (pq_hv rfl hR_w_4702) dX12_seaStands_98 ?_
                refine lv_iload hx hb dX12_seaStands_101 (lv_at hl 6 rfl) ?_
                refine lv_bipush (v := 13) hx hb dX12_seaStands_103 (by decide) ?_
                refine lv_iadd hx hb dX12_seaStands_105 ?_
                refine lv_topi (fun x_5240 ex_5240 => ?_)
                have h_5241 : rg x_5240 113 737 := rg_of_eq ex_5240 (rg_add h_4724 (rg_k (13 : Int32) 13 rfl) (by decide))
                have uh_5241 := h_5241.1
                have vh_5241 := h_5241.2
                have tx_5240 : (x_5240).toInt = (x_4723).toInt + 13 := by rw [ex_5240]; exact i_add_rg (a2 := (x_4723).toInt) (b2 := 13) rfl rfl h_4724 (rg_k (13 : Int32) 13 rfl) (by decide)
                refine lv_iload hx hb dX12_seaStands_106 (lv_at hl 8 rfl) ?_
                have K_5287 : ∀  (H : Heap) (locs : List Loc) (ls : Array Slot), GM [] tg σ I ri I r_5239 rq → va_P D vwCl (pq_P t σ (I, J, r_5239, rj, rq)) H → va_D A (pq_P t σ (I, J, r_5239, rj, rq)) → va_S A s.heap H locs → lv_has ls 9 [(0, .ref this), (1, .int a0), (2, .int a1), (3, .int x_4346), (4, .int x_4347), (5, .int x_4348), (6, .int x_4723), (7, .int 0), (8, .int 0)] → W p l e ({ frames := 2, cells := 0, slots := 0, locals := 43 } : Room) s m (List.toArray ([.ref this, .int a0, .int a1] : List Value)) below meth c H locs 0 0 Q (F0 m 116 ls [.int 0, .int x_5240, .ref w_4702]) := by
                  intro H locs ls hG hP hD hS hl
                  refine pt_i hx hb hK hP hD hS hL_w_4702 hK_w_4702 hN_w_4702 (rg_in h_5241 (by decide)) dX12_seaStands_116 (fun r_5288 H locs er_5288 hP hD hS => ?_)
                  have hG := GM.wz hG hT_w_4702 (by decide) er_5288 (zn_CELL (c := x_4348.toNatClampNeg) (k := 13) (by have z_i := clampE x_5240; have z_0 := clampE x_4348; omega) (rg_cl1 h_4719 (by decide)) (by decide)) rfl (rg_w (rg_k (0 : Int32) 0 rfl) (by decide)) (by decide)
                  refine lv_aload_n hx hb dX12_seaStands_117 rfl (lv_at hl 0 rfl) ?_
                  refine pg_f (v := .ref w_4702) (C := RX12) (T := TX12) (N := 31) hx hb hts (tw_i inlX12) hown hK hP hL_this hK_this (by decide) rfl 0 (by decide) (hts _ (tw_c tw_176)) (pq_hv rfl hR_w_4702) dX12_seaStands_118 ?_
                  refine lv_iload hx hb dX12_seaStands_121 (lv_at hl 6 rfl) ?_
                  refine lv_bipush (v := 11) hx hb dX12_seaStands_123 (by decide) ?_
                  refine lv_iadd hx hb dX12_seaStands_125 ?_
                  refine lv_topi (fun x_5289 ex_5289 => ?_)
                  have h_5290 : rg x_5289 111 735 := rg_of_eq ex_5289 (rg_add h_4724 (rg_k (11 : Int32) 11 rfl) (by decide))
                  have uh_5290 := h_5290.1
                  have vh_5290 := h_5290.2
                  have tx_5289 : (x_5289).toInt = (x_4723).toInt + 11 := by rw [ex_5289]; exact i_add_rg (a2 := (x_4723).toInt) (b2 := 11) rfl rfl h_4724 (rg_k (11 : Int32) 11 rfl) (by decide)
                  refine lv_iload hx hb dX12_seaStands_126 (lv_at hl 7 rfl) ?_
                  have K_5332 : ∀  (x_5296 : Int32) (H : Heap) (locs : List Loc) (ls : Array Slot), GM [] tg σ I ri I r_5288 rq → va_P D vwCl (pq_P t σ (I, J, r_5288, rj, rq)) H → va_D A (pq_P t σ (I, J, r_5288, rj, rq)) → va_S A s.heap H locs → lv_has ls 9 [(0, .ref this), (1, .int a0), (2, .int a1), (3, .int x_4346), (4, .int x_4347), (5, .int x_4348), (6, .int x_4723), (7, .int 0), (8, .int 0)] → W p l e ({ frames := 2, cells := 0, slots := 0, locals := 43 } : Room) s m (List.toArray ([.ref this, .int a0, .int a1] : List Value)) below meth c H locs 0 0 Q (F0 m 147 ls [.int x_5296, .int x_5289, .ref w_4702]) := by
                    intro x_5296 H locs ls hG hP hD hS hl
                    refine pt_i hx hb hK hP hD hS hL_w_4702 hK_w_4702 hN_w_4702 (rg_in h_5290 (by decide)) dX12_seaStands_147 (fun r_5333 H locs er_5333 hP hD hS => ?_)
                    have hG := GM.wz hG hT_w_4702 (by decide) er_5333 (zn_CELL (c := x_4348.toNatClampNeg) (k := 11) (by have z_i := clampE x_5289; have z_0 := clampE x_4348; omega) (rg_cl1 h_4719 (by decide)) (by decide)) rfl (rg_w (rg_full _) (by decide)) (by decide)
                    refine lv_iload hx hb dX12_seaStands_148 (lv_at hl 8 rfl) ?_
                    have K_5368 : ∀  (H : Heap) (locs : List Loc) (ls : Array Slot), GM [] tg σ I ri I r_5333 rq → va_P D vwCl (pq_P t σ (I, J, r_5333, rj, rq)) H → va_D A (pq_P t σ (I, J, r_5333, rj, rq)) → va_S A s.heap H locs → lv_has ls 9 [(0, .ref this), (1, .int a0), (2, .int a1), (3, .int x_4346), (4, .int x_4347), (5, .int x_4348), (6, .int x_4723), (7, .int 0), (8, .int 0)] → W p l e ({ frames := 2, cells := 0, slots := 0, locals := 43 } : Room) s m (List.toArray ([.ref this, .int a0, .int a1] : List Value)) below meth c H locs 0 0 Q (F0 m 167 ls []) := by
                      intro H locs ls hG hP hD hS hl
                      refine lv_iload hx hb dX12_seaStands_167 (lv_at hl 8 rfl) ?_
                      have K_5402 : ∀  (H : Heap) (locs : List Loc) (ls : Array Slot), GM [] tg σ I ri I r_5333 rq → va_P D vwCl (pq_P t σ (I, J, r_5333, rj, rq)) H → va_D A (pq_P t σ (I, J, r_5333, rj, rq)) → va_S A s.heap H locs → lv_has ls 9 [(0, .ref this), (1, .int a0), (2, .int a1), (3, .int x_4346), (4, .int x_4347), (5, .int x_4348), (6, .int x_4723), (7, .int 0)] → W p l e ({ frames := 2, cells := 0, slots := 0, locals := 43 } : Room) s m (List.toArray ([.ref this, .int a0, .int a1] : List Value)) below meth c H locs 0 0 Q (F0 m 191 ls []) := by
                        intro H locs ls hG hP hD hS hl
                        refine lv_iload hx hb dX12_seaStands_191 (lv_at hl 7 rfl) ?_
                        have K_5435 : ∀  (ri_5407 : Nat → Nat → Int32) (H : Heap) (locs : List Loc) (ls : Array Slot), GM [] tg σ I ri I ri_5407 rq → va_P D vwCl (pq_P t σ (I, J, ri_5407, rj, rq)) H → va_D A (pq_P t σ (I, J, ri_5407, rj, rq)) → va_S A s.heap H locs → lv_has ls 9 [(0, .ref this), (1, .int a0), (2, .int a1), (3, .int x_4346), (4, .int x_4347), (5, .int x_4348), (6, .int x_4723), (7, .int 0)] → W p l e ({ frames := 2, cells := 0, slots := 0, locals := 43 } : Room) s m (List.toArray ([.ref this, .int a0, .int a1] : List Value)) below meth c H locs 0 0 Q (F0 m 207 ls []) := by
                          intro ri_5407 H locs ls hG hP hD hS hl
                          refine lv_aload_n hx hb dX12_seaStands_207 rfl (lv_at hl 0 rfl) ?_
                          refine pg_f (v := .ref w_4702) (C := RX12) (T := TX12) (N := 31) hx hb hts (tw_i inlX12) hown hK hP hL_this hK_this (by decide) rfl 0 (by decide) (hts _ (tw_c tw_176)) (pq_hv rfl hR_w_4702) dX12_seaStands_208 ?_
                          refine lv_iload hx hb dX12_seaStands_211 (lv_at hl 6 rfl) ?_
                          refine lv_bipush (v := 8) hx hb dX12_seaStands_213 (by decide) ?_
                          refine lv_iadd hx hb dX12_seaStands_215 ?_
                          refine lv_topi (fun x_5436 ex_5436 => ?_)
                          have h_5437 : rg x_5436 108 732 := rg_of_eq ex_5436 (rg_add h_4724 (rg_k (8 : Int32) 8 rfl) (by decide))
                          have uh_5437 := h_5437.1
                          have vh_5437 := h_5437.2
                          have tx_5436 : (x_5436).toInt = (x_4723).toInt + 8 := by rw [ex_5436]; exact i_add_rg (a2 := (x_4723).toInt) (b2 := 8) rfl rfl h_4724 (rg_k (8 : Int32) 8 rfl) (by decide)
                          refine pl_i hx hb hK hP hL_w_4702 hK_w_4702 hN_w_4702 (rg_in h_5437 (by decide)) dX12_seaStands_216 ?_
                          refine lv_topi (fun x_5438 ex_5438 => ?_)
                          have K_5463 : ∀  (ri_5460 : Nat → Nat → Int32) (H : Heap) (locs : List Loc) (ls : Array Slot), GM [] tg σ I ri I ri_5460 rq → va_P D vwCl (pq_P t σ (I, J, ri_5460, rj, rq)) H → va_D A (pq_P t σ (I, J, ri_5460, rj, rq)) → va_S A s.heap H locs → lv_has ls 9 [(0, .ref this), (1, .int a0), (2, .int a1), (3, .int x_4346), (4, .int x_4347), (5, .int x_4348)] → W p l e ({ frames := 2, cells := 0, slots := 0, locals := 43 } : Room) s m (List.toArray ([.ref this, .int a0, .int a1] : List Value)) below meth c H locs 0 0 Q (F0 m 360 ls []) := by
                            intro ri_5460 H locs ls hG hP hD hS hl
                            obtain ⟨x_5464, ex_5464⟩ : ∃ y : Int32, y = x_4348 + Int32.ofInt 1 := ⟨_, rfl⟩
                            have h_5465 : rg x_5464 1 40 := rg_of_eq ex_5464 (rg_add h_4719 (rg_k (Int32.ofInt 1) 1 rfl) (by decide))
                            have uh_5465 := h_5465.1
                            have vh_5465 := h_5465.2
                            have tx_5464 : (x_5464).toInt = (x_4348).toInt + 1 := by rw [ex_5464]; exact i_add_rg (a2 := (x_4348).toInt) (b2 := 1) rfl rfl h_4719 (rg_k (Int32.ofInt 1) 1 rfl) (by decide)
                            refine lv_iinc (v := x_5464) (lv' := [(5, .int x_5464), (0, .ref this), (1, .int a0), (2, .int a1), (3, .int x_4346), (4, .int x_4347)]) hx hb dX12_seaStands_360 hl (k := 5) rfl ex_5464.symm (by decide) rfl (fun ls hl => ?_)
                            refine lv_goto (tgt := 8) hx hb dX12_seaStands_363 (by decide) ?_
                            exact ih_4699 x_4346 x_4347 x_5464 ri_5460 _ _ _ (rg_w h_5465 (by decide)) (ms_up 1 hm_4696 ex_5464 rfl (by decide) h_4719 (by decide) (by decide)) hG hP hD hS (lv_sub hl [1, 2, 3, 4, 5, 0] rfl)
                          refine lv_if_ne (tgt := 223) hx hb dX12_seaStands_217 (by decide) (fun c_5466 => ?_) (fun c_5466 => ?_)
                          · have tc_5467 : (x_5438).toInt ≠ 0 := fun q => c_5466 (Int32.toInt_inj.mp q)
                            refine lv_iload hx hb dX12_seaStands_223 (lv_at hl 7 rfl) ?_
                            refine lv_if_eq (tgt := 317) hx hb dX12_seaStands_225 (by decide) (fun c_5468 => ?_) (fun c_5468 => absurd c_5468 (by decide))
                            refine lv_aload_n hx hb dX12_seaStands_317 rfl (lv_at hl 0 rfl) ?_
                            refine pg_f (v := .ref w_4702) (C := RX12) (T := TX12) (N := 31) hx hb hts (tw_i inlX12) hown hK hP hL_this hK_this (by decide) rfl 0 (by decide) (hts _ (tw_c tw_176)) (pq_hv rfl hR_w_4702) dX12_seaStands_318 ?_
                            refine lv_iload hx hb dX12_seaStands_321 (lv_at hl 6 rfl) ?_
                            refine lv_bipush (v := 10) hx hb dX12_seaStands_323 (by decide) ?_
                            refine lv_iadd hx hb dX12_seaStands_325 ?_
                            refine lv_topi (fun x_5469 ex_5469 => ?_)
                            have h_5470 : rg x_5469 110 734 := rg_of_eq ex_5469 (rg_add h_4724 (rg_k (10 : Int32) 10 rfl) (by decide))
                            have uh_5470 := h_5470.1
                            have vh_5470 := h_5470.2
                            have tx_5469 : (x_5469).toInt = (x_4723).toInt + 10 := by rw [ex_5469]; exact i_add_rg (a2 := (x_4723).toInt) (b2 := 10) rfl rfl h_4724 (rg_k (10 : Int32) 10 rfl) (by decide)
                            refine lv_aload_n hx hb dX12_seaStands_326 rfl (lv_at hl 0 rfl) ?_
                            refine pg_f (v := .ref w_4702) (C := RX12) (T := TX12) (N := 31) hx hb hts (tw_i inlX12) hown hK hP hL_this hK_this (by decide) rfl 0 (by decide) (hts _ (tw_c tw_176)) (pq_hv rfl hR_w_4702) dX12_seaStands_327 ?_
                            refine lv_iload hx hb dX12_seaStands_330 (lv_at hl 6 rfl) ?_
                            refine lv_bipush (v := 10) hx hb dX12_seaStands_332 (by decide) ?_
                            refine lv_iadd hx hb dX12_seaStands_334 ?_
                            refine lv_topi (fun x_5471 ex_5471 => ?_)
                            have h_5472 : rg x_5471 110 734 := rg_of_eq ex_5471 (rg_add h_4724 (rg_k (10 : Int32) 10 rfl) (by decide))
                            have uh_5472 := h_5472.1
                            have vh_5472 := h_5472.2
                            have tx_5471 : (x_5471).toInt = (x_4723).toInt + 10 := by rw [ex_5471]; exact i_add_rg (a2 := (x_4723).toInt) (b2 := 10) rfl rfl h_4724 (rg_k (10 : Int32) 10 rfl) (by decide)
                            refine pl_i hx hb hK hP hL_w_4702 hK_w_4702 hN_w_4702 (rg_in h_5472 (by decide)) dX12_seaStands_335 ?_
                            refine lv_topi (fun x_5473 ex_5473 => ?_)
                            refine lv_bipush (v := 90) hx hb dX12_seaStands_336 (by decide) ?_
                            have K_5485 : ∀  (x_5483 : Int32) (H : Heap) (locs : List Loc) (ls : Array Slot), GM [] tg σ I ri I ri_5407 rq → va_P D vwCl (pq_P t σ (I, J, ri_5407, rj, rq)) H → va_D A (pq_P t σ (I, J, ri_5407, rj, rq)) → va_S A s.heap H locs → lv_has ls 9 [(0, .ref this), (1, .int a0), (2, .int a1), (3, .int x_4346), (4, .int x_4347), (5, .int x_4348)] → W p l e ({ frames := 2, cells := 0, slots := 0, locals := 43 } : Room) s m (List.toArray ([.ref this, .int a0, .int a1] : List Value)) below meth c H locs 0 0 Q (F0 m 359 ls [.int x_5483, .int x_5469, .ref w_4702]) := by
                              intro x_5483 H locs ls hG hP hD hS hl
                              refine pt_i hx hb hK hP hD hS hL_w_4702 hK_w_4702 hN_w_4702 (rg_in h_5470 (by decide)) dX12_seaStands_359 (fun r_5486 H locs er_5486 hP hD hS => ?_)
                              have hG := GM.wz hG hT_w_4702 (by decide) er_5486 (zn_CELL (c := x_4348.toNatClampNeg) (k := 10) (by have z_i := clampE x_5469; have z_0 := clampE x_4348; omega) (rg_cl1 h_4719 (by decide)) (by decide)) rfl (rg_w (rg_full _) (by decide)) (by decide)
                              exact K_5463 r_5486 _ _ _ hG hP hD hS (lv_sub hl [0, 1, 2, 3, 4, 5] rfl)
                            refine lv_icmp_le (tgt := 346) hx hb dX12_seaStands_338 (by decide) (fun c_5487 => ?_) (fun c_5487 => ?_)
                            · have tc_5488 : (x_5473).toInt ≤ 90 := Int32.le_iff_toInt_le.mp c_5487
                              have h_5489 : rg x_5473 (-2147483648) 90 := rg_le1 c_5487 (rg_full _) (rg_k (90 : Int32) 90 rfl) (by decide)
                              have uh_5489 := h_5489.1
                              have vh_5489 := h_5489.2
                              refine lv_aload_n hx hb dX12_seaStands_346 rfl (lv_at hl 0 rfl) ?_
                              refine pg_f (v := .ref w_4702) (C := RX12) (T := TX12) (N := 31) hx hb hts (tw_i inlX12) hown hK hP hL_this hK_this (by decide) rfl 0 (by decide) (hts _ (tw_c tw_176)) (pq_hv rfl hR_w_4702) dX12_seaStands_347 ?_
                              refine lv_iload hx hb dX12_seaStands_350 (lv_at hl 6 rfl) ?_
                              refine lv_bipush (v := 10) hx hb dX12_seaStands_352 (by decide) ?_
                              refine lv_iadd hx hb dX12_seaStands_354 ?_
                              refine lv_topi (fun x_5490 ex_5490 => ?_)
                              have h_5491 : rg x_5490 110 734 := rg_of_eq ex_5490 (rg_add h_4724 (rg_k (10 : Int32) 10 rfl) (by decide))
                              have uh_5491 := h_5491.1
                              have vh_5491 := h_5491.2
                              have tx_5490 : (x_5490).toInt = (x_4723).toInt + 10 := by rw [ex_5490]; exact i_add_rg (a2 := (x_4723).toInt) (b2 := 10) rfl rfl h_4724 (rg_k (10 : Int32) 10 rfl) (by decide)
                              refine pl_i hx hb hK hP hL_w_4702 hK_w_4702 hN_w_4702 (rg_in h_5491 (by decide)) dX12_seaStands_355 ?_
                              refine lv_topi (fun x_5492 ex_5492 => ?_)
                              refine lv_bipush (v := 10) hx hb dX12_seaStands_356 (by decide) ?_
                              refine lv_iadd hx hb dX12_seaStands_358 ?_
                              refine lv_topi (fun x_5493 ex_5493 => ?_)
                              exact K_5485 x_5493 _ _ _ hG hP hD hS (lv_sub hl [0, 1, 2, 3, 4, 5] rfl)
                            · have tc_5494 : 90 < (x_5473).toInt := Int32.lt_iff_toInt_lt.mp (nle c_5487)
                              have h_5495 : rg x_5473 91 2147483647 := rg_lt2 (nle c_5487) (rg_k (90 : Int32) 90 rfl) (rg_full _) (by decide)
                              have uh_5495 := h_5495.1
                              have vh_5495 := h_5495.2
                              refine lv_bipush (v := 100) hx hb dX12_seaStands_341 (by decide) ?_
                              refine lv_goto (tgt := 359) hx hb dX12_seaStands_343 (by decide) ?_
                              exact K_5485 (100 : Int32) _ _ _ hG hP hD hS (lv_sub hl [0, 1, 2, 3, 4, 5] rfl)
                          · have tc_5496 : (x_5438).toInt = 0 := congrArg Int32.toInt c_5466
                            have h_5497 : rg x_5438 0 0 := rg_and (rg_full _) (rg_of_eq c_5466 (rg_k (0 : Int32) 0 rfl)) (by decide)
                            have uh_5497 := h_5497.1
                            have vh_5497 := h_5497.2
                            refine lv_goto (tgt := 360) hx hb dX12_seaStands_220 (by decide) ?_
                            exact K_5463 ri_5407 _ _ _ hG hP hD hS (lv_sub hl [0, 1, 2, 3, 4, 5] rfl)
                        refine lv_if_ne (tgt := 207) hx hb dX12_seaStands_193 (by decide) (fun c_5498 => absurd c_5498 (by decide)) (fun c_5498 => ?_)
                        refine lv_aload_n hx hb dX12_seaStands_196 rfl (lv_at hl 0 rfl) ?_
                        refine pg_f (v := .ref w_4702) (C := RX12) (T := TX12) (N := 31) hx hb hts (tw_i inlX12) hown hK hP hL_this hK_this (by decide) rfl 0 (by decide) (hts _ (tw_c tw_176)) (pq_hv rfl hR_w_4702) dX12_seaStands_197 ?_
                        refine lv_iload hx hb dX12_seaStands_200 (lv_at hl 6 rfl) ?_
                        refine lv_bipush (v := 7) hx hb dX12_seaStands_202 (by decide) ?_
                        refine lv_iadd hx hb dX12_seaStands_204 ?_
                        refine lv_topi (fun x_5499 ex_5499 => ?_)
                        have h_5500 : rg x_5499 107 731 := rg_of_eq ex_5499 (rg_add h_4724 (rg_k (7 : Int32) 7 rfl) (by decide))
                        have uh_5500 := h_5500.1
                        have vh_5500 := h_5500.2
                        have tx_5499 : (x_5499).toInt = (x_4723).toInt + 7 := by rw [ex_5499]; exact i_add_rg (a2 := (x_4723).toInt) (b2 := 7) rfl rfl h_4724 (rg_k (7 : Int32) 7 rfl) (by decide)
                        refine lv_iconst (v := 0) hx hb dX12_seaStands_205 (by decide) ?_
                        refine pt_i hx hb hK hP hD hS hL_w_4702 hK_w_4702 hN_w_4702 (rg_in h_5500 (by decide)) dX12_seaStands_206 (fun r_5501 H locs er_5501 hP hD hS => ?_)
                        have hG := GM.wz hG hT_w_4702 (by decide) er_5501 (zn_CELL (c := x_4348.toNatClampNeg) (k := 7) (by have z_i := clampE x_5499; have z_0 := clampE x_4348; omega) (rg_cl1 h_4719 (by decide)) (by decide)) rfl (rg_w (rg_k (0 : Int32) 0 rfl) (by decide)) (by decide)
                        exact K_5435 r_5501 _ _ _ hG hP hD hS (lv_sub hl [0, 1, 2, 3, 4, 5, 6, 7] rfl)
                      refine lv_if_eq (tgt := 191) hx hb dX12_seaStands_169 (by decide) (fun c_5502 => ?_) (fun c_5502 => absurd c_5502 (by decide))
                      exact K_5402 _ _ _ hG hP hD hS (lv_sub hl [0, 1, 2, 3, 4, 5, 6, 7] rfl)
                    refine lv_if_eq (tgt := 167) hx hb dX12_seaStands_150 (by decide) (fun c_5503 => ?_) (fun c_5503 => absurd c_5503 (by decide))
                    exact K_5368 _ _ _ hG hP hD hS (lv_sub hl [0, 1, 2, 3, 4, 5, 6, 7, 8] rfl)
                  refine lv_if_eq (tgt := 135) hx hb dX12_seaStands_128 (by decide) (fun c_5504 => ?_) (fun c_5504 => absurd c_5504 (by decide))
                  refine lv_aload_n hx hb dX12_seaStands_135 rfl (lv_at hl 0 rfl) ?_
                  refine pg_f (v := .ref w_4702) (C := RX12) (T := TX12) (N := 31) hx hb hts (tw_i inlX12) hown hK hP hL_this hK_this (by decide) rfl 0 (by decide) (hts _ (tw_c tw_176)) (pq_hv rfl hR_w_4702) dX12_seaStands_136 ?_
                  refine lv_iload hx hb dX12_seaStands_139 (lv_at hl 6 rfl) ?_
                  refine lv_bipush (v := 11) hx hb dX12_seaStands_141 (by decide) ?_
                  refine lv_iadd hx hb dX12_seaStands_143 ?_
                  refine lv_topi (fun x_5505 ex_5505 => ?_)
                  have h_5506 : rg x_5505 111 735 := rg_of_eq ex_5505 (rg_add h_4724 (rg_k (11 : Int32) 11 rfl) (by decide))
                  have uh_5506 := h_5506.1
                  have vh_5506 := h_5506.2
                  have tx_5505 : (x_5505).toInt = (x_4723).toInt + 11 := by rw [ex_5505]; exact i_add_rg (a2 := (x_4723).toInt) (b2 := 11) rfl rfl h_4724 (rg_k (11 : Int32) 11 rfl) (by decide)
                  refine pl_i hx hb hK hP hL_w_4702 hK_w_4702 hN_w_4702 (rg_in h_5506 (by decide)) dX12_seaStands_144 ?_
                  refine lv_topi (fun x_5507 ex_5507 => ?_)
                  refine lv_iconst (v := 1) hx hb dX12_seaStands_145 (by decide) ?_
                  refine lv_iadd hx hb dX12_seaStands_146 ?_
                  refine lv_topi (fun x_5508 ex_5508 => ?_)
                  exact K_5332 x_5508 _ _ _ hG hP hD hS (lv_sub hl [0, 1, 2, 3, 4, 5, 6, 7, 8] rfl)
                refine lv_if_eq (tgt := 115) hx hb dX12_seaStands_108 (by decide) (fun c_5509 => ?_) (fun c_5509 => absurd c_5509 (by decide))
                refine lv_iconst (v := 0) hx hb dX12_seaStands_115 (by decide) ?_
                exact K_5287 _ _ _ hG hP hD hS (lv_sub hl [0, 1, 2, 3, 4, 5, 6, 7, 8] rfl)
              refine lv_if_eq (tgt := 95) hx hb dX12_seaStands_88 (by decide) (fun c_5510 => ?_) (fun c_5510 => absurd c_5510 (by decide))
              refine lv_iconst (v := 0) hx hb dX12_seaStands_95 (by decide) ?_
              exact K_5238 _ _ _ hG hP hD hS (lv_sub hl [1, 2, 3, 4, 5, 6, 7, 8, 0] rfl)
            have K_5511 : ∀  (H : Heap) (locs : List Loc) (ls : Array Slot), rg (x_5048) (-2147483647) 2147483647 → rg (x_5058) (-2147483648) 2147483646 → GM [] tg σ I ri I ri_4349 rq → va_P D vwCl (pq_P t σ (I, J, ri_4349, rj, rq)) H → va_D A (pq_P t σ (I, J, ri_4349, rj, rq)) → va_S A s.heap H locs → lv_has ls 9 [(0, .ref this), (1, .int a0), (2, .int a1), (3, .int x_4346), (4, .int x_4347), (5, .int x_4348), (6, .int x_4723), (7, .int 0)] → W p l e ({ frames := 2, cells := 0, slots := 0, locals := 43 } : Room) s m (List.toArray ([.ref this, .int a0, .int a1] : List Value)) below meth c H locs 0 0 Q (F0 m 75 ls [.int 1]) := by
              intro H locs ls h_5514 h_5515 hG hP hD hS hl
              have uh_5514 := h_5514.1
              have vh_5514 := h_5514.2
              have uh_5515 := h_5515.1
              have vh_5515 := h_5515.2
              refine lv_istore (lv' := [(8, .int 1), (0, .ref this), (1, .int a0), (2, .int a1), (3, .int x_4346), (4, .int x_4347), (5, .int x_4348), (6, .int x_4723), (7, .int 0)]) hx hb dX12_seaStands_75 hl (by decide) rfl (fun ls hl => ?_)
              refine lv_aload_n hx hb dX12_seaStands_77 rfl (lv_at hl 1 rfl) ?_
              refine pg_f (v := .ref w_4702) (C := RX12) (T := TX12) (N := 31) hx hb hts (tw_i inlX12) hown hK hP hL_this hK_this (by decide) rfl 0 (by decide) (hts _ (tw_c tw_176)) (pq_hv rfl hR_w_4702) dX12_seaStands_78 ?_
              refine lv_iload hx hb dX12_seaStands_81 (lv_at hl 7 rfl) ?_
              refine lv_bipush (v := 12) hx hb dX12_seaStands_83 (by decide) ?_
              refine lv_iadd hx hb dX12_seaStands_85 ?_
              refine lv_topi (fun x_5516 ex_5516 => ?_)
              have h_5517 : rg x_5516 112 736 := rg_of_eq ex_5516 (rg_add h_4724 (rg_k (12 : Int32) 12 rfl) (by decide))
              have uh_5517 := h_5517.1
              have vh_5517 := h_5517.2
              have tx_5516 : (x_5516).toInt = (x_4723).toInt + 12 := by rw [ex_5516]; exact i_add_rg (a2 := (x_4723).toInt) (b2 := 12) rfl rfl h_4724 (rg_k (12 : Int32) 12 rfl) (by decide)
              refine lv_iload hx hb dX12_seaStands_86 (lv_at hl 8 rfl) ?_
              have K_5585 : ∀  (H : Heap) (locs : List Loc) (ls : Array Slot), GM [] tg σ I ri I ri_4349 rq → va_P D vwCl (pq_P t σ (I, J, ri_4349, rj, rq)) H → va_D A (pq_P t σ (I, J, ri_4349, rj, rq)) → va_S A s.heap H locs → lv_has ls 9 [(0, .ref this), (1, .int a0), (2, .int a1), (3, .int x_4346), (4, .int x_4347), (5, .int x_4348), (6, .int x_4723), (7, .int 0), (8, .int 1)] → W p l e ({ frames := 2, cells := 0, slots := 0, locals := 43 } : Room) s m (List.toArray ([.ref this, .int a0, .int a1] : List Value)) below meth c H locs 0 0 Q (F0 m 96 ls [.int 0, .int x_5516, .ref w_4702]) := by
                intro H locs ls hG hP hD hS hl
                refine pt_i hx hb hK hP hD hS hL_w_4702 hK_w_4702 hN_w_4702 (rg_in h_5517 (by decide)) dX12_seaStands_96 (fun r_5586 H locs er_5586 hP hD hS => ?_)
                have hG := GM.wz hG hT_w_4702 (by decide) er_5586 (zn_CELL (c := x_4348.toNatClampNeg) (k := 12) (by have z_i := clampE x_5516; have z_0 := clampE x_4348; omega) (rg_cl1 h_4719 (by decide)) (by decide)) rfl (rg_w (rg_k (0 : Int32) 0 rfl) (by decide)) (by decide)
                refine lv_aload_n hx hb dX12_seaStands_97 rfl (lv_at hl 0 rfl) ?_
                refine pg_f (v := .ref w_4702) (C := RX12) (T := TX12) (N := 31) hx hb hts (tw_i inlX12) hown hK hP hL_this hK_this (by decide) rfl 0 (by decide) (hts _ (tw_c tw_176)) (pq_hv rfl hR_w_4702) dX12_seaStands_98 ?_
                refine lv_iload hx hb dX12_seaStands_101 (lv_at hl 6 rfl) ?_
                refine lv_bipush (v := 13) hx hb dX12_seaStands_103 (by decide) ?_
                refine lv_iadd hx hb dX12_seaStands_105 ?_
                refine lv_topi (fun x_5587 ex_5587 => ?_)
                have h_5588 : rg x_5587 113 737 := rg_of_eq ex_5587 (rg_add h_4724 (rg_k (13 : Int32) 13 rfl) (by decide))
                have uh_5588 := h_5588.1
                have vh_5588 := h_5588.2
                have tx_5587 : (x_5587).toInt = (x_4723).toInt + 13 := by rw [ex_5587]; exact i_add_rg (a2 := (x_4723).toInt) (b2 := 13) rfl rfl h_4724 (rg_k (13 : Int32) 13 rfl) (by decide)
                refine lv_iload hx hb dX12_seaStands_106 (lv_at hl 8 rfl) ?_
                have K_5652 : ∀  (H : Heap) (locs : List Loc) (ls : Array Slot), GM [] tg σ I ri I r_5586 rq → va_P D vwCl (pq_P t σ (I, J, r_5586, rj, rq)) H → va_D A (pq_P t σ (I, J, r_5586, rj, rq)) → va_S A s.heap H locs → lv_has ls 9 [(0, .ref this), (1, .int a0), (2, .int a1), (3, .int x_4346), (4, .int x_4347), (5, .int x_4348), (6, .int x_4723), (7, .int 0), (8, .int 1)] → W p l e ({ frames := 2, cells := 0, slots := 0, locals := 43 } : Room) s m (List.toArray ([.ref this, .int a0, .int a1] : List Value)) below meth c H locs 0 0 Q (F0 m 116 ls [.int 1, .int x_5587, .ref w_4702]) := by
                  intro H locs ls hG hP hD hS hl
                  refine pt_i hx hb hK hP hD hS hL_w_4702 hK_w_4702 hN_w_4702 (rg_in h_5588 (by decide)) dX12_seaStands_116 (fun r_5653 H locs er_5653 hP hD hS => ?_)
                  have hG := GM.wz hG hT_w_4702 (by decide) er_5653 (zn_CELL (c := x_4348.toNatClampNeg) (k := 13) (by have z_i := clampE x_5587; have z_0 := clampE x_4348; omega) (rg_cl1 h_4719 (by decide)) (by decide)) rfl (rg_w (rg_k (1 : Int32) 1 rfl) (by decide)) (by decide)
                  refine lv_aload_n hx hb dX12_seaStands_117 rfl (lv_at hl 0 rfl) ?_
                  refine pg_f (v := .ref w_4702) (C := RX12) (T := TX12) (N := 31) hx hb hts (tw_i inlX12) hown hK hP hL_this hK_this (by decide) rfl 0 (by decide) (hts _ (tw_c tw_176)) (pq_hv rfl hR_w_4702) dX12_seaStands_118 ?_
                  refine lv_iload hx hb dX12_seaStands_121 (lv_at hl 6 rfl) ?_
                  refine lv_bipush (v := 11) hx hb dX12_seaStands_123 (by decide) ?_
                  refine lv_iadd hx hb dX12_seaStands_125 ?_
                  refine lv_topi (fun x_5654 ex_5654 => ?_)
                  have h_5655 : rg x_5654 111 735 := rg_of_eq ex_5654 (rg_add h_4724 (rg_k (11 : Int32) 11 rfl) (by decide))
                  have uh_5655 := h_5655.1
                  have vh_5655 := h_5655.2
                  have tx_5654 : (x_5654).toInt = (x_4723).toInt + 11 := by rw [ex_5654]; exact i_add_rg (a2 := (x_4723).toInt) (b2 := 11) rfl rfl h_4724 (rg_k (11 : Int32) 11 rfl) (by decide)
                  refine lv_iload hx hb dX12_seaStands_126 (lv_at hl 7 rfl) ?_
                  have K_5715 : ∀  (x_5661 : Int32) (H : Heap) (locs : List Loc) (ls : Array Slot), GM [] tg σ I ri I r_5653 rq → va_P D vwCl (pq_P t σ (I, J, r_5653, rj, rq)) H → va_D A (pq_P t σ (I, J, r_5653, rj, rq)) → va_S A s.heap H locs → lv_has ls 9 [(0, .ref this), (1, .int a0), (2, .int a1), (3, .int x_4346), (4, .int x_4347), (5, .int x_4348), (6, .int x_4723), (7, .int 0), (8, .int 1)] → W p l e ({ frames := 2, cells := 0, slots := 0, locals := 43 } : Room) s m (List.toArray ([.ref this, .int a0, .int a1] : List Value)) below meth c H locs 0 0 Q (F0 m 147 ls [.int x_5661, .int x_5654, .ref w_4702]) := by
                    intro x_5661 H locs ls hG hP hD hS hl
                    refine pt_i hx hb hK hP hD hS hL_w_4702 hK_w_4702 hN_w_4702 (rg_in h_5655 (by decide)) dX12_seaStands_147 (fun r_5716 H locs er_5716 hP hD hS => ?_)
                    have hG := GM.wz hG hT_w_4702 (by decide) er_5716 (zn_CELL (c := x_4348.toNatClampNeg) (k := 11) (by have z_i := clampE x_5654; have z_0 := clampE x_4348; omega) (rg_cl1 h_4719 (by decide)) (by decide)) rfl (rg_w (rg_full _) (by decide)) (by decide)
                    refine lv_iload hx hb dX12_seaStands_148 (lv_at hl 8 rfl) ?_
                    have K_5769 : ∀  (x_5725 : Int32) (H : Heap) (locs : List Loc) (ls : Array Slot), GM [] tg σ I ri I r_5716 rq → va_P D vwCl (pq_P t σ (I, J, r_5716, rj, rq)) H → va_D A (pq_P t σ (I, J, r_5716, rj, rq)) → va_S A s.heap H locs → lv_has ls 9 [(0, .ref this), (1, .int a0), (2, .int a1), (3, .int x_5725), (4, .int x_4347), (5, .int x_4348), (6, .int x_4723), (7, .int 0), (8, .int 1)] → W p l e ({ frames := 2, cells := 0, slots := 0, locals := 43 } : Room) s m (List.toArray ([.ref this, .int a0, .int a1] : List Value)) below meth c H locs 0 0 Q (F0 m 167 ls []) := by
                      intro x_5725 H locs ls hG hP hD hS hl
                      refine lv_iload hx hb dX12_seaStands_167 (lv_at hl 8 rfl) ?_
                      have K_5813 : ∀  (x_5780 : Int32) (H : Heap) (locs : List Loc) (ls : Array Slot), GM [] tg σ I ri I r_5716 rq → va_P D vwCl (pq_P t σ (I, J, r_5716, rj, rq)) H → va_D A (pq_P t σ (I, J, r_5716, rj, rq)) → va_S A s.heap H locs → lv_has ls 9 [(0, .ref this), (1, .int a0), (2, .int a1), (3, .int x_5725), (4, .int x_5780), (5, .int x_4348), (6, .int x_4723), (7, .int 0)] → W p l e ({ frames := 2, cells := 0, slots := 0, locals := 43 } : Room) s m (List.toArray ([.ref this, .int a0, .int a1] : List Value)) below meth c H locs 0 0 Q (F0 m 191 ls []) := by
                        intro x_5780 H locs ls hG hP hD hS hl
                        refine lv_iload hx hb dX12_seaStands_191 (lv_at hl 7 rfl) ?_
                        have K_5846 : ∀  (ri_5818 : Nat → Nat → Int32) (H : Heap) (locs : List Loc) (ls : Array Slot), GM [] tg σ I ri I ri_5818 rq → va_P D vwCl (pq_P t σ (I, J, ri_5818, rj, rq)) H → va_D A (pq_P t σ (I, J, ri_5818, rj, rq)) → va_S A s.heap H locs → lv_has ls 9 [(0, .ref this), (1, .int a0), (2, .int a1), (3, .int x_5725), (4, .int x_5780), (5, .int x_4348), (6, .int x_4723), (7, .int 0)] → W p l e ({ frames := 2, cells := 0, slots := 0, locals := 43 } : Room) s m (List.toArray ([.ref this, .int a0, .int a1] : List Value)) below meth c H locs 0 0 Q (F0 m 207 ls []) := by
                          intro ri_5818 H locs ls hG hP hD hS hl
                          refine lv_aload_n hx hb dX12_seaStands_207 rfl (lv_at hl 0 rfl) ?_
                          refine pg_f (v := .ref w_4702) (C := RX12) (T := TX12) (N := 31) hx hb hts (tw_i inlX12) hown hK hP hL_this hK_this (by decide) rfl 0 (by decide) (hts _ (tw_c tw_176)) (pq_hv rfl hR_w_4702) dX12_seaStands_208 ?_
                          refine lv_iload hx hb dX12_seaStands_211 (lv_at hl 6 rfl) ?_
                          refine lv_bipush (v := 8) hx hb dX12_seaStands_213 (by decide) ?_
                          refine lv_iadd hx hb dX12_seaStands_215 ?_
                          refine lv_topi (fun x_5847 ex_5847 => ?_)
                          have h_5848 : rg x_5847 108 732 := rg_of_eq ex_5847 (rg_add h_4724 (rg_k (8 : Int32) 8 rfl) (by decide))
                          have uh_5848 := h_5848.1
                          have vh_5848 := h_5848.2
                          have tx_5847 : (x_5847).toInt = (x_4723).toInt + 8 := by rw [ex_5847]; exact i_add_rg (a2 := (x_4723).toInt) (b2 := 8) rfl rfl h_4724 (rg_k (8 : Int32) 8 rfl) (by decide)
                          refine pl_i hx hb hK hP hL_w_4702 hK_w_4702 hN_w_4702 (rg_in h_5848 (by decide)) dX12_seaStands_216 ?_
                          refine lv_topi (fun x_5849 ex_5849 => ?_)
                          have K_5874 : ∀  (ri_5871 : Nat → Nat → Int32) (H : Heap) (locs : List Loc) (ls : Array Slot), GM [] tg σ I ri I ri_5871 rq → va_P D vwCl (pq_P t σ (I, J, ri_5871, rj, rq)) H → va_D A (pq_P t σ (I, J, ri_5871, rj, rq)) → va_S A s.heap H locs → lv_has ls 9 [(0, .ref this), (1, .int a0), (2, .int a1), (3, .int x_5725), (4, .int x_5780), (5, .int x_4348)] → W p l e ({ frames := 2, cells := 0, slots := 0, locals := 43 } : Room) s m (List.toArray ([.ref this, .int a0, .int a1] : List Value)) below meth c H locs 0 0 Q (F0 m 360 ls []) := by
                            intro ri_5871 H locs ls hG hP hD hS hl
                            obtain ⟨x_5875, ex_5875⟩ : ∃ y : Int32, y = x_4348 + Int32.ofInt 1 := ⟨_, rfl⟩
                            have h_5876 : rg x_5875 1 40 := rg_of_eq ex_5875 (rg_add h_4719 (rg_k (Int32.ofInt 1) 1 rfl) (by decide))
                            have uh_5876 := h_5876.1
                            have vh_5876 := h_5876.2
                            have tx_5875 : (x_5875).toInt = (x_4348).toInt + 1 := by rw [ex_5875]; exact i_add_rg (a2 := (x_4348).toInt) (b2 := 1) rfl rfl h_4719 (rg_k (Int32.ofInt 1) 1 rfl) (by decide)
                            refine lv_iinc (v := x_5875) (lv' := [(5, .int x_5875), (0, .ref this), (1, .int a0), (2, .int a1), (3, .int x_5725), (4, .int x_5780)]) hx hb dX12_seaStands_360 hl (k := 5) rfl ex_5875.symm (by decide) rfl (fun ls hl => ?_)
                            refine lv_goto (tgt := 8) hx hb dX12_seaStands_363 (by decide) ?_
                            exact ih_4699 x_5725 x_5780 x_5875 ri_5871 _ _ _ (rg_w h_5876 (by decide)) (ms_up 1 hm_4696 ex_5875 rfl (by decide) h_4719 (by decide) (by decide)) hG hP hD hS (lv_sub hl [1, 2, 3, 4, 5, 0] rfl)
                          refine lv_if_ne (tgt := 223) hx hb dX12_seaStands_217 (by decide) (fun c_5877 => ?_) (fun c_5877 => ?_)
                          · have tc_5878 : (x_5849).toInt ≠ 0 := fun q => c_5877 (Int32.toInt_inj.mp q)
                            refine lv_iload hx hb dX12_seaStands_223 (lv_at hl 7 rfl) ?_
                            refine lv_if_eq (tgt := 317) hx hb dX12_seaStands_225 (by decide) (fun c_5879 => ?_) (fun c_5879 => absurd c_5879 (by decide))
                            refine lv_aload_n hx hb dX12_seaStands_317 rfl (lv_at hl 0 rfl) ?_
                            refine pg_f (v := .ref w_4702) (C := RX12) (T := TX12) (N := 31) hx hb hts (tw_i inlX12) hown hK hP hL_this hK_this (by decide) rfl 0 (by decide) (hts _ (tw_c tw_176)) (pq_hv rfl hR_w_4702) dX12_seaStands_318 ?_
                            refine lv_iload hx hb dX12_seaStands_321 (lv_at hl 6 rfl) ?_
                            refine lv_bipush (v := 10) hx hb dX12_seaStands_323 (by decide) ?_
                            refine lv_iadd hx hb dX12_seaStands_325 ?_
                            refine lv_topi (fun x_5880 ex_5880 => ?_)
                            have h_5881 : rg x_5880 110 734 := rg_of_eq ex_5880 (rg_add h_4724 (rg_k (10 : Int32) 10 rfl) (by decide))
                            have uh_5881 := h_5881.1
                            have vh_5881 := h_5881.2
                            have tx_5880 : (x_5880).toInt = (x_4723).toInt + 10 := by rw [ex_5880]; exact i_add_rg (a2 := (x_4723).toInt) (b2 := 10) rfl rfl h_4724 (rg_k (10 : Int32) 10 rfl) (by decide)
                            refine lv_aload_n hx hb dX12_seaStands_326 rfl (lv_at hl 0 rfl) ?_
                            refine pg_f (v := .ref w_4702) (C := RX12) (T := TX12) (N := 31) hx hb hts (tw_i inlX12) hown hK hP hL_this hK_this (by decide) rfl 0 (by decide) (hts _ (tw_c tw_176)) (pq_hv rfl hR_w_4702) dX12_seaStands_327 ?_
                            refine lv_iload hx hb dX12_seaStands_330 (lv_at hl 6 rfl) ?_
                            refine lv_bipush (v := 10) hx hb dX12_seaStands_332 (by decide) ?_
                            refine lv_iadd hx hb dX12_seaStands_334 ?_
                            refine lv_topi (fun x_5882 ex_5882 => ?_)
                            have h_5883 : rg x_5882 110 734 := rg_of_eq ex_5882 (rg_add h_4724 (rg_k (10 : Int32) 10 rfl) (by decide))
                            have uh_5883 := h_5883.1
                            have vh_5883 := h_5883.2
                            have tx_5882 : (x_5882).toInt = (x_4723).toInt + 10 := by rw [ex_5882]; exact i_add_rg (a2 := (x_4723).toInt) (b2 := 10) rfl rfl h_4724 (rg_k (10 : Int32) 10 rfl) (by decide)
                            refine pl_i hx hb hK hP hL_w_4702 hK_w_4702 hN_w_4702 (rg_in h_5883 (by decide)) dX12_seaStands_335 ?_
                            refine lv_topi (fun x_5884 ex_5884 => ?_)
                            refine lv_bipush (v := 90) hx hb dX12_seaStands_336 (by decide) ?_
                            have K_5896 : ∀  (x_5894 : Int32) (H : Heap) (locs : List Loc) (ls : Array Slot), GM [] tg σ I ri I ri_5818 rq → va_P D vwCl (pq_P t σ (I, J, ri_5818, rj, rq)) H → va_D A (pq_P t σ (I, J, ri_5818, rj, rq)) → va_S A s.heap H locs → lv_has ls 9 [(0, .ref this), (1, .int a0), (2, .int a1), (3, .int x_5725), (4, .int x_5780), (5, .int x_4348)] → W p l e ({ frames := 2, cells := 0, slots := 0, locals := 43 } : Room) s m (List.toArray ([.ref this, .int a0, .int a1] : List Value)) below meth c H locs 0 0 Q (F0 m 359 ls [.int x_5894, .int x_5880, .ref w_4702]) := by
                              intro x_5894 H locs ls hG hP hD hS hl
                              refine pt_i hx hb hK hP hD hS hL_w_4702 hK_w_4702 hN_w_4702 (rg_in h_5881 (by decide)) dX12_seaStands_359 (fun r_5897 H locs er_5897 hP hD hS => ?_)
                              have hG := GM.wz hG hT_w_4702 (by decide) er_5897 (zn_CELL (c := x_4348.toNatClampNeg) (k := 10) (by have z_i := clampE x_5880; have z_0 := clampE x_4348; omega) (rg_cl1 h_4719 (by decide)) (by decide)) rfl (rg_w (rg_full _) (by decide)) (by decide)
                              exact K_5874 r_5897 _ _ _ hG hP hD hS (lv_sub hl [0, 1, 2, 3, 4, 5] rfl)
                            refine lv_icmp_le (tgt := 346) hx hb dX12_seaStands_338 (by decide) (fun c_5898 => ?_) (fun c_5898 => ?_)
                            · have tc_5899 : (x_5884).toInt ≤ 90 := Int32.le_iff_toInt_le.mp c_5898
                              have h_5900 : rg x_5884 (-2147483648) 90 := rg_le1 c_5898 (rg_full _) (rg_k (90 : Int32) 90 rfl) (by decide)
                              have uh_5900 := h_5900.1
                              have vh_5900 := h_5900.2
                              refine lv_aload_n hx hb dX12_seaStands_346 rfl (lv_at hl 0 rfl) ?_
                              refine pg_f (v := .ref w_4702) (C := RX12) (T := TX12) (N := 31) hx hb hts (tw_i inlX12) hown hK hP hL_this hK_this (by decide) rfl 0 (by decide) (hts _ (tw_c tw_176)) (pq_hv rfl hR_w_4702) dX12_seaStands_347 ?_
                              refine lv_iload hx hb dX12_seaStands_350 (lv_at hl 6 rfl) ?_
                              refine lv_bipush (v := 10) hx hb dX12_seaStands_352 (by decide) ?_
                              refine lv_iadd hx hb dX12_seaStands_354 ?_
                              refine lv_topi (fun x_5901 ex_5901 => ?_)
                              have h_5902 : rg x_5901 110 734 := rg_of_eq ex_5901 (rg_add h_4724 (rg_k (10 : Int32) 10 rfl) (by decide))
                              have uh_5902 := h_5902.1
                              have vh_5902 := h_5902.2
                              have tx_5901 : (x_5901).toInt = (x_4723).toInt + 10 := by rw [ex_5901]; exact i_add_rg (a2 := (x_4723).toInt) (b2 := 10) rfl rfl h_4724 (rg_k (10 : Int32) 10 rfl) (by decide)
                              refine pl_i hx hb hK hP hL_w_4702 hK_w_4702 hN_w_4702 (rg_in h_5902 (by decide)) dX12_seaStands_355 ?_
                              refine lv_topi (fun x_5903 ex_5903 => ?_)
                              refine lv_bipush (v := 10) hx hb dX12_seaStands_356 (by decide) ?_
                              refine lv_iadd hx hb dX12_seaStands_358 ?_
                              refine lv_topi (fun x_5904 ex_5904 => ?_)
                              exact K_5896 x_5904 _ _ _ hG hP hD hS (lv_sub hl [0, 1, 2, 3, 4, 5] rfl)
                            · have tc_5905 : 90 < (x_5884).toInt := Int32.lt_iff_toInt_lt.mp (nle c_5898)
                              have h_5906 : rg x_5884 91 2147483647 := rg_lt2 (nle c_5898) (rg_k (90 : Int32) 90 rfl) (rg_full _) (by decide)
                              have uh_5906 := h_5906.1
                              have vh_5906 := h_5906.2
                              refine lv_bipush (v := 100) hx hb dX12_seaStands_341 (by decide) ?_
                              refine lv_goto (tgt := 359) hx hb dX12_seaStands_343 (by decide) ?_
                              exact K_5896 (100 : Int32) _ _ _ hG hP hD hS (lv_sub hl [0, 1, 2, 3, 4, 5] rfl)
                          · have tc_5907 : (x_5849).toInt = 0 := congrArg Int32.toInt c_5877
                            have h_5908 : rg x_5849 0 0 := rg_and (rg_full _) (rg_of_eq c_5877 (rg_k (0 : Int32) 0 rfl)) (by decide)
                            have uh_5908 := h_5908.1
                            have vh_5908 := h_5908.2
                            refine lv_goto (tgt := 360) hx hb dX12_seaStands_220 (by decide) ?_
                            exact K_5874 ri_5818 _ _ _ hG hP hD hS (lv_sub hl [0, 1, 2, 3, 4, 5] rfl)
                        refine lv_if_ne (tgt := 207) hx hb dX12_seaStands_193 (by decide) (fun c_5909 => absurd c_5909 (by decide)) (fun c_5909 => ?_)
                        refine lv_aload_n hx hb dX12_seaStands_196 rfl (lv_at hl 0 rfl) ?_
                        refine pg_f (v := .ref w_4702) (C := RX12) (T := TX12) (N := 31) hx hb hts (tw_i inlX12) hown hK hP hL_this hK_this (by decide) rfl 0 (by decide) (hts _ (tw_c tw_176)) (pq_hv rfl hR_w_4702) dX12_seaStands_197 ?_
                        refine lv_iload hx hb dX12_seaStands_200 (lv_at hl 6 rfl) ?_
                        refine lv_bipush (v := 7) hx hb dX12_seaStands_202 (by decide) ?_
                        refine lv_iadd hx hb dX12_seaStands_204 ?_
                        refine lv_topi (fun x_5910 ex_5910 => ?_)
                        have h_5911 : rg x_5910 107 731 := rg_of_eq ex_5910 (rg_add h_4724 (rg_k (7 : Int32) 7 rfl) (by decide))
                        have uh_5911 := h_5911.1
                        have vh_5911 := h_5911.2
                        have tx_5910 : (x_5910).toInt = (x_4723).toInt + 7 := by rw [ex_5910]; exact i_add_rg (a2 := (x_4723).toInt) (b2 := 7) rfl rfl h_4724 (rg_k (7 : Int32) 7 rfl) (by decide)
                        refine lv_iconst (v := 0) hx hb dX12_seaStands_205 (by decide) ?_
                        refine pt_i hx hb hK hP hD hS hL_w_4702 hK_w_4702 hN_w_4702 (rg_in h_5911 (by decide)) dX12_seaStands_206 (fun r_5912 H locs er_5912 hP hD hS => ?_)
                        have hG := GM.wz hG hT_w_4702 (by decide) er_5912 (zn_CELL (c := x_4348.toNatClampNeg) (k := 7) (by have z_i := clampE x_5910; have z_0 := clampE x_4348; omega) (rg_cl1 h_4719 (by decide)) (by decide)) rfl (rg_w (rg_k (0 : Int32) 0 rfl) (by decide)) (by decide)
                        exact K_5846 r_5912 _ _ _ hG hP hD hS (lv_sub hl [0, 1, 2, 3, 4, 5, 6, 7] rfl)
                      refine lv_if_eq (tgt := 191) hx hb dX12_seaStands_169 (by decide) (fun c_5913 => absurd c_5913 (by decide)) (fun c_5913 => ?_)
                      refine lv_iload hx hb dX12_seaStands_172 (lv_at hl 5 rfl) ?_
                      refine lv_bipush (v := 20) hx hb dX12_seaStands_174 (by decide) ?_
                      refine lv_icmp_lt (tgt := 191) hx hb dX12_seaStands_176 (by decide) (fun c_5914 => ?_) (fun c_5914 => ?_)
                      · have tc_5915 : (x_4348).toInt < 20 := Int32.lt_iff_toInt_lt.mp c_5914
                        have h_5916 : rg x_4348 0 19 := rg_lt1 c_5914 h_4719 (rg_k (20 : Int32) 20 rfl) (by decide)
                        have uh_5916 := h_5916.1
                        have vh_5916 := h_5916.2
                        exact K_5813 x_4347 _ _ _ hG hP hD hS (lv_sub hl [0, 1, 2, 3, 4, 5, 6, 7] rfl)
                      · have tc_5917 : 20 ≤ (x_4348).toInt := Int32.le_iff_toInt_le.mp (nlt c_5914)
                        have h_5918 : rg x_4348 20 39 := rg_le2 (nlt c_5914) (rg_k (20 : Int32) 20 rfl) h_4719 (by decide)
                        have uh_5918 := h_5918.1
                        have vh_5918 := h_5918.2
                        refine lv_iload hx hb dX12_seaStands_179 (lv_at hl 4 rfl) ?_
                        refine lv_iconst (v := 1) hx hb dX12_seaStands_181 (by decide) ?_
                        refine lv_iload hx hb dX12_seaStands_182 (lv_at hl 5 rfl) ?_
                        refine lv_bipush (v := 20) hx hb dX12_seaStands_184 (by decide) ?_
                        refine lv_isub hx hb dX12_seaStands_186 ?_
                        refine lv_topi (fun x_5919 ex_5919 => ?_)
                        have h_5920 : rg x_5919 0 19 := rg_of_eq ex_5919 (rg_sub h_5918 (rg_k (20 : Int32) 20 rfl) (by decide))
                        have uh_5920 := h_5920.1
                        have vh_5920 := h_5920.2
                        have tx_5919 : (x_5919).toInt = (x_4348).toInt - 20 := by rw [ex_5919]; exact i_sub_rg (a2 := (x_4348).toInt) (b2 := 20) rfl rfl h_5918 (rg_k (20 : Int32) 20 rfl) (by decide)
                        refine lv_ishl hx hb dX12_seaStands_187 ?_
                        refine lv_topi (fun x_5921 ex_5921 => ?_)
                        refine lv_ior hx hb dX12_seaStands_188 ?_
                        refine lv_topi (fun x_5922 ex_5922 => ?_)
                        refine lv_istore (lv' := [(4, .int x_5922), (0, .ref this), (1, .int a0), (2, .int a1), (3, .int x_5725), (5, .int x_4348), (6, .int x_4723), (7, .int 0), (8, .int 1)]) hx hb dX12_seaStands_189 hl (by decide) rfl (fun ls hl => ?_)
                        exact K_5813 x_5922 _ _ _ hG hP hD hS (lv_sub hl [1, 2, 3, 4, 0, 5, 6, 7] rfl)
                    refine lv_if_eq (tgt := 167) hx hb dX12_seaStands_150 (by decide) (fun c_5923 => absurd c_5923 (by decide)) (fun c_5923 => ?_)
                    refine lv_iload hx hb dX12_seaStands_153 (lv_at hl 5 rfl) ?_
                    refine lv_bipush (v := 20) hx hb dX12_seaStands_155 (by decide) ?_
                    refine lv_icmp_ge (tgt := 167) hx hb dX12_seaStands_157 (by decide) (fun c_5924 => ?_) (fun c_5924 => ?_)
                    · have tc_5925 : 20 ≤ (x_4348).toInt := Int32.le_iff_toInt_le.mp c_5924
                      have h_5926 : rg x_4348 20 39 := rg_le2 c_5924 (rg_k (20 : Int32) 20 rfl) h_4719 (by decide)
                      have uh_5926 := h_5926.1
                      have vh_5926 := h_5926.2
                      exact K_5769 x_4346 _ _ _ hG hP hD hS (lv_sub hl [0, 1, 2, 3, 4, 5, 6, 7, 8] rfl)
                    · have tc_5927 : (x_4348).toInt < 20 := Int32.lt_iff_toInt_lt.mp (nle c_5924)
                      have h_5928 : rg x_4348 0 19 := rg_lt1 (nle c_5924) h_4719 (rg_k (20 : Int32) 20 rfl) (by decide)
                      have uh_5928 := h_5928.1
                      have vh_5928 := h_5928.2
                      refine lv_iload_n hx hb dX12_seaStands_160 rfl (lv_at hl 3 rfl) ?_
                      refine lv_iconst (v := 1) hx hb dX12_seaStands_161 (by decide) ?_
                      refine lv_iload hx hb dX12_seaStands_162 (lv_at hl 5 rfl) ?_
                      refine lv_ishl hx hb dX12_seaStands_164 ?_
                      refine lv_topi (fun x_5929 ex_5929 => ?_)
                      refine lv_ior hx hb dX12_seaStands_165 ?_
                      refine lv_topi (fun x_5930 ex_5930 => ?_)
                      refine lv_istore_n (lv' := [(3, .int x_5930), (0, .ref this), (1, .int a0), (2, .int a1), (4, .int x_4347), (5, .int x_4348), (6, .int x_4723), (7, .int 0), (8, .int 1)]) hx hb dX12_seaStands_166 rfl hl (by decide) rfl (fun ls hl => ?_)
                      exact K_5769 x_5930 _ _ _ hG hP hD hS (lv_sub hl [1, 2, 3, 0, 4, 5, 6, 7, 8] rfl)
                  refine lv_if_eq (tgt := 135) hx hb dX12_seaStands_128 (by decide) (fun c_5931 => ?_) (fun c_5931 => absurd c_5931 (by decide))
                  refine lv_aload_n hx hb dX12_seaStands_135 rfl (lv_at hl 0 rfl) ?_
                  refine pg_f (v := .ref w_4702) (C := RX12) (T := TX12) (N := 31) hx hb hts (tw_i inlX12) hown hK hP hL_this hK_this (by decide) rfl 0 (by decide) (hts _ (tw_c tw_176)) (pq_hv rfl hR_w_4702) dX12_seaStands_136 ?_
                  refine lv_iload hx hb dX12_seaStands_139 (lv_at hl 6 rfl) ?_
                  refine lv_bipush (v := 11) hx hb dX12_seaStands_141 (by decide) ?_
                  refine lv_iadd hx hb dX12_seaStands_143 ?_
                  refine lv_topi (fun x_5932 ex_5932 => ?_)
                  have h_5933 : rg x_5932 111 735 := rg_of_eq ex_5932 (rg_add h_4724 (rg_k (11 : Int32) 11 rfl) (by decide))
                  have uh_5933 := h_5933.1
                  have vh_5933 := h_5933.2
                  have tx_5932 : (x_5932).toInt = (x_4723).toInt + 11 := by rw [ex_5932]; exact i_add_rg (a2 := (x_4723).toInt) (b2 := 11) rfl rfl h_4724 (rg_k (11 : Int32) 11 rfl) (by decide)
                  refine pl_i hx hb hK hP hL_w_4702 hK_w_4702 hN_w_4702 (rg_in h_5933 (by decide)) dX12_seaStands_144 ?_
                  refine lv_topi (fun x_5934 ex_5934 => ?_)
                  refine lv_iconst (v := 1) hx hb dX12_seaStands_145 (by decide) ?_
                  refine lv_iadd hx hb dX12_seaStands_146 ?_
                  refine lv_topi (fun x_5935 ex_5935 => ?_)
                  exact K_5715 x_5935 _ _ _ hG hP hD hS (lv_sub hl [0, 1, 2, 3, 4, 5, 6, 7, 8] rfl)
                refine lv_if_eq (tgt := 115) hx hb dX12_seaStands_108 (by decide) (fun c_5936 => absurd c_5936 (by decide)) (fun c_5936 => ?_)
                refine lv_iconst (v := 1) hx hb dX12_seaStands_111 (by decide) ?_
                refine lv_goto (tgt := 116) hx hb dX12_seaStands_112 (by decide) ?_
                exact K_5652 _ _ _ hG hP hD hS (lv_sub hl [0, 1, 2, 3, 4, 5, 6, 7, 8] rfl)
              refine lv_if_eq (tgt := 95) hx hb dX12_seaStands_88 (by decide) (fun c_5937 => ?_) (fun c_5937 => absurd c_5937 (by decide))
              refine lv_iconst (v := 0) hx hb dX12_seaStands_95 (by decide) ?_
              exact K_5585 _ _ _ hG hP hD hS (lv_sub hl [1, 2, 3, 4, 5, 6, 7, 8, 0] rfl)
            refine lv_icmp_le (tgt := 74) hx hb dX12_seaStands_67 (by decide) (fun c_5938 => ?_) (fun c_5938 => ?_)
            · have tc_5939 : (x_5048).toInt ≤ (x_5058).toInt := Int32.le_iff_toInt_le.mp c_5938
              refine lv_iconst (v := 0) hx hb dX12_seaStands_74 (by decide) ?_
              exact K_5186 _ _ _ hG hP hD hS (lv_sub hl [1, 2, 3, 4, 5, 6, 7, 0] rfl)
            · have tc_5940 : (x_5058).toInt < (x_5048).toInt := Int32.lt_iff_toInt_lt.mp (nle c_5938)
              have h_5941 : rg x_5058 (-2147483648) 2147483646 := rg_lt1 (nle c_5938) (rg_full _) (rg_full _) (by decide)
              have uh_5941 := h_5941.1
              have vh_5941 := h_5941.2
              have h_5942 : rg x_5048 (-2147483647) 2147483647 := rg_lt2 (nle c_5938) (rg_full _) (rg_full _) (by decide)
              have uh_5942 := h_5942.1
              have vh_5942 := h_5942.2
              refine lv_iconst (v := 1) hx hb dX12_seaStands_70 (by decide) ?_
              refine lv_goto (tgt := 75) hx hb dX12_seaStands_71 (by decide) ?_
              exact K_5511 _ _ _ (rg_w h_5942 (by decide)) (rg_w h_5941 (by decide)) hG hP hD hS (lv_sub hl [1, 2, 3, 4, 5, 6, 7, 0] rfl)
          have K_5943 : ∀  (H : Heap) (locs : List Loc) (ls : Array Slot), rg (x_4725) (-2147483647) 2147483647 → rg (x_4735) (-2147483648) 2147483646 → GM [] tg σ I ri I ri_4349 rq → va_P D vwCl (pq_P t σ (I, J, ri_4349, rj, rq)) H → va_D A (pq_P t σ (I, J, ri_4349, rj, rq)) → va_S A s.heap H locs → lv_has ls 9 [(0, .ref this), (1, .int a0), (2, .int a1), (3, .int x_4346), (4, .int x_4347), (5, .int x_4348), (6, .int x_4723)] → W p l e ({ frames := 2, cells := 0, slots := 0, locals := 43 } : Room) s m (List.toArray ([.ref this, .int a0, .int a1] : List Value)) below meth c H locs 0 0 Q (F0 m 51 ls [.int 1]) := by
            intro H locs ls h_5946 h_5947 hG hP hD hS hl
            have uh_5946 := h_5946.1
            have vh_5946 := h_5946.2
            have uh_5947 := h_5947.1
            have vh_5947 := h_5947.2
            refine lv_istore (lv' := [(7, .int 1), (0, .ref this), (1, .int a0), (2, .int a1), (3, .int x_4346), (4, .int x_4347), (5, .int x_4348), (6, .int x_4723)]) hx hb dX12_seaStands_51 hl (by decide) rfl (fun ls hl => ?_)
            refine lv_aload_n hx hb dX12_seaStands_53 rfl (lv_at hl 1 rfl) ?_
            refine lv_iload hx hb dX12_seaStands_54 (lv_at hl 6 rfl) ?_
            refine pk_i (va_runV (As := [.int x_4348]) (rest := []) ⟨hx, hb, hml, hown, hts⟩ (s_X12_topOf l D t σ I J ri_4349 rj rq H.size tg hSH hG.1 this x_4348 hL_this hK_this (rg_w h_4719 (by decide))) (cwV 1 hts (tw_V tw_1213 tw_1214 tw_1215 tw_5 tw_1216) rfl rfl rfl cv_yX12_topOf_1 ⟨Nat.le_of_ble_eq_true rfl, Nat.le_of_ble_eq_true rfl⟩) ⟨pq_blind, pq_recv hK hP hL_this hK_this (by decide) rfl, pq_pre hK hN hP hD⟩ rfl rfl hl.1 rfl (lv_room (Nat.le_of_ble_eq_true rfl)) dX12_seaStands_56 ⟨Nat.le_of_ble_eq_true rfl, Nat.le_of_ble_eq_true rfl⟩) hD hS hA (fun x_5948 σ1 μ1 H locs hw_5949 hP hD hS => ?_)
            have hu_5950 := hw_5949
            obtain ⟨hu_5950a, hu_5950b⟩ := Prod.mk.inj hu_5950
            rw [hu_5950a, hu_5950b] at hP hD
            refine lv_iload_n hx hb dX12_seaStands_59 rfl (lv_at hl 3 rfl) ?_
            refine lv_aload_n hx hb dX12_seaStands_60 rfl (lv_at hl 1 rfl) ?_
            refine lv_iload_n hx hb dX12_seaStands_61 rfl (lv_at hl 2 rfl) ?_
            refine lv_iconst (v := 0) hx hb dX12_seaStands_62 (by decide) ?_
            refine pk_i (va_runV (As := [.int a0, .int 0]) (rest := [.int a1, .int x_5948]) ⟨hx, hb, hml, hown, hts⟩ (s_X12_tableAt_c0 l D t σ I J ri_4349 rj rq H.size tg hSH hG.1 this a0 hL_this hK_this (rg_w h_a0 (by decide))) (cwV 2 hts (tw_V tw_1201 tw_1202 tw_1203 tw_5 tw_1204) rfl rfl rfl cv_yX12_tableAt_2 ⟨Nat.le_of_ble_eq_true rfl, Nat.le_of_ble_eq_true rfl⟩) ⟨pq_blind, pq_recv hK hP hL_this hK_this (by decide) rfl, pq_pre hK hN hP hD⟩ rfl rfl hl.1 rfl (lv_room (Nat.le_of_ble_eq_true rfl)) dX12_seaStands_63 ⟨Nat.le_of_ble_eq_true rfl, Nat.le_of_ble_eq_true rfl⟩) hD hS hA (fun x_5953 σ1 μ1 H locs hw_5954 hP hD hS => ?_)
            have hu_5955 := hw_5954
            obtain ⟨hu_5955a, hu_5955b⟩ := Prod.mk.inj hu_5955
            rw [hu_5955a, hu_5955b] at hP hD
            refine lv_iadd hx hb dX12_seaStands_66 ?_
            refine lv_topi (fun x_5958 ex_5958 => ?_)
            have K_6114 : ∀  (H : Heap) (locs : List Loc) (ls : Array Slot), GM [] tg σ I ri I ri_4349 rq → va_P D vwCl (pq_P t σ (I, J, ri_4349, rj, rq)) H → va_D A (pq_P t σ (I, J, ri_4349, rj, rq)) → va_S A s.heap H locs → lv_has ls 9 [(0, .ref this), (1, .int a0), (2, .int a1), (3, .int x_4346), (4, .int x_4347), (5, .int x_4348), (6, .int x_4723), (7, .int 1)] → W p l e ({ frames := 2, cells := 0, slots := 0, locals := 43 } : Room) s m (List.toArray ([.ref this, .int a0, .int a1] : List Value)) below meth c H locs 0 0 Q (F0 m 75 ls [.int 0]) := by
              intro H locs ls hG hP hD hS hl
              refine lv_istore (lv' := [(8, .int 0), (0, .ref this), (1, .int a0), (2, .int a1), (3, .int x_4346), (4, .int x_4347), (5, .int x_4348), (6, .int x_4723), (7, .int 1)]) hx hb dX12_seaStands_75 hl (by decide) rfl (fun ls hl => ?_)
              refine lv_aload_n hx hb dX12_seaStands_77 rfl (lv_at hl 1 rfl) ?_
              refine pg_f (v := .ref w_4702) (C := RX12) (T := TX12) (N := 31) hx hb hts (tw_i inlX12) hown hK hP hL_this hK_this (by decide) rfl 0 (by decide) (hts _ (tw_c tw_176)) (pq_hv rfl hR_w_4702) dX12_seaStands_78 ?_
              refine lv_iload hx hb dX12_seaStands_81 (lv_at hl 7 rfl) ?_
              refine lv_bipush (v := 12) hx hb dX12_seaStands_83 (by decide) ?_
              refine lv_iadd hx hb dX12_seaStands_85 ?_
              refine lv_topi (fun x_6115 ex_6115 => ?_)
              have h_6116 : rg x_6115 112 736 := rg_of_eq ex_6115 (rg_add h_4724 (rg_k (12 : Int32) 12 rfl) (by decide))
              have uh_6116 := h_6116.1
              have vh_6116 := h_6116.2
              have tx_6115 : (x_6115).toInt = (x_4723).toInt + 12 := by rw [ex_6115]; exact i_add_rg (a2 := (x_4723).toInt) (b2 := 12) rfl rfl h_4724 (rg_k (12 : Int32) 12 rfl) (by decide)
              refine lv_iload hx hb dX12_seaStands_86 (lv_at hl 8 rfl) ?_
              have K_6180 : ∀  (H : Heap) (locs : List Loc) (ls : Array Slot), GM [] tg σ I ri I ri_4349 rq → va_P D vwCl (pq_P t σ (I, J, ri_4349, rj, rq)) H → va_D A (pq_P t σ (I, J, ri_4349, rj, rq)) → va_S A s.heap H locs → lv_has ls 9 [(0, .ref this), (1, .int a0), (2, .int a1), (3, .int x_4346), (4, .int x_4347), (5, .int x_4348), (6, .int x_4723), (7, .int 1), (8, .int 0)] → W p l e ({ frames := 2, cells := 0, slots := 0, locals := 43 } : Room) s m (List.toArray ([.ref this, .int a0, .int a1] : List Value)) below meth c H locs 0 0 Q (F0 m 96 ls [.int 1, .int x_6115, .ref w_4702]) := by
                intro H locs ls hG hP hD hS hl
                refine pt_i hx hb hK hP hD hS hL_w_4702 hK_w_4702 hN_w_4702 (rg_in h_6116 (by decide)) dX12_seaStands_96 (fun r_6181 H locs er_6181 hP hD hS => ?_)
                have hG := GM.wz hG hT_w_4702 (by decide) er_6181 (zn_CELL (c := x_4348.toNatClampNeg) (k := 12) (by have z_i := clampE x_6115; have z_0 := clampE x_4348; omega) (rg_cl1 h_4719 (by decide)) (by decide)) rfl (rg_w (rg_k (1 : Int32) 1 rfl) (by decide)) (by decide)
                refine lv_aload_n hx hb dX12_seaStands_97 rfl (lv_at hl 0 rfl) ?_
                refine pg_f (v := .ref w_4702) (C := RX12) (T := TX12) (N := 31) hx hb hts (tw_i inlX12) hown hK hP hL_this hK_this (by decide) rfl 0 (by decide) (hts _ (tw_c tw_176)) (pq_hv rfl hR_w_4702) dX12_seaStands_98 ?_
                refine lv_iload hx hb dX12_seaStands_101 (lv_at hl 6 rfl) ?_
                refine lv_bipush (v := 13) hx hb dX12_seaStands_103 (by decide) ?_
                refine lv_iadd hx hb dX12_seaStands_105 ?_
                refine lv_topi (fun x_6182 ex_6182 => ?_)
                have h_6183 : rg x_6182 113 737 := rg_of_eq ex_6182 (rg_add h_4724 (rg_k (13 : Int32) 13 rfl) (by decide))
                have uh_6183 := h_6183.1
                have vh_6183 := h_6183.2
                have tx_6182 : (x_6182).toInt = (x_4723).toInt + 13 := by rw [ex_6182]; exact i_add_rg (a2 := (x_4723).toInt) (b2 := 13) rfl rfl h_4724 (rg_k (13 : Int32) 13 rfl) (by decide)
                refine lv_iload hx hb dX12_seaStands_106 (lv_at hl 8 rfl) ?_
                have K_6243 : ∀  (H : Heap) (locs : List Loc) (ls : Array Slot), GM [] tg σ I ri I r_6181 rq → va_P D vwCl (pq_P t σ (I, J, r_6181, rj, rq)) H → va_D A (pq_P t σ (I, J, r_6181, rj, rq)) → va_S A s.heap H locs → lv_has ls 9 [(0, .ref this), (1, .int a0), (2, .int a1), (3, .int x_4346), (4, .int x_4347), (5, .int x_4348), (6, .int x_4723), (7, .int 1), (8, .int 0)] → W p l e ({ frames := 2, cells := 0, slots := 0, locals := 43 } : Room) s m (List.toArray ([.ref this, .int a0, .int a1] : List Value)) below meth c H locs 0 0 Q (F0 m 116 ls [.int 0, .int x_6182, .ref w_4702]) := by
                  intro H locs ls hG hP hD hS hl
                  refine pt_i hx hb hK hP hD hS hL_w_4702 hK_w_4702 hN_w_4702 (rg_in h_6183 (by decide)) dX12_seaStands_116 (fun r_6244 H locs er_6244 hP hD hS => ?_)
                  have hG := GM.wz hG hT_w_4702 (by decide) er_6244 (zn_CELL (c := x_4348.toNatClampNeg) (k := 13) (by have z_i := clampE x_6182; have z_0 := clampE x_4348; omega) (rg_cl1 h_4719 (by decide)) (by decide)) rfl (rg_w (rg_k (0 : Int32) 0 rfl) (by decide)) (by decide)
                  refine lv_aload_n hx hb dX12_seaStands_117 rfl (lv_at hl 0 rfl) ?_
                  refine pg_f (v := .ref w_4702) (C := RX12) (T := TX12) (N := 31) hx hb hts (tw_i inlX12) hown hK hP hL_this hK_this (by decide) rfl 0 (by decide) (hts _ (tw_c tw_176)) (pq_hv rfl hR_w_4702) dX12_seaStands_118 ?_
                  refine lv_iload hx hb dX12_seaStands_121 (lv_at hl 6 rfl) ?_
                  refine lv_bipush (v := 11) hx hb dX12_seaStands_123 (by decide) ?_
                  refine lv_iadd hx hb dX12_seaStands_125 ?_
                  refine lv_topi (fun x_6245 ex_6245 => ?_)
                  have h_6246 : rg x_6245 111 735 := rg_of_eq ex_6245 (rg_add h_4724 (rg_k (11 : Int32) 11 rfl) (by decide))
                  have uh_6246 := h_6246.1
                  have vh_6246 := h_6246.2
                  have tx_6245 : (x_6245).toInt = (x_4723).toInt + 11 := by rw [ex_6245]; exact i_add_rg (a2 := (x_4723).toInt) (b2 := 11) rfl rfl h_4724 (rg_k (11 : Int32) 11 rfl) (by decide)
                  refine lv_iload hx hb dX12_seaStands_126 (lv_at hl 7 rfl) ?_
                  have K_6302 : ∀  (H : Heap) (locs : List Loc) (ls : Array Slot), GM [] tg σ I ri I r_6244 rq → va_P D vwCl (pq_P t σ (I, J, r_6244, rj, rq)) H → va_D A (pq_P t σ (I, J, r_6244, rj, rq)) → va_S A s.heap H locs → lv_has ls 9 [(0, .ref this), (1, .int a0), (2, .int a1), (3, .int x_4346), (4, .int x_4347), (5, .int x_4348), (6, .int x_4723), (7, .int 1), (8, .int 0)] → W p l e ({ frames := 2, cells := 0, slots := 0, locals := 43 } : Room) s m (List.toArray ([.ref this, .int a0, .int a1] : List Value)) below meth c H locs 0 0 Q (F0 m 147 ls [.int 0, .int x_6245, .ref w_4702]) := by
                    intro H locs ls hG hP hD hS hl
                    refine pt_i hx hb hK hP hD hS hL_w_4702 hK_w_4702 hN_w_4702 (rg_in h_6246 (by decide)) dX12_seaStands_147 (fun r_6303 H locs er_6303 hP hD hS => ?_)
                    have hG := GM.wz hG hT_w_4702 (by decide) er_6303 (zn_CELL (c := x_4348.toNatClampNeg) (k := 11) (by have z_i := clampE x_6245; have z_0 := clampE x_4348; omega) (rg_cl1 h_4719 (by decide)) (by decide)) rfl (rg_w (rg_k (0 : Int32) 0 rfl) (by decide)) (by decide)
                    refine lv_iload hx hb dX12_seaStands_148 (lv_at hl 8 rfl) ?_
                    have K_6357 : ∀  (H : Heap) (locs : List Loc) (ls : Array Slot), GM [] tg σ I ri I r_6303 rq → va_P D vwCl (pq_P t σ (I, J, r_6303, rj, rq)) H → va_D A (pq_P t σ (I, J, r_6303, rj, rq)) → va_S A s.heap H locs → lv_has ls 9 [(0, .ref this), (1, .int a0), (2, .int a1), (3, .int x_4346), (4, .int x_4347), (5, .int x_4348), (6, .int x_4723), (7, .int 1), (8, .int 0)] → W p l e ({ frames := 2, cells := 0, slots := 0, locals := 43 } : Room) s m (List.toArray ([.ref this, .int a0, .int a1] : List Value)) below meth c H locs 0 0 Q (F0 m 167 ls []) := by
                      intro H locs ls hG hP hD hS hl
                      refine lv_iload hx hb dX12_seaStands_167 (lv_at hl 8 rfl) ?_
                      have K_6410 : ∀  (H : Heap) (locs : List Loc) (ls : Array Slot), GM [] tg σ I ri I r_6303 rq → va_P D vwCl (pq_P t σ (I, J, r_6303, rj, rq)) H → va_D A (pq_P t σ (I, J, r_6303, rj, rq)) → va_S A s.heap H locs → lv_has ls 9 [(0, .ref this), (1, .int a0), (2, .int a1), (3, .int x_4346), (4, .int x_4347), (5, .int x_4348), (6, .int x_4723), (7, .int 1)] → W p l e ({ frames := 2, cells := 0, slots := 0, locals := 43 } : Room) s m (List.toArray ([.ref this, .int a0, .int a1] : List Value)) below meth c H locs 0 0 Q (F0 m 191 ls []) := by
                        intro H locs ls hG hP hD hS hl
                        refine lv_iload hx hb dX12_seaStands_191 (lv_at hl 7 rfl) ?_
                        have K_6462 : ∀  (H : Heap) (locs : List Loc) (ls : Array Slot), GM [] tg σ I ri I r_6303 rq → va_P D vwCl (pq_P t σ (I, J, r_6303, rj, rq)) H → va_D A (pq_P t σ (I, J, r_6303, rj, rq)) → va_S A s.heap H locs → lv_has ls 9 [(0, .ref this), (1, .int a0), (2, .int a1), (3, .int x_4346), (4, .int x_4347), (5, .int x_4348), (6, .int x_4723), (7, .int 1)] → W p l e ({ frames := 2, cells := 0, slots := 0, locals := 43 } : Room) s m (List.toArray ([.ref this, .int a0, .int a1] : List Value)) below meth c H locs 0 0 Q (F0 m 207 ls []) := by
                          intro H locs ls hG hP hD hS hl
                          refine lv_aload_n hx hb dX12_seaStands_207 rfl (lv_at hl 0 rfl) ?_
                          refine pg_f (v := .ref w_4702) (C := RX12) (T := TX12) (N := 31) hx hb hts (tw_i inlX12) hown hK hP hL_this hK_this (by decide) rfl 0 (by decide) (hts _ (tw_c tw_176)) (pq_hv rfl hR_w_4702) dX12_seaStands_208 ?_
                          refine lv_iload hx hb dX12_seaStands_211 (lv_at hl 6 rfl) ?_
                          refine lv_bipush (v := 8) hx hb dX12_seaStands_213 (by decide) ?_
                          refine lv_iadd hx hb dX12_seaStands_215 ?_
                          refine lv_topi (fun x_6463 ex_6463 => ?_)
                          have h_6464 : rg x_6463 108 732 := rg_of_eq ex_6463 (rg_add h_4724 (rg_k (8 : Int32) 8 rfl) (by decide))
                          have uh_6464 := h_6464.1
                          have vh_6464 := h_6464.2
                          have tx_6463 : (x_6463).toInt = (x_4723).toInt + 8 := by rw [ex_6463]; exact i_add_rg (a2 := (x_4723).toInt) (b2 := 8) rfl rfl h_4724 (rg_k (8 : Int32) 8 rfl) (by decide)
                          refine pl_i hx hb hK hP hL_w_4702 hK_w_4702 hN_w_4702 (rg_in h_6464 (by decide)) dX12_seaStands_216 ?_
                          refine lv_topi (fun x_6465 ex_6465 => ?_)
                          have K_6513 : ∀  (ri_6510 : Nat → Nat → Int32) (H : Heap) (locs : List Loc) (ls : Array Slot), GM [] tg σ I ri I ri_6510 rq → va_P D vwCl (pq_P t σ (I, J, ri_6510, rj, rq)) H → va_D A (pq_P t σ (I, J, ri_6510, rj, rq)) → va_S A s.heap H locs → lv_has ls 9 [(0, .ref this), (1, .int a0), (2, .int a1), (3, .int x_4346), (4, .int x_4347), (5, .int x_4348)] → W p l e ({ frames := 2, cells := 0, slots := 0, locals := 43 } : Room) s m (List.toArray ([.ref this, .int a0, .int a1] : List Value)) below meth c H locs 0 0 Q (F0 m 360 ls []) := by
                            intro ri_6510 H locs ls hG hP hD hS hl
                            obtain ⟨x_6514, ex_6514⟩ : ∃ y : Int32, y = x_4348 + Int32.ofInt 1 := ⟨_, rfl⟩
                            have h_6515 : rg x_6514 1 40 := rg_of_eq ex_6514 (rg_add h_4719 (rg_k (Int32.ofInt 1) 1 rfl) (by decide))
                            have uh_6515 := h_6515.1
                            have vh_6515 := h_6515.2
                            have tx_6514 : (x_6514).toInt = (x_4348).toInt + 1 := by rw [ex_6514]; exact i_add_rg (a2 := (x_4348).toInt) (b2 := 1) rfl rfl h_4719 (rg_k (Int32.ofInt 1) 1 rfl) (by decide)
                            refine lv_iinc (v := x_6514) (lv' := [(5, .int x_6514), (0, .ref this), (1, .int a0), (2, .int a1), (3, .int x_4346), (4, .int x_4347)]) hx hb dX12_seaStands_360 hl (k := 5) rfl ex_6514.symm (by decide) rfl (fun ls hl => ?_)
                            refine lv_goto (tgt := 8) hx hb dX12_seaStands_363 (by decide) ?_
                            exact ih_4699 x_4346 x_4347 x_6514 ri_6510 _ _ _ (rg_w h_6515 (by decide)) (ms_up 1 hm_4696 ex_6514 rfl (by decide) h_4719 (by decide) (by decide)) hG hP hD hS (lv_sub hl [1, 2, 3, 4, 5, 0] rfl)
                          refine lv_if_ne (tgt := 223) hx hb dX12_seaStands_217 (by decide) (fun c_6516 => ?_) (fun c_6516 => ?_)
                          · have tc_6517 : (x_6465).toInt ≠ 0 := fun q => c_6516 (Int32.toInt_inj.mp q)
                            refine lv_iload hx hb dX12_seaStands_223 (lv_at hl 7 rfl) ?_
                            refine lv_if_eq (tgt := 317) hx hb dX12_seaStands_225 (by decide) (fun c_6518 => absurd c_6518 (by decide)) (fun c_6518 => ?_)
                            refine lv_aload_n hx hb dX12_seaStands_228 rfl (lv_at hl 0 rfl) ?_
                            refine pg_f (v := .ref w_4702) (C := RX12) (T := TX12) (N := 31) hx hb hts (tw_i inlX12) hown hK hP hL_this hK_this (by decide) rfl 0 (by decide) (hts _ (tw_c tw_176)) (pq_hv rfl hR_w_4702) dX12_seaStands_229 ?_
                            refine lv_iload hx hb dX12_seaStands_232 (lv_at hl 6 rfl) ?_
                            refine lv_bipush (v := 9) hx hb dX12_seaStands_234 (by decide) ?_
                            refine lv_iadd hx hb dX12_seaStands_236 ?_
                            refine lv_topi (fun x_6519 ex_6519 => ?_)
                            have h_6520 : rg x_6519 109 733 := rg_of_eq ex_6519 (rg_add h_4724 (rg_k (9 : Int32) 9 rfl) (by decide))
                            have uh_6520 := h_6520.1
                            have vh_6520 := h_6520.2
                            have tx_6519 : (x_6519).toInt = (x_4723).toInt + 9 := by rw [ex_6519]; exact i_add_rg (a2 := (x_4723).toInt) (b2 := 9) rfl rfl h_4724 (rg_k (9 : Int32) 9 rfl) (by decide)
                            refine lv_dup2_11 hx hb dX12_seaStands_237 rfl rfl ?_
                            refine pl_i hx hb hK hP hL_w_4702 hK_w_4702 hN_w_4702 (rg_in h_6520 (by decide)) dX12_seaStands_238 ?_
                            refine lv_topi (fun x_6521 ex_6521 => ?_)
                            refine lv_aload_n hx hb dX12_seaStands_239 rfl (lv_at hl 0 rfl) ?_
                            refine lv_iload_n hx hb dX12_seaStands_240 rfl (lv_at hl 1 rfl) ?_
                            refine lv_iconst (v := 4) hx hb dX12_seaStands_241 (by decide) ?_
                            refine pk_i (va_runV (As := [.int a0, .int 4]) (rest := [.int x_6521, .int x_6519, .ref w_4702]) ⟨hx, hb, hml, hown, hts⟩ (s_X12_tableAt_c4 l D t σ I J r_6303 rj rq H.size tg hSH hG.1 this a0 hL_this hK_this (rg_w h_a0 (by decide))) (cwV 2 hts (tw_V tw_1201 tw_1202 tw_1203 tw_5 tw_1204) rfl rfl rfl cv_yX12_tableAt_2 ⟨Nat.le_of_ble_eq_true rfl, Nat.le_of_ble_eq_true rfl⟩) ⟨pq_blind, pq_recv hK hP hL_this hK_this (by decide) rfl, pq_pre hK hN hP hD⟩ rfl rfl hl.1 rfl (lv_room (Nat.le_of_ble_eq_true rfl)) dX12_seaStands_242 ⟨Nat.le_of_ble_eq_true rfl, Nat.le_of_ble_eq_true rfl⟩) hD hS hA (fun x_6522 σ1 μ1 H locs hw_6523 hP hD hS => ?_)
                            have hu_6524 := hw_6523
                            obtain ⟨hu_6524a, hu_6524b⟩ := Prod.mk.inj hu_6524
                            rw [hu_6524a, hu_6524b] at hP hD
                            refine lv_aload_n hx hb dX12_seaStands_245 rfl (lv_at hl 0 rfl) ?_
                            refine pg_f (v := .ref w_4702) (C := RX12) (T := TX12) (N := 31) hx hb hts (tw_i inlX12) hown hK hP hL_this hK_this (by decide) rfl 0 (by decide) (hts _ (tw_c tw_176)) (pq_hv rfl hR_w_4702) dX12_seaStands_246 ?_
                            refine lv_iload hx hb dX12_seaStands_249 (lv_at hl 6 rfl) ?_
                            refine lv_bipush (v := 8) hx hb dX12_seaStands_251 (by decide) ?_
                            refine lv_iadd hx hb dX12_seaStands_253 ?_
                            refine lv_topi (fun x_6527 ex_6527 => ?_)
                            have h_6528 : rg x_6527 108 732 := rg_of_eq ex_6527 (rg_add h_4724 (rg_k (8 : Int32) 8 rfl) (by decide))
                            have uh_6528 := h_6528.1
                            have vh_6528 := h_6528.2
                            have tx_6527 : (x_6527).toInt = (x_4723).toInt + 8 := by rw [ex_6527]; exact i_add_rg (a2 := (x_4723).toInt) (b2 := 8) rfl rfl h_4724 (rg_k (8 : Int32) 8 rfl) (by decide)
                            refine pl_i hx hb hK hP hL_w_4702 hK_w_4702 hN_w_4702 (rg_in h_6528 (by decide)) dX12_seaStands_254 ?_
                            refine lv_topi (fun x_6529 ex_6529 => ?_)
                            refine lv_imul hx hb dX12_seaStands_255 ?_
                            refine lv_topi (fun x_6530 ex_6530 => ?_)
                            refine lv_iadd hx hb dX12_seaStands_256 ?_
                            refine lv_topi (fun x_6531 ex_6531 => ?_)
                            refine pt_i hx hb hK hP hD hS hL_w_4702 hK_w_4702 hN_w_4702 (rg_in h_6520 (by decide)) dX12_seaStands_257 (fun r_6532 H locs er_6532 hP hD hS => ?_)
                            have hG := GM.wz hG hT_w_4702 (by decide) er_6532 (zn_CELL (c := x_4348.toNatClampNeg) (k := 9) (by have z_i := clampE x_6519; have z_0 := clampE x_4348; omega) (rg_cl1 h_4719 (by decide)) (by decide)) rfl (rg_w (rg_full _) (by decide)) (by decide)
                            refine lv_aload_n hx hb dX12_seaStands_258 rfl (lv_at hl 0 rfl) ?_
                            refine pg_f (v := .ref w_4702) (C := RX12) (T := TX12) (N := 31) hx hb hts (tw_i inlX12) hown hK hP hL_this hK_this (by decide) rfl 0 (by decide) (hts _ (tw_c tw_176)) (pq_hv rfl hR_w_4702) dX12_seaStands_259 ?_
                            refine lv_iload hx hb dX12_seaStands_262 (lv_at hl 6 rfl) ?_
                            refine lv_bipush (v := 9) hx hb dX12_seaStands_264 (by decide) ?_
                            refine lv_iadd hx hb dX12_seaStands_266 ?_
                            refine lv_topi (fun x_6533 ex_6533 => ?_)
                            have h_6534 : rg x_6533 109 733 := rg_of_eq ex_6533 (rg_add h_4724 (rg_k (9 : Int32) 9 rfl) (by decide))
                            have uh_6534 := h_6534.1
                            have vh_6534 := h_6534.2
                            have tx_6533 : (x_6533).toInt = (x_4723).toInt + 9 := by rw [ex_6533]; exact i_add_rg (a2 := (x_4723).toInt) (b2 := 9) rfl rfl h_4724 (rg_k (9 : Int32) 9 rfl) (by decide)
                            refine pl_i hx hb hK hP hL_w_4702 hK_w_4702 hN_w_4702 (rg_in h_6534 (by decide)) dX12_seaStands_267 ?_
                            refine lv_topi (fun x_6535 ex_6535 => ?_)
                            refine lv_sipush (v := 10000) hx hb dX12_seaStands_268 (by decide) ?_
                            have K_6558 : ∀  (ri_6544 : Nat → Nat → Int32) (H : Heap) (locs : List Loc) (ls : Array Slot), GM [] tg σ I ri I ri_6544 rq → va_P D vwCl (pq_P t σ (I, J, ri_6544, rj, rq)) H → va_D A (pq_P t σ (I, J, ri_6544, rj, rq)) → va_S A s.heap H locs → lv_has ls 9 [(0, .ref this), (1, .int a0), (2, .int a1), (3, .int x_4346), (4, .int x_4347), (5, .int x_4348), (6, .int x_4723)] → W p l e ({ frames := 2, cells := 0, slots := 0, locals := 43 } : Room) s m (List.toArray ([.ref this, .int a0, .int a1] : List Value)) below meth c H locs 0 0 Q (F0 m 287 ls []) := by
                              intro ri_6544 H locs ls hG hP hD hS hl
                              refine lv_aload_n hx hb dX12_seaStands_287 rfl (lv_at hl 0 rfl) ?_
                              refine pg_f (v := .ref w_4702) (C := RX12) (T := TX12) (N := 31) hx hb hts (tw_i inlX12) hown hK hP hL_this hK_this (by decide) rfl 0 (by decide) (hts _ (tw_c tw_176)) (pq_hv rfl hR_w_4702) dX12_seaStands_288 ?_
                              refine lv_iload hx hb dX12_seaStands_291 (lv_at hl 6 rfl) ?_
                              refine lv_bipush (v := 10) hx hb dX12_seaStands_293 (by decide) ?_
                              refine lv_iadd hx hb dX12_seaStands_295 ?_
                              refine lv_topi (fun x_6559 ex_6559 => ?_)
                              have h_6560 : rg x_6559 110 734 := rg_of_eq ex_6559 (rg_add h_4724 (rg_k (10 : Int32) 10 rfl) (by decide))
                              have uh_6560 := h_6560.1
                              have vh_6560 := h_6560.2
                              have tx_6559 : (x_6559).toInt = (x_4723).toInt + 10 := by rw [ex_6559]; exact i_add_rg (a2 := (x_4723).toInt) (b2 := 10) rfl rfl h_4724 (rg_k (10 : Int32) 10 rfl) (by decide)
                              refine pl_i hx hb hK hP hL_w_4702 hK_w_4702 hN_w_4702 (rg_in h_6560 (by decide)) dX12_seaStands_296 ?_
                              refine lv_topi (fun x_6561 ex_6561 => ?_)
                              refine lv_if_le (tgt := 360) hx hb dX12_seaStands_297 (by decide) (fun c_6562 => ?_) (fun c_6562 => ?_)
                              · have tc_6563 : (x_6561).toInt ≤ 0 := Int32.le_iff_toInt_le.mp c_6562
                                have h_6564 : rg x_6561 (-2147483648) 0 := rg_le1 c_6562 (rg_full _) (rg_k (0 : Int32) 0 rfl) (by decide)
                                have uh_6564 := h_6564.1
                                have vh_6564 := h_6564.2
                                exact K_6513 ri_6544 _ _ _ hG hP hD hS (lv_sub hl [0, 1, 2, 3, 4, 5] rfl)
                              · have tc_6565 : 0 < (x_6561).toInt := Int32.lt_iff_toInt_lt.mp (nle c_6562)
                                have h_6566 : rg x_6561 1 2147483647 := rg_lt2 (nle c_6562) (rg_k (0 : Int32) 0 rfl) (rg_full _) (by decide)
                                have uh_6566 := h_6566.1
                                have vh_6566 := h_6566.2
                                refine lv_aload_n hx hb dX12_seaStands_300 rfl (lv_at hl 0 rfl) ?_
                                refine pg_f (v := .ref w_4702) (C := RX12) (T := TX12) (N := 31) hx hb hts (tw_i inlX12) hown hK hP hL_this hK_this (by decide) rfl 0 (by decide) (hts _ (tw_c tw_176)) (pq_hv rfl hR_w_4702) dX12_seaStands_301 ?_
                                refine lv_iload hx hb dX12_seaStands_304 (lv_at hl 6 rfl) ?_
                                refine lv_bipush (v := 10) hx hb dX12_seaStands_306 (by decide) ?_
                                refine lv_iadd hx hb dX12_seaStands_308 ?_
                                refine lv_topi (fun x_6567 ex_6567 => ?_)
                                have h_6568 : rg x_6567 110 734 := rg_of_eq ex_6567 (rg_add h_4724 (rg_k (10 : Int32) 10 rfl) (by decide))
                                have uh_6568 := h_6568.1
                                have vh_6568 := h_6568.2
                                have tx_6567 : (x_6567).toInt = (x_4723).toInt + 10 := by rw [ex_6567]; exact i_add_rg (a2 := (x_4723).toInt) (b2 := 10) rfl rfl h_4724 (rg_k (10 : Int32) 10 rfl) (by decide)
                                refine lv_dup2_11 hx hb dX12_seaStands_309 rfl rfl ?_
                                refine pl_i hx hb hK hP hL_w_4702 hK_w_4702 hN_w_4702 (rg_in h_6568 (by decide)) dX12_seaStands_310 ?_
                                refine lv_topi (fun x_6569 ex_6569 => ?_)
                                refine lv_iconst (v := 1) hx hb dX12_seaStands_311 (by decide) ?_
                                refine lv_isub hx hb dX12_seaStands_312 ?_
                                refine lv_topi (fun x_6570 ex_6570 => ?_)
                                refine pt_i hx hb hK hP hD hS hL_w_4702 hK_w_4702 hN_w_4702 (rg_in h_6568 (by decide)) dX12_seaStands_313 (fun r_6571 H locs er_6571 hP hD hS => ?_)
                                have hG := GM.wz hG hT_w_4702 (by decide) er_6571 (zn_CELL (c := x_4348.toNatClampNeg) (k := 10) (by have z_i := clampE x_6567; have z_0 := clampE x_4348; omega) (rg_cl1 h_4719 (by decide)) (by decide)) rfl (rg_w (rg_full _) (by decide)) (by decide)
                                refine lv_goto (tgt := 360) hx hb dX12_seaStands_314 (by decide) ?_
                                exact K_6513 r_6571 _ _ _ hG hP hD hS (lv_sub hl [0, 1, 2, 3, 4, 5] rfl)
                            refine lv_icmp_le (tgt := 287) hx hb dX12_seaStands_271 (by decide) (fun c_6572 => ?_) (fun c_6572 => ?_)
                            · have tc_6573 : (x_6535).toInt ≤ 10000 := Int32.le_iff_toInt_le.mp c_6572
                              have h_6574 : rg x_6535 (-2147483648) 10000 := rg_le1 c_6572 (rg_full _) (rg_k (10000 : Int32) 10000 rfl) (by decide)
                              have uh_6574 := h_6574.1
                              have vh_6574 := h_6574.2
                              exact K_6558 r_6532 _ _ _ hG hP hD hS (lv_sub hl [0, 1, 2, 3, 4, 5, 6] rfl)
                            · have tc_6575 : 10000 < (x_6535).toInt := Int32.lt_iff_toInt_lt.mp (nle c_6572)
                              have h_6576 : rg x_6535 10001 2147483647 := rg_lt2 (nle c_6572) (rg_k (10000 : Int32) 10000 rfl) (rg_full _) (by decide)
                              have uh_6576 := h_6576.1
                              have vh_6576 := h_6576.2
                              refine lv_aload_n hx hb dX12_seaStands_274 rfl (lv_at hl 0 rfl) ?_
                              refine pg_f (v := .ref w_4702) (C := RX12) (T := TX12) (N := 31) hx hb hts (tw_i inlX12) hown hK hP hL_this hK_this (by decide) rfl 0 (by decide) (hts _ (tw_c tw_176)) (pq_hv rfl hR_w_4702) dX12_seaStands_275 ?_
                              refine lv_iload hx hb dX12_seaStands_278 (lv_at hl 6 rfl) ?_
                              refine lv_bipush (v := 9) hx hb dX12_seaStands_280 (by decide) ?_
                              refine lv_iadd hx hb dX12_seaStands_282 ?_
                              refine lv_topi (fun x_6577 ex_6577 => ?_)
                              have h_6578 : rg x_6577 109 733 := rg_of_eq ex_6577 (rg_add h_4724 (rg_k (9 : Int32) 9 rfl) (by decide))
                              have uh_6578 := h_6578.1
                              have vh_6578 := h_6578.2
                              have tx_6577 : (x_6577).toInt = (x_4723).toInt + 9 := by rw [ex_6577]; exact i_add_rg (a2 := (x_4723).toInt) (b2 := 9) rfl rfl h_4724 (rg_k (9 : Int32) 9 rfl) (by decide)
                              refine lv_sipush (v := 10000) hx hb dX12_seaStands_283 (by decide) ?_
                              refine pt_i hx hb hK hP hD hS hL_w_4702 hK_w_4702 hN_w_4702 (rg_in h_6578 (by decide)) dX12_seaStands_286 (fun r_6579 H locs er_6579 hP hD hS => ?_)
                              have hG := GM.wz hG hT_w_4702 (by decide) er_6579 (zn_CELL (c := x_4348.toNatClampNeg) (k := 9) (by have z_i := clampE x_6577; have z_0 := clampE x_4348; omega) (rg_cl1 h_4719 (by decide)) (by decide)) rfl (rg_w (rg_k (10000 : Int32) 10000 rfl) (by decide)) (by decide)
                              exact K_6558 r_6579 _ _ _ hG hP hD hS (lv_sub hl [0, 1, 2, 3, 4, 5, 6] rfl)
                          · have tc_6580 : (x_6465).toInt = 0 := congrArg Int32.toInt c_6516
                            have h_6581 : rg x_6465 0 0 := rg_and (rg_full _) (rg_of_eq c_6516 (rg_k (0 : Int32) 0 rfl)) (by decide)
                            have uh_6581 := h_6581.1
                            have vh_6581 := h_6581.2
                            refine lv_goto (tgt := 360) hx hb dX12_seaStands_220 (by decide) ?_
                            exact K_6513 r_6303 _ _ _ hG hP hD hS (lv_sub hl [0, 1, 2, 3, 4, 5] rfl)
                        refine lv_if_ne (tgt := 207) hx hb dX12_seaStands_193 (by decide) (fun c_6582 => ?_) (fun c_6582 => absurd c_6582 (by decide))
                        exact K_6462 _ _ _ hG hP hD hS (lv_sub hl [0, 1, 2, 3, 4, 5, 6, 7] rfl)
                      refine lv_if_eq (tgt := 191) hx hb dX12_seaStands_169 (by decide) (fun c_6583 => ?_) (fun c_6583 => absurd c_6583 (by decide))
                      exact K_6410 _ _ _ hG hP hD hS (lv_sub hl [0, 1, 2, 3, 4, 5, 6, 7] rfl)
                    refine lv_if_eq (tgt := 167) hx hb dX12_seaStands_150 (by decide) (fun c_6584 => ?_) (fun c_6584 => absurd c_6584 (by decide))
                    exact K_6357 _ _ _ hG hP hD hS (lv_sub hl [0, 1, 2, 3, 4, 5, 6, 7, 8] rfl)
                  refine lv_if_eq (tgt := 135) hx hb dX12_seaStands_128 (by decide) (fun c_6585 => absurd c_6585 (by decide)) (fun c_6585 => ?_)
                  refine lv_iconst (v := 0) hx hb dX12_seaStands_131 (by decide) ?_
                  refine lv_goto (tgt := 147) hx hb dX12_seaStands_132 (by decide) ?_
                  exact K_6302 _ _ _ hG hP hD hS (lv_sub hl [0, 1, 2, 3, 4, 5, 6, 7, 8] rfl)
                refine lv_if_eq (tgt := 115) hx hb dX12_seaStands_108 (by decide) (fun c_6586 => ?_) (fun c_6586 => absurd c_6586 (by decide))
                refine lv_iconst (v := 0) hx hb dX12_seaStands_115 (by decide) ?_
                exact K_6243 _ _ _ hG hP hD hS (lv_sub hl [0, 1, 2, 3, 4, 5, 6, 7, 8] rfl)
              refine lv_if_eq (tgt := 95) hx hb dX12_seaStands_88 (by decide) (fun c_6587 => absurd c_6587 (by decide)) (fun c_6587 => ?_)
              refine lv_iconst (v := 1) hx hb dX12_seaStands_91 (by decide) ?_
              refine lv_goto (tgt := 96) hx hb dX12_seaStands_92 (by decide) ?_
              exact K_6180 _ _ _ hG hP hD hS (lv_sub hl [1, 2, 3, 4, 5, 6, 7, 8, 0] rfl)
            have K_6588 : ∀  (H : Heap) (locs : List Loc) (ls : Array Slot), rg (x_5948) (-2147483647) 2147483647 → rg (x_5958) (-2147483648) 2147483646 → GM [] tg σ I ri I ri_4349 rq → va_P D vwCl (pq_P t σ (I, J, ri_4349, rj, rq)) H → va_D A (pq_P t σ (I, J, ri_4349, rj, rq)) → va_S A s.heap H locs → lv_has ls 9 [(0, .ref this), (1, .int a0), (2, .int a1), (3, .int x_4346), (4, .int x_4347), (5, .int x_4348), (6, .int x_4723), (7, .int 1)] → W p l e ({ frames := 2, cells := 0, slots := 0, locals := 43 } : Room) s m (List.toArray ([.ref this, .int a0, .int a1] : List Value)) below meth c H locs 0 0 Q (F0 m 75 ls [.int 1]) := by
              intro H locs ls h_6591 h_6592 hG hP hD hS hl
              have uh_6591 := h_6591.1
              have vh_6591 := h_6591.2
              have uh_6592 := h_6592.1
              have vh_6592 := h_6592.2
              refine lv_istore (lv' := [(8, .int 1), (0, .ref this), (1, .int a0), (2, .int a1), (3, .int x_4346), (4, .int x_4347), (5, .int x_4348), (6, .int x_4723), (7, .int 1)]) hx hb dX12_seaStands_75 hl (by decide) rfl (fun ls hl => ?_)
              refine lv_aload_n hx hb dX12_seaStands_77 rfl (lv_at hl 1 rfl) ?_
              refine pg_f (v := .ref w_4702) (C := RX12) (T := TX12) (N := 31) hx hb hts (tw_i inlX12) hown hK hP hL_this hK_this (by decide) rfl 0 (by decide) (hts _ (tw_c tw_176)) (pq_hv rfl hR_w_4702) dX12_seaStands_78 ?_
              refine lv_iload hx hb dX12_seaStands_81 (lv_at hl 7 rfl) ?_
              refine lv_bipush (v := 12) hx hb dX12_seaStands_83 (by decide) ?_
              refine lv_iadd hx hb dX12_seaStands_85 ?_
              refine lv_topi (fun x_6593 ex_6593 => ?_)
              have h_6594 : rg x_6593 112 736 := rg_of_eq ex_6593 (rg_add h_4724 (rg_k (12 : Int32) 12 rfl) (by decide))
              have uh_6594 := h_6594.1
              have vh_6594 := h_6594.2
              have tx_6593 : (x_6593).toInt = (x_4723).toInt + 12 := by rw [ex_6593]; exact i_add_rg (a2 := (x_4723).toInt) (b2 := 12) rfl rfl h_4724 (rg_k (12 : Int32) 12 rfl) (by decide)
              refine lv_iload hx hb dX12_seaStands_86 (lv_at hl 8 rfl) ?_
              have K_6676 : ∀  (H : Heap) (locs : List Loc) (ls : Array Slot), GM [] tg σ I ri I ri_4349 rq → va_P D vwCl (pq_P t σ (I, J, ri_4349, rj, rq)) H → va_D A (pq_P t σ (I, J, ri_4349, rj, rq)) → va_S A s.heap H locs → lv_has ls 9 [(0, .ref this), (1, .int a0), (2, .int a1), (3, .int x_4346), (4, .int x_4347), (5, .int x_4348), (6, .int x_4723), (7, .int 1), (8, .int 1)] → W p l e ({ frames := 2, cells := 0, slots := 0, locals := 43 } : Room) s m (List.toArray ([.ref this, .int a0, .int a1] : List Value)) below meth c H locs 0 0 Q (F0 m 96 ls [.int 1, .int x_6593, .ref w_4702]) := by
                intro H locs ls hG hP hD hS hl
                refine pt_i hx hb hK hP hD hS hL_w_4702 hK_w_4702 hN_w_4702 (rg_in h_6594 (by decide)) dX12_seaStands_96 (fun r_6677 H locs er_6677 hP hD hS => ?_)
                have hG := GM.wz hG hT_w_4702 (by decide) er_6677 (zn_CELL (c := x_4348.toNatClampNeg) (k := 12) (by have z_i := clampE x_6593; have z_0 := clampE x_4348; omega) (rg_cl1 h_4719 (by decide)) (by decide)) rfl (rg_w (rg_k (1 : Int32) 1 rfl) (by decide)) (by decide)
                refine lv_aload_n hx hb dX12_seaStands_97 rfl (lv_at hl 0 rfl) ?_
                refine pg_f (v := .ref w_4702) (C := RX12) (T := TX12) (N := 31) hx hb hts (tw_i inlX12) hown hK hP hL_this hK_this (by decide) rfl 0 (by decide) (hts _ (tw_c tw_176)) (pq_hv rfl hR_w_4702) dX12_seaStands_98 ?_
                refine lv_iload hx hb dX12_seaStands_101 (lv_at hl 6 rfl) ?_
                refine lv_bipush (v := 13) hx hb dX12_seaStands_103 (by decide) ?_
                refine lv_iadd hx hb dX12_seaStands_105 ?_
                refine lv_topi (fun x_6678 ex_6678 => ?_)
                have h_6679 : rg x_6678 113 737 := rg_of_eq ex_6678 (rg_add h_4724 (rg_k (13 : Int32) 13 rfl) (by decide))
                have uh_6679 := h_6679.1
                have vh_6679 := h_6679.2
                have tx_6678 : (x_6678).toInt = (x_4723).toInt + 13 := by rw [ex_6678]; exact i_add_rg (a2 := (x_4723).toInt) (b2 := 13) rfl rfl h_4724 (rg_k (13 : Int32) 13 rfl) (by decide)
                refine lv_iload hx hb dX12_seaStands_106 (lv_at hl 8 rfl) ?_
                have K_6757 : ∀  (H : Heap) (locs : List Loc) (ls : Array Slot), GM [] tg σ I ri I r_6677 rq → va_P D vwCl (pq_P t σ (I, J, r_6677, rj, rq)) H → va_D A (pq_P t σ (I, J, r_6677, rj, rq)) → va_S A s.heap H locs → lv_has ls 9 [(0, .ref this), (1, .int a0), (2, .int a1), (3, .int x_4346), (4, .int x_4347), (5, .int x_4348), (6, .int x_4723), (7, .int 1), (8, .int 1)] → W p l e ({ frames := 2, cells := 0, slots := 0, locals := 43 } : Room) s m (List.toArray ([.ref this, .int a0, .int a1] : List Value)) below meth c H locs 0 0 Q (F0 m 116 ls [.int 1, .int x_6678, .ref w_4702]) := by
                  intro H locs ls hG hP hD hS hl
                  refine pt_i hx hb hK hP hD hS hL_w_4702 hK_w_4702 hN_w_4702 (rg_in h_6679 (by decide)) dX12_seaStands_116 (fun r_6758 H locs er_6758 hP hD hS => ?_)
                  have hG := GM.wz hG hT_w_4702 (by decide) er_6758 (zn_CELL (c := x_4348.toNatClampNeg) (k := 13) (by have z_i := clampE x_6678; have z_0 := clampE x_4348; omega) (rg_cl1 h_4719 (by decide)) (by decide)) rfl (rg_w (rg_k (1 : Int32) 1 rfl) (by decide)) (by decide)
                  refine lv_aload_n hx hb dX12_seaStands_117 rfl (lv_at hl 0 rfl) ?_
                  refine pg_f (v := .ref w_4702) (C := RX12) (T := TX12) (N := 31) hx hb hts (tw_i inlX12) hown hK hP hL_this hK_this (by decide) rfl 0 (by decide) (hts _ (tw_c tw_176)) (pq_hv rfl hR_w_4702) dX12_seaStands_118 ?_
                  refine lv_iload hx hb dX12_seaStands_121 (lv_at hl 6 rfl) ?_
                  refine lv_bipush (v := 11) hx hb dX12_seaStands_123 (by decide) ?_
                  refine lv_iadd hx hb dX12_seaStands_125 ?_
                  refine lv_topi (fun x_6759 ex_6759 => ?_)
                  have h_6760 : rg x_6759 111 735 := rg_of_eq ex_6759 (rg_add h_4724 (rg_k (11 : Int32) 11 rfl) (by decide))
                  have uh_6760 := h_6760.1
                  have vh_6760 := h_6760.2
                  have tx_6759 : (x_6759).toInt = (x_4723).toInt + 11 := by rw [ex_6759]; exact i_add_rg (a2 := (x_4723).toInt) (b2 := 11) rfl rfl h_4724 (rg_k (11 : Int32) 11 rfl) (by decide)
                  refine lv_iload hx hb dX12_seaStands_126 (lv_at hl 7 rfl) ?_
                  have K_6834 : ∀  (H : Heap) (locs : List Loc) (ls : Array Slot), GM [] tg σ I ri I r_6758 rq → va_P D vwCl (pq_P t σ (I, J, r_6758, rj, rq)) H → va_D A (pq_P t σ (I, J, r_6758, rj, rq)) → va_S A s.heap H locs → lv_has ls 9 [(0, .ref this), (1, .int a0), (2, .int a1), (3, .int x_4346), (4, .int x_4347), (5, .int x_4348), (6, .int x_4723), (7, .int 1), (8, .int 1)] → W p l e ({ frames := 2, cells := 0, slots := 0, locals := 43 } : Room) s m (List.toArray ([.ref this, .int a0, .int a1] : List Value)) below meth c H locs 0 0 Q (F0 m 147 ls [.int 0, .int x_6759, .ref w_4702]) := by
                    intro H locs ls hG hP hD hS hl
                    refine pt_i hx hb hK hP hD hS hL_w_4702 hK_w_4702 hN_w_4702 (rg_in h_6760 (by decide)) dX12_seaStands_147 (fun r_6835 H locs er_6835 hP hD hS => ?_)
                    have hG := GM.wz hG hT_w_4702 (by decide) er_6835 (zn_CELL (c := x_4348.toNatClampNeg) (k := 11) (by have z_i := clampE x_6759; have z_0 := clampE x_4348; omega) (rg_cl1 h_4719 (by decide)) (by decide)) rfl (rg_w (rg_k (0 : Int32) 0 rfl) (by decide)) (by decide)
                    refine lv_iload hx hb dX12_seaStands_148 (lv_at hl 8 rfl) ?_
                    have K_6907 : ∀  (x_6844 : Int32) (H : Heap) (locs : List Loc) (ls : Array Slot), GM [] tg σ I ri I r_6835 rq → va_P D vwCl (pq_P t σ (I, J, r_6835, rj, rq)) H → va_D A (pq_P t σ (I, J, r_6835, rj, rq)) → va_S A s.heap H locs → lv_has ls 9 [(0, .ref this), (1, .int a0), (2, .int a1), (3, .int x_6844), (4, .int x_4347), (5, .int x_4348), (6, .int x_4723), (7, .int 1), (8, .int 1)] → W p l e ({ frames := 2, cells := 0, slots := 0, locals := 43 } : Room) s m (List.toArray ([.ref this, .int a0, .int a1] : List Value)) below meth c H locs 0 0 Q (F0 m 167 ls []) := by
                      intro x_6844 H locs ls hG hP hD hS hl
                      refine lv_iload hx hb dX12_seaStands_167 (lv_at hl 8 rfl) ?_
                      have K_6970 : ∀  (x_6918 : Int32) (H : Heap) (locs : List Loc) (ls : Array Slot), GM [] tg σ I ri I r_6835 rq → va_P D vwCl (pq_P t σ (I, J, r_6835, rj, rq)) H → va_D A (pq_P t σ (I, J, r_6835, rj, rq)) → va_S A s.heap H locs → lv_has ls 9 [(0, .ref this), (1, .int a0), (2, .int a1), (3, .int x_6844), (4, .int x_6918), (5, .int x_4348), (6, .int x_4723), (7, .int 1)] → W p l e ({ frames := 2, cells := 0, slots := 0, locals := 43 } : Room) s m (List.toArray ([.ref this, .int a0, .int a1] : List Value)) below meth c H locs 0 0 Q (F0 m 191 ls []) := by
                        intro x_6918 H locs ls hG hP hD hS hl
                        refine lv_iload hx hb dX12_seaStands_191 (lv_at hl 7 rfl) ?_
                        have K_7022 : ∀  (H : Heap) (locs : List Loc) (ls : Array Slot), GM [] tg σ I ri I r_6835 rq → va_P D vwCl (pq_P t σ (I, J, r_6835, rj, rq)) H → va_D A (pq_P t σ (I, J, r_6835, rj, rq)) → va_S A s.heap H locs → lv_has ls 9 [(0, .ref this), (1, .int a0), (2, .int a1), (3, .int x_6844), (4, .int x_6918), (5, .int x_4348), (6, .int x_4723), (7, .int 1)] → W p l e ({ frames := 2, cells := 0, slots := 0, locals := 43 } : Room) s m (List.toArray ([.ref this, .int a0, .int a1] : List Value)) below meth c H locs 0 0 Q (F0 m 207 ls []) := by
                          intro H locs ls hG hP hD hS hl
                          refine lv_aload_n hx hb dX12_seaStands_207 rfl (lv_at hl 0 rfl) ?_
                          refine pg_f (v := .ref w_4702) (C := RX12) (T := TX12) (N := 31) hx hb hts (tw_i inlX12) hown hK hP hL_this hK_this (by decide) rfl 0 (by decide) (hts _ (tw_c tw_176)) (pq_hv rfl hR_w_4702) dX12_seaStands_208 ?_
                          refine lv_iload hx hb dX12_seaStands_211 (lv_at hl 6 rfl) ?_
                          refine lv_bipush (v := 8) hx hb dX12_seaStands_213 (by decide) ?_
                          refine lv_iadd hx hb dX12_seaStands_215 ?_
                          refine lv_topi (fun x_7023 ex_7023 => ?_)
                          have h_7024 : rg x_7023 108 732 := rg_of_eq ex_7023 (rg_add h_4724 (rg_k (8 : Int32) 8 rfl) (by decide))
                          have uh_7024 := h_7024.1
                          have vh_7024 := h_7024.2
                          have tx_7023 : (x_7023).toInt = (x_4723).toInt + 8 := by rw [ex_7023]; exact i_add_rg (a2 := (x_4723).toInt) (b2 := 8) rfl rfl h_4724 (rg_k (8 : Int32) 8 rfl) (by decide)
                          refine pl_i hx hb hK hP hL_w_4702 hK_w_4702 hN_w_4702 (rg_in h_7024 (by decide)) dX12_seaStands_216 ?_
                          refine lv_topi (fun x_7025 ex_7025 => ?_)
                          have K_7073 : ∀  (ri_7070 : Nat → Nat → Int32) (H : Heap) (locs : List Loc) (ls : Array Slot), GM [] tg σ I ri I ri_7070 rq → va_P D vwCl (pq_P t σ (I, J, ri_7070, rj, rq)) H → va_D A (pq_P t σ (I, J, ri_7070, rj, rq)) → va_S A s.heap H locs → lv_has ls 9 [(0, .ref this), (1, .int a0), (2, .int a1), (3, .int x_6844), (4, .int x_6918), (5, .int x_4348)] → W p l e ({ frames := 2, cells := 0, slots := 0, locals := 43 } : Room) s m (List.toArray ([.ref this, .int a0, .int a1] : List Value)) below meth c H locs 0 0 Q (F0 m 360 ls []) := by
                            intro ri_7070 H locs ls hG hP hD hS hl
                            obtain ⟨x_7074, ex_7074⟩ : ∃ y : Int32, y = x_4348 + Int32.ofInt 1 := ⟨_, rfl⟩
                            have h_7075 : rg x_7074 1 40 := rg_of_eq ex_7074 (rg_add h_4719 (rg_k (Int32.ofInt 1) 1 rfl) (by decide))
                            have uh_7075 := h_7075.1
                            have vh_7075 := h_7075.2
                            have tx_7074 : (x_7074).toInt = (x_4348).toInt + 1 := by rw [ex_7074]; exact i_add_rg (a2 := (x_4348).toInt) (b2 := 1) rfl rfl h_4719 (rg_k (Int32.ofInt 1) 1 rfl) (by decide)
                            refine lv_iinc (v := x_7074) (lv' := [(5, .int x_7074), (0, .ref this), (1, .int a0), (2, .int a1), (3, .int x_6844), (4, .int x_6918)]) hx hb dX12_seaStands_360 hl (k := 5) rfl ex_7074.symm (by decide) rfl (fun ls hl => ?_)
                            refine lv_goto (tgt := 8) hx hb dX12_seaStands_363 (by decide) ?_
                            exact ih_4699 x_6844 x_6918 x_7074 ri_7070 _ _ _ (rg_w h_7075 (by decide)) (ms_up 1 hm_4696 ex_7074 rfl (by decide) h_4719 (by decide) (by decide)) hG hP hD hS (lv_sub hl [1, 2, 3, 4, 5, 0] rfl)
                          refine lv_if_ne (tgt := 223) hx hb dX12_seaStands_217 (by decide) (fun c_7076 => ?_) (fun c_7076 => ?_)
                          · have tc_7077 : (x_7025).toInt ≠ 0 := fun q => c_7076 (Int32.toInt_inj.mp q)
                            refine lv_iload hx hb dX12_seaStands_223 (lv_at hl 7 rfl) ?_
                            refine lv_if_eq (tgt := 317) hx hb dX12_seaStands_225 (by decide) (fun c_7078 => absurd c_7078 (by decide)) (fun c_7078 => ?_)
                            refine lv_aload_n hx hb dX12_seaStands_228 rfl (lv_at hl 0 rfl) ?_
                            refine pg_f (v := .ref w_4702) (C := RX12) (T := TX12) (N := 31) hx hb hts (tw_i inlX12) hown hK hP hL_this hK_this (by decide) rfl 0 (by decide) (hts _ (tw_c tw_176)) (pq_hv rfl hR_w_4702) dX12_seaStands_229 ?_
                            refine lv_iload hx hb dX12_seaStands_232 (lv_at hl 6 rfl) ?_
                            refine lv_bipush (v := 9) hx hb dX12_seaStands_234 (by decide) ?_
                            refine lv_iadd hx hb dX12_seaStands_236 ?_
                            refine lv_topi (fun x_7079 ex_7079 => ?_)
                            have h_7080 : rg x_7079 109 733 := rg_of_eq ex_7079 (rg_add h_4724 (rg_k (9 : Int32) 9 rfl) (by decide))
                            have uh_7080 := h_7080.1
                            have vh_7080 := h_7080.2
                            have tx_7079 : (x_7079).toInt = (x_4723).toInt + 9 := by rw [ex_7079]; exact i_add_rg (a2 := (x_4723).toInt) (b2 := 9) rfl rfl h_4724 (rg_k (9 : Int32) 9 rfl) (by decide)
                            refine lv_dup2_11 hx hb dX12_seaStands_237 rfl rfl ?_
                            refine pl_i hx hb hK hP hL_w_4702 hK_w_4702 hN_w_4702 (rg_in h_7080 (by decide)) dX12_seaStands_238 ?_
                            refine lv_topi (fun x_7081 ex_7081 => ?_)
                            refine lv_aload_n hx hb dX12_seaStands_239 rfl (lv_at hl 0 rfl) ?_
                            refine lv_iload_n hx hb dX12_seaStands_240 rfl (lv_at hl 1 rfl) ?_
                            refine lv_iconst (v := 4) hx hb dX12_seaStands_241 (by decide) ?_
                            refine pk_i (va_runV (As := [.int a0, .int 4]) (rest := [.int x_7081, .int x_7079, .ref w_4702]) ⟨hx, hb, hml, hown, hts⟩ (s_X12_tableAt_c4 l D t σ I J r_6835 rj rq H.size tg hSH hG.1 this a0 hL_this hK_this (rg_w h_a0 (by decide))) (cwV 2 hts (tw_V tw_1201 tw_1202 tw_1203 tw_5 tw_1204) rfl rfl rfl cv_yX12_tableAt_2 ⟨Nat.le_of_ble_eq_true rfl, Nat.le_of_ble_eq_true rfl⟩) ⟨pq_blind, pq_recv hK hP hL_this hK_this (by decide) rfl, pq_pre hK hN hP hD⟩ rfl rfl hl.1 rfl (lv_room (Nat.le_of_ble_eq_true rfl)) dX12_seaStands_242 ⟨Nat.le_of_ble_eq_true rfl, Nat.le_of_ble_eq_true rfl⟩) hD hS hA (fun x_7082 σ1 μ1 H locs hw_7083 hP hD hS => ?_)
                            have hu_7084 := hw_7083
                            obtain ⟨hu_7084a, hu_7084b⟩ := Prod.mk.inj hu_7084
                            rw [hu_7084a, hu_7084b] at hP hD
                            refine lv_aload_n hx hb dX12_seaStands_245 rfl (lv_at hl 0 rfl) ?_
                            refine pg_f (v := .ref w_4702) (C := RX12) (T := TX12) (N := 31) hx hb hts (tw_i inlX12) hown hK hP hL_this hK_this (by decide) rfl 0 (by decide) (hts _ (tw_c tw_176)) (pq_hv rfl hR_w_4702) dX12_seaStands_246 ?_
                            refine lv_iload hx hb dX12_seaStands_249 (lv_at hl 6 rfl) ?_
                            refine lv_bipush (v := 8) hx hb dX12_seaStands_251 (by decide) ?_
                            refine lv_iadd hx hb dX12_seaStands_253 ?_
                            refine lv_topi (fun x_7087 ex_7087 => ?_)
                            have h_7088 : rg x_7087 108 732 := rg_of_eq ex_7087 (rg_add h_4724 (rg_k (8 : Int32) 8 rfl) (by decide))
                            have uh_7088 := h_7088.1
                            have vh_7088 := h_7088.2
                            have tx_7087 : (x_7087).toInt = (x_4723).toInt + 8 := by rw [ex_7087]; exact i_add_rg (a2 := (x_4723).toInt) (b2 := 8) rfl rfl h_4724 (rg_k (8 : Int32) 8 rfl) (by decide)
                            refine pl_i hx hb hK hP hL_w_4702 hK_w_4702 hN_w_4702 (rg_in h_7088 (by decide)) dX12_seaStands_254 ?_
                            refine lv_topi (fun x_7089 ex_7089 => ?_)
                            refine lv_imul hx hb dX12_seaStands_255 ?_
                            refine lv_topi (fun x_7090 ex_7090 => ?_)
                            refine lv_iadd hx hb dX12_seaStands_256 ?_
                            refine lv_topi (fun x_7091 ex_7091 => ?_)
                            refine pt_i hx hb hK hP hD hS hL_w_4702 hK_w_4702 hN_w_4702 (rg_in h_7080 (by decide)) dX12_seaStands_257 (fun r_7092 H locs er_7092 hP hD hS => ?_)
                            have hG := GM.wz hG hT_w_4702 (by decide) er_7092 (zn_CELL (c := x_4348.toNatClampNeg) (k := 9) (by have z_i := clampE x_7079; have z_0 := clampE x_4348; omega) (rg_cl1 h_4719 (by decide)) (by decide)) rfl (rg_w (rg_full _) (by decide)) (by decide)
                            refine lv_aload_n hx hb dX12_seaStands_258 rfl (lv_at hl 0 rfl) ?_
                            refine pg_f (v := .ref w_4702) (C := RX12) (T := TX12) (N := 31) hx hb hts (tw_i inlX12) hown hK hP hL_this hK_this (by decide) rfl 0 (by decide) (hts _ (tw_c tw_176)) (pq_hv rfl hR_w_4702) dX12_seaStands_259 ?_
                            refine lv_iload hx hb dX12_seaStands_262 (lv_at hl 6 rfl) ?_
                            refine lv_bipush (v := 9) hx hb dX12_seaStands_264 (by decide) ?_
                            refine lv_iadd hx hb dX12_seaStands_266 ?_
                            refine lv_topi (fun x_7093 ex_7093 => ?_)
                            have h_7094 : rg x_7093 109 733 := rg_of_eq ex_7093 (rg_add h_4724 (rg_k (9 : Int32) 9 rfl) (by decide))
                            have uh_7094 := h_7094.1
                            have vh_7094 := h_7094.2
                            have tx_7093 : (x_7093).toInt = (x_4723).toInt + 9 := by rw [ex_7093]; exact i_add_rg (a2 := (x_4723).toInt) (b2 := 9) rfl rfl h_4724 (rg_k (9 : Int32) 9 rfl) (by decide)
                            refine pl_i hx hb hK hP hL_w_4702 hK_w_4702 hN_w_4702 (rg_in h_7094 (by decide)) dX12_seaStands_267 ?_
                            refine lv_topi (fun x_7095 ex_7095 => ?_)
                            refine lv_sipush (v := 10000) hx hb dX12_seaStands_268 (by decide) ?_
                            have K_7118 : ∀  (ri_7104 : Nat → Nat → Int32) (H : Heap) (locs : List Loc) (ls : Array Slot), GM [] tg σ I ri I ri_7104 rq → va_P D vwCl (pq_P t σ (I, J, ri_7104, rj, rq)) H → va_D A (pq_P t σ (I, J, ri_7104, rj, rq)) → va_S A s.heap H locs → lv_has ls 9 [(0, .ref this), (1, .int a0), (2, .int a1), (3, .int x_6844), (4, .int x_6918), (5, .int x_4348), (6, .int x_4723)] → W p l e ({ frames := 2, cells := 0, slots := 0, locals := 43 } : Room) s m (List.toArray ([.ref this, .int a0, .int a1] : List Value)) below meth c H locs 0 0 Q (F0 m 287 ls []) := by
                              intro ri_7104 H locs ls hG hP hD hS hl
                              refine lv_aload_n hx hb dX12_seaStands_287 rfl (lv_at hl 0 rfl) ?_
                              refine pg_f (v := .ref w_4702) (C := RX12) (T := TX12) (N := 31) hx hb hts (tw_i inlX12) hown hK hP hL_this hK_this (by decide) rfl 0 (by decide) (hts _ (tw_c tw_176)) (pq_hv rfl hR_w_4702) dX12_seaStands_288 ?_
                              refine lv_iload hx hb dX12_seaStands_291 (lv_at hl 6 rfl) ?_
                              refine lv_bipush (v := 10) hx hb dX12_seaStands_293 (by decide) ?_
                              refine lv_iadd hx hb dX12_seaStands_295 ?_
                              refine lv_topi (fun x_7119 ex_7119 => ?_)
                              have h_7120 : rg x_7119 110 734 := rg_of_eq ex_7119 (rg_add h_4724 (rg_k (10 : Int32) 10 rfl) (by decide))
                              have uh_7120 := h_7120.1
                              have vh_7120 := h_7120.2
                              have tx_7119 : (x_7119).toInt = (x_4723).toInt + 10 := by rw [ex_7119]; exact i_add_rg (a2 := (x_4723).toInt) (b2 := 10) rfl rfl h_4724 (rg_k (10 : Int32) 10 rfl) (by decide)
                              refine pl_i hx hb hK hP hL_w_4702 hK_w_4702 hN_w_4702 (rg_in h_7120 (by decide)) dX12_seaStands_296 ?_
                              refine lv_topi (fun x_7121 ex_7121 => ?_)
                              refine lv_if_le (tgt := 360) hx hb dX12_seaStands_297 (by decide) (fun c_7122 => ?_) (fun c_7122 => ?_)
                              · have tc_7123 : (x_7121).toInt ≤ 0 := Int32.le_iff_toInt_le.mp c_7122
                                have h_7124 : rg x_7121 (-2147483648) 0 := rg_le1 c_7122 (rg_full _) (rg_k (0 : Int32) 0 rfl) (by decide)
                                have uh_7124 := h_7124.1
                                have vh_7124 := h_7124.2
                                exact K_7073 ri_7104 _ _ _ hG hP hD hS (lv_sub hl [0, 1, 2, 3, 4, 5] rfl)
                              · have tc_7125 : 0 < (x_7121).toInt := Int32.lt_iff_toInt_lt.mp (nle c_7122)
                                have h_7126 : rg x_7121 1 2147483647 := rg_lt2 (nle c_7122) (rg_k (0 : Int32) 0 rfl) (rg_full _) (by decide)
                                have uh_7126 := h_7126.1
                                have vh_7126 := h_7126.2
                                refine lv_aload_n hx hb dX12_seaStands_300 rfl (lv_at hl 0 rfl) ?_
                                refine pg_f (v := .ref w_4702) (C := RX12) (T := TX12) (N := 31) hx hb hts (tw_i inlX12) hown hK hP hL_this hK_this (by decide) rfl 0 (by decide) (hts _ (tw_c tw_176)) (pq_hv rfl hR_w_4702) dX12_seaStands_301 ?_
                                refine lv_iload hx hb dX12_seaStands_304 (lv_at hl 6 rfl) ?_
                                refine lv_bipush (v := 10) hx hb dX12_seaStands_306 (by decide) ?_
                                refine lv_iadd hx hb dX12_seaStands_308 ?_
                                refine lv_topi (fun x_7127 ex_7127 => ?_)
                                have h_7128 : rg x_7127 110 734 := rg_of_eq ex_7127 (rg_add h_4724 (rg_k (10 : Int32) 10 rfl) (by decide))
                                have uh_7128 := h_7128.1
                                have vh_7128 := h_7128.2
                                have tx_7127 : (x_7127).toInt = (x_4723).toInt + 10 := by rw [ex_7127]; exact i_add_rg (a2 := (x_4723).toInt) (b2 := 10) rfl rfl h_4724 (rg_k (10 : Int32) 10 rfl) (by decide)
                                refine lv_dup2_11 hx hb dX12_seaStands_309 rfl rfl ?_
                                refine pl_i hx hb hK hP hL_w_4702 hK_w_4702 hN_w_4702 (rg_in h_7128 (by decide)) dX12_seaStands_310 ?_
                                refine lv_topi (fun x_7129 ex_7129 => ?_)
                                refine lv_iconst (v := 1) hx hb dX12_seaStands_311 (by decide) ?_
                                refine lv_isub hx hb dX12_seaStands_312 ?_
                                refine lv_topi (fun x_7130 ex_7130 => ?_)
                                refine pt_i hx hb hK hP hD hS hL_w_4702 hK_w_4702 hN_w_4702 (rg_in h_7128 (by decide)) dX12_seaStands_313 (fun r_7131 H locs er_7131 hP hD hS => ?_)
                                have hG := GM.wz hG hT_w_4702 (by decide) er_7131 (zn_CELL (c := x_4348.toNatClampNeg) (k := 10) (by have z_i := clampE x_7127; have z_0 := clampE x_4348; omega) (rg_cl1 h_4719 (by decide)) (by decide)) rfl (rg_w (rg_full _) (by decide)) (by decide)
                                refine lv_goto (tgt := 360) hx hb dX12_seaStands_314 (by decide) ?_
                                exact K_7073 r_7131 _ _ _ hG hP hD hS (lv_sub hl [0, 1, 2, 3, 4, 5] rfl)
                            refine lv_icmp_le (tgt := 287) hx hb dX12_seaStands_271 (by decide) (fun c_7132 => ?_) (fun c_7132 => ?_)
                            · have tc_7133 : (x_7095).toInt ≤ 10000 := Int32.le_iff_toInt_le.mp c_7132
                              have h_7134 : rg x_7095 (-2147483648) 10000 := rg_le1 c_7132 (rg_full _) (rg_k (10000 : Int32) 10000 rfl) (by decide)
                              have uh_7134 := h_7134.1
                              have vh_7134 := h_7134.2
                              exact K_7118 r_7092 _ _ _ hG hP hD hS (lv_sub hl [0, 1, 2, 3, 4, 5, 6] rfl)
                            · have tc_7135 : 10000 < (x_7095).toInt := Int32.lt_iff_toInt_lt.mp (nle c_7132)
                              have h_7136 : rg x_7095 10001 2147483647 := rg_lt2 (nle c_7132) (rg_k (10000 : Int32) 10000 rfl) (rg_full _) (by decide)
                              have uh_7136 := h_7136.1
                              have vh_7136 := h_7136.2
                              refine lv_aload_n hx hb dX12_seaStands_274 rfl (lv_at hl 0 rfl) ?_
                              refine pg_f (v := .ref w_4702) (C := RX12) (T := TX12) (N := 31) hx hb hts (tw_i inlX12) hown hK hP hL_this hK_this (by decide) rfl 0 (by decide) (hts _ (tw_c tw_176)) (pq_hv rfl hR_w_4702) dX12_seaStands_275 ?_
                              refine lv_iload hx hb dX12_seaStands_278 (lv_at hl 6 rfl) ?_
                              refine lv_bipush (v := 9) hx hb dX12_seaStands_280 (by decide) ?_
                              refine lv_iadd hx hb dX12_seaStands_282 ?_
                              refine lv_topi (fun x_7137 ex_7137 => ?_)
                              have h_7138 : rg x_7137 109 733 := rg_of_eq ex_7137 (rg_add h_4724 (rg_k (9 : Int32) 9 rfl) (by decide))
                              have uh_7138 := h_7138.1
                              have vh_7138 := h_7138.2
                              have tx_7137 : (x_7137).toInt = (x_4723).toInt + 9 := by rw [ex_7137]; exact i_add_rg (a2 := (x_4723).toInt) (b2 := 9) rfl rfl h_4724 (rg_k (9 : Int32) 9 rfl) (by decide)
                              refine lv_sipush (v := 10000) hx hb dX12_seaStands_283 (by decide) ?_
                              refine pt_i hx hb hK hP hD hS hL_w_4702 hK_w_4702 hN_w_4702 (rg_in h_7138 (by decide)) dX12_seaStands_286 (fun r_7139 H locs er_7139 hP hD hS => ?_)
                              have hG := GM.wz hG hT_w_4702 (by decide) er_7139 (zn_CELL (c := x_4348.toNatClampNeg) (k := 9) (by have z_i := clampE x_7137; have z_0 := clampE x_4348; omega) (rg_cl1 h_4719 (by decide)) (by decide)) rfl (rg_w (rg_k (10000 : Int32) 10000 rfl) (by decide)) (by decide)
                              exact K_7118 r_7139 _ _ _ hG hP hD hS (lv_sub hl [0, 1, 2, 3, 4, 5, 6] rfl)
                          · have tc_7140 : (x_7025).toInt = 0 := congrArg Int32.toInt c_7076
                            have h_7141 : rg x_7025 0 0 := rg_and (rg_full _) (rg_of_eq c_7076 (rg_k (0 : Int32) 0 rfl)) (by decide)
                            have uh_7141 := h_7141.1
                            have vh_7141 := h_7141.2
                            refine lv_goto (tgt := 360) hx hb dX12_seaStands_220 (by decide) ?_
                            exact K_7073 r_6835 _ _ _ hG hP hD hS (lv_sub hl [0, 1, 2, 3, 4, 5] rfl)
                        refine lv_if_ne (tgt := 207) hx hb dX12_seaStands_193 (by decide) (fun c_7142 => ?_) (fun c_7142 => absurd c_7142 (by decide))
                        exact K_7022 _ _ _ hG hP hD hS (lv_sub hl [0, 1, 2, 3, 4, 5, 6, 7] rfl)
                      refine lv_if_eq (tgt := 191) hx hb dX12_seaStands_169 (by decide) (fun c_7143 => absurd c_7143 (by decide)) (fun c_7143 => ?_)
                      refine lv_iload hx hb dX12_seaStands_172 (lv_at hl 5 rfl) ?_
                      refine lv_bipush (v := 20) hx hb dX12_seaStands_174 (by decide) ?_
                      refine lv_icmp_lt (tgt := 191) hx hb dX12_seaStands_176 (by decide) (fun c_7144 => ?_) (fun c_7144 => ?_)
                      · have tc_7145 : (x_4348).toInt < 20 := Int32.lt_iff_toInt_lt.mp c_7144
                        have h_7146 : rg x_4348 0 19 := rg_lt1 c_7144 h_4719 (rg_k (20 : Int32) 20 rfl) (by decide)
                        have uh_7146 := h_7146.1
                        have vh_7146 := h_7146.2
                        exact K_6970 x_4347 _ _ _ hG hP hD hS (lv_sub hl [0, 1, 2, 3, 4, 5, 6, 7] rfl)
                      · have tc_7147 : 20 ≤ (x_4348).toInt := Int32.le_iff_toInt_le.mp (nlt c_7144)
                        have h_7148 : rg x_4348 20 39 := rg_le2 (nlt c_7144) (rg_k (20 : Int32) 20 rfl) h_4719 (by decide)
                        have uh_7148 := h_7148.1
                        have vh_7148 := h_7148.2
                        refine lv_iload hx hb dX12_seaStands_179 (lv_at hl 4 rfl) ?_
                        refine lv_iconst (v := 1) hx hb dX12_seaStands_181 (by decide) ?_
                        refine lv_iload hx hb dX12_seaStands_182 (lv_at hl 5 rfl) ?_
                        refine lv_bipush (v := 20) hx hb dX12_seaStands_184 (by decide) ?_
                        refine lv_isub hx hb dX12_seaStands_186 ?_
                        refine lv_topi (fun x_7149 ex_7149 => ?_)
                        have h_7150 : rg x_7149 0 19 := rg_of_eq ex_7149 (rg_sub h_7148 (rg_k (20 : Int32) 20 rfl) (by decide))
                        have uh_7150 := h_7150.1
                        have vh_7150 := h_7150.2
                        have tx_7149 : (x_7149).toInt = (x_4348).toInt - 20 := by rw [ex_7149]; exact i_sub_rg (a2 := (x_4348).toInt) (b2 := 20) rfl rfl h_7148 (rg_k (20 : Int32) 20 rfl) (by decide)
                        refine lv_ishl hx hb dX12_seaStands_187 ?_
                        refine lv_topi (fun x_7151 ex_7151 => ?_)
                        refine lv_ior hx hb dX12_seaStands_188 ?_
                        refine lv_topi (fun x_7152 ex_7152 => ?_)
                        refine lv_istore (lv' := [(4, .int x_7152), (0, .ref this), (1, .int a0), (2, .int a1), (3, .int x_6844), (5, .int x_4348), (6, .int x_4723), (7, .int 1), (8, .int 1)]) hx hb dX12_seaStands_189 hl (by decide) rfl (fun ls hl => ?_)
                        exact K_6970 x_7152 _ _ _ hG hP hD hS (lv_sub hl [1, 2, 3, 4, 0, 5, 6, 7] rfl)
                    refine lv_if_eq (tgt := 167) hx hb dX12_seaStands_150 (by decide) (fun c_7153 => absurd c_7153 (by decide)) (fun c_7153 => ?_)
                    refine lv_iload hx hb dX12_seaStands_153 (lv_at hl 5 rfl) ?_
                    refine lv_bipush (v := 20) hx hb dX12_seaStands_155 (by decide) ?_
                    refine lv_icmp_ge (tgt := 167) hx hb dX12_seaStands_157 (by decide) (fun c_7154 => ?_) (fun c_7154 => ?_)
                    · have tc_7155 : 20 ≤ (x_4348).toInt := Int32.le_iff_toInt_le.mp c_7154
                      have h_7156 : rg x_4348 20 39 := rg_le2 c_7154 (rg_k (20 : Int32) 20 rfl) h_4719 (by decide)
                      have uh_7156 := h_7156.1
                      have vh_7156 := h_7156.2
                      exact K_6907 x_4346 _ _ _ hG hP hD hS (lv_sub hl [0, 1, 2, 3, 4, 5, 6, 7, 8] rfl)
                    · have tc_7157 : (x_4348).toInt < 20 := Int32.lt_iff_toInt_lt.mp (nle c_7154)
                      have h_7158 : rg x_4348 0 19 := rg_lt1 (nle c_7154) h_4719 (rg_k (20 : Int32) 20 rfl) (by decide)
                      have uh_7158 := h_7158.1
                      have vh_7158 := h_7158.2
                      refine lv_iload_n hx hb dX12_seaStands_160 rfl (lv_at hl 3 rfl) ?_
                      refine lv_iconst (v := 1) hx hb dX12_seaStands_161 (by decide) ?_
                      refine lv_iload hx hb dX12_seaStands_162 (lv_at hl 5 rfl) ?_
                      refine lv_ishl hx hb dX12_seaStands_164 ?_
                      refine lv_topi (fun x_7159 ex_7159 => ?_)
                      refine lv_ior hx hb dX12_seaStands_165 ?_
                      refine lv_topi (fun x_7160 ex_7160 => ?_)
                      refine lv_istore_n (lv' := [(3, .int x_7160), (0, .ref this), (1, .int a0), (2, .int a1), (4, .int x_4347), (5, .int x_4348), (6, .int x_4723), (7, .int 1), (8, .int 1)]) hx hb dX12_seaStands_166 rfl hl (by decide) rfl (fun ls hl => ?_)
                      exact K_6907 x_7160 _ _ _ hG hP hD hS (lv_sub hl [1, 2, 3, 0, 4, 5, 6, 7, 8] rfl)
                  refine lv_if_eq (tgt := 135) hx hb dX12_seaStands_128 (by decide) (fun c_7161 => absurd c_7161 (by decide)) (fun c_7161 => ?_)
                  refine lv_iconst (v := 0) hx hb dX12_seaStands_131 (by decide) ?_
                  refine lv_goto (tgt := 147) hx hb dX12_seaStands_132 (by decide) ?_
                  exact K_6834 _ _ _ hG hP hD hS (lv_sub hl [0, 1, 2, 3, 4, 5, 6, 7, 8] rfl)
                refine lv_if_eq (tgt := 115) hx hb dX12_seaStands_108 (by decide) (fun c_7162 => absurd c_7162 (by decide)) (fun c_7162 => ?_)
                refine lv_iconst (v := 1) hx hb dX12_seaStands_111 (by decide) ?_
                refine lv_goto (tgt := 116) hx hb dX12_seaStands_112 (by decide) ?_
                exact K_6757 _ _ _ hG hP hD hS (lv_sub hl [0, 1, 2, 3, 4, 5, 6, 7, 8] rfl)
              refine lv_if_eq (tgt := 95) hx hb dX12_seaStands_88 (by decide) (fun c_7163 => absurd c_7163 (by decide)) (fun c_7163 => ?_)
              refine lv_iconst (v := 1) hx hb dX12_seaStands_91 (by decide) ?_
              refine lv_goto (tgt := 96) hx hb dX12_seaStands_92 (by decide) ?_
              exact K_6676 _ _ _ hG hP hD hS (lv_sub hl [1, 2, 3, 4, 5, 6, 7, 8, 0] rfl)
            refine lv_icmp_le (tgt := 74) hx hb dX12_seaStands_67 (by decide) (fun c_7164 => ?_) (fun c_7164 => ?_)
            · have tc_7165 : (x_5948).toInt ≤ (x_5958).toInt := Int32.le_iff_toInt_le.mp c_7164
              refine lv_iconst (v := 0) hx hb dX12_seaStands_74 (by decide) ?_
              exact K_6114 _ _ _ hG hP hD hS (lv_sub hl [1, 2, 3, 4, 5, 6, 7, 0] rfl)
            · have tc_7166 : (x_5958).toInt < (x_5948).toInt := Int32.lt_iff_toInt_lt.mp (nle c_7164)
              have h_7167 : rg x_5958 (-2147483648) 2147483646 := rg_lt1 (nle c_7164) (rg_full _) (rg_full _) (by decide)
              have uh_7167 := h_7167.1
              have vh_7167 := h_7167.2
              have h_7168 : rg x_5948 (-2147483647) 2147483647 := rg_lt2 (nle c_7164) (rg_full _) (rg_full _) (by decide)
              have uh_7168 := h_7168.1
              have vh_7168 := h_7168.2
              refine lv_iconst (v := 1) hx hb dX12_seaStands_70 (by decide) ?_
              refine lv_goto (tgt := 75) hx hb dX12_seaStands_71 (by decide) ?_
              exact K_6588 _ _ _ (rg_w h_7168 (by decide)) (rg_w h_7167 (by decide)) hG hP hD hS (lv_sub hl [1, 2, 3, 4, 5, 6, 7, 0] rfl)
          refine lv_icmp_le (tgt := 50) hx hb dX12_seaStands_43 (by decide) (fun c_7169 => ?_) (fun c_7169 => ?_)
          · have tc_7170 : (x_4725).toInt ≤ (x_4735).toInt := Int32.le_iff_toInt_le.mp c_7169
            refine lv_iconst (v := 0) hx hb dX12_seaStands_50 (by decide) ?_
            exact K_5047 _ _ _ hG hP hD hS (lv_sub hl [1, 2, 3, 4, 5, 6, 0] rfl)
          · have tc_7171 : (x_4735).toInt < (x_4725).toInt := Int32.lt_iff_toInt_lt.mp (nle c_7169)
            have h_7172 : rg x_4735 (-2147483648) 2147483646 := rg_lt1 (nle c_7169) (rg_full _) (rg_full _) (by decide)
            have uh_7172 := h_7172.1
            have vh_7172 := h_7172.2
            have h_7173 : rg x_4725 (-2147483647) 2147483647 := rg_lt2 (nle c_7169) (rg_full _) (rg_full _) (by decide)
            have uh_7173 := h_7173.1
            have vh_7173 := h_7173.2
            refine lv_iconst (v := 1) hx hb dX12_seaStands_46 (by decide) ?_
            refine lv_goto (tgt := 51) hx hb dX12_seaStands_47 (by decide) ?_
            exact K_5943 _ _ _ (rg_w h_7173 (by decide)) (rg_w h_7172 (by decide)) hG hP hD hS (lv_sub hl [1, 2, 3, 4, 5, 6, 0] rfl)
    exact L_4698 _ (0 : Int32) (0 : Int32) (0 : Int32) ri _ _ _ (rg_w (rg_k (0 : Int32) 0 rfl) (by decide)) (Nat.lt_succ_self _) hG hP hD hS (lv_sub hl [3, 4, 5, 2, 1, 0] rfl)
  exact go _ _ _ hP hD hS hl
