theorem dX12_says_0 : decode cX12_says 0 = .ok (.iload_n 1, 1) := oc_27 (by decide +kernel)
theorem dX12_says_1 : decode cX12_says 1 = .ok (.invokestatic 73, 3) := oc_184 (a := 0) (b := 73) (by decide +kernel)
theorem dX12_says_4 : decode cX12_says 4 = .ok (.ifCond .ne 5, 3) := oc_154 (a := 0) (b := 5) (by decide +kernel)
theorem dX12_says_9 : decode cX12_says 9 = .ok (.iload_n 2, 1) := oc_28 (by decide +kernel)
theorem dX12_says_10 : decode cX12_says 10 = .ok (.ifCond .ne 15, 3) := oc_154 (a := 0) (b := 15) (by decide +kernel)
theorem dX12_says_25 : decode cX12_says 25 = .ok (.iload_n 2, 1) := oc_28 (by decide +kernel)
theorem dX12_says_26 : decode cX12_says 26 = .ok (.iconst 1, 1) := oc_4 (by decide +kernel)
theorem dX12_says_27 : decode cX12_says 27 = .ok (.if_icmp .ne 15, 3) := oc_160 (a := 0) (b := 15) (by decide +kernel)
theorem dX12_says_42 : decode cX12_says 42 = .ok (.iload_n 2, 1) := oc_28 (by decide +kernel)
theorem dX12_says_43 : decode cX12_says 43 = .ok (.iconst 2, 1) := oc_5 (by decide +kernel)
theorem dX12_says_44 : decode cX12_says 44 = .ok (.if_icmp .ne 14, 3) := oc_160 (a := 0) (b := 14) (by decide +kernel)
theorem dX12_says_58 : decode cX12_says 58 = .ok (.iconst (-1), 1) := oc_2 (by decide +kernel)
theorem dX12_says_59 : decode cX12_says 59 = .ok (.ireturn, 1) := oc_172 (by decide +kernel)
theorem dX12_says_47 : decode cX12_says 47 = .ok (.aload_n 0, 1) := oc_42 (by decide +kernel)
theorem dX12_says_48 : decode cX12_says 48 = .ok (.bipush 8, 2) := oc_16 (a := 8) (by decide +kernel)
theorem dX12_says_50 : decode cX12_says 50 = .ok (.iload_n 1, 1) := oc_27 (by decide +kernel)
theorem dX12_says_51 : decode cX12_says 51 = .ok (.iconst (-1), 1) := oc_2 (by decide +kernel)
theorem tw_1016 : Cond.methodLink RX12 304 yX12_numberOf ∈ wsL_law := sg_43 _ (List.mem_of_getElem? (i := 8) rfl)
theorem tw_1017 : Cond.instanceMethod yX12_numberOf ∈ wsL_law := sg_43 _ (List.mem_of_getElem? (i := 9) rfl)
theorem tw_1018 : Cond.selects RX12 yX12_numberOf yX12_numberOf ∈ wsL_law := sg_43 _ (List.mem_of_getElem? (i := 10) rfl)
theorem tw_1019 : Cond.code yX12_numberOf cX12_numberOf 5 (some .int) ∈ wsL_law := sg_43 _ (List.mem_of_getElem? (i := 11) rfl)
theorem dX12_says_52 : decode cX12_says 52 = .ok (.invokevirtual 304, 3) := oc_182 (a := 1) (b := 48) (by decide +kernel)
theorem dX12_says_55 : decode cX12_says 55 = .ok (.goto 4, 3) := oc_167 (a := 0) (b := 4) (by decide +kernel)
theorem dX12_says_30 : decode cX12_says 30 = .ok (.aload_n 0, 1) := oc_42 (by decide +kernel)
theorem dX12_says_31 : decode cX12_says 31 = .ok (.bipush 9, 2) := oc_16 (a := 9) (by decide +kernel)
theorem dX12_says_33 : decode cX12_says 33 = .ok (.iload_n 1, 1) := oc_27 (by decide +kernel)
theorem dX12_says_34 : decode cX12_says 34 = .ok (.bipush 10, 2) := oc_16 (a := 10) (by decide +kernel)
theorem dX12_says_36 : decode cX12_says 36 = .ok (.invokevirtual 304, 3) := oc_182 (a := 1) (b := 48) (by decide +kernel)
theorem dX12_says_39 : decode cX12_says 39 = .ok (.goto 20, 3) := oc_167 (a := 0) (b := 20) (by decide +kernel)
theorem dX12_says_13 : decode cX12_says 13 = .ok (.aload_n 0, 1) := oc_42 (by decide +kernel)
theorem dX12_says_14 : decode cX12_says 14 = .ok (.bipush 7, 2) := oc_16 (a := 7) (by decide +kernel)
theorem dX12_says_16 : decode cX12_says 16 = .ok (.iload_n 1, 1) := oc_27 (by decide +kernel)
theorem dX12_says_17 : decode cX12_says 17 = .ok (.bipush 50, 2) := oc_16 (a := 50) (by decide +kernel)
theorem dX12_says_19 : decode cX12_says 19 = .ok (.invokevirtual 304, 3) := oc_182 (a := 1) (b := 48) (by decide +kernel)
theorem dX12_says_22 : decode cX12_says 22 = .ok (.goto 37, 3) := oc_167 (a := 0) (b := 37) (by decide +kernel)
theorem dX12_says_7 : decode cX12_says 7 = .ok (.iconst (-1), 1) := oc_2 (by decide +kernel)
theorem dX12_says_8 : decode cX12_says 8 = .ok (.ireturn, 1) := oc_172 (by decide +kernel)
theorem dX12_topOf_0 : decode cX12_topOf 0 = .ok (.aload_n 0, 1) := oc_42 (by decide +kernel)
theorem dX12_topOf_1 : decode cX12_topOf 1 = .ok (.iload_n 1, 1) := oc_27 (by decide +kernel)
theorem dX12_topOf_2 : decode cX12_topOf 2 = .ok (.iconst 1, 1) := oc_4 (by decide +kernel)
theorem dX12_topOf_3 : decode cX12_topOf 3 = .ok (.invokevirtual 91, 3) := oc_182 (a := 0) (b := 91) (by decide +kernel)
theorem dX12_topOf_6 : decode cX12_topOf 6 = .ok (.aload_n 0, 1) := oc_42 (by decide +kernel)
theorem dX12_topOf_7 : decode cX12_topOf 7 = .ok (.iload_n 1, 1) := oc_27 (by decide +kernel)
theorem dX12_topOf_8 : decode cX12_topOf 8 = .ok (.iconst 4, 1) := oc_7 (by decide +kernel)
theorem dX12_topOf_9 : decode cX12_topOf 9 = .ok (.invokevirtual 91, 3) := oc_182 (a := 0) (b := 91) (by decide +kernel)
theorem dX12_topOf_12 : decode cX12_topOf 12 = .ok (.iadd, 1) := oc_96 (by decide +kernel)
theorem dX12_topOf_13 : decode cX12_topOf 13 = .ok (.aload_n 0, 1) := oc_42 (by decide +kernel)
theorem dX12_topOf_14 : decode cX12_topOf 14 = .ok (.iload_n 1, 1) := oc_27 (by decide +kernel)
theorem dX12_topOf_15 : decode cX12_topOf 15 = .ok (.iconst 5, 1) := oc_8 (by decide +kernel)
theorem dX12_topOf_16 : decode cX12_topOf 16 = .ok (.invokevirtual 91, 3) := oc_182 (a := 0) (b := 91) (by decide +kernel)
theorem dX12_topOf_19 : decode cX12_topOf 19 = .ok (.iconst 4, 1) := oc_7 (by decide +kernel)
theorem dX12_topOf_20 : decode cX12_topOf 20 = .ok (.idiv, 1) := oc_108 (by decide +kernel)
theorem dX12_topOf_21 : decode cX12_topOf 21 = .ok (.iadd, 1) := oc_96 (by decide +kernel)
theorem dX12_topOf_22 : decode cX12_topOf 22 = .ok (.aload_n 0, 1) := oc_42 (by decide +kernel)
theorem dX12_topOf_23 : decode cX12_topOf 23 = .ok (.iload_n 1, 1) := oc_27 (by decide +kernel)
theorem dX12_topOf_24 : decode cX12_topOf 24 = .ok (.bipush 6, 2) := oc_16 (a := 6) (by decide +kernel)
theorem dX12_topOf_26 : decode cX12_topOf 26 = .ok (.invokevirtual 91, 3) := oc_182 (a := 0) (b := 91) (by decide +kernel)
theorem dX12_topOf_29 : decode cX12_topOf 29 = .ok (.iadd, 1) := oc_96 (by decide +kernel)
theorem dX12_topOf_30 : decode cX12_topOf 30 = .ok (.ireturn, 1) := oc_172 (by decide +kernel)
theorem dX12_tableAt_0 : decode cX12_tableAt 0 = .ok (.aload_n 0, 1) := oc_42 (by decide +kernel)
theorem dX12_tableAt_1 : decode cX12_tableAt 1 = .ok (.getfield 7, 3) := oc_180 (a := 0) (b := 7) (by decide +kernel)
theorem dX12_tableAt_4 : decode cX12_tableAt 4 = .ok (.bipush 20, 2) := oc_16 (a := 20) (by decide +kernel)
theorem dX12_tableAt_6 : decode cX12_tableAt 6 = .ok (.iconst 5, 1) := oc_8 (by decide +kernel)
theorem dX12_tableAt_7 : decode cX12_tableAt 7 = .ok (.iload_n 1, 1) := oc_27 (by decide +kernel)
theorem dX12_tableAt_8 : decode cX12_tableAt 8 = .ok (.bipush 12, 2) := oc_16 (a := 12) (by decide +kernel)
theorem dX12_tableAt_10 : decode cX12_tableAt 10 = .ok (.irem, 1) := oc_112 (by decide +kernel)
theorem dX12_tableAt_11 : decode cX12_tableAt 11 = .ok (.imul, 1) := oc_104 (by decide +kernel)
theorem dX12_tableAt_12 : decode cX12_tableAt 12 = .ok (.iadd, 1) := oc_96 (by decide +kernel)
theorem dX12_tableAt_13 : decode cX12_tableAt 13 = .ok (.iload_n 2, 1) := oc_28 (by decide +kernel)
theorem dX12_tableAt_14 : decode cX12_tableAt 14 = .ok (.iadd, 1) := oc_96 (by decide +kernel)
theorem dX12_tableAt_15 : decode cX12_tableAt 15 = .ok (.iaload, 1) := oc_46 (by decide +kernel)
theorem dX12_tableAt_16 : decode cX12_tableAt 16 = .ok (.ireturn, 1) := oc_172 (by decide +kernel)
theorem dX12_reefGoes_0 : decode cX12_reefGoes 0 = .ok (.iconst 0, 1) := oc_3 (by decide +kernel)
theorem dX12_reefGoes_1 : decode cX12_reefGoes 1 = .ok (.istore_n 2, 1) := oc_61 (by decide +kernel)
theorem dX12_reefGoes_2 : decode cX12_reefGoes 2 = .ok (.iload_n 2, 1) := oc_28 (by decide +kernel)
theorem dX12_reefGoes_3 : decode cX12_reefGoes 3 = .ok (.aload_n 0, 1) := oc_42 (by decide +kernel)
theorem dX12_reefGoes_4 : decode cX12_reefGoes 4 = .ok (.getfield 7, 3) := oc_180 (a := 0) (b := 7) (by decide +kernel)
theorem dX12_reefGoes_7 : decode cX12_reefGoes 7 = .ok (.iconst 2, 1) := oc_5 (by decide +kernel)
theorem dX12_reefGoes_8 : decode cX12_reefGoes 8 = .ok (.iaload, 1) := oc_46 (by decide +kernel)
theorem dX12_reefGoes_9 : decode cX12_reefGoes 9 = .ok (.if_icmp .ge 99, 3) := oc_162 (a := 0) (b := 99) (by decide +kernel)
theorem dX12_reefGoes_108 : decode cX12_reefGoes 108 = .ok (.return_, 1) := oc_177 (by decide +kernel)
theorem dX12_reefGoes_12 : decode cX12_reefGoes 12 = .ok (.bipush 100, 2) := oc_16 (a := 100) (by decide +kernel)
theorem dX12_reefGoes_14 : decode cX12_reefGoes 14 = .ok (.bipush 16, 2) := oc_16 (a := 16) (by decide +kernel)
theorem dX12_reefGoes_16 : decode cX12_reefGoes 16 = .ok (.iload_n 2, 1) := oc_28 (by decide +kernel)
theorem dX12_reefGoes_17 : decode cX12_reefGoes 17 = .ok (.imul, 1) := oc_104 (by decide +kernel)
theorem dX12_reefGoes_18 : decode cX12_reefGoes 18 = .ok (.iadd, 1) := oc_96 (by decide +kernel)
theorem dX12_reefGoes_19 : decode cX12_reefGoes 19 = .ok (.iconst 5, 1) := oc_8 (by decide +kernel)
theorem dX12_reefGoes_20 : decode cX12_reefGoes 20 = .ok (.iadd, 1) := oc_96 (by decide +kernel)
theorem dX12_reefGoes_21 : decode cX12_reefGoes 21 = .ok (.istore_n 3, 1) := oc_62 (by decide +kernel)
theorem dX12_reefGoes_22 : decode cX12_reefGoes 22 = .ok (.aload_n 0, 1) := oc_42 (by decide +kernel)
theorem dX12_reefGoes_23 : decode cX12_reefGoes 23 = .ok (.getfield 7, 3) := oc_180 (a := 0) (b := 7) (by decide +kernel)
theorem dX12_reefGoes_26 : decode cX12_reefGoes 26 = .ok (.iload_n 3, 1) := oc_29 (by decide +kernel)
theorem dX12_reefGoes_27 : decode cX12_reefGoes 27 = .ok (.dup2, 1) := oc_92 (by decide +kernel)
theorem dX12_reefGoes_28 : decode cX12_reefGoes 28 = .ok (.iaload, 1) := oc_46 (by decide +kernel)
theorem dX12_reefGoes_29 : decode cX12_reefGoes 29 = .ok (.aload_n 0, 1) := oc_42 (by decide +kernel)
theorem dX12_reefGoes_30 : decode cX12_reefGoes 30 = .ok (.iload_n 1, 1) := oc_27 (by decide +kernel)
theorem dX12_reefGoes_31 : decode cX12_reefGoes 31 = .ok (.iconst 2, 1) := oc_5 (by decide +kernel)
theorem tw_1201 : Cond.methodLink RX12 310 yX12_tableAt ∈ wsL_law := sg_51 _ (List.mem_of_getElem? (i := 1) rfl)
theorem tw_1202 : Cond.instanceMethod yX12_tableAt ∈ wsL_law := sg_51 _ (List.mem_of_getElem? (i := 2) rfl)
theorem tw_1203 : Cond.selects RX12 yX12_tableAt yX12_tableAt ∈ wsL_law := sg_51 _ (List.mem_of_getElem? (i := 3) rfl)
theorem tw_1204 : Cond.code yX12_tableAt cX12_tableAt 3 (some .int) ∈ wsL_law := sg_51 _ (List.mem_of_getElem? (i := 4) rfl)
theorem dX12_reefGoes_32 : decode cX12_reefGoes 32 = .ok (.invokevirtual 310, 3) := oc_182 (a := 1) (b := 54) (by decide +kernel)
theorem dX12_reefGoes_35 : decode cX12_reefGoes 35 = .ok (.aload_n 0, 1) := oc_42 (by decide +kernel)
theorem dX12_reefGoes_36 : decode cX12_reefGoes 36 = .ok (.getfield 7, 3) := oc_180 (a := 0) (b := 7) (by decide +kernel)
theorem dX12_reefGoes_39 : decode cX12_reefGoes 39 = .ok (.bipush 13, 2) := oc_16 (a := 13) (by decide +kernel)
theorem dX12_reefGoes_41 : decode cX12_reefGoes 41 = .ok (.iaload, 1) := oc_46 (by decide +kernel)
theorem dX12_reefGoes_63 : decode cX12_reefGoes 63 = .ok (.iadd, 1) := oc_96 (by decide +kernel)
theorem dX12_reefGoes_64 : decode cX12_reefGoes 64 = .ok (.iastore, 1) := oc_79 (by decide +kernel)
theorem dX12_reefGoes_65 : decode cX12_reefGoes 65 = .ok (.aload_n 0, 1) := oc_42 (by decide +kernel)
theorem dX12_reefGoes_66 : decode cX12_reefGoes 66 = .ok (.getfield 7, 3) := oc_180 (a := 0) (b := 7) (by decide +kernel)
theorem dX12_reefGoes_69 : decode cX12_reefGoes 69 = .ok (.iload_n 3, 1) := oc_29 (by decide +kernel)
theorem dX12_reefGoes_70 : decode cX12_reefGoes 70 = .ok (.iaload, 1) := oc_46 (by decide +kernel)
theorem dX12_reefGoes_71 : decode cX12_reefGoes 71 = .ok (.sipush 400, 3) := oc_17 (a := 1) (b := 144) (by decide +kernel)
theorem dX12_reefGoes_86 : decode cX12_reefGoes 86 = .ok (.aload_n 0, 1) := oc_42 (by decide +kernel)
theorem dX12_reefGoes_87 : decode cX12_reefGoes 87 = .ok (.getfield 7, 3) := oc_180 (a := 0) (b := 7) (by decide +kernel)
theorem dX12_reefGoes_90 : decode cX12_reefGoes 90 = .ok (.iload_n 3, 1) := oc_29 (by decide +kernel)
theorem dX12_reefGoes_91 : decode cX12_reefGoes 91 = .ok (.iaload, 1) := oc_46 (by decide +kernel)
theorem dX12_reefGoes_102 : decode cX12_reefGoes 102 = .ok (.iinc 2 1, 3) := oc_132 (b := 1) (by decide +kernel)
theorem dX12_reefGoes_105 : decode cX12_reefGoes 105 = .ok (.goto (-103), 3) := oc_167 (a := 255) (b := 153) (by decide +kernel)
theorem dX12_reefGoes_92 : decode cX12_reefGoes 92 = .ok (.ifCond .ge 10, 3) := oc_156 (a := 0) (b := 10) (by decide +kernel)
theorem dX12_reefGoes_95 : decode cX12_reefGoes 95 = .ok (.aload_n 0, 1) := oc_42 (by decide +kernel)
theorem dX12_reefGoes_96 : decode cX12_reefGoes 96 = .ok (.getfield 7, 3) := oc_180 (a := 0) (b := 7) (by decide +kernel)
theorem dX12_reefGoes_99 : decode cX12_reefGoes 99 = .ok (.iload_n 3, 1) := oc_29 (by decide +kernel)
theorem dX12_reefGoes_100 : decode cX12_reefGoes 100 = .ok (.iconst 0, 1) := oc_3 (by decide +kernel)
theorem dX12_reefGoes_101 : decode cX12_reefGoes 101 = .ok (.iastore, 1) := oc_79 (by decide +kernel)
theorem dX12_reefGoes_74 : decode cX12_reefGoes 74 = .ok (.if_icmp .le 12, 3) := oc_164 (a := 0) (b := 12) (by decide +kernel)
theorem dX12_reefGoes_77 : decode cX12_reefGoes 77 = .ok (.aload_n 0, 1) := oc_42 (by decide +kernel)
theorem dX12_reefGoes_78 : decode cX12_reefGoes 78 = .ok (.getfield 7, 3) := oc_180 (a := 0) (b := 7) (by decide +kernel)
theorem dX12_reefGoes_81 : decode cX12_reefGoes 81 = .ok (.iload_n 3, 1) := oc_29 (by decide +kernel)
theorem dX12_reefGoes_82 : decode cX12_reefGoes 82 = .ok (.sipush 400, 3) := oc_17 (a := 1) (b := 144) (by decide +kernel)
theorem dX12_reefGoes_85 : decode cX12_reefGoes 85 = .ok (.iastore, 1) := oc_79 (by decide +kernel)
theorem dX12_reefGoes_42 : decode cX12_reefGoes 42 = .ok (.if_icmp .gt 13, 3) := oc_163 (a := 0) (b := 13) (by decide +kernel)
theorem dX12_reefGoes_55 : decode cX12_reefGoes 55 = .ok (.aload_n 0, 1) := oc_42 (by decide +kernel)
theorem dX12_reefGoes_56 : decode cX12_reefGoes 56 = .ok (.getfield 7, 3) := oc_180 (a := 0) (b := 7) (by decide +kernel)
theorem dX12_reefGoes_59 : decode cX12_reefGoes 59 = .ok (.bipush 15, 2) := oc_16 (a := 15) (by decide +kernel)
theorem dX12_reefGoes_61 : decode cX12_reefGoes 61 = .ok (.iaload, 1) := oc_46 (by decide +kernel)
theorem dX12_reefGoes_62 : decode cX12_reefGoes 62 = .ok (.ineg, 1) := oc_116 (by decide +kernel)
theorem dX12_reefGoes_45 : decode cX12_reefGoes 45 = .ok (.aload_n 0, 1) := oc_42 (by decide +kernel)
theorem dX12_reefGoes_46 : decode cX12_reefGoes 46 = .ok (.getfield 7, 3) := oc_180 (a := 0) (b := 7) (by decide +kernel)
theorem dX12_reefGoes_49 : decode cX12_reefGoes 49 = .ok (.bipush 14, 2) := oc_16 (a := 14) (by decide +kernel)
theorem dX12_reefGoes_51 : decode cX12_reefGoes 51 = .ok (.iaload, 1) := oc_46 (by decide +kernel)
theorem dX12_reefGoes_52 : decode cX12_reefGoes 52 = .ok (.goto 11, 3) := oc_167 (a := 0) (b := 11) (by decide +kernel)
theorem dX12_sandGoes_0 : decode cX12_sandGoes 0 = .ok (.iconst 0, 1) := oc_3 (by decide +kernel)
theorem dX12_sandGoes_1 : decode cX12_sandGoes 1 = .ok (.istore_n 2, 1) := oc_61 (by decide +kernel)
theorem dX12_sandGoes_2 : decode cX12_sandGoes 2 = .ok (.iload_n 2, 1) := oc_28 (by decide +kernel)
theorem dX12_sandGoes_3 : decode cX12_sandGoes 3 = .ok (.aload_n 0, 1) := oc_42 (by decide +kernel)
theorem dX12_sandGoes_4 : decode cX12_sandGoes 4 = .ok (.getfield 7, 3) := oc_180 (a := 0) (b := 7) (by decide +kernel)
theorem dX12_sandGoes_7 : decode cX12_sandGoes 7 = .ok (.iconst 2, 1) := oc_5 (by decide +kernel)
theorem dX12_sandGoes_8 : decode cX12_sandGoes 8 = .ok (.iaload, 1) := oc_46 (by decide +kernel)
theorem dX12_sandGoes_9 : decode cX12_sandGoes 9 = .ok (.if_icmp .ge 56, 3) := oc_162 (a := 0) (b := 56) (by decide +kernel)
theorem dX12_sandGoes_65 : decode cX12_sandGoes 65 = .ok (.iconst 0, 1) := oc_3 (by decide +kernel)
theorem dX12_sandGoes_66 : decode cX12_sandGoes 66 = .ok (.istore_n 2, 1) := oc_61 (by decide +kernel)
theorem dX12_sandGoes_67 : decode cX12_sandGoes 67 = .ok (.iload_n 2, 1) := oc_28 (by decide +kernel)
theorem dX12_sandGoes_68 : decode cX12_sandGoes 68 = .ok (.aload_n 0, 1) := oc_42 (by decide +kernel)
theorem dX12_sandGoes_69 : decode cX12_sandGoes 69 = .ok (.getfield 7, 3) := oc_180 (a := 0) (b := 7) (by decide +kernel)
theorem dX12_sandGoes_72 : decode cX12_sandGoes 72 = .ok (.iconst 2, 1) := oc_5 (by decide +kernel)
theorem dX12_sandGoes_73 : decode cX12_sandGoes 73 = .ok (.iaload, 1) := oc_46 (by decide +kernel)
theorem dX12_sandGoes_74 : decode cX12_sandGoes 74 = .ok (.if_icmp .ge 119, 3) := oc_162 (a := 0) (b := 119) (by decide +kernel)
theorem dX12_sandGoes_193 : decode cX12_sandGoes 193 = .ok (.return_, 1) := oc_177 (by decide +kernel)
theorem dX12_sandGoes_77 : decode cX12_sandGoes 77 = .ok (.aload_n 0, 1) := oc_42 (by decide +kernel)
theorem dX12_sandGoes_78 : decode cX12_sandGoes 78 = .ok (.getfield 7, 3) := oc_180 (a := 0) (b := 7) (by decide +kernel)
theorem dX12_sandGoes_81 : decode cX12_sandGoes 81 = .ok (.bipush 100, 2) := oc_16 (a := 100) (by decide +kernel)
theorem dX12_sandGoes_83 : decode cX12_sandGoes 83 = .ok (.bipush 16, 2) := oc_16 (a := 16) (by decide +kernel)
theorem dX12_sandGoes_85 : decode cX12_sandGoes 85 = .ok (.iload_n 2, 1) := oc_28 (by decide +kernel)
theorem dX12_sandGoes_86 : decode cX12_sandGoes 86 = .ok (.imul, 1) := oc_104 (by decide +kernel)
theorem dX12_sandGoes_87 : decode cX12_sandGoes 87 = .ok (.iadd, 1) := oc_96 (by decide +kernel)
theorem dX12_sandGoes_88 : decode cX12_sandGoes 88 = .ok (.iconst 4, 1) := oc_7 (by decide +kernel)
theorem dX12_sandGoes_89 : decode cX12_sandGoes 89 = .ok (.iadd, 1) := oc_96 (by decide +kernel)
theorem dX12_sandGoes_90 : decode cX12_sandGoes 90 = .ok (.dup2, 1) := oc_92 (by decide +kernel)
theorem dX12_sandGoes_91 : decode cX12_sandGoes 91 = .ok (.iaload, 1) := oc_46 (by decide +kernel)
theorem dX12_sandGoes_92 : decode cX12_sandGoes 92 = .ok (.aload_n 0, 1) := oc_42 (by decide +kernel)
theorem tw_187 : Cond.fieldLink RX12 43 "RingsUnderModel" "leaves" "[I" ∈ wsL_law := sg_8 _ (List.mem_of_getElem? (i := 19) rfl)
theorem dX12_sandGoes_93 : decode cX12_sandGoes 93 = .ok (.getfield 43, 3) := oc_180 (a := 0) (b := 43) (by decide +kernel)
theorem dX12_sandGoes_96 : decode cX12_sandGoes 96 = .ok (.iload_n 2, 1) := oc_28 (by decide +kernel)
theorem dX12_sandGoes_97 : decode cX12_sandGoes 97 = .ok (.iaload, 1) := oc_46 (by decide +kernel)
theorem dX12_sandGoes_98 : decode cX12_sandGoes 98 = .ok (.isub, 1) := oc_100 (by decide +kernel)
theorem dX12_sandGoes_99 : decode cX12_sandGoes 99 = .ok (.iastore, 1) := oc_79 (by decide +kernel)
theorem dX12_sandGoes_100 : decode cX12_sandGoes 100 = .ok (.iload_n 2, 1) := oc_28 (by decide +kernel)
theorem dX12_sandGoes_101 : decode cX12_sandGoes 101 = .ok (.iconst 1, 1) := oc_4 (by decide +kernel)
theorem dX12_sandGoes_102 : decode cX12_sandGoes 102 = .ok (.iadd, 1) := oc_96 (by decide +kernel)
theorem dX12_sandGoes_103 : decode cX12_sandGoes 103 = .ok (.istore_n 3, 1) := oc_62 (by decide +kernel)
theorem dX12_sandGoes_104 : decode cX12_sandGoes 104 = .ok (.iload_n 3, 1) := oc_29 (by decide +kernel)
theorem dX12_sandGoes_105 : decode cX12_sandGoes 105 = .ok (.aload_n 0, 1) := oc_42 (by decide +kernel)
theorem dX12_sandGoes_106 : decode cX12_sandGoes 106 = .ok (.getfield 7, 3) := oc_180 (a := 0) (b := 7) (by decide +kernel)
theorem dX12_sandGoes_109 : decode cX12_sandGoes 109 = .ok (.iconst 2, 1) := oc_5 (by decide +kernel)
theorem dX12_sandGoes_110 : decode cX12_sandGoes 110 = .ok (.iaload, 1) := oc_46 (by decide +kernel)
theorem dX12_sandGoes_135 : decode cX12_sandGoes 135 = .ok (.iload_n 3, 1) := oc_29 (by decide +kernel)
theorem dX12_sandGoes_136 : decode cX12_sandGoes 136 = .ok (.aload_n 0, 1) := oc_42 (by decide +kernel)
theorem dX12_sandGoes_137 : decode cX12_sandGoes 137 = .ok (.getfield 7, 3) := oc_180 (a := 0) (b := 7) (by decide +kernel)
theorem dX12_sandGoes_140 : decode cX12_sandGoes 140 = .ok (.iconst 2, 1) := oc_5 (by decide +kernel)
theorem dX12_sandGoes_141 : decode cX12_sandGoes 141 = .ok (.iaload, 1) := oc_46 (by decide +kernel)
theorem dX12_sandGoes_187 : decode cX12_sandGoes 187 = .ok (.iinc 2 1, 3) := oc_132 (b := 1) (by decide +kernel)
theorem dX12_sandGoes_190 : decode cX12_sandGoes 190 = .ok (.goto (-123), 3) := oc_167 (a := 255) (b := 133) (by decide +kernel)
theorem dX12_sandGoes_142 : decode cX12_sandGoes 142 = .ok (.if_icmp .ge 29, 3) := oc_162 (a := 0) (b := 29) (by decide +kernel)
theorem dX12_sandGoes_171 : decode cX12_sandGoes 171 = .ok (.aload_n 0, 1) := oc_42 (by decide +kernel)
theorem dX12_sandGoes_172 : decode cX12_sandGoes 172 = .ok (.getfield 7, 3) := oc_180 (a := 0) (b := 7) (by decide +kernel)
theorem dX12_sandGoes_175 : decode cX12_sandGoes 175 = .ok (.bipush 9, 2) := oc_16 (a := 9) (by decide +kernel)
theorem dX12_sandGoes_177 : decode cX12_sandGoes 177 = .ok (.dup2, 1) := oc_92 (by decide +kernel)
theorem dX12_sandGoes_178 : decode cX12_sandGoes 178 = .ok (.iaload, 1) := oc_46 (by decide +kernel)
theorem dX12_sandGoes_179 : decode cX12_sandGoes 179 = .ok (.aload_n 0, 1) := oc_42 (by decide +kernel)
theorem dX12_sandGoes_180 : decode cX12_sandGoes 180 = .ok (.getfield 43, 3) := oc_180 (a := 0) (b := 43) (by decide +kernel)
theorem dX12_sandGoes_183 : decode cX12_sandGoes 183 = .ok (.iload_n 2, 1) := oc_28 (by decide +kernel)
theorem dX12_sandGoes_184 : decode cX12_sandGoes 184 = .ok (.iaload, 1) := oc_46 (by decide +kernel)
theorem dX12_sandGoes_185 : decode cX12_sandGoes 185 = .ok (.iadd, 1) := oc_96 (by decide +kernel)
theorem dX12_sandGoes_186 : decode cX12_sandGoes 186 = .ok (.iastore, 1) := oc_79 (by decide +kernel)
theorem dX12_sandGoes_145 : decode cX12_sandGoes 145 = .ok (.aload_n 0, 1) := oc_42 (by decide +kernel)
theorem dX12_sandGoes_146 : decode cX12_sandGoes 146 = .ok (.getfield 7, 3) := oc_180 (a := 0) (b := 7) (by decide +kernel)
theorem dX12_sandGoes_149 : decode cX12_sandGoes 149 = .ok (.bipush 100, 2) := oc_16 (a := 100) (by decide +kernel)
theorem dX12_sandGoes_151 : decode cX12_sandGoes 151 = .ok (.bipush 16, 2) := oc_16 (a := 16) (by decide +kernel)
theorem dX12_sandGoes_153 : decode cX12_sandGoes 153 = .ok (.iload_n 3, 1) := oc_29 (by decide +kernel)
theorem dX12_sandGoes_154 : decode cX12_sandGoes 154 = .ok (.imul, 1) := oc_104 (by decide +kernel)
theorem dX12_sandGoes_155 : decode cX12_sandGoes 155 = .ok (.iadd, 1) := oc_96 (by decide +kernel)
theorem dX12_sandGoes_156 : decode cX12_sandGoes 156 = .ok (.iconst 4, 1) := oc_7 (by decide +kernel)
theorem dX12_sandGoes_157 : decode cX12_sandGoes 157 = .ok (.iadd, 1) := oc_96 (by decide +kernel)
theorem dX12_sandGoes_158 : decode cX12_sandGoes 158 = .ok (.dup2, 1) := oc_92 (by decide +kernel)
theorem dX12_sandGoes_159 : decode cX12_sandGoes 159 = .ok (.iaload, 1) := oc_46 (by decide +kernel)
theorem dX12_sandGoes_160 : decode cX12_sandGoes 160 = .ok (.aload_n 0, 1) := oc_42 (by decide +kernel)
theorem dX12_sandGoes_161 : decode cX12_sandGoes 161 = .ok (.getfield 43, 3) := oc_180 (a := 0) (b := 43) (by decide +kernel)
theorem dX12_sandGoes_164 : decode cX12_sandGoes 164 = .ok (.iload_n 2, 1) := oc_28 (by decide +kernel)
theorem dX12_sandGoes_165 : decode cX12_sandGoes 165 = .ok (.iaload, 1) := oc_46 (by decide +kernel)
theorem dX12_sandGoes_166 : decode cX12_sandGoes 166 = .ok (.iadd, 1) := oc_96 (by decide +kernel)
theorem dX12_sandGoes_167 : decode cX12_sandGoes 167 = .ok (.iastore, 1) := oc_79 (by decide +kernel)
theorem dX12_sandGoes_168 : decode cX12_sandGoes 168 = .ok (.goto 19, 3) := oc_167 (a := 0) (b := 19) (by decide +kernel)
theorem dX12_sandGoes_111 : decode cX12_sandGoes 111 = .ok (.if_icmp .ge 24, 3) := oc_162 (a := 0) (b := 24) (by decide +kernel)
theorem dX12_sandGoes_114 : decode cX12_sandGoes 114 = .ok (.aload_n 0, 1) := oc_42 (by decide +kernel)
theorem dX12_sandGoes_115 : decode cX12_sandGoes 115 = .ok (.iload_n 3, 1) := oc_29 (by decide +kernel)
theorem dX12_sandGoes_116 : decode cX12_sandGoes 116 = .ok (.iconst 0, 1) := oc_3 (by decide +kernel)
theorem dX12_sandGoes_117 : decode cX12_sandGoes 117 = .ok (.invokevirtual 91, 3) := oc_182 (a := 0) (b := 91) (by decide +kernel)
theorem dX12_sandGoes_120 : decode cX12_sandGoes 120 = .ok (.aload_n 0, 1) := oc_42 (by decide +kernel)
theorem dX12_sandGoes_121 : decode cX12_sandGoes 121 = .ok (.iload_n 2, 1) := oc_28 (by decide +kernel)
theorem dX12_sandGoes_122 : decode cX12_sandGoes 122 = .ok (.iconst 0, 1) := oc_3 (by decide +kernel)
theorem dX12_sandGoes_123 : decode cX12_sandGoes 123 = .ok (.invokevirtual 91, 3) := oc_182 (a := 0) (b := 91) (by decide +kernel)
theorem dX12_sandGoes_126 : decode cX12_sandGoes 126 = .ok (.if_icmp .eq 9, 3) := oc_159 (a := 0) (b := 9) (by decide +kernel)
theorem dX12_sandGoes_129 : decode cX12_sandGoes 129 = .ok (.iinc 3 1, 3) := oc_132 (b := 1) (by decide +kernel)
theorem dX12_sandGoes_132 : decode cX12_sandGoes 132 = .ok (.goto (-28), 3) := oc_167 (a := 255) (b := 228) (by decide +kernel)
theorem dX12_sandGoes_12 : decode cX12_sandGoes 12 = .ok (.aload_n 0, 1) := oc_42 (by decide +kernel)
theorem dX12_sandGoes_13 : decode cX12_sandGoes 13 = .ok (.iload_n 1, 1) := oc_27 (by decide +kernel)
theorem dX12_sandGoes_14 : decode cX12_sandGoes 14 = .ok (.iconst 3, 1) := oc_6 (by decide +kernel)
theorem dX12_sandGoes_15 : decode cX12_sandGoes 15 = .ok (.invokevirtual 310, 3) := oc_182 (a := 1) (b := 54) (by decide +kernel)
theorem dX12_sandGoes_18 : decode cX12_sandGoes 18 = .ok (.istore_n 3, 1) := oc_62 (by decide +kernel)
theorem dX12_sandGoes_19 : decode cX12_sandGoes 19 = .ok (.aload_n 0, 1) := oc_42 (by decide +kernel)
theorem dX12_sandGoes_20 : decode cX12_sandGoes 20 = .ok (.getfield 43, 3) := oc_180 (a := 0) (b := 43) (by decide +kernel)
theorem dX12_sandGoes_23 : decode cX12_sandGoes 23 = .ok (.iload_n 2, 1) := oc_28 (by decide +kernel)
theorem dX12_sandGoes_24 : decode cX12_sandGoes 24 = .ok (.aload_n 0, 1) := oc_42 (by decide +kernel)
theorem dX12_sandGoes_25 : decode cX12_sandGoes 25 = .ok (.iload_n 2, 1) := oc_28 (by decide +kernel)
theorem dX12_sandGoes_26 : decode cX12_sandGoes 26 = .ok (.bipush 6, 2) := oc_16 (a := 6) (by decide +kernel)
theorem dX12_sandGoes_28 : decode cX12_sandGoes 28 = .ok (.invokevirtual 91, 3) := oc_182 (a := 0) (b := 91) (by decide +kernel)
theorem dX12_sandGoes_58 : decode cX12_sandGoes 58 = .ok (.iastore, 1) := oc_79 (by decide +kernel)
theorem dX12_sandGoes_59 : decode cX12_sandGoes 59 = .ok (.iinc 2 1, 3) := oc_132 (b := 1) (by decide +kernel)
theorem dX12_sandGoes_62 : decode cX12_sandGoes 62 = .ok (.goto (-60), 3) := oc_167 (a := 255) (b := 196) (by decide +kernel)
theorem dX12_sandGoes_31 : decode cX12_sandGoes 31 = .ok (.ifCond .le 7, 3) := oc_158 (a := 0) (b := 7) (by decide +kernel)
theorem dX12_sandGoes_38 : decode cX12_sandGoes 38 = .ok (.aload_n 0, 1) := oc_42 (by decide +kernel)
theorem dX12_sandGoes_39 : decode cX12_sandGoes 39 = .ok (.iload_n 2, 1) := oc_28 (by decide +kernel)
theorem dX12_sandGoes_40 : decode cX12_sandGoes 40 = .ok (.iconst 4, 1) := oc_7 (by decide +kernel)
theorem dX12_sandGoes_41 : decode cX12_sandGoes 41 = .ok (.invokevirtual 91, 3) := oc_182 (a := 0) (b := 91) (by decide +kernel)
theorem dX12_sandGoes_44 : decode cX12_sandGoes 44 = .ok (.iload_n 3, 1) := oc_29 (by decide +kernel)
theorem dX12_sandGoes_45 : decode cX12_sandGoes 45 = .ok (.if_icmp .ge 12, 3) := oc_162 (a := 0) (b := 12) (by decide +kernel)
theorem dX12_sandGoes_57 : decode cX12_sandGoes 57 = .ok (.iload_n 3, 1) := oc_29 (by decide +kernel)
theorem dX12_sandGoes_48 : decode cX12_sandGoes 48 = .ok (.aload_n 0, 1) := oc_42 (by decide +kernel)
theorem dX12_sandGoes_49 : decode cX12_sandGoes 49 = .ok (.iload_n 2, 1) := oc_28 (by decide +kernel)
theorem dX12_sandGoes_50 : decode cX12_sandGoes 50 = .ok (.iconst 4, 1) := oc_7 (by decide +kernel)
theorem dX12_sandGoes_51 : decode cX12_sandGoes 51 = .ok (.invokevirtual 91, 3) := oc_182 (a := 0) (b := 91) (by decide +kernel)
theorem dX12_sandGoes_54 : decode cX12_sandGoes 54 = .ok (.goto 4, 3) := oc_167 (a := 0) (b := 4) (by decide +kernel)
theorem dX12_sandGoes_34 : decode cX12_sandGoes 34 = .ok (.iconst 0, 1) := oc_3 (by decide +kernel)
theorem dX12_sandGoes_35 : decode cX12_sandGoes 35 = .ok (.goto 23, 3) := oc_167 (a := 0) (b := 23) (by decide +kernel)
set_option maxRecDepth 100000 in
def g_X12_says (a0 : Int32) (a1 : Int32) (I : Nat → Int32) (J : Nat → Int64) (ri : Nat → Nat → Int32) (rj : Nat → Nat → Int64) (rq : Nat → Nat → Option Nat) : Int32 × vM := (ap1 (g_X12_isMonth a0) fun (x_1 : Int32) => (if x_1 = (0 : Int32) then ((-1 : Int32), I, J, ri, rj, rq) else (if a1 = (0 : Int32) then (bnI (g_X12_numberOf (7 : Int32) a0 (50 : Int32) I J ri rj rq) fun (x_57 : Int32) (_ : Nat → Int32) (_ : Nat → Int64) (_ : Nat → Nat → Int32) (_ : Nat → Nat → Int64) (_ : Nat → Nat → Option Nat) => (x_57, I, J, ri, rj, rq)) else (if a1 = (1 : Int32) then (bnI (g_X12_numberOf (9 : Int32) a0 (10 : Int32) I J ri rj rq) fun (x_47 : Int32) (_ : Nat → Int32) (_ : Nat → Int64) (_ : Nat → Nat → Int32) (_ : Nat → Nat → Int64) (_ : Nat → Nat → Option Nat) => (x_47, I, J, ri, rj, rq)) else (if a1 = (2 : Int32) then (bnI (g_X12_numberOf (8 : Int32) a0 (-1 : Int32) I J ri rj rq) fun (x_37 : Int32) (_ : Nat → Int32) (_ : Nat → Int64) (_ : Nat → Nat → Int32) (_ : Nat → Nat → Int64) (_ : Nat → Nat → Option Nat) => (x_37, I, J, ri, rj, rq)) else ((-1 : Int32), I, J, ri, rj, rq))))))
set_option maxRecDepth 100000 in
theorem g_X12_says_e {a0 : Int32} {a1 : Int32} {I : Nat → Int32} {J : Nat → Int64} {ri : Nat → Nat → Int32} {rj : Nat → Nat → Int64} {rq : Nat → Nat → Option Nat} : g_X12_says a0 a1 I J ri rj rq = (ap1 (g_X12_isMonth a0) fun (x_1 : Int32) => (if x_1 = (0 : Int32) then ((-1 : Int32), I, J, ri, rj, rq) else (if a1 = (0 : Int32) then (bnI (g_X12_numberOf (7 : Int32) a0 (50 : Int32) I J ri rj rq) fun (x_57 : Int32) (_ : Nat → Int32) (_ : Nat → Int64) (_ : Nat → Nat → Int32) (_ : Nat → Nat → Int64) (_ : Nat → Nat → Option Nat) => (x_57, I, J, ri, rj, rq)) else (if a1 = (1 : Int32) then (bnI (g_X12_numberOf (9 : Int32) a0 (10 : Int32) I J ri rj rq) fun (x_47 : Int32) (_ : Nat → Int32) (_ : Nat → Int64) (_ : Nat → Nat → Int32) (_ : Nat → Nat → Int64) (_ : Nat → Nat → Option Nat) => (x_47, I, J, ri, rj, rq)) else (if a1 = (2 : Int32) then (bnI (g_X12_numberOf (8 : Int32) a0 (-1 : Int32) I J ri rj rq) fun (x_37 : Int32) (_ : Nat → Int32) (_ : Nat → Int64) (_ : Nat → Nat → Int32) (_ : Nat → Nat → Int64) (_ : Nat → Nat → Option Nat) => (x_37, I, J, ri, rj, rq)) else ((-1 : Int32), I, J, ri, rj, rq)))))) := rfl
set_option maxHeartbeats 4000000 in
set_option maxRecDepth 100000 in
theorem s_X12_says (l : Launch) (D : va_G) (t : pq_T) (σ : pq_S) (I : Nat → Nat → Int32) (J : Nat → Nat → Int64) (ri : Nat → Nat → Int32) (rj : Nat → Nat → Int64) (rq : Nat → Nat → Option Nat) (sz : Nat) (tg : Nat → Nat) (hSH : SH σ tg) (hG0 : GT tg I ri) (this : Nat) (a0 : Int32) (a1 : Int32) (hL_this : this ∈ σ.1) (hK_this : σ.2.1 this = 12) : MetI l yX12_says (wa yX12_says cX12_says 3 (some .int)) ({ frames := 4, cells := 0, slots := 0, locals := 93 }) [.ref this, .int a0, .int a1] D t σ (I, J, ri, rj, rq) sz 0 0 (fun (r : Int32) (u : pq_S × pq_M) => u = (σ, I, J, ri, rj, rq) ∧ g_X12_says a0 a1 (vI 12 σ this I) (vJ 12 σ this J) (vR 12 σ this ri) (vL 12 σ this rj) (vQ 12 σ this rq) = (r, (vI 12 σ this I), (vJ 12 σ this J), (vR 12 σ this ri), (vL 12 σ this rj), (vQ 12 σ this rq))) := by
  refine Met.ofW (cc := cX12_says) (maxL := 3) (ret := (some .int)) (by decide) rfl ?_
  intro p e s m args below meth c s₁ B hml hv
  obtain ⟨rfl, hsz, hP, hK, hD0, hN⟩ := hv
  have hx := B.exec
  have hb := B.bytes
  have hr := B.returns
  have hts := atoms_spec (ws := (wa yX12_says cX12_says 3 (some .int))) B.pre
  have hown : s.vm.findClass RX12 = some m.cls := findClass_of_methodNamed B.named
  have hlocks := B.notSynchronized
  subst hsz
  have hD : va_D (pq_B t σ (I, J, ri, rj, rq) s.heap.size) (pq_P t σ (I, J, ri, rj, rq)) := hD0.self
  generalize hAe : pq_B t σ (I, J, ri, rj, rq) s.heap.size = A at hD ⊢
  have hA : ∀ q : Nat, s.heap.size ≤ q → A q := fun q h => by rw [← hAe]; exact Or.inr h
  have hS : va_S A s.heap s.heap [] := va_S.rf
  have hG : GM [] tg σ I ri I ri rq := ⟨hG0, fun _ _ _ => rfl, fun _ _ _ _ _ => rfl, fun _ _ _ _ _ _ => rfl⟩
  have hl := lv_entry ([.ref this, .int a0, .int a1]) (n := 3) (Nat.le_of_ble_eq_true rfl)
  rw [lg_entry_eq]
  generalize (lg_sl ([.ref this, .int a0, .int a1]) ++ List.replicate (3 - (lg_sl ([.ref this, .int a0, .int a1])).length) Slot.unset).toArray = ls at hl ⊢
  have hl : lv_has ls 3 [(0, .ref this), (1, .int a0), (2, .int a1)] := hl
  refine q_gen (fun Q hQ => ?_)
  have go : ∀ (H : Heap) (locs : List Loc) (ls : Array Slot), va_P D vwCl (pq_P t σ (I, J, ri, rj, rq)) H → va_D A (pq_P t σ (I, J, ri, rj, rq)) → va_S A s.heap H locs → lv_has ls 3 [(0, .ref this), (1, .int a0), (2, .int a1)] → W p l e ({ frames := 4, cells := 0, slots := 0, locals := 93 } : Room) s m (List.toArray ([.ref this, .int a0, .int a1] : List Value)) below meth c H locs 0 0 Q (F0 m 0 ls []) := by
    intro H locs ls hP hD hS hl
    have hO_this : this = vo σ 12 this := rfl
    have hVT : VT 12 σ tg this := vt_12 hSH hL_this hK_this
    have hFr : FR 12 tg σ this (I, J, ri, rj, rq) (I, J, ri, rj, rq) := fr_rf
    obtain ⟨F, hF0⟩ : ∃ F, F = g_X12_says a0 a1 (vI 12 σ this I) (vJ 12 σ this J) (vR 12 σ this ri) (vL 12 σ this rj) (vQ 12 σ this rq) := ⟨_, rfl⟩
    have hF := hF0.trans g_X12_says_e
    refine lv_iload_n hx hb dX12_says_0 rfl (lv_at hl 1 rfl) ?_
    refine pk_i (va_runS (As := [.int a0]) (rest := []) ⟨hx, hb, hml, hown, hts⟩ (s_X12_isMonth l D t σ I J ri rj rq H.size tg hSH hG.1 a0) (va_cwS 1 hts (tw_S tw_262 tw_263 tw_5 tw_264) rfl rfl rfl cd_yX12_isMonth_1 ⟨Nat.le_of_ble_eq_true rfl, Nat.le_of_ble_eq_true rfl⟩) ⟨pq_blind, pq_pre hK hN hP hD⟩ rfl rfl hl.1 rfl (lv_room (Nat.le_of_ble_eq_true rfl)) dX12_says_1 ⟨Nat.le_of_ble_eq_true rfl, Nat.le_of_ble_eq_true rfl⟩) hD hS hA (fun x_1 σ1 μ1 H locs hw_2 hP hD hS => ?_)
    obtain ⟨hu_3, hfn_6, hr_5⟩ := hw_2
    obtain ⟨hu_3a, hu_3b⟩ := Prod.mk.inj hu_3
    rw [hu_3a, hu_3b] at hP hD
    replace hF := hF.trans (ap_n hfn_6.symm)
    have h_8 : rg x_1 0 1 := by rcases hr_5 with ⟨q, -⟩ | ⟨q, -⟩ <;> rw [q] <;> exact ⟨by decide, by decide⟩
    have uh_8 := h_8.1
    have vh_8 := h_8.2
    refine lv_if_ne (tgt := 9) hx hb dX12_says_4 (by decide) (fun c_9 => ?_) (fun c_9 => ?_)
    · replace hF := hF.trans (if_neg c_9)
      have f_16 := (hr_5.resolve_right (fun q => c_9 q.1)).2
      have uf_16 := f_16.1
      have vf_16 := f_16.2
      have tc_17 : (x_1).toInt ≠ 0 := fun q => c_9 (Int32.toInt_inj.mp q)
      have h_18 : rg x_1 1 1 := rg_ne c_9 h_8 0 rfl (by decide)
      have uh_18 := h_18.1
      have vh_18 := h_18.2
      refine lv_iload_n hx hb dX12_says_9 rfl (lv_at hl 2 rfl) ?_
      refine lv_if_ne (tgt := 25) hx hb dX12_says_10 (by decide) (fun c_19 => ?_) (fun c_19 => ?_)
      · replace hF := hF.trans (if_neg c_19)
        have tc_23 : (a1).toInt ≠ 0 := fun q => c_19 (Int32.toInt_inj.mp q)
        refine lv_iload_n hx hb dX12_says_25 rfl (lv_at hl 2 rfl) ?_
        refine lv_iconst (v := 1) hx hb dX12_says_26 (by decide) ?_
        refine lv_icmp_ne (tgt := 42) hx hb dX12_says_27 (by decide) (fun c_24 => ?_) (fun c_24 => ?_)
        · replace hF := hF.trans (if_neg c_24)
          have tc_28 : (a1).toInt ≠ 1 := fun q => c_24 (Int32.toInt_inj.mp q)
          refine lv_iload_n hx hb dX12_says_42 rfl (lv_at hl 2 rfl) ?_
          refine lv_iconst (v := 2) hx hb dX12_says_43 (by decide) ?_
          refine lv_icmp_ne (tgt := 58) hx hb dX12_says_44 (by decide) (fun c_29 => ?_) (fun c_29 => ?_)
          · replace hF := hF.trans (if_neg c_29)
            have tc_33 : (a1).toInt ≠ 2 := fun q => c_29 (Int32.toInt_inj.mp q)
            refine lv_iconst (v := (-1)) hx hb dX12_says_58 (by decide) ?_
            subst hQ
            exact W.iret (v := (-1)) hx hb hr (fun t1 ht hW => ⟨⟨(-1), (σ, I, J, ri, rj, rq), rfl, ⟨rfl, (hF0.symm.trans hF)⟩, by rw [ht]; exact hP, va_K.moved hW.alike hK, hD⟩, hS.F ht⟩) hS.2.2 dX12_says_59
          · replace hF := hF.trans (if_pos c_29)
            have tc_34 : (a1).toInt = 2 := congrArg Int32.toInt c_29
            have h_35 : rg a1 2 2 := rg_and (rg_full _) (rg_of_eq c_29 (rg_k (2 : Int32) 2 rfl)) (by decide)
            have uh_35 := h_35.1
            have vh_35 := h_35.2
            refine lv_aload_n hx hb dX12_says_47 rfl (lv_at hl 0 rfl) ?_
            refine lv_bipush (v := 8) hx hb dX12_says_48 (by decide) ?_
            refine lv_iload_n hx hb dX12_says_50 rfl (lv_at hl 1 rfl) ?_
            refine lv_iconst (v := (-1)) hx hb dX12_says_51 (by decide) ?_
            obtain ⟨w_36, hR_w_36, hL_w_36, hK_w_36, hN_w_36, hT_w_36⟩ := sh_a hSH 384 (ci := 12) (kd := 13) (len := 12720) rfl (by decide) hL_this hK_this
            have hO_w_36 : w_36 = vrow σ 384 this := vo_k (c := 12) hO_this hR_w_36
            refine pk_i (va_runV (As := [.int 8, .int a0, .int (-1)]) (rest := []) ⟨hx, hb, hml, hown, hts⟩ (s_X12_numberOf l D t σ I J ri rj rq H.size tg hSH hG.1 this (8 : Int32) a0 (-1 : Int32) hL_this hK_this w_36 hR_w_36 hL_w_36 hK_w_36 hN_w_36 hT_w_36) (cwV 3 hts (tw_V tw_1016 tw_1017 tw_1018 tw_5 tw_1019) rfl rfl rfl cv_yX12_numberOf_3 ⟨Nat.le_of_ble_eq_true rfl, Nat.le_of_ble_eq_true rfl⟩) ⟨pq_blind, pq_recv hK hP hL_this hK_this (by decide) rfl, pq_pre hK hN hP hD⟩ rfl rfl hl.1 rfl (lv_room (Nat.le_of_ble_eq_true rfl)) dX12_says_52 ⟨Nat.le_of_ble_eq_true rfl, Nat.le_of_ble_eq_true rfl⟩) hD hS hA (fun x_37 σ1 μ1 H locs hw_38 hP hD hS => ?_)
            obtain ⟨hu_39, hfn_42⟩ := hw_38
            obtain ⟨hu_39a, hu_39b⟩ := Prod.mk.inj hu_39
            rw [hu_39a, hu_39b] at hP hD
            replace hF := hF.trans (bn_n hfn_42)
            refine lv_goto (tgt := 59) hx hb dX12_says_55 (by decide) ?_
            subst hQ
            exact W.iret (v := x_37) hx hb hr (fun t1 ht hW => ⟨⟨x_37, (σ, I, J, ri, rj, rq), rfl, ⟨rfl, (hF0.symm.trans hF)⟩, by rw [ht]; exact hP, va_K.moved hW.alike hK, hD⟩, hS.F ht⟩) hS.2.2 dX12_says_59
        · replace hF := hF.trans (if_pos c_24)
          have tc_44 : (a1).toInt = 1 := congrArg Int32.toInt c_24
          have h_45 : rg a1 1 1 := rg_and (rg_full _) (rg_of_eq c_24 (rg_k (1 : Int32) 1 rfl)) (by decide)
          have uh_45 := h_45.1
          have vh_45 := h_45.2
          refine lv_aload_n hx hb dX12_says_30 rfl (lv_at hl 0 rfl) ?_
          refine lv_bipush (v := 9) hx hb dX12_says_31 (by decide) ?_
          refine lv_iload_n hx hb dX12_says_33 rfl (lv_at hl 1 rfl) ?_
          refine lv_bipush (v := 10) hx hb dX12_says_34 (by decide) ?_
          obtain ⟨w_46, hR_w_46, hL_w_46, hK_w_46, hN_w_46, hT_w_46⟩ := sh_a hSH 384 (ci := 12) (kd := 13) (len := 12720) rfl (by decide) hL_this hK_this
          have hO_w_46 : w_46 = vrow σ 384 this := vo_k (c := 12) hO_this hR_w_46
          refine pk_i (va_runV (As := [.int 9, .int a0, .int 10]) (rest := []) ⟨hx, hb, hml, hown, hts⟩ (s_X12_numberOf l D t σ I J ri rj rq H.size tg hSH hG.1 this (9 : Int32) a0 (10 : Int32) hL_this hK_this w_46 hR_w_46 hL_w_46 hK_w_46 hN_w_46 hT_w_46) (cwV 3 hts (tw_V tw_1016 tw_1017 tw_1018 tw_5 tw_1019) rfl rfl rfl cv_yX12_numberOf_3 ⟨Nat.le_of_ble_eq_true rfl, Nat.le_of_ble_eq_true rfl⟩) ⟨pq_blind, pq_recv hK hP hL_this hK_this (by decide) rfl, pq_pre hK hN hP hD⟩ rfl rfl hl.1 rfl (lv_room (Nat.le_of_ble_eq_true rfl)) dX12_says_36 ⟨Nat.le_of_ble_eq_true rfl, Nat.le_of_ble_eq_true rfl⟩) hD hS hA (fun x_47 σ1 μ1 H locs hw_48 hP hD hS => ?_)
          obtain ⟨hu_49, hfn_52⟩ := hw_48
          obtain ⟨hu_49a, hu_49b⟩ := Prod.mk.inj hu_49
          rw [hu_49a, hu_49b] at hP hD
          replace hF := hF.trans (bn_n hfn_52)
          refine lv_goto (tgt := 59) hx hb dX12_says_39 (by decide) ?_
          subst hQ
          exact W.iret (v := x_47) hx hb hr (fun t1 ht hW => ⟨⟨x_47, (σ, I, J, ri, rj, rq), rfl, ⟨rfl, (hF0.symm.trans hF)⟩, by rw [ht]; exact hP, va_K.moved hW.alike hK, hD⟩, hS.F ht⟩) hS.2.2 dX12_says_59
      · replace hF := hF.trans (if_pos c_19)
        have tc_54 : (a1).toInt = 0 := congrArg Int32.toInt c_19
        have h_55 : rg a1 0 0 := rg_and (rg_full _) (rg_of_eq c_19 (rg_k (0 : Int32) 0 rfl)) (by decide)
        have uh_55 := h_55.1
        have vh_55 := h_55.2
        refine lv_aload_n hx hb dX12_says_13 rfl (lv_at hl 0 rfl) ?_
        refine lv_bipush (v := 7) hx hb dX12_says_14 (by decide) ?_
        refine lv_iload_n hx hb dX12_says_16 rfl (lv_at hl 1 rfl) ?_
        refine lv_bipush (v := 50) hx hb dX12_says_17 (by decide) ?_
        obtain ⟨w_56, hR_w_56, hL_w_56, hK_w_56, hN_w_56, hT_w_56⟩ := sh_a hSH 384 (ci := 12) (kd := 13) (len := 12720) rfl (by decide) hL_this hK_this
        have hO_w_56 : w_56 = vrow σ 384 this := vo_k (c := 12) hO_this hR_w_56
        refine pk_i (va_runV (As := [.int 7, .int a0, .int 50]) (rest := []) ⟨hx, hb, hml, hown, hts⟩ (s_X12_numberOf l D t σ I J ri rj rq H.size tg hSH hG.1 this (7 : Int32) a0 (50 : Int32) hL_this hK_this w_56 hR_w_56 hL_w_56 hK_w_56 hN_w_56 hT_w_56) (cwV 3 hts (tw_V tw_1016 tw_1017 tw_1018 tw_5 tw_1019) rfl rfl rfl cv_yX12_numberOf_3 ⟨Nat.le_of_ble_eq_true rfl, Nat.le_of_ble_eq_true rfl⟩) ⟨pq_blind, pq_recv hK hP hL_this hK_this (by decide) rfl, pq_pre hK hN hP hD⟩ rfl rfl hl.1 rfl (lv_room (Nat.le_of_ble_eq_true rfl)) dX12_says_19 ⟨Nat.le_of_ble_eq_true rfl, Nat.le_of_ble_eq_true rfl⟩) hD hS hA (fun x_57 σ1 μ1 H locs hw_58 hP hD hS => ?_)
        obtain ⟨hu_59, hfn_62⟩ := hw_58
        obtain ⟨hu_59a, hu_59b⟩ := Prod.mk.inj hu_59
        rw [hu_59a, hu_59b] at hP hD
        replace hF := hF.trans (bn_n hfn_62)
        refine lv_goto (tgt := 59) hx hb dX12_says_22 (by decide) ?_
        subst hQ
        exact W.iret (v := x_57) hx hb hr (fun t1 ht hW => ⟨⟨x_57, (σ, I, J, ri, rj, rq), rfl, ⟨rfl, (hF0.symm.trans hF)⟩, by rw [ht]; exact hP, va_K.moved hW.alike hK, hD⟩, hS.F ht⟩) hS.2.2 dX12_says_59
    · replace hF := hF.trans (if_pos c_9)
      have f_64 := (hr_5.resolve_left (fun q => absurd (q.1.symm.trans c_9) (by decide))).2
      have tc_65 : (x_1).toInt = 0 := congrArg Int32.toInt c_9
      have h_66 : rg x_1 0 0 := rg_and h_8 (rg_of_eq c_9 (rg_k (0 : Int32) 0 rfl)) (by decide)
      have uh_66 := h_66.1
      have vh_66 := h_66.2
      refine lv_iconst (v := (-1)) hx hb dX12_says_7 (by decide) ?_
      subst hQ
      exact W.iret (v := (-1)) hx hb hr (fun t1 ht hW => ⟨⟨(-1), (σ, I, J, ri, rj, rq), rfl, ⟨rfl, (hF0.symm.trans hF)⟩, by rw [ht]; exact hP, va_K.moved hW.alike hK, hD⟩, hS.F ht⟩) hS.2.2 dX12_says_8
  exact go _ _ _ hP hD hS hl

set_option maxRecDepth 100000 in
def g_X12_cellAt_c1 (a0 : Int32) (I : Nat → Int32) (J : Nat → Int64) (ri : Nat → Nat → Int32) (rj : Nat → Nat → Int64) (rq : Nat → Nat → Option Nat) : Int32 × vM := (ap1 ((16 : Int32) * a0) fun (x_2 : Int32) => (ap1 ((100 : Int32) + x_2) fun (x_4 : Int32) => (ap1 (x_4 + (1 : Int32)) fun (x_6 : Int32) => (ap1 (ri 384 (x_6).toNatClampNeg) fun (x_8 : Int32) => (x_8, I, J, ri, rj, rq)))))
set_option maxRecDepth 100000 in
theorem g_X12_cellAt_c1_e {a0 : Int32} {I : Nat → Int32} {J : Nat → Int64} {ri : Nat → Nat → Int32} {rj : Nat → Nat → Int64} {rq : Nat → Nat → Option Nat} : g_X12_cellAt_c1 a0 I J ri rj rq = (ap1 ((16 : Int32) * a0) fun (x_2 : Int32) => (ap1 ((100 : Int32) + x_2) fun (x_4 : Int32) => (ap1 (x_4 + (1 : Int32)) fun (x_6 : Int32) => (ap1 (ri 384 (x_6).toNatClampNeg) fun (x_8 : Int32) => (x_8, I, J, ri, rj, rq))))) := rfl
set_option maxHeartbeats 4000000 in
set_option maxRecDepth 100000 in
theorem s_X12_cellAt_c1 (l : Launch) (D : va_G) (t : pq_T) (σ : pq_S) (I : Nat → Nat → Int32) (J : Nat → Nat → Int64) (ri : Nat → Nat → Int32) (rj : Nat → Nat → Int64) (rq : Nat → Nat → Option Nat) (sz : Nat) (tg : Nat → Nat) (hSH : SH σ tg) (hG0 : GT tg I ri) (this : Nat) (a0 : Int32) (hL_this : this ∈ σ.1) (hK_this : σ.2.1 this = 12) (h_a0 : rg a0 0 39) : MetI l yX12_cellAt (wa yX12_cellAt cX12_cellAt 3 (some .int)) ({ frames := 0, cells := 0, slots := 0, locals := 0 }) [.ref this, .int a0, .int 1] D t σ (I, J, ri, rj, rq) sz 0 0 (fun (r : Int32) (u : pq_S × pq_M) => u = (σ, I, J, ri, rj, rq) ∧ g_X12_cellAt_c1 a0 (vI 12 σ this I) (vJ 12 σ this J) (vR 12 σ this ri) (vL 12 σ this rj) (vQ 12 σ this rq) = (r, (vI 12 σ this I), (vJ 12 σ this J), (vR 12 σ this ri), (vL 12 σ this rj), (vQ 12 σ this rq))) := by
  refine Met.ofW (cc := cX12_cellAt) (maxL := 3) (ret := (some .int)) (by decide) rfl ?_
  intro p e s m args below meth c s₁ B hml hv
  obtain ⟨rfl, hsz, hP, hK, hD0, hN⟩ := hv
  have hx := B.exec
  have hb := B.bytes
  have hr := B.returns
  have hts := atoms_spec (ws := (wa yX12_cellAt cX12_cellAt 3 (some .int))) B.pre
  have hown : s.vm.findClass RX12 = some m.cls := findClass_of_methodNamed B.named
  have hlocks := B.notSynchronized
  subst hsz
  have hD : va_D (pq_B t σ (I, J, ri, rj, rq) s.heap.size) (pq_P t σ (I, J, ri, rj, rq)) := hD0.self
  generalize hAe : pq_B t σ (I, J, ri, rj, rq) s.heap.size = A at hD ⊢
  have hA : ∀ q : Nat, s.heap.size ≤ q → A q := fun q h => by rw [← hAe]; exact Or.inr h
  have hS : va_S A s.heap s.heap [] := va_S.rf
  have hG : GM [] tg σ I ri I ri rq := ⟨hG0, fun _ _ _ => rfl, fun _ _ _ _ _ => rfl, fun _ _ _ _ _ _ => rfl⟩
  have hl := lv_entry ([.ref this, .int a0, .int 1]) (n := 3) (Nat.le_of_ble_eq_true rfl)
  rw [lg_entry_eq]
  generalize (lg_sl ([.ref this, .int a0, .int 1]) ++ List.replicate (3 - (lg_sl ([.ref this, .int a0, .int 1])).length) Slot.unset).toArray = ls at hl ⊢
  have hl : lv_has ls 3 [(0, .ref this), (1, .int a0), (2, .int 1)] := hl
  refine q_gen (fun Q hQ => ?_)
  have go : ∀ (H : Heap) (locs : List Loc) (ls : Array Slot), va_P D vwCl (pq_P t σ (I, J, ri, rj, rq)) H → va_D A (pq_P t σ (I, J, ri, rj, rq)) → va_S A s.heap H locs → lv_has ls 3 [(0, .ref this), (1, .int a0), (2, .int 1)] → W p l e ({ frames := 0, cells := 0, slots := 0, locals := 0 } : Room) s m (List.toArray ([.ref this, .int a0, .int 1] : List Value)) below meth c H locs 0 0 Q (F0 m 0 ls []) := by
    intro H locs ls hP hD hS hl
    have hO_this : this = vo σ 12 this := rfl
    have hVT : VT 12 σ tg this := vt_12 hSH hL_this hK_this
    have hFr : FR 12 tg σ this (I, J, ri, rj, rq) (I, J, ri, rj, rq) := fr_rf
    obtain ⟨F, hF0⟩ : ∃ F, F = g_X12_cellAt_c1 a0 (vI 12 σ this I) (vJ 12 σ this J) (vR 12 σ this ri) (vL 12 σ this rj) (vQ 12 σ this rq) := ⟨_, rfl⟩
    have hF := hF0.trans g_X12_cellAt_c1_e
    refine lv_aload_n hx hb dX12_cellAt_0 rfl (lv_at hl 0 rfl) ?_
    obtain ⟨w_1, hR_w_1, hL_w_1, hK_w_1, hN_w_1, hT_w_1⟩ := sh_a hSH 384 (ci := 12) (kd := 13) (len := 12720) rfl (by decide) hL_this hK_this
    have hO_w_1 : w_1 = vrow σ 384 this := vo_k (c := 12) hO_this hR_w_1
    refine pg_f (v := .ref w_1) (C := RX12) (T := TX12) (N := 31) hx hb hts (tw_i inlX12) hown hK hP hL_this hK_this (by decide) rfl 0 (by decide) (hts _ (tw_c tw_176)) (pq_hv rfl hR_w_1) dX12_cellAt_1 ?_
    refine lv_bipush (v := 100) hx hb dX12_cellAt_4 (by decide) ?_
    refine lv_bipush (v := 16) hx hb dX12_cellAt_6 (by decide) ?_
    refine lv_iload_n hx hb dX12_cellAt_8 rfl (lv_at hl 1 rfl) ?_
    refine lv_imul hx hb dX12_cellAt_9 ?_
    refine lv_topi (fun x_2 ex_2 => ?_)
    replace hF := hF.trans (ap_n ex_2)
    have h_3 : rg x_2 0 624 := rg_of_eq ex_2 (rg_mul (rg_k (16 : Int32) 16 rfl) h_a0 (by decide))
    have uh_3 := h_3.1
    have vh_3 := h_3.2
    have tx_2 : (x_2).toInt = 16 * (a0).toInt := by rw [ex_2]; exact i_mul_rg (a2 := 16) (b2 := (a0).toInt) rfl rfl (rg_k (16 : Int32) 16 rfl) h_a0 (by decide)
    refine lv_iadd hx hb dX12_cellAt_10 ?_
    refine lv_topi (fun x_4 ex_4 => ?_)
    replace hF := hF.trans (ap_n ex_4)
    have h_5 : rg x_4 100 724 := rg_of_eq ex_4 (rg_add (rg_k (100 : Int32) 100 rfl) h_3 (by decide))
    have uh_5 := h_5.1
    have vh_5 := h_5.2
    have tx_4 : (x_4).toInt = 100 + (x_2).toInt := by rw [ex_4]; exact i_add_rg (a2 := 100) (b2 := (x_2).toInt) rfl rfl (rg_k (100 : Int32) 100 rfl) h_3 (by decide)
    refine lv_iload_n hx hb dX12_cellAt_11 rfl (lv_at hl 2 rfl) ?_
    refine lv_iadd hx hb dX12_cellAt_12 ?_
    refine lv_topi (fun x_6 ex_6 => ?_)
    replace hF := hF.trans (ap_n ex_6)
    have h_7 : rg x_6 101 725 := rg_of_eq ex_6 (rg_add h_5 (rg_k (1 : Int32) 1 rfl) (by decide))
    have uh_7 := h_7.1
    have vh_7 := h_7.2
    have tx_6 : (x_6).toInt = (x_4).toInt + 1 := by rw [ex_6]; exact i_add_rg (a2 := (x_4).toInt) (b2 := 1) rfl rfl h_5 (rg_k (1 : Int32) 1 rfl) (by decide)
    refine pl_i hx hb hK hP hL_w_1 hK_w_1 hN_w_1 (rg_in h_7 (by decide)) dX12_cellAt_13 ?_
    refine lv_topi (fun x_8 ex_8 => ?_)
    replace hF := hF.trans (ap_n (vR_r hO_w_1 (by decide) ex_8))
    subst hQ
    exact W.iret (v := x_8) hx hb hr (fun t1 ht hW => ⟨⟨x_8, (σ, I, J, ri, rj, rq), rfl, ⟨rfl, (hF0.symm.trans hF)⟩, by rw [ht]; exact hP, va_K.moved hW.alike hK, hD⟩, hS.F ht⟩) hS.2.2 dX12_cellAt_14
  exact go _ _ _ hP hD hS hl

set_option maxRecDepth 100000 in
def g_X12_cellAt_c4 (a0 : Int32) (I : Nat → Int32) (J : Nat → Int64) (ri : Nat → Nat → Int32) (rj : Nat → Nat → Int64) (rq : Nat → Nat → Option Nat) : Int32 × vM := (ap1 ((16 : Int32) * a0) fun (x_2 : Int32) => (ap1 ((100 : Int32) + x_2) fun (x_4 : Int32) => (ap1 (x_4 + (4 : Int32)) fun (x_6 : Int32) => (ap1 (ri 384 (x_6).toNatClampNeg) fun (x_8 : Int32) => (x_8, I, J, ri, rj, rq)))))
set_option maxRecDepth 100000 in
theorem g_X12_cellAt_c4_e {a0 : Int32} {I : Nat → Int32} {J : Nat → Int64} {ri : Nat → Nat → Int32} {rj : Nat → Nat → Int64} {rq : Nat → Nat → Option Nat} : g_X12_cellAt_c4 a0 I J ri rj rq = (ap1 ((16 : Int32) * a0) fun (x_2 : Int32) => (ap1 ((100 : Int32) + x_2) fun (x_4 : Int32) => (ap1 (x_4 + (4 : Int32)) fun (x_6 : Int32) => (ap1 (ri 384 (x_6).toNatClampNeg) fun (x_8 : Int32) => (x_8, I, J, ri, rj, rq))))) := rfl
set_option maxHeartbeats 4000000 in
set_option maxRecDepth 100000 in
theorem s_X12_cellAt_c4 (l : Launch) (D : va_G) (t : pq_T) (σ : pq_S) (I : Nat → Nat → Int32) (J : Nat → Nat → Int64) (ri : Nat → Nat → Int32) (rj : Nat → Nat → Int64) (rq : Nat → Nat → Option Nat) (sz : Nat) (tg : Nat → Nat) (hSH : SH σ tg) (hG0 : GT tg I ri) (this : Nat) (a0 : Int32) (hL_this : this ∈ σ.1) (hK_this : σ.2.1 this = 12) (h_a0 : rg a0 0 39) : MetI l yX12_cellAt (wa yX12_cellAt cX12_cellAt 3 (some .int)) ({ frames := 0, cells := 0, slots := 0, locals := 0 }) [.ref this, .int a0, .int 4] D t σ (I, J, ri, rj, rq) sz 0 0 (fun (r : Int32) (u : pq_S × pq_M) => u = (σ, I, J, ri, rj, rq) ∧ g_X12_cellAt_c4 a0 (vI 12 σ this I) (vJ 12 σ this J) (vR 12 σ this ri) (vL 12 σ this rj) (vQ 12 σ this rq) = (r, (vI 12 σ this I), (vJ 12 σ this J), (vR 12 σ this ri), (vL 12 σ this rj), (vQ 12 σ this rq))) := by
  refine Met.ofW (cc := cX12_cellAt) (maxL := 3) (ret := (some .int)) (by decide) rfl ?_
  intro p e s m args below meth c s₁ B hml hv
  obtain ⟨rfl, hsz, hP, hK, hD0, hN⟩ := hv
  have hx := B.exec
  have hb := B.bytes
  have hr := B.returns
  have hts := atoms_spec (ws := (wa yX12_cellAt cX12_cellAt 3 (some .int))) B.pre
  have hown : s.vm.findClass RX12 = some m.cls := findClass_of_methodNamed B.named
  have hlocks := B.notSynchronized
  subst hsz
  have hD : va_D (pq_B t σ (I, J, ri, rj, rq) s.heap.size) (pq_P t σ (I, J, ri, rj, rq)) := hD0.self
  generalize hAe : pq_B t σ (I, J, ri, rj, rq) s.heap.size = A at hD ⊢
  have hA : ∀ q : Nat, s.heap.size ≤ q → A q := fun q h => by rw [← hAe]; exact Or.inr h
  have hS : va_S A s.heap s.heap [] := va_S.rf
  have hG : GM [] tg σ I ri I ri rq := ⟨hG0, fun _ _ _ => rfl, fun _ _ _ _ _ => rfl, fun _ _ _ _ _ _ => rfl⟩
  have hl := lv_entry ([.ref this, .int a0, .int 4]) (n := 3) (Nat.le_of_ble_eq_true rfl)
  rw [lg_entry_eq]
  generalize (lg_sl ([.ref this, .int a0, .int 4]) ++ List.replicate (3 - (lg_sl ([.ref this, .int a0, .int 4])).length) Slot.unset).toArray = ls at hl ⊢
  have hl : lv_has ls 3 [(0, .ref this), (1, .int a0), (2, .int 4)] := hl
  refine q_gen (fun Q hQ => ?_)
  have go : ∀ (H : Heap) (locs : List Loc) (ls : Array Slot), va_P D vwCl (pq_P t σ (I, J, ri, rj, rq)) H → va_D A (pq_P t σ (I, J, ri, rj, rq)) → va_S A s.heap H locs → lv_has ls 3 [(0, .ref this), (1, .int a0), (2, .int 4)] → W p l e ({ frames := 0, cells := 0, slots := 0, locals := 0 } : Room) s m (List.toArray ([.ref this, .int a0, .int 4] : List Value)) below meth c H locs 0 0 Q (F0 m 0 ls []) := by
    intro H locs ls hP hD hS hl
    have hO_this : this = vo σ 12 this := rfl
    have hVT : VT 12 σ tg this := vt_12 hSH hL_this hK_this
    have hFr : FR 12 tg σ this (I, J, ri, rj, rq) (I, J, ri, rj, rq) := fr_rf
    obtain ⟨F, hF0⟩ : ∃ F, F = g_X12_cellAt_c4 a0 (vI 12 σ this I) (vJ 12 σ this J) (vR 12 σ this ri) (vL 12 σ this rj) (vQ 12 σ this rq) := ⟨_, rfl⟩
    have hF := hF0.trans g_X12_cellAt_c4_e
    refine lv_aload_n hx hb dX12_cellAt_0 rfl (lv_at hl 0 rfl) ?_
    obtain ⟨w_1, hR_w_1, hL_w_1, hK_w_1, hN_w_1, hT_w_1⟩ := sh_a hSH 384 (ci := 12) (kd := 13) (len := 12720) rfl (by decide) hL_this hK_this
    have hO_w_1 : w_1 = vrow σ 384 this := vo_k (c := 12) hO_this hR_w_1
    refine pg_f (v := .ref w_1) (C := RX12) (T := TX12) (N := 31) hx hb hts (tw_i inlX12) hown hK hP hL_this hK_this (by decide) rfl 0 (by decide) (hts _ (tw_c tw_176)) (pq_hv rfl hR_w_1) dX12_cellAt_1 ?_
    refine lv_bipush (v := 100) hx hb dX12_cellAt_4 (by decide) ?_
    refine lv_bipush (v := 16) hx hb dX12_cellAt_6 (by decide) ?_
    refine lv_iload_n hx hb dX12_cellAt_8 rfl (lv_at hl 1 rfl) ?_
    refine lv_imul hx hb dX12_cellAt_9 ?_
    refine lv_topi (fun x_2 ex_2 => ?_)
    replace hF := hF.trans (ap_n ex_2)
    have h_3 : rg x_2 0 624 := rg_of_eq ex_2 (rg_mul (rg_k (16 : Int32) 16 rfl) h_a0 (by decide))
    have uh_3 := h_3.1
    have vh_3 := h_3.2
    have tx_2 : (x_2).toInt = 16 * (a0).toInt := by rw [ex_2]; exact i_mul_rg (a2 := 16) (b2 := (a0).toInt) rfl rfl (rg_k (16 : Int32) 16 rfl) h_a0 (by decide)
    refine lv_iadd hx hb dX12_cellAt_10 ?_
    refine lv_topi (fun x_4 ex_4 => ?_)
    replace hF := hF.trans (ap_n ex_4)
    have h_5 : rg x_4 100 724 := rg_of_eq ex_4 (rg_add (rg_k (100 : Int32) 100 rfl) h_3 (by decide))
    have uh_5 := h_5.1
    have vh_5 := h_5.2
    have tx_4 : (x_4).toInt = 100 + (x_2).toInt := by rw [ex_4]; exact i_add_rg (a2 := 100) (b2 := (x_2).toInt) rfl rfl (rg_k (100 : Int32) 100 rfl) h_3 (by decide)
    refine lv_iload_n hx hb dX12_cellAt_11 rfl (lv_at hl 2 rfl) ?_
    refine lv_iadd hx hb dX12_cellAt_12 ?_
    refine lv_topi (fun x_6 ex_6 => ?_)
    replace hF := hF.trans (ap_n ex_6)
    have h_7 : rg x_6 104 728 := rg_of_eq ex_6 (rg_add h_5 (rg_k (4 : Int32) 4 rfl) (by decide))
    have uh_7 := h_7.1
    have vh_7 := h_7.2
    have tx_6 : (x_6).toInt = (x_4).toInt + 4 := by rw [ex_6]; exact i_add_rg (a2 := (x_4).toInt) (b2 := 4) rfl rfl h_5 (rg_k (4 : Int32) 4 rfl) (by decide)
    refine pl_i hx hb hK hP hL_w_1 hK_w_1 hN_w_1 (rg_in h_7 (by decide)) dX12_cellAt_13 ?_
    refine lv_topi (fun x_8 ex_8 => ?_)
    replace hF := hF.trans (ap_n (vR_r hO_w_1 (by decide) ex_8))
    subst hQ
    exact W.iret (v := x_8) hx hb hr (fun t1 ht hW => ⟨⟨x_8, (σ, I, J, ri, rj, rq), rfl, ⟨rfl, (hF0.symm.trans hF)⟩, by rw [ht]; exact hP, va_K.moved hW.alike hK, hD⟩, hS.F ht⟩) hS.2.2 dX12_cellAt_14
  exact go _ _ _ hP hD hS hl

set_option maxRecDepth 100000 in
def g_X12_cellAt_c5 (a0 : Int32) (I : Nat → Int32) (J : Nat → Int64) (ri : Nat → Nat → Int32) (rj : Nat → Nat → Int64) (rq : Nat → Nat → Option Nat) : Int32 × vM := (ap1 ((16 : Int32) * a0) fun (x_2 : Int32) => (ap1 ((100 : Int32) + x_2) fun (x_4 : Int32) => (ap1 (x_4 + (5 : Int32)) fun (x_6 : Int32) => (ap1 (ri 384 (x_6).toNatClampNeg) fun (x_8 : Int32) => (x_8, I, J, ri, rj, rq)))))
set_option maxRecDepth 100000 in
theorem g_X12_cellAt_c5_e {a0 : Int32} {I : Nat → Int32} {J : Nat → Int64} {ri : Nat → Nat → Int32} {rj : Nat → Nat → Int64} {rq : Nat → Nat → Option Nat} : g_X12_cellAt_c5 a0 I J ri rj rq = (ap1 ((16 : Int32) * a0) fun (x_2 : Int32) => (ap1 ((100 : Int32) + x_2) fun (x_4 : Int32) => (ap1 (x_4 + (5 : Int32)) fun (x_6 : Int32) => (ap1 (ri 384 (x_6).toNatClampNeg) fun (x_8 : Int32) => (x_8, I, J, ri, rj, rq))))) := rfl
set_option maxHeartbeats 4000000 in
set_option maxRecDepth 100000 in
theorem s_X12_cellAt_c5 (l : Launch) (D : va_G) (t : pq_T) (σ : pq_S) (I : Nat → Nat → Int32) (J : Nat → Nat → Int64) (ri : Nat → Nat → Int32) (rj : Nat → Nat → Int64) (rq : Nat → Nat → Option Nat) (sz : Nat) (tg : Nat → Nat) (hSH : SH σ tg) (hG0 : GT tg I ri) (this : Nat) (a0 : Int32) (hL_this : this ∈ σ.1) (hK_this : σ.2.1 this = 12) (h_a0 : rg a0 0 39) : MetI l yX12_cellAt (wa yX12_cellAt cX12_cellAt 3 (some .int)) ({ frames := 0, cells := 0, slots := 0, locals := 0 }) [.ref this, .int a0, .int 5] D t σ (I, J, ri, rj, rq) sz 0 0 (fun (r : Int32) (u : pq_S × pq_M) => u = (σ, I, J, ri, rj, rq) ∧ g_X12_cellAt_c5 a0 (vI 12 σ this I) (vJ 12 σ this J) (vR 12 σ this ri) (vL 12 σ this rj) (vQ 12 σ this rq) = (r, (vI 12 σ this I), (vJ 12 σ this J), (vR 12 σ this ri), (vL 12 σ this rj), (vQ 12 σ this rq))) := by
  refine Met.ofW (cc := cX12_cellAt) (maxL := 3) (ret := (some .int)) (by decide) rfl ?_
  intro p e s m args below meth c s₁ B hml hv
  obtain ⟨rfl, hsz, hP, hK, hD0, hN⟩ := hv
  have hx := B.exec
  have hb := B.bytes
  have hr := B.returns
  have hts := atoms_spec (ws := (wa yX12_cellAt cX12_cellAt 3 (some .int))) B.pre
  have hown : s.vm.findClass RX12 = some m.cls := findClass_of_methodNamed B.named
  have hlocks := B.notSynchronized
  subst hsz
  have hD : va_D (pq_B t σ (I, J, ri, rj, rq) s.heap.size) (pq_P t σ (I, J, ri, rj, rq)) := hD0.self
  generalize hAe : pq_B t σ (I, J, ri, rj, rq) s.heap.size = A at hD ⊢
  have hA : ∀ q : Nat, s.heap.size ≤ q → A q := fun q h => by rw [← hAe]; exact Or.inr h
  have hS : va_S A s.heap s.heap [] := va_S.rf
  have hG : GM [] tg σ I ri I ri rq := ⟨hG0, fun _ _ _ => rfl, fun _ _ _ _ _ => rfl, fun _ _ _ _ _ _ => rfl⟩
  have hl := lv_entry ([.ref this, .int a0, .int 5]) (n := 3) (Nat.le_of_ble_eq_true rfl)
  rw [lg_entry_eq]
  generalize (lg_sl ([.ref this, .int a0, .int 5]) ++ List.replicate (3 - (lg_sl ([.ref this, .int a0, .int 5])).length) Slot.unset).toArray = ls at hl ⊢
  have hl : lv_has ls 3 [(0, .ref this), (1, .int a0), (2, .int 5)] := hl
  refine q_gen (fun Q hQ => ?_)
  have go : ∀ (H : Heap) (locs : List Loc) (ls : Array Slot), va_P D vwCl (pq_P t σ (I, J, ri, rj, rq)) H → va_D A (pq_P t σ (I, J, ri, rj, rq)) → va_S A s.heap H locs → lv_has ls 3 [(0, .ref this), (1, .int a0), (2, .int 5)] → W p l e ({ frames := 0, cells := 0, slots := 0, locals := 0 } : Room) s m (List.toArray ([.ref this, .int a0, .int 5] : List Value)) below meth c H locs 0 0 Q (F0 m 0 ls []) := by
    intro H locs ls hP hD hS hl
    have hO_this : this = vo σ 12 this := rfl
    have hVT : VT 12 σ tg this := vt_12 hSH hL_this hK_this
    have hFr : FR 12 tg σ this (I, J, ri, rj, rq) (I, J, ri, rj, rq) := fr_rf
    obtain ⟨F, hF0⟩ : ∃ F, F = g_X12_cellAt_c5 a0 (vI 12 σ this I) (vJ 12 σ this J) (vR 12 σ this ri) (vL 12 σ this rj) (vQ 12 σ this rq) := ⟨_, rfl⟩
    have hF := hF0.trans g_X12_cellAt_c5_e
    refine lv_aload_n hx hb dX12_cellAt_0 rfl (lv_at hl 0 rfl) ?_
    obtain ⟨w_1, hR_w_1, hL_w_1, hK_w_1, hN_w_1, hT_w_1⟩ := sh_a hSH 384 (ci := 12) (kd := 13) (len := 12720) rfl (by decide) hL_this hK_this
    have hO_w_1 : w_1 = vrow σ 384 this := vo_k (c := 12) hO_this hR_w_1
    refine pg_f (v := .ref w_1) (C := RX12) (T := TX12) (N := 31) hx hb hts (tw_i inlX12) hown hK hP hL_this hK_this (by decide) rfl 0 (by decide) (hts _ (tw_c tw_176)) (pq_hv rfl hR_w_1) dX12_cellAt_1 ?_
    refine lv_bipush (v := 100) hx hb dX12_cellAt_4 (by decide) ?_
    refine lv_bipush (v := 16) hx hb dX12_cellAt_6 (by decide) ?_
    refine lv_iload_n hx hb dX12_cellAt_8 rfl (lv_at hl 1 rfl) ?_
    refine lv_imul hx hb dX12_cellAt_9 ?_
    refine lv_topi (fun x_2 ex_2 => ?_)
    replace hF := hF.trans (ap_n ex_2)
    have h_3 : rg x_2 0 624 := rg_of_eq ex_2 (rg_mul (rg_k (16 : Int32) 16 rfl) h_a0 (by decide))
    have uh_3 := h_3.1
    have vh_3 := h_3.2
    have tx_2 : (x_2).toInt = 16 * (a0).toInt := by rw [ex_2]; exact i_mul_rg (a2 := 16) (b2 := (a0).toInt) rfl rfl (rg_k (16 : Int32) 16 rfl) h_a0 (by decide)
    refine lv_iadd hx hb dX12_cellAt_10 ?_
    refine lv_topi (fun x_4 ex_4 => ?_)
    replace hF := hF.trans (ap_n ex_4)
    have h_5 : rg x_4 100 724 := rg_of_eq ex_4 (rg_add (rg_k (100 : Int32) 100 rfl) h_3 (by decide))
    have uh_5 := h_5.1
    have vh_5 := h_5.2
    have tx_4 : (x_4).toInt = 100 + (x_2).toInt := by rw [ex_4]; exact i_add_rg (a2 := 100) (b2 := (x_2).toInt) rfl rfl (rg_k (100 : Int32) 100 rfl) h_3 (by decide)
    refine lv_iload_n hx hb dX12_cellAt_11 rfl (lv_at hl 2 rfl) ?_
    refine lv_iadd hx hb dX12_cellAt_12 ?_
    refine lv_topi (fun x_6 ex_6 => ?_)
    replace hF := hF.trans (ap_n ex_6)
    have h_7 : rg x_6 105 729 := rg_of_eq ex_6 (rg_add h_5 (rg_k (5 : Int32) 5 rfl) (by decide))
    have uh_7 := h_7.1
    have vh_7 := h_7.2
    have tx_6 : (x_6).toInt = (x_4).toInt + 5 := by rw [ex_6]; exact i_add_rg (a2 := (x_4).toInt) (b2 := 5) rfl rfl h_5 (rg_k (5 : Int32) 5 rfl) (by decide)
    refine pl_i hx hb hK hP hL_w_1 hK_w_1 hN_w_1 (rg_in h_7 (by decide)) dX12_cellAt_13 ?_
    refine lv_topi (fun x_8 ex_8 => ?_)
    replace hF := hF.trans (ap_n (vR_r hO_w_1 (by decide) ex_8))
    subst hQ
    exact W.iret (v := x_8) hx hb hr (fun t1 ht hW => ⟨⟨x_8, (σ, I, J, ri, rj, rq), rfl, ⟨rfl, (hF0.symm.trans hF)⟩, by rw [ht]; exact hP, va_K.moved hW.alike hK, hD⟩, hS.F ht⟩) hS.2.2 dX12_cellAt_14
  exact go _ _ _ hP hD hS hl

set_option maxRecDepth 100000 in
def g_X12_cellAt_c6 (a0 : Int32) (I : Nat → Int32) (J : Nat → Int64) (ri : Nat → Nat → Int32) (rj : Nat → Nat → Int64) (rq : Nat → Nat → Option Nat) : Int32 × vM := (ap1 ((16 : Int32) * a0) fun (x_2 : Int32) => (ap1 ((100 : Int32) + x_2) fun (x_4 : Int32) => (ap1 (x_4 + (6 : Int32)) fun (x_6 : Int32) => (ap1 (ri 384 (x_6).toNatClampNeg) fun (x_8 : Int32) => (x_8, I, J, ri, rj, rq)))))
set_option maxRecDepth 100000 in
theorem g_X12_cellAt_c6_e {a0 : Int32} {I : Nat → Int32} {J : Nat → Int64} {ri : Nat → Nat → Int32} {rj : Nat → Nat → Int64} {rq : Nat → Nat → Option Nat} : g_X12_cellAt_c6 a0 I J ri rj rq = (ap1 ((16 : Int32) * a0) fun (x_2 : Int32) => (ap1 ((100 : Int32) + x_2) fun (x_4 : Int32) => (ap1 (x_4 + (6 : Int32)) fun (x_6 : Int32) => (ap1 (ri 384 (x_6).toNatClampNeg) fun (x_8 : Int32) => (x_8, I, J, ri, rj, rq))))) := rfl
set_option maxHeartbeats 4000000 in
set_option maxRecDepth 100000 in
theorem s_X12_cellAt_c6 (l : Launch) (D : va_G) (t : pq_T) (σ : pq_S) (I : Nat → Nat → Int32) (J : Nat → Nat → Int64) (ri : Nat → Nat → Int32) (rj : Nat → Nat → Int64) (rq : Nat → Nat → Option Nat) (sz : Nat) (tg : Nat → Nat) (hSH : SH σ tg) (hG0 : GT tg I ri) (this : Nat) (a0 : Int32) (hL_this : this ∈ σ.1) (hK_this : σ.2.1 this = 12) (h_a0 : rg a0 0 39) : MetI l yX12_cellAt (wa yX12_cellAt cX12_cellAt 3 (some .int)) ({ frames := 0, cells := 0, slots := 0, locals := 0 }) [.ref this, .int a0, .int 6] D t σ (I, J, ri, rj, rq) sz 0 0 (fun (r : Int32) (u : pq_S × pq_M) => u = (σ, I, J, ri, rj, rq) ∧ g_X12_cellAt_c6 a0 (vI 12 σ this I) (vJ 12 σ this J) (vR 12 σ this ri) (vL 12 σ this rj) (vQ 12 σ this rq) = (r, (vI 12 σ this I), (vJ 12 σ this J), (vR 12 σ this ri), (vL 12 σ this rj), (vQ 12 σ this rq))) := by
  refine Met.ofW (cc := cX12_cellAt) (maxL := 3) (ret := (some .int)) (by decide) rfl ?_
  intro p e s m args below meth c s₁ B hml hv
  obtain ⟨rfl, hsz, hP, hK, hD0, hN⟩ := hv
  have hx := B.exec
  have hb := B.bytes
  have hr := B.returns
  have hts := atoms_spec (ws := (wa yX12_cellAt cX12_cellAt 3 (some .int))) B.pre
  have hown : s.vm.findClass RX12 = some m.cls := findClass_of_methodNamed B.named
  have hlocks := B.notSynchronized
  subst hsz
  have hD : va_D (pq_B t σ (I, J, ri, rj, rq) s.heap.size) (pq_P t σ (I, J, ri, rj, rq)) := hD0.self
  generalize hAe : pq_B t σ (I, J, ri, rj, rq) s.heap.size = A at hD ⊢
  have hA : ∀ q : Nat, s.heap.size ≤ q → A q := fun q h => by rw [← hAe]; exact Or.inr h
  have hS : va_S A s.heap s.heap [] := va_S.rf
  have hG : GM [] tg σ I ri I ri rq := ⟨hG0, fun _ _ _ => rfl, fun _ _ _ _ _ => rfl, fun _ _ _ _ _ _ => rfl⟩
  have hl := lv_entry ([.ref this, .int a0, .int 6]) (n := 3) (Nat.le_of_ble_eq_true rfl)
  rw [lg_entry_eq]
  generalize (lg_sl ([.ref this, .int a0, .int 6]) ++ List.replicate (3 - (lg_sl ([.ref this, .int a0, .int 6])).length) Slot.unset).toArray = ls at hl ⊢
  have hl : lv_has ls 3 [(0, .ref this), (1, .int a0), (2, .int 6)] := hl
  refine q_gen (fun Q hQ => ?_)
  have go : ∀ (H : Heap) (locs : List Loc) (ls : Array Slot), va_P D vwCl (pq_P t σ (I, J, ri, rj, rq)) H → va_D A (pq_P t σ (I, J, ri, rj, rq)) → va_S A s.heap H locs → lv_has ls 3 [(0, .ref this), (1, .int a0), (2, .int 6)] → W p l e ({ frames := 0, cells := 0, slots := 0, locals := 0 } : Room) s m (List.toArray ([.ref this, .int a0, .int 6] : List Value)) below meth c H locs 0 0 Q (F0 m 0 ls []) := by
    intro H locs ls hP hD hS hl
    have hO_this : this = vo σ 12 this := rfl
    have hVT : VT 12 σ tg this := vt_12 hSH hL_this hK_this
    have hFr : FR 12 tg σ this (I, J, ri, rj, rq) (I, J, ri, rj, rq) := fr_rf
    obtain ⟨F, hF0⟩ : ∃ F, F = g_X12_cellAt_c6 a0 (vI 12 σ this I) (vJ 12 σ this J) (vR 12 σ this ri) (vL 12 σ this rj) (vQ 12 σ this rq) := ⟨_, rfl⟩
    have hF := hF0.trans g_X12_cellAt_c6_e
    refine lv_aload_n hx hb dX12_cellAt_0 rfl (lv_at hl 0 rfl) ?_
    obtain ⟨w_1, hR_w_1, hL_w_1, hK_w_1, hN_w_1, hT_w_1⟩ := sh_a hSH 384 (ci := 12) (kd := 13) (len := 12720) rfl (by decide) hL_this hK_this
    have hO_w_1 : w_1 = vrow σ 384 this := vo_k (c := 12) hO_this hR_w_1
    refine pg_f (v := .ref w_1) (C := RX12) (T := TX12) (N := 31) hx hb hts (tw_i inlX12) hown hK hP hL_this hK_this (by decide) rfl 0 (by decide) (hts _ (tw_c tw_176)) (pq_hv rfl hR_w_1) dX12_cellAt_1 ?_
    refine lv_bipush (v := 100) hx hb dX12_cellAt_4 (by decide) ?_
    refine lv_bipush (v := 16) hx hb dX12_cellAt_6 (by decide) ?_
    refine lv_iload_n hx hb dX12_cellAt_8 rfl (lv_at hl 1 rfl) ?_
    refine lv_imul hx hb dX12_cellAt_9 ?_
    refine lv_topi (fun x_2 ex_2 => ?_)
    replace hF := hF.trans (ap_n ex_2)
    have h_3 : rg x_2 0 624 := rg_of_eq ex_2 (rg_mul (rg_k (16 : Int32) 16 rfl) h_a0 (by decide))
    have uh_3 := h_3.1
    have vh_3 := h_3.2
    have tx_2 : (x_2).toInt = 16 * (a0).toInt := by rw [ex_2]; exact i_mul_rg (a2 := 16) (b2 := (a0).toInt) rfl rfl (rg_k (16 : Int32) 16 rfl) h_a0 (by decide)
    refine lv_iadd hx hb dX12_cellAt_10 ?_
    refine lv_topi (fun x_4 ex_4 => ?_)
    replace hF := hF.trans (ap_n ex_4)
    have h_5 : rg x_4 100 724 := rg_of_eq ex_4 (rg_add (rg_k (100 : Int32) 100 rfl) h_3 (by decide))
    have uh_5 := h_5.1
    have vh_5 := h_5.2
    have tx_4 : (x_4).toInt = 100 + (x_2).toInt := by rw [ex_4]; exact i_add_rg (a2 := 100) (b2 := (x_2).toInt) rfl rfl (rg_k (100 : Int32) 100 rfl) h_3 (by decide)
    refine lv_iload_n hx hb dX12_cellAt_11 rfl (lv_at hl 2 rfl) ?_
    refine lv_iadd hx hb dX12_cellAt_12 ?_
    refine lv_topi (fun x_6 ex_6 => ?_)
    replace hF := hF.trans (ap_n ex_6)
    have h_7 : rg x_6 106 730 := rg_of_eq ex_6 (rg_add h_5 (rg_k (6 : Int32) 6 rfl) (by decide))
    have uh_7 := h_7.1
    have vh_7 := h_7.2
    have tx_6 : (x_6).toInt = (x_4).toInt + 6 := by rw [ex_6]; exact i_add_rg (a2 := (x_4).toInt) (b2 := 6) rfl rfl h_5 (rg_k (6 : Int32) 6 rfl) (by decide)
    refine pl_i hx hb hK hP hL_w_1 hK_w_1 hN_w_1 (rg_in h_7 (by decide)) dX12_cellAt_13 ?_
    refine lv_topi (fun x_8 ex_8 => ?_)
    replace hF := hF.trans (ap_n (vR_r hO_w_1 (by decide) ex_8))
    subst hQ
    exact W.iret (v := x_8) hx hb hr (fun t1 ht hW => ⟨⟨x_8, (σ, I, J, ri, rj, rq), rfl, ⟨rfl, (hF0.symm.trans hF)⟩, by rw [ht]; exact hP, va_K.moved hW.alike hK, hD⟩, hS.F ht⟩) hS.2.2 dX12_cellAt_14
  exact go _ _ _ hP hD hS hl

set_option maxRecDepth 100000 in
def g_X12_topOf (a0 : Int32) (I : Nat → Int32) (J : Nat → Int64) (ri : Nat → Nat → Int32) (rj : Nat → Nat → Int64) (rq : Nat → Nat → Option Nat) : Int32 × vM := (bnI (g_X12_cellAt_c1 a0 I J ri rj rq) fun (x_1 : Int32) (_ : Nat → Int32) (_ : Nat → Int64) (_ : Nat → Nat → Int32) (_ : Nat → Nat → Int64) (_ : Nat → Nat → Option Nat) => (bnI (g_X12_cellAt_c4 a0 I J ri rj rq) fun (x_8 : Int32) (_ : Nat → Int32) (_ : Nat → Int64) (_ : Nat → Nat → Int32) (_ : Nat → Nat → Int64) (_ : Nat → Nat → Option Nat) => (ap1 (x_1 + x_8) fun (x_15 : Int32) => (bnI (g_X12_cellAt_c5 a0 I J ri rj rq) fun (x_16 : Int32) (_ : Nat → Int32) (_ : Nat → Int64) (_ : Nat → Nat → Int32) (_ : Nat → Nat → Int64) (_ : Nat → Nat → Option Nat) => (ap1 (x_16 / (4 : Int32)) fun (x_23 : Int32) => (ap1 (x_15 + x_23) fun (x_24 : Int32) => (bnI (g_X12_cellAt_c6 a0 I J ri rj rq) fun (x_25 : Int32) (_ : Nat → Int32) (_ : Nat → Int64) (_ : Nat → Nat → Int32) (_ : Nat → Nat → Int64) (_ : Nat → Nat → Option Nat) => (ap1 (x_24 + x_25) fun (x_32 : Int32) => (x_32, I, J, ri, rj, rq)))))))))
set_option maxRecDepth 100000 in
theorem g_X12_topOf_e {a0 : Int32} {I : Nat → Int32} {J : Nat → Int64} {ri : Nat → Nat → Int32} {rj : Nat → Nat → Int64} {rq : Nat → Nat → Option Nat} : g_X12_topOf a0 I J ri rj rq = (bnI (g_X12_cellAt_c1 a0 I J ri rj rq) fun (x_1 : Int32) (_ : Nat → Int32) (_ : Nat → Int64) (_ : Nat → Nat → Int32) (_ : Nat → Nat → Int64) (_ : Nat → Nat → Option Nat) => (bnI (g_X12_cellAt_c4 a0 I J ri rj rq) fun (x_8 : Int32) (_ : Nat → Int32) (_ : Nat → Int64) (_ : Nat → Nat → Int32) (_ : Nat → Nat → Int64) (_ : Nat → Nat → Option Nat) => (ap1 (x_1 + x_8) fun (x_15 : Int32) => (bnI (g_X12_cellAt_c5 a0 I J ri rj rq) fun (x_16 : Int32) (_ : Nat → Int32) (_ : Nat → Int64) (_ : Nat → Nat → Int32) (_ : Nat → Nat → Int64) (_ : Nat → Nat → Option Nat) => (ap1 (x_16 / (4 : Int32)) fun (x_23 : Int32) => (ap1 (x_15 + x_23) fun (x_24 : Int32) => (bnI (g_X12_cellAt_c6 a0 I J ri rj rq) fun (x_25 : Int32) (_ : Nat → Int32) (_ : Nat → Int64) (_ : Nat → Nat → Int32) (_ : Nat → Nat → Int64) (_ : Nat → Nat → Option Nat) => (ap1 (x_24 + x_25) fun (x_32 : Int32) => (x_32, I, J, ri, rj, rq))))))))) := rfl
set_option maxHeartbeats 4000000 in
set_option maxRecDepth 100000 in
theorem s_X12_topOf (l : Launch) (D : va_G) (t : pq_T) (σ : pq_S) (I : Nat → Nat → Int32) (J : Nat → Nat → Int64) (ri : Nat → Nat → Int32) (rj : Nat → Nat → Int64) (rq : Nat → Nat → Option Nat) (sz : Nat) (tg : Nat → Nat) (hSH : SH σ tg) (hG0 : GT tg I ri) (this : Nat) (a0 : Int32) (hL_this : this ∈ σ.1) (hK_this : σ.2.1 this = 12) (h_a0 : rg a0 0 39) : MetI l yX12_topOf (wa yX12_topOf cX12_topOf 2 (some .int)) ({ frames := 1, cells := 0, slots := 0, locals := 22 }) [.ref this, .int a0] D t σ (I, J, ri, rj, rq) sz 0 0 (fun (r : Int32) (u : pq_S × pq_M) => u = (σ, I, J, ri, rj, rq) ∧ g_X12_topOf a0 (vI 12 σ this I) (vJ 12 σ this J) (vR 12 σ this ri) (vL 12 σ this rj) (vQ 12 σ this rq) = (r, (vI 12 σ this I), (vJ 12 σ this J), (vR 12 σ this ri), (vL 12 σ this rj), (vQ 12 σ this rq))) := by
  refine Met.ofW (cc := cX12_topOf) (maxL := 2) (ret := (some .int)) (by decide) rfl ?_
  intro p e s m args below meth c s₁ B hml hv
  obtain ⟨rfl, hsz, hP, hK, hD0, hN⟩ := hv
  have hx := B.exec
  have hb := B.bytes
  have hr := B.returns
  have hts := atoms_spec (ws := (wa yX12_topOf cX12_topOf 2 (some .int))) B.pre
  have hown : s.vm.findClass RX12 = some m.cls := findClass_of_methodNamed B.named
  have hlocks := B.notSynchronized
  subst hsz
  have hD : va_D (pq_B t σ (I, J, ri, rj, rq) s.heap.size) (pq_P t σ (I, J, ri, rj, rq)) := hD0.self
  generalize hAe : pq_B t σ (I, J, ri, rj, rq) s.heap.size = A at hD ⊢
  have hA : ∀ q : Nat, s.heap.size ≤ q → A q := fun q h => by rw [← hAe]; exact Or.inr h
  have hS : va_S A s.heap s.heap [] := va_S.rf
  have hG : GM [] tg σ I ri I ri rq := ⟨hG0, fun _ _ _ => rfl, fun _ _ _ _ _ => rfl, fun _ _ _ _ _ _ => rfl⟩
  have hl := lv_entry ([.ref this, .int a0]) (n := 2) (Nat.le_of_ble_eq_true rfl)
  rw [lg_entry_eq]
  generalize (lg_sl ([.ref this, .int a0]) ++ List.replicate (2 - (lg_sl ([.ref this, .int a0])).length) Slot.unset).toArray = ls at hl ⊢
  have hl : lv_has ls 2 [(0, .ref this), (1, .int a0)] := hl
  refine q_gen (fun Q hQ => ?_)
  have go : ∀ (H : Heap) (locs : List Loc) (ls : Array Slot), va_P D vwCl (pq_P t σ (I, J, ri, rj, rq)) H → va_D A (pq_P t σ (I, J, ri, rj, rq)) → va_S A s.heap H locs → lv_has ls 2 [(0, .ref this), (1, .int a0)] → W p l e ({ frames := 1, cells := 0, slots := 0, locals := 22 } : Room) s m (List.toArray ([.ref this, .int a0] : List Value)) below meth c H locs 0 0 Q (F0 m 0 ls []) := by
    intro H locs ls hP hD hS hl
    have hO_this : this = vo σ 12 this := rfl
    have hVT : VT 12 σ tg this := vt_12 hSH hL_this hK_this
    have hFr : FR 12 tg σ this (I, J, ri, rj, rq) (I, J, ri, rj, rq) := fr_rf
    obtain ⟨F, hF0⟩ : ∃ F, F = g_X12_topOf a0 (vI 12 σ this I) (vJ 12 σ this J) (vR 12 σ this ri) (vL 12 σ this rj) (vQ 12 σ this rq) := ⟨_, rfl⟩
    have hF := hF0.trans g_X12_topOf_e
    refine lv_aload_n hx hb dX12_topOf_0 rfl (lv_at hl 0 rfl) ?_
    refine lv_iload_n hx hb dX12_topOf_1 rfl (lv_at hl 1 rfl) ?_
    refine lv_iconst (v := 1) hx hb dX12_topOf_2 (by decide) ?_
    refine pk_i (va_runV (As := [.int a0, .int 1]) (rest := []) ⟨hx, hb, hml, hown, hts⟩ (s_X12_cellAt_c1 l D t σ I J ri rj rq H.size tg hSH hG.1 this a0 hL_this hK_this (rg_w h_a0 (by decide))) (cwV 2 hts (tw_V tw_361 tw_362 tw_363 tw_5 tw_364) rfl rfl rfl cv_yX12_cellAt_2 ⟨Nat.le_of_ble_eq_true rfl, Nat.le_of_ble_eq_true rfl⟩) ⟨pq_blind, pq_recv hK hP hL_this hK_this (by decide) rfl, pq_pre hK hN hP hD⟩ rfl rfl hl.1 rfl (lv_room (Nat.le_of_ble_eq_true rfl)) dX12_topOf_3 ⟨Nat.le_of_ble_eq_true rfl, Nat.le_of_ble_eq_true rfl⟩) hD hS hA (fun x_1 σ1 μ1 H locs hw_2 hP hD hS => ?_)
    obtain ⟨hu_3, hfn_6⟩ := hw_2
    obtain ⟨hu_3a, hu_3b⟩ := Prod.mk.inj hu_3
    rw [hu_3a, hu_3b] at hP hD
    replace hF := hF.trans (bn_n hfn_6)
    refine lv_aload_n hx hb dX12_topOf_6 rfl (lv_at hl 0 rfl) ?_
    refine lv_iload_n hx hb dX12_topOf_7 rfl (lv_at hl 1 rfl) ?_
    refine lv_iconst (v := 4) hx hb dX12_topOf_8 (by decide) ?_
    refine pk_i (va_runV (As := [.int a0, .int 4]) (rest := [.int x_1]) ⟨hx, hb, hml, hown, hts⟩ (s_X12_cellAt_c4 l D t σ I J ri rj rq H.size tg hSH hG.1 this a0 hL_this hK_this (rg_w h_a0 (by decide))) (cwV 2 hts (tw_V tw_361 tw_362 tw_363 tw_5 tw_364) rfl rfl rfl cv_yX12_cellAt_2 ⟨Nat.le_of_ble_eq_true rfl, Nat.le_of_ble_eq_true rfl⟩) ⟨pq_blind, pq_recv hK hP hL_this hK_this (by decide) rfl, pq_pre hK hN hP hD⟩ rfl rfl hl.1 rfl (lv_room (Nat.le_of_ble_eq_true rfl)) dX12_topOf_9 ⟨Nat.le_of_ble_eq_true rfl, Nat.le_of_ble_eq_true rfl⟩) hD hS hA (fun x_8 σ1 μ1 H locs hw_9 hP hD hS => ?_)
    obtain ⟨hu_10, hfn_13⟩ := hw_9
    obtain ⟨hu_10a, hu_10b⟩ := Prod.mk.inj hu_10
    rw [hu_10a, hu_10b] at hP hD
    replace hF := hF.trans (bn_n hfn_13)
    refine lv_iadd hx hb dX12_topOf_12 ?_
    refine lv_topi (fun x_15 ex_15 => ?_)
    replace hF := hF.trans (ap_n ex_15)
    refine lv_aload_n hx hb dX12_topOf_13 rfl (lv_at hl 0 rfl) ?_
    refine lv_iload_n hx hb dX12_topOf_14 rfl (lv_at hl 1 rfl) ?_
    refine lv_iconst (v := 5) hx hb dX12_topOf_15 (by decide) ?_
    refine pk_i (va_runV (As := [.int a0, .int 5]) (rest := [.int x_15]) ⟨hx, hb, hml, hown, hts⟩ (s_X12_cellAt_c5 l D t σ I J ri rj rq H.size tg hSH hG.1 this a0 hL_this hK_this (rg_w h_a0 (by decide))) (cwV 2 hts (tw_V tw_361 tw_362 tw_363 tw_5 tw_364) rfl rfl rfl cv_yX12_cellAt_2 ⟨Nat.le_of_ble_eq_true rfl, Nat.le_of_ble_eq_true rfl⟩) ⟨pq_blind, pq_recv hK hP hL_this hK_this (by decide) rfl, pq_pre hK hN hP hD⟩ rfl rfl hl.1 rfl (lv_room (Nat.le_of_ble_eq_true rfl)) dX12_topOf_16 ⟨Nat.le_of_ble_eq_true rfl, Nat.le_of_ble_eq_true rfl⟩) hD hS hA (fun x_16 σ1 μ1 H locs hw_17 hP hD hS => ?_)
    obtain ⟨hu_18, hfn_21⟩ := hw_17
    obtain ⟨hu_18a, hu_18b⟩ := Prod.mk.inj hu_18
    rw [hu_18a, hu_18b] at hP hD
    replace hF := hF.trans (bn_n hfn_21)
    refine lv_iconst (v := 4) hx hb dX12_topOf_19 (by decide) ?_
    refine lv_idiv hx hb dX12_topOf_20 (by decide) ?_
    refine lv_topi (fun x_23 ex_23 => ?_)
    replace hF := hF.trans (ap_n ex_23)
    refine lv_iadd hx hb dX12_topOf_21 ?_
    refine lv_topi (fun x_24 ex_24 => ?_)
    replace hF := hF.trans (ap_n ex_24)
    refine lv_aload_n hx hb dX12_topOf_22 rfl (lv_at hl 0 rfl) ?_
    refine lv_iload_n hx hb dX12_topOf_23 rfl (lv_at hl 1 rfl) ?_
    refine lv_bipush (v := 6) hx hb dX12_topOf_24 (by decide) ?_
    refine pk_i (va_runV (As := [.int a0, .int 6]) (rest := [.int x_24]) ⟨hx, hb, hml, hown, hts⟩ (s_X12_cellAt_c6 l D t σ I J ri rj rq H.size tg hSH hG.1 this a0 hL_this hK_this (rg_w h_a0 (by decide))) (cwV 2 hts (tw_V tw_361 tw_362 tw_363 tw_5 tw_364) rfl rfl rfl cv_yX12_cellAt_2 ⟨Nat.le_of_ble_eq_true rfl, Nat.le_of_ble_eq_true rfl⟩) ⟨pq_blind, pq_recv hK hP hL_this hK_this (by decide) rfl, pq_pre hK hN hP hD⟩ rfl rfl hl.1 rfl (lv_room (Nat.le_of_ble_eq_true rfl)) dX12_topOf_26 ⟨Nat.le_of_ble_eq_true rfl, Nat.le_of_ble_eq_true rfl⟩) hD hS hA (fun x_25 σ1 μ1 H locs hw_26 hP hD hS => ?_)
    obtain ⟨hu_27, hfn_30⟩ := hw_26
    obtain ⟨hu_27a, hu_27b⟩ := Prod.mk.inj hu_27
    rw [hu_27a, hu_27b] at hP hD
    replace hF := hF.trans (bn_n hfn_30)
    refine lv_iadd hx hb dX12_topOf_29 ?_
    refine lv_topi (fun x_32 ex_32 => ?_)
    replace hF := hF.trans (ap_n ex_32)
    subst hQ
    exact W.iret (v := x_32) hx hb hr (fun t1 ht hW => ⟨⟨x_32, (σ, I, J, ri, rj, rq), rfl, ⟨rfl, (hF0.symm.trans hF)⟩, by rw [ht]; exact hP, va_K.moved hW.alike hK, hD⟩, hS.F ht⟩) hS.2.2 dX12_topOf_30
  exact go _ _ _ hP hD hS hl

set_option maxRecDepth 100000 in
def g_X12_tableAt_c2 (a0 : Int32) (I : Nat → Int32) (J : Nat → Int64) (ri : Nat → Nat → Int32) (rj : Nat → Nat → Int64) (rq : Nat → Nat → Option Nat) : Int32 × vM := (ap1 (a0 - a0 / (12 : Int32) * (12 : Int32)) fun (x_2 : Int32) => (ap1 ((5 : Int32) * x_2) fun (x_4 : Int32) => (ap1 ((20 : Int32) + x_4) fun (x_6 : Int32) => (ap1 (x_6 + (2 : Int32)) fun (x_8 : Int32) => (ap1 (ri 384 (x_8).toNatClampNeg) fun (x_10 : Int32) => (x_10, I, J, ri, rj, rq))))))
set_option maxRecDepth 100000 in
theorem g_X12_tableAt_c2_e {a0 : Int32} {I : Nat → Int32} {J : Nat → Int64} {ri : Nat → Nat → Int32} {rj : Nat → Nat → Int64} {rq : Nat → Nat → Option Nat} : g_X12_tableAt_c2 a0 I J ri rj rq = (ap1 (a0 - a0 / (12 : Int32) * (12 : Int32)) fun (x_2 : Int32) => (ap1 ((5 : Int32) * x_2) fun (x_4 : Int32) => (ap1 ((20 : Int32) + x_4) fun (x_6 : Int32) => (ap1 (x_6 + (2 : Int32)) fun (x_8 : Int32) => (ap1 (ri 384 (x_8).toNatClampNeg) fun (x_10 : Int32) => (x_10, I, J, ri, rj, rq)))))) := rfl
set_option maxHeartbeats 4000000 in
set_option maxRecDepth 100000 in
theorem s_X12_tableAt_c2 (l : Launch) (D : va_G) (t : pq_T) (σ : pq_S) (I : Nat → Nat → Int32) (J : Nat → Nat → Int64) (ri : Nat → Nat → Int32) (rj : Nat → Nat → Int64) (rq : Nat → Nat → Option Nat) (sz : Nat) (tg : Nat → Nat) (hSH : SH σ tg) (hG0 : GT tg I ri) (this : Nat) (a0 : Int32) (hL_this : this ∈ σ.1) (hK_this : σ.2.1 this = 12) (h_a0 : rg a0 0 600) : MetI l yX12_tableAt (wa yX12_tableAt cX12_tableAt 3 (some .int)) ({ frames := 0, cells := 0, slots := 0, locals := 0 }) [.ref this, .int a0, .int 2] D t σ (I, J, ri, rj, rq) sz 0 0 (fun (r : Int32) (u : pq_S × pq_M) => u = (σ, I, J, ri, rj, rq) ∧ g_X12_tableAt_c2 a0 (vI 12 σ this I) (vJ 12 σ this J) (vR 12 σ this ri) (vL 12 σ this rj) (vQ 12 σ this rq) = (r, (vI 12 σ this I), (vJ 12 σ this J), (vR 12 σ this ri), (vL 12 σ this rj), (vQ 12 σ this rq))) := by
  refine Met.ofW (cc := cX12_tableAt) (maxL := 3) (ret := (some .int)) (by decide) rfl ?_
  intro p e s m args below meth c s₁ B hml hv
  obtain ⟨rfl, hsz, hP, hK, hD0, hN⟩ := hv
  have hx := B.exec
  have hb := B.bytes
  have hr := B.returns
  have hts := atoms_spec (ws := (wa yX12_tableAt cX12_tableAt 3 (some .int))) B.pre
  have hown : s.vm.findClass RX12 = some m.cls := findClass_of_methodNamed B.named
  have hlocks := B.notSynchronized
  subst hsz
  have hD : va_D (pq_B t σ (I, J, ri, rj, rq) s.heap.size) (pq_P t σ (I, J, ri, rj, rq)) := hD0.self
  generalize hAe : pq_B t σ (I, J, ri, rj, rq) s.heap.size = A at hD ⊢
  have hA : ∀ q : Nat, s.heap.size ≤ q → A q := fun q h => by rw [← hAe]; exact Or.inr h
  have hS : va_S A s.heap s.heap [] := va_S.rf
  have hG : GM [] tg σ I ri I ri rq := ⟨hG0, fun _ _ _ => rfl, fun _ _ _ _ _ => rfl, fun _ _ _ _ _ _ => rfl⟩
  have hl := lv_entry ([.ref this, .int a0, .int 2]) (n := 3) (Nat.le_of_ble_eq_true rfl)
  rw [lg_entry_eq]
  generalize (lg_sl ([.ref this, .int a0, .int 2]) ++ List.replicate (3 - (lg_sl ([.ref this, .int a0, .int 2])).length) Slot.unset).toArray = ls at hl ⊢
  have hl : lv_has ls 3 [(0, .ref this), (1, .int a0), (2, .int 2)] := hl
  refine q_gen (fun Q hQ => ?_)
  have go : ∀ (H : Heap) (locs : List Loc) (ls : Array Slot), va_P D vwCl (pq_P t σ (I, J, ri, rj, rq)) H → va_D A (pq_P t σ (I, J, ri, rj, rq)) → va_S A s.heap H locs → lv_has ls 3 [(0, .ref this), (1, .int a0), (2, .int 2)] → W p l e ({ frames := 0, cells := 0, slots := 0, locals := 0 } : Room) s m (List.toArray ([.ref this, .int a0, .int 2] : List Value)) below meth c H locs 0 0 Q (F0 m 0 ls []) := by
    intro H locs ls hP hD hS hl
    have hO_this : this = vo σ 12 this := rfl
    have hVT : VT 12 σ tg this := vt_12 hSH hL_this hK_this
    have hFr : FR 12 tg σ this (I, J, ri, rj, rq) (I, J, ri, rj, rq) := fr_rf
    obtain ⟨F, hF0⟩ : ∃ F, F = g_X12_tableAt_c2 a0 (vI 12 σ this I) (vJ 12 σ this J) (vR 12 σ this ri) (vL 12 σ this rj) (vQ 12 σ this rq) := ⟨_, rfl⟩
    have hF := hF0.trans g_X12_tableAt_c2_e
    refine lv_aload_n hx hb dX12_tableAt_0 rfl (lv_at hl 0 rfl) ?_
    obtain ⟨w_1, hR_w_1, hL_w_1, hK_w_1, hN_w_1, hT_w_1⟩ := sh_a hSH 384 (ci := 12) (kd := 13) (len := 12720) rfl (by decide) hL_this hK_this
    have hO_w_1 : w_1 = vrow σ 384 this := vo_k (c := 12) hO_this hR_w_1
    refine pg_f (v := .ref w_1) (C := RX12) (T := TX12) (N := 31) hx hb hts (tw_i inlX12) hown hK hP hL_this hK_this (by decide) rfl 0 (by decide) (hts _ (tw_c tw_176)) (pq_hv rfl hR_w_1) dX12_tableAt_1 ?_
    refine lv_bipush (v := 20) hx hb dX12_tableAt_4 (by decide) ?_
    refine lv_iconst (v := 5) hx hb dX12_tableAt_6 (by decide) ?_
    refine lv_iload_n hx hb dX12_tableAt_7 rfl (lv_at hl 1 rfl) ?_
    refine lv_bipush (v := 12) hx hb dX12_tableAt_8 (by decide) ?_
    refine lv_irem hx hb dX12_tableAt_10 (by decide) ?_
    refine lv_topi (fun x_2 ex_2 => ?_)
    replace hF := hF.trans (ap_n ex_2)
    have h_3 : rg x_2 0 11 := rg_of_eq ex_2 (rg_rem h_a0 rfl (by decide))
    have uh_3 := h_3.1
    have vh_3 := h_3.2
    refine lv_imul hx hb dX12_tableAt_11 ?_
    refine lv_topi (fun x_4 ex_4 => ?_)
    replace hF := hF.trans (ap_n ex_4)
    have h_5 : rg x_4 0 55 := rg_of_eq ex_4 (rg_mul (rg_k (5 : Int32) 5 rfl) h_3 (by decide))
    have uh_5 := h_5.1
    have vh_5 := h_5.2
    have tx_4 : (x_4).toInt = 5 * (x_2).toInt := by rw [ex_4]; exact i_mul_rg (a2 := 5) (b2 := (x_2).toInt) rfl rfl (rg_k (5 : Int32) 5 rfl) h_3 (by decide)
    refine lv_iadd hx hb dX12_tableAt_12 ?_
    refine lv_topi (fun x_6 ex_6 => ?_)
    replace hF := hF.trans (ap_n ex_6)
    have h_7 : rg x_6 20 75 := rg_of_eq ex_6 (rg_add (rg_k (20 : Int32) 20 rfl) h_5 (by decide))
    have uh_7 := h_7.1
    have vh_7 := h_7.2
    have tx_6 : (x_6).toInt = 20 + (x_4).toInt := by rw [ex_6]; exact i_add_rg (a2 := 20) (b2 := (x_4).toInt) rfl rfl (rg_k (20 : Int32) 20 rfl) h_5 (by decide)
    refine lv_iload_n hx hb dX12_tableAt_13 rfl (lv_at hl 2 rfl) ?_
    refine lv_iadd hx hb dX12_tableAt_14 ?_
    refine lv_topi (fun x_8 ex_8 => ?_)
    replace hF := hF.trans (ap_n ex_8)
    have h_9 : rg x_8 22 77 := rg_of_eq ex_8 (rg_add h_7 (rg_k (2 : Int32) 2 rfl) (by decide))
    have uh_9 := h_9.1
    have vh_9 := h_9.2
    have tx_8 : (x_8).toInt = (x_6).toInt + 2 := by rw [ex_8]; exact i_add_rg (a2 := (x_6).toInt) (b2 := 2) rfl rfl h_7 (rg_k (2 : Int32) 2 rfl) (by decide)
    refine pl_i hx hb hK hP hL_w_1 hK_w_1 hN_w_1 (rg_in h_9 (by decide)) dX12_tableAt_15 ?_
    refine lv_topi (fun x_10 ex_10 => ?_)
    replace hF := hF.trans (ap_n (vR_r hO_w_1 (by decide) ex_10))
    subst hQ
    exact W.iret (v := x_10) hx hb hr (fun t1 ht hW => ⟨⟨x_10, (σ, I, J, ri, rj, rq), rfl, ⟨rfl, (hF0.symm.trans hF)⟩, by rw [ht]; exact hP, va_K.moved hW.alike hK, hD⟩, hS.F ht⟩) hS.2.2 dX12_tableAt_16
  exact go _ _ _ hP hD hS hl

set_option maxRecDepth 100000 in
def g_X12_reefGoes_K102 (x_652 : Int32) (k_g_X12_reefGoes_L2 : (Int32) → (Nat → Nat → Int32) → vM) (ri_798 : Nat → Nat → Int32) : vM := (ap1 (x_652 + Int32.ofInt 1) fun (x_802 : Int32) => (k_g_X12_reefGoes_L2 x_802 ri_798))
set_option maxRecDepth 100000 in
theorem g_X12_reefGoes_K102_e {x_652 : Int32} {k_g_X12_reefGoes_L2 : (Int32) → (Nat → Nat → Int32) → vM} {ri_798 : Nat → Nat → Int32} : g_X12_reefGoes_K102 x_652 k_g_X12_reefGoes_L2 ri_798 = (ap1 (x_652 + Int32.ofInt 1) fun (x_802 : Int32) => (k_g_X12_reefGoes_L2 x_802 ri_798)) := rfl
set_option maxRecDepth 100000 in
def g_X12_reefGoes_K86 (x_652 : Int32) (k_g_X12_reefGoes_L2 : (Int32) → (Nat → Nat → Int32) → vM) (x_729 : Int32) (ri_779 : Nat → Nat → Int32) : vM := (ap1 (ri_779 384 (x_729).toNatClampNeg) fun (x_791 : Int32) => (if (0 : Int32) ≤ x_791 then (g_X12_reefGoes_K102 x_652 k_g_X12_reefGoes_L2 ri_779) else (ap1 (va_up ri_779 384 (upd (ri_779 384) (x_729).toNatClampNeg (0 : Int32))) fun (r_813 : Nat → Nat → Int32) => (g_X12_reefGoes_K102 x_652 k_g_X12_reefGoes_L2 r_813))))
set_option maxRecDepth 100000 in
theorem g_X12_reefGoes_K86_e {x_652 : Int32} {k_g_X12_reefGoes_L2 : (Int32) → (Nat → Nat → Int32) → vM} {x_729 : Int32} {ri_779 : Nat → Nat → Int32} : g_X12_reefGoes_K86 x_652 k_g_X12_reefGoes_L2 x_729 ri_779 = (ap1 (ri_779 384 (x_729).toNatClampNeg) fun (x_791 : Int32) => (if (0 : Int32) ≤ x_791 then (g_X12_reefGoes_K102 x_652 k_g_X12_reefGoes_L2 ri_779) else (ap1 (va_up ri_779 384 (upd (ri_779 384) (x_729).toNatClampNeg (0 : Int32))) fun (r_813 : Nat → Nat → Int32) => (g_X12_reefGoes_K102 x_652 k_g_X12_reefGoes_L2 r_813)))) := rfl
set_option maxRecDepth 100000 in
def g_X12_reefGoes_K63 (x_652 : Int32) (ri_653 : Nat → Nat → Int32) (k_g_X12_reefGoes_L2 : (Int32) → (Nat → Nat → Int32) → vM) (x_729 : Int32) (x_731 : Int32) (x_748 : Int32) : vM := (ap1 (x_731 + x_748) fun (x_770 : Int32) => (ap1 (va_up ri_653 384 (upd (ri_653 384) (x_729).toNatClampNeg x_770)) fun (r_771 : Nat → Nat → Int32) => (ap1 (r_771 384 (x_729).toNatClampNeg) fun (x_772 : Int32) => (if x_772 ≤ (400 : Int32) then (g_X12_reefGoes_K86 x_652 k_g_X12_reefGoes_L2 x_729 r_771) else (ap1 (va_up r_771 384 (upd (r_771 384) (x_729).toNatClampNeg (400 : Int32))) fun (r_823 : Nat → Nat → Int32) => (g_X12_reefGoes_K86 x_652 k_g_X12_reefGoes_L2 x_729 r_823))))))
set_option maxRecDepth 100000 in
theorem g_X12_reefGoes_K63_e {x_652 : Int32} {ri_653 : Nat → Nat → Int32} {k_g_X12_reefGoes_L2 : (Int32) → (Nat → Nat → Int32) → vM} {x_729 : Int32} {x_731 : Int32} {x_748 : Int32} : g_X12_reefGoes_K63 x_652 ri_653 k_g_X12_reefGoes_L2 x_729 x_731 x_748 = (ap1 (x_731 + x_748) fun (x_770 : Int32) => (ap1 (va_up ri_653 384 (upd (ri_653 384) (x_729).toNatClampNeg x_770)) fun (r_771 : Nat → Nat → Int32) => (ap1 (r_771 384 (x_729).toNatClampNeg) fun (x_772 : Int32) => (if x_772 ≤ (400 : Int32) then (g_X12_reefGoes_K86 x_652 k_g_X12_reefGoes_L2 x_729 r_771) else (ap1 (va_up r_771 384 (upd (r_771 384) (x_729).toNatClampNeg (400 : Int32))) fun (r_823 : Nat → Nat → Int32) => (g_X12_reefGoes_K86 x_652 k_g_X12_reefGoes_L2 x_729 r_823)))))) := rfl
set_option maxRecDepth 100000 in
def g_X12_reefGoes_L2 (a0 : Int32) (I : Nat → Int32) (J : Nat → Int64) (ri : Nat → Nat → Int32) (rj : Nat → Nat → Int64) (rq : Nat → Nat → Option Nat) : Nat → (Int32) → (Nat → Nat → Int32) → vM
  | 0, x_652, ri_653 => (I, J, ri_653, rj, rq)
  | n_708 + 1, x_652, ri_653 => (ap1 (ri 384 2) fun (y_715 : Int32) => (if (y_715) ≤ x_652 then (I, J, ri_653, rj, rq) else (ap1 ((16 : Int32) * x_652) fun (x_725 : Int32) => (ap1 ((100 : Int32) + x_725) fun (x_727 : Int32) => (ap1 (x_727 + (5 : Int32)) fun (x_729 : Int32) => (ap1 (ri_653 384 (x_729).toNatClampNeg) fun (x_731 : Int32) => (bnI (g_X12_tableAt_c2 a0 I J ri_653 rj rq) fun (x_732 : Int32) (_ : Nat → Int32) (_ : Nat → Int64) (_ : Nat → Nat → Int32) (_ : Nat → Nat → Int64) (_ : Nat → Nat → Option Nat) => (ap1 (ri_653 384 ((13 : Int32)).toNatClampNeg) fun (x_739 : Int32) => (if x_739 < x_732 then (ap1 (ri_653 384 ((15 : Int32)).toNatClampNeg) fun (x_832 : Int32) => (ap1 (-x_832) fun (x_833 : Int32) => (g_X12_reefGoes_K63 x_652 ri_653 (g_X12_reefGoes_L2 a0 I J ri rj rq n_708) x_729 x_731 x_833))) else (ap1 (ri_653 384 ((14 : Int32)).toNatClampNeg) fun (x_835 : Int32) => (g_X12_reefGoes_K63 x_652 ri_653 (g_X12_reefGoes_L2 a0 I J ri rj rq n_708) x_729 x_731 x_835)))))))))))
set_option maxRecDepth 100000 in
theorem g_X12_reefGoes_L2_e {a0 : Int32} {I : Nat → Int32} {J : Nat → Int64} {ri : Nat → Nat → Int32} {rj : Nat → Nat → Int64} {rq : Nat → Nat → Option Nat} {n_708 : Nat} {x_652 : Int32} {ri_653 : Nat → Nat → Int32} : g_X12_reefGoes_L2 a0 I J ri rj rq (n_708 + 1) x_652 ri_653 = (ap1 (ri 384 2) fun (y_715 : Int32) => (if (y_715) ≤ x_652 then (I, J, ri_653, rj, rq) else (ap1 ((16 : Int32) * x_652) fun (x_725 : Int32) => (ap1 ((100 : Int32) + x_725) fun (x_727 : Int32) => (ap1 (x_727 + (5 : Int32)) fun (x_729 : Int32) => (ap1 (ri_653 384 (x_729).toNatClampNeg) fun (x_731 : Int32) => (bnI (g_X12_tableAt_c2 a0 I J ri_653 rj rq) fun (x_732 : Int32) (_ : Nat → Int32) (_ : Nat → Int64) (_ : Nat → Nat → Int32) (_ : Nat → Nat → Int64) (_ : Nat → Nat → Option Nat) => (ap1 (ri_653 384 ((13 : Int32)).toNatClampNeg) fun (x_739 : Int32) => (if x_739 < x_732 then (ap1 (ri_653 384 ((15 : Int32)).toNatClampNeg) fun (x_832 : Int32) => (ap1 (-x_832) fun (x_833 : Int32) => (g_X12_reefGoes_K63 x_652 ri_653 (g_X12_reefGoes_L2 a0 I J ri rj rq n_708) x_729 x_731 x_833))) else (ap1 (ri_653 384 ((14 : Int32)).toNatClampNeg) fun (x_835 : Int32) => (g_X12_reefGoes_K63 x_652 ri_653 (g_X12_reefGoes_L2 a0 I J ri rj rq n_708) x_729 x_731 x_835))))))))))) := rfl
set_option maxRecDepth 100000 in
def g_X12_reefGoes (a0 : Int32) (I : Nat → Int32) (J : Nat → Int64) (ri : Nat → Nat → Int32) (rj : Nat → Nat → Int64) (rq : Nat → Nat → Option Nat) : vM := (g_X12_reefGoes_L2 a0 I J ri rj rq ((40 - ((0 : Int32)).toInt).toNat + 1) (0 : Int32) ri)
set_option maxRecDepth 100000 in
theorem g_X12_reefGoes_e {a0 : Int32} {I : Nat → Int32} {J : Nat → Int64} {ri : Nat → Nat → Int32} {rj : Nat → Nat → Int64} {rq : Nat → Nat → Option Nat} : g_X12_reefGoes a0 I J ri rj rq = (g_X12_reefGoes_L2 a0 I J ri rj rq ((40 - ((0 : Int32)).toInt).toNat + 1) (0 : Int32) ri) := rfl
set_option maxHeartbeats 4000000 in
set_option maxRecDepth 100000 in
theorem s_X12_reefGoes (l : Launch) (D : va_G) (t : pq_T) (σ : pq_S) (I : Nat → Nat → Int32) (J : Nat → Nat → Int64) (ri : Nat → Nat → Int32) (rj : Nat → Nat → Int64) (rq : Nat → Nat → Option Nat) (sz : Nat) (tg : Nat → Nat) (hSH : SH σ tg) (hG0 : GT tg I ri) (this : Nat) (a0 : Int32) (hL_this : this ∈ σ.1) (hK_this : σ.2.1 this = 12) (h_a0 : rg a0 0 599) : MetV l yX12_reefGoes (wa yX12_reefGoes cX12_reefGoes 4 none) ({ frames := 1, cells := 0, slots := 0, locals := 22 }) [.ref this, .int a0] D t σ (I, J, ri, rj, rq) sz 0 0 (fun (u : pq_S × pq_M) => ∃ ri' : Nat → Nat → Int32, u = (σ, I, J, ri', rj, rq) ∧ GM [1305] tg σ I ri I ri' rq ∧ g_X12_reefGoes a0 (vI 12 σ this I) (vJ 12 σ this J) (vR 12 σ this ri) (vL 12 σ this rj) (vQ 12 σ this rq) = ((vI 12 σ this I), (vJ 12 σ this J), (vR 12 σ this ri'), (vL 12 σ this rj), (vQ 12 σ this rq)) ∧ FR 12 tg σ this (I, J, ri, rj, rq) (I, J, ri', rj, rq)) := by
  refine Met.ofW (cc := cX12_reefGoes) (maxL := 4) (ret := none) (by decide) rfl ?_
  intro p e s m args below meth c s₁ B hml hv
  obtain ⟨rfl, hsz, hP, hK, hD0, hN⟩ := hv
  have hx := B.exec
  have hb := B.bytes
  have hr := B.returns
  have hts := atoms_spec (ws := (wa yX12_reefGoes cX12_reefGoes 4 none)) B.pre
  have hown : s.vm.findClass RX12 = some m.cls := findClass_of_methodNamed B.named
  have hlocks := B.notSynchronized
  subst hsz
  have hD : va_D (pq_B t σ (I, J, ri, rj, rq) s.heap.size) (pq_P t σ (I, J, ri, rj, rq)) := hD0.self
  generalize hAe : pq_B t σ (I, J, ri, rj, rq) s.heap.size = A at hD ⊢
  have hA : ∀ q : Nat, s.heap.size ≤ q → A q := fun q h => by rw [← hAe]; exact Or.inr h
  have hS : va_S A s.heap s.heap [] := va_S.rf
  have hG : GM [1305] tg σ I ri I ri rq := ⟨hG0, fun _ _ _ => rfl, fun _ _ _ _ _ => rfl, fun _ _ _ _ _ _ => rfl⟩
  have hl := lv_entry ([.ref this, .int a0]) (n := 4) (Nat.le_of_ble_eq_true rfl)
  rw [lg_entry_eq]
  generalize (lg_sl ([.ref this, .int a0]) ++ List.replicate (4 - (lg_sl ([.ref this, .int a0])).length) Slot.unset).toArray = ls at hl ⊢
  have hl : lv_has ls 4 [(0, .ref this), (1, .int a0)] := hl
  refine q_gen (fun Q hQ => ?_)
  have go : ∀ (H : Heap) (locs : List Loc) (ls : Array Slot), va_P D vwCl (pq_P t σ (I, J, ri, rj, rq)) H → va_D A (pq_P t σ (I, J, ri, rj, rq)) → va_S A s.heap H locs → lv_has ls 4 [(0, .ref this), (1, .int a0)] → W p l e ({ frames := 1, cells := 0, slots := 0, locals := 22 } : Room) s m (List.toArray ([.ref this, .int a0] : List Value)) below meth c H locs 0 0 Q (F0 m 0 ls []) := by
    intro H locs ls hP hD hS hl
    have hO_this : this = vo σ 12 this := rfl
    have hVT : VT 12 σ tg this := vt_12 hSH hL_this hK_this
    have hFr : FR 12 tg σ this (I, J, ri, rj, rq) (I, J, ri, rj, rq) := fr_rf
    obtain ⟨F, hF0⟩ : ∃ F, F = g_X12_reefGoes a0 (vI 12 σ this I) (vJ 12 σ this J) (vR 12 σ this ri) (vL 12 σ this rj) (vQ 12 σ this rq) := ⟨_, rfl⟩
    have hF := hF0.trans g_X12_reefGoes_e
    refine lv_iconst (v := 0) hx hb dX12_reefGoes_0 (by decide) ?_
    refine lv_istore_n (lv' := [(2, .int 0), (0, .ref this), (1, .int a0)]) hx hb dX12_reefGoes_1 rfl hl (by decide) rfl (fun ls hl => ?_)
    have L_709 : ∀ (n_708 : Nat) (x_652 : Int32) (ri_653 : Nat → Nat → Int32) (H : Heap) (locs : List Loc) (ls : Array Slot), rg x_652 0 40 → (40 - (x_652).toInt).toNat < n_708 → F = g_X12_reefGoes_L2 a0 (vI 12 σ this I) (vJ 12 σ this J) (vR 12 σ this ri) (vL 12 σ this rj) (vQ 12 σ this rq) n_708 x_652 (vR 12 σ this ri_653) → FR 12 tg σ this (I, J, ri, rj, rq) (I, J, ri_653, rj, rq) → GM [1305] tg σ I ri I ri_653 rq → va_P D vwCl (pq_P t σ (I, J, ri_653, rj, rq)) H → va_D A (pq_P t σ (I, J, ri_653, rj, rq)) → va_S A s.heap H locs → lv_has ls 4 [(0, .ref this), (1, .int a0), (2, .int x_652)] → W p l e ({ frames := 1, cells := 0, slots := 0, locals := 22 } : Room) s m (List.toArray ([.ref this, .int a0] : List Value)) below meth c H locs 0 0 Q (F0 m 2 ls []) := by
      intro n_708
      induction n_708 with
      | zero => intro x_652 ri_653 H locs ls h_712 hm_707 hF hFr hG hP hD hS hl; exact absurd hm_707 (Nat.not_lt_zero _)
      | succ n_708 ih_710 =>
        intro x_652 ri_653 H locs ls h_712 hm_707 hF hFr hG hP hD hS hl
        have uh_712 := h_712.1
        have vh_712 := h_712.2
        replace hF := hF.trans g_X12_reefGoes_L2_e
        refine lv_iload_n hx hb dX12_reefGoes_2 rfl (lv_at hl 2 rfl) ?_
        refine lv_aload_n hx hb dX12_reefGoes_3 rfl (lv_at hl 0 rfl) ?_
        obtain ⟨w_713, hR_w_713, hL_w_713, hK_w_713, hN_w_713, hT_w_713⟩ := sh_a hSH 384 (ci := 12) (kd := 13) (len := 12720) rfl (by decide) hL_this hK_this
        have hO_w_713 : w_713 = vrow σ 384 this := vo_k (c := 12) hO_this hR_w_713
        refine pg_f (v := .ref w_713) (C := RX12) (T := TX12) (N := 31) hx hb hts (tw_i inlX12) hown hK hP hL_this hK_this (by decide) rfl 0 (by decide) (hts _ (tw_c tw_176)) (pq_hv rfl hR_w_713) dX12_reefGoes_4 ?_
        refine lv_iconst (v := 2) hx hb dX12_reefGoes_7 (by decide) ?_
        refine pl_i hx hb hK hP hL_w_713 hK_w_713 hN_w_713 (vp_in_iff.mpr (by decide)) dX12_reefGoes_8 ?_
        refine lv_tov (ri w_713 2) (hG.2.2.1 w_713 hT_w_713 2 (by decide) (by decide)) ?_
        have h_714 : rg (ri w_713 2) 0 40 := GM.z0 hG0 (by rw [hT_w_713]; decide) (i := 2) (k := 2) (by decide) rfl
        have uh_714 := h_714.1
        have vh_714 := h_714.2
        replace hF := hF.trans (ap_n (vR_r hO_w_713 (by decide) rfl))
        refine lv_icmp_ge (tgt := 108) hx hb dX12_reefGoes_9 (by decide) (fun c_716 => ?_) (fun c_716 => ?_)
        · replace hF := hF.trans (if_pos c_716)
          have tc_721 : (ri w_713 2).toInt ≤ (x_652).toInt := Int32.le_iff_toInt_le.mp c_716
          subst hQ
          exact W.vret hx hb hr (fun t1 ht hW => ⟨⟨(σ, I, J, ri_653, rj, rq), rfl, ⟨ri_653, rfl, hG, (hF0.symm.trans hF), hFr⟩, by rw [ht]; exact hP, va_K.moved hW.alike hK, hD⟩, hS.F ht⟩) hS.2.2 dX12_reefGoes_108
        · replace hF := hF.trans (if_neg c_716)
          have tc_722 : (x_652).toInt < (ri w_713 2).toInt := Int32.lt_iff_toInt_lt.mp (nle c_716)
          have h_723 : rg x_652 0 39 := rg_lt1 (nle c_716) h_712 h_714 (by decide)
          have uh_723 := h_723.1
          have vh_723 := h_723.2
          have h_724 : rg (ri w_713 2) 1 40 := rg_lt2 (nle c_716) h_712 h_714 (by decide)
          have uh_724 := h_724.1
          have vh_724 := h_724.2
          refine lv_bipush (v := 100) hx hb dX12_reefGoes_12 (by decide) ?_
          refine lv_bipush (v := 16) hx hb dX12_reefGoes_14 (by decide) ?_
          refine lv_iload_n hx hb dX12_reefGoes_16 rfl (lv_at hl 2 rfl) ?_
          refine lv_imul hx hb dX12_reefGoes_17 ?_
          refine lv_topi (fun x_725 ex_725 => ?_)
          replace hF := hF.trans (ap_n ex_725)
          have h_726 : rg x_725 0 624 := rg_of_eq ex_725 (rg_mul (rg_k (16 : Int32) 16 rfl) h_723 (by decide))
          have uh_726 := h_726.1
          have vh_726 := h_726.2
          have tx_725 : (x_725).toInt = 16 * (x_652).toInt := by rw [ex_725]; exact i_mul_rg (a2 := 16) (b2 := (x_652).toInt) rfl rfl (rg_k (16 : Int32) 16 rfl) h_723 (by decide)
          refine lv_iadd hx hb dX12_reefGoes_18 ?_
          refine lv_topi (fun x_727 ex_727 => ?_)
          replace hF := hF.trans (ap_n ex_727)
          have h_728 : rg x_727 100 724 := rg_of_eq ex_727 (rg_add (rg_k (100 : Int32) 100 rfl) h_726 (by decide))
          have uh_728 := h_728.1
          have vh_728 := h_728.2
          have tx_727 : (x_727).toInt = 100 + (x_725).toInt := by rw [ex_727]; exact i_add_rg (a2 := 100) (b2 := (x_725).toInt) rfl rfl (rg_k (100 : Int32) 100 rfl) h_726 (by decide)
          refine lv_iconst (v := 5) hx hb dX12_reefGoes_19 (by decide) ?_
          refine lv_iadd hx hb dX12_reefGoes_20 ?_
          refine lv_topi (fun x_729 ex_729 => ?_)
          replace hF := hF.trans (ap_n ex_729)
          have h_730 : rg x_729 105 729 := rg_of_eq ex_729 (rg_add h_728 (rg_k (5 : Int32) 5 rfl) (by decide))
          have uh_730 := h_730.1
          have vh_730 := h_730.2
          have tx_729 : (x_729).toInt = (x_727).toInt + 5 := by rw [ex_729]; exact i_add_rg (a2 := (x_727).toInt) (b2 := 5) rfl rfl h_728 (rg_k (5 : Int32) 5 rfl) (by decide)
          refine lv_istore_n (lv' := [(3, .int x_729), (0, .ref this), (1, .int a0), (2, .int x_652)]) hx hb dX12_reefGoes_21 rfl hl (by decide) rfl (fun ls hl => ?_)
          refine lv_aload_n hx hb dX12_reefGoes_22 rfl (lv_at hl 1 rfl) ?_
          refine pg_f (v := .ref w_713) (C := RX12) (T := TX12) (N := 31) hx hb hts (tw_i inlX12) hown hK hP hL_this hK_this (by decide) rfl 0 (by decide) (hts _ (tw_c tw_176)) (pq_hv rfl hR_w_713) dX12_reefGoes_23 ?_
          refine lv_iload_n hx hb dX12_reefGoes_26 rfl (lv_at hl 0 rfl) ?_
          refine lv_dup2_11 hx hb dX12_reefGoes_27 rfl rfl ?_
          refine pl_i hx hb hK hP hL_w_713 hK_w_713 hN_w_713 (rg_in h_730 (by decide)) dX12_reefGoes_28 ?_
          refine lv_topi (fun x_731 ex_731 => ?_)
          replace hF := hF.trans (ap_n (vR_r hO_w_713 (by decide) ex_731))
          refine lv_aload_n hx hb dX12_reefGoes_29 rfl (lv_at hl 1 rfl) ?_
          refine lv_iload_n hx hb dX12_reefGoes_30 rfl (lv_at hl 2 rfl) ?_
          refine lv_iconst (v := 2) hx hb dX12_reefGoes_31 (by decide) ?_
          refine pk_i (va_runV (As := [.int a0, .int 2]) (rest := [.int x_731, .int x_729, .ref w_713]) ⟨hx, hb, hml, hown, hts⟩ (s_X12_tableAt_c2 l D t σ I J ri_653 rj rq H.size tg hSH hG.1 this a0 hL_this hK_this (rg_w h_a0 (by decide))) (cwV 2 hts (tw_V tw_1201 tw_1202 tw_1203 tw_5 tw_1204) rfl rfl rfl cv_yX12_tableAt_2 ⟨Nat.le_of_ble_eq_true rfl, Nat.le_of_ble_eq_true rfl⟩) ⟨pq_blind, pq_recv hK hP hL_this hK_this (by decide) rfl, pq_pre hK hN hP hD⟩ rfl rfl hl.1 rfl (lv_room (Nat.le_of_ble_eq_true rfl)) dX12_reefGoes_32 ⟨Nat.le_of_ble_eq_true rfl, Nat.le_of_ble_eq_true rfl⟩) hD hS hA (fun x_732 σ1 μ1 H locs hw_733 hP hD hS => ?_)
          obtain ⟨hu_734, hfn_737⟩ := hw_733
          obtain ⟨hu_734a, hu_734b⟩ := Prod.mk.inj hu_734
          rw [hu_734a, hu_734b] at hP hD
          replace hF := hF.trans (bn_n hfn_737)
          refine lv_aload_n hx hb dX12_reefGoes_35 rfl (lv_at hl 1 rfl) ?_
          refine pg_f (v := .ref w_713) (C := RX12) (T := TX12) (N := 31) hx hb hts (tw_i inlX12) hown hK hP hL_this hK_this (by decide) rfl 0 (by decide) (hts _ (tw_c tw_176)) (pq_hv rfl hR_w_713) dX12_reefGoes_36 ?_
          refine lv_bipush (v := 13) hx hb dX12_reefGoes_39 (by decide) ?_
          refine pl_i hx hb hK hP hL_w_713 hK_w_713 hN_w_713 (vp_in_iff.mpr (by decide)) dX12_reefGoes_41 ?_
          refine lv_topi (fun x_739 ex_739 => ?_)
          replace hF := hF.trans (ap_n (vR_r hO_w_713 (by decide) ex_739))
          have K_769 : ∀  (x_748 : Int32) (H : Heap) (locs : List Loc) (ls : Array Slot), F = g_X12_reefGoes_K63 x_652 (vR 12 σ this ri_653) (g_X12_reefGoes_L2 a0 (vI 12 σ this I) (vJ 12 σ this J) (vR 12 σ this ri) (vL 12 σ this rj) (vQ 12 σ this rq) n_708) x_729 x_731 x_748 → FR 12 tg σ this (I, J, ri, rj, rq) (I, J, ri_653, rj, rq) → GM [1305] tg σ I ri I ri_653 rq → va_P D vwCl (pq_P t σ (I, J, ri_653, rj, rq)) H → va_D A (pq_P t σ (I, J, ri_653, rj, rq)) → va_S A s.heap H locs → lv_has ls 4 [(0, .ref this), (1, .int a0), (2, .int x_652), (3, .int x_729)] → W p l e ({ frames := 1, cells := 0, slots := 0, locals := 22 } : Room) s m (List.toArray ([.ref this, .int a0] : List Value)) below meth c H locs 0 0 Q (F0 m 63 ls [.int x_748, .int x_731, .int x_729, .ref w_713]) := by
            intro x_748 H locs ls hF hFr hG hP hD hS hl
            replace hF := hF.trans g_X12_reefGoes_K63_e
            refine lv_iadd hx hb dX12_reefGoes_63 ?_
            refine lv_topi (fun x_770 ex_770 => ?_)
            replace hF := hF.trans (ap_n ex_770)
            refine pt_i hx hb hK hP hD hS hL_w_713 hK_w_713 hN_w_713 (rg_in h_730 (by decide)) dX12_reefGoes_64 (fun r_771 H locs er_771 hP hD hS => ?_)
            replace hFr := fr_R hFr hO_w_713 (by decide) er_771
            replace hF := hF.trans (ap_n (vR_st hVT hO_w_713 (by decide) er_771))
            have hG := GM.wz hG hT_w_713 (by decide) er_771 (zn_CELL (c := x_652.toNatClampNeg) (k := 5) (by have z_i := clampE x_729; have z_0 := clampE x_652; omega) (rg_cl1 h_723 (by decide)) (by decide)) rfl (rg_w (rg_full _) (by decide)) (by decide)
            refine lv_aload_n hx hb dX12_reefGoes_65 rfl (lv_at hl 0 rfl) ?_
            refine pg_f (v := .ref w_713) (C := RX12) (T := TX12) (N := 31) hx hb hts (tw_i inlX12) hown hK hP hL_this hK_this (by decide) rfl 0 (by decide) (hts _ (tw_c tw_176)) (pq_hv rfl hR_w_713) dX12_reefGoes_66 ?_
            refine lv_iload_n hx hb dX12_reefGoes_69 rfl (lv_at hl 3 rfl) ?_
            refine pl_i hx hb hK hP hL_w_713 hK_w_713 hN_w_713 (rg_in h_730 (by decide)) dX12_reefGoes_70 ?_
            refine lv_topi (fun x_772 ex_772 => ?_)
            replace hF := hF.trans (ap_n (vR_r hO_w_713 (by decide) ex_772))
            refine lv_sipush (v := 400) hx hb dX12_reefGoes_71 (by decide) ?_
            have K_790 : ∀  (ri_779 : Nat → Nat → Int32) (H : Heap) (locs : List Loc) (ls : Array Slot), F = g_X12_reefGoes_K86 x_652 (g_X12_reefGoes_L2 a0 (vI 12 σ this I) (vJ 12 σ this J) (vR 12 σ this ri) (vL 12 σ this rj) (vQ 12 σ this rq) n_708) x_729 (vR 12 σ this ri_779) → FR 12 tg σ this (I, J, ri, rj, rq) (I, J, ri_779, rj, rq) → GM [1305] tg σ I ri I ri_779 rq → va_P D vwCl (pq_P t σ (I, J, ri_779, rj, rq)) H → va_D A (pq_P t σ (I, J, ri_779, rj, rq)) → va_S A s.heap H locs → lv_has ls 4 [(0, .ref this), (1, .int a0), (2, .int x_652), (3, .int x_729)] → W p l e ({ frames := 1, cells := 0, slots := 0, locals := 22 } : Room) s m (List.toArray ([.ref this, .int a0] : List Value)) below meth c H locs 0 0 Q (F0 m 86 ls []) := by
              intro ri_779 H locs ls hF hFr hG hP hD hS hl
              replace hF := hF.trans g_X12_reefGoes_K86_e
              refine lv_aload_n hx hb dX12_reefGoes_86 rfl (lv_at hl 0 rfl) ?_
              refine pg_f (v := .ref w_713) (C := RX12) (T := TX12) (N := 31) hx hb hts (tw_i inlX12) hown hK hP hL_this hK_this (by decide) rfl 0 (by decide) (hts _ (tw_c tw_176)) (pq_hv rfl hR_w_713) dX12_reefGoes_87 ?_
              refine lv_iload_n hx hb dX12_reefGoes_90 rfl (lv_at hl 3 rfl) ?_
              refine pl_i hx hb hK hP hL_w_713 hK_w_713 hN_w_713 (rg_in h_730 (by decide)) dX12_reefGoes_91 ?_
              refine lv_topi (fun x_791 ex_791 => ?_)
              replace hF := hF.trans (ap_n (vR_r hO_w_713 (by decide) ex_791))
              have K_801 : ∀  (ri_798 : Nat → Nat → Int32) (H : Heap) (locs : List Loc) (ls : Array Slot), F = g_X12_reefGoes_K102 x_652 (g_X12_reefGoes_L2 a0 (vI 12 σ this I) (vJ 12 σ this J) (vR 12 σ this ri) (vL 12 σ this rj) (vQ 12 σ this rq) n_708) (vR 12 σ this ri_798) → FR 12 tg σ this (I, J, ri, rj, rq) (I, J, ri_798, rj, rq) → GM [1305] tg σ I ri I ri_798 rq → va_P D vwCl (pq_P t σ (I, J, ri_798, rj, rq)) H → va_D A (pq_P t σ (I, J, ri_798, rj, rq)) → va_S A s.heap H locs → lv_has ls 4 [(0, .ref this), (1, .int a0), (2, .int x_652)] → W p l e ({ frames := 1, cells := 0, slots := 0, locals := 22 } : Room) s m (List.toArray ([.ref this, .int a0] : List Value)) below meth c H locs 0 0 Q (F0 m 102 ls []) := by
                intro ri_798 H locs ls hF hFr hG hP hD hS hl
                replace hF := hF.trans g_X12_reefGoes_K102_e
                obtain ⟨x_802, ex_802⟩ : ∃ y : Int32, y = x_652 + Int32.ofInt 1 := ⟨_, rfl⟩
                replace hF := hF.trans (ap_n ex_802)
                have h_803 : rg x_802 1 40 := rg_of_eq ex_802 (rg_add h_723 (rg_k (Int32.ofInt 1) 1 rfl) (by decide))
                have uh_803 := h_803.1
                have vh_803 := h_803.2
                have tx_802 : (x_802).toInt = (x_652).toInt + 1 := by rw [ex_802]; exact i_add_rg (a2 := (x_652).toInt) (b2 := 1) rfl rfl h_723 (rg_k (Int32.ofInt 1) 1 rfl) (by decide)
                refine lv_iinc (v := x_802) (lv' := [(2, .int x_802), (0, .ref this), (1, .int a0)]) hx hb dX12_reefGoes_102 hl (k := 2) rfl ex_802.symm (by decide) rfl (fun ls hl => ?_)
                refine lv_goto (tgt := 2) hx hb dX12_reefGoes_105 (by decide) ?_
                exact ih_710 x_802 ri_798 _ _ _ (rg_w h_803 (by decide)) (ms_up 1 hm_707 ex_802 rfl (by decide) h_723 (by decide) (by decide)) hF hFr hG hP hD hS (lv_sub hl [1, 2, 0] rfl)
              refine lv_if_ge (tgt := 102) hx hb dX12_reefGoes_92 (by decide) (fun c_804 => ?_) (fun c_804 => ?_)
              · replace hF := hF.trans (if_pos c_804)
                have tc_809 : 0 ≤ (x_791).toInt := Int32.le_iff_toInt_le.mp c_804
                have h_810 : rg x_791 0 2147483647 := rg_le2 c_804 (rg_k (0 : Int32) 0 rfl) (rg_full _) (by decide)
                have uh_810 := h_810.1
                have vh_810 := h_810.2
                exact K_801 ri_779 _ _ _ hF hFr hG hP hD hS (lv_sub hl [0, 1, 2] rfl)
              · replace hF := hF.trans (if_neg c_804)
                have tc_811 : (x_791).toInt < 0 := Int32.lt_iff_toInt_lt.mp (nle c_804)
                have h_812 : rg x_791 (-2147483648) (-1) := rg_lt1 (nle c_804) (rg_full _) (rg_k (0 : Int32) 0 rfl) (by decide)
                have uh_812 := h_812.1
                have vh_812 := h_812.2
                refine lv_aload_n hx hb dX12_reefGoes_95 rfl (lv_at hl 0 rfl) ?_
                refine pg_f (v := .ref w_713) (C := RX12) (T := TX12) (N := 31) hx hb hts (tw_i inlX12) hown hK hP hL_this hK_this (by decide) rfl 0 (by decide) (hts _ (tw_c tw_176)) (pq_hv rfl hR_w_713) dX12_reefGoes_96 ?_
                refine lv_iload_n hx hb dX12_reefGoes_99 rfl (lv_at hl 3 rfl) ?_
                refine lv_iconst (v := 0) hx hb dX12_reefGoes_100 (by decide) ?_
                refine pt_i hx hb hK hP hD hS hL_w_713 hK_w_713 hN_w_713 (rg_in h_730 (by decide)) dX12_reefGoes_101 (fun r_813 H locs er_813 hP hD hS => ?_)
                replace hFr := fr_R hFr hO_w_713 (by decide) er_813
                replace hF := hF.trans (ap_n (vR_st hVT hO_w_713 (by decide) er_813))
                have hG := GM.wz hG hT_w_713 (by decide) er_813 (zn_CELL (c := x_652.toNatClampNeg) (k := 5) (by have z_i := clampE x_729; have z_0 := clampE x_652; omega) (rg_cl1 h_723 (by decide)) (by decide)) rfl (rg_w (rg_k (0 : Int32) 0 rfl) (by decide)) (by decide)
                exact K_801 r_813 _ _ _ hF hFr hG hP hD hS (lv_sub hl [0, 1, 2] rfl)
            refine lv_icmp_le (tgt := 86) hx hb dX12_reefGoes_74 (by decide) (fun c_814 => ?_) (fun c_814 => ?_)
            · replace hF := hF.trans (if_pos c_814)
              have tc_819 : (x_772).toInt ≤ 400 := Int32.le_iff_toInt_le.mp c_814
              have h_820 : rg x_772 (-2147483648) 400 := rg_le1 c_814 (rg_full _) (rg_k (400 : Int32) 400 rfl) (by decide)
              have uh_820 := h_820.1
              have vh_820 := h_820.2
              exact K_790 r_771 _ _ _ hF hFr hG hP hD hS (lv_sub hl [0, 1, 2, 3] rfl)
            · replace hF := hF.trans (if_neg c_814)
              have tc_821 : 400 < (x_772).toInt := Int32.lt_iff_toInt_lt.mp (nle c_814)
              have h_822 : rg x_772 401 2147483647 := rg_lt2 (nle c_814) (rg_k (400 : Int32) 400 rfl) (rg_full _) (by decide)
              have uh_822 := h_822.1
              have vh_822 := h_822.2
              refine lv_aload_n hx hb dX12_reefGoes_77 rfl (lv_at hl 0 rfl) ?_
              refine pg_f (v := .ref w_713) (C := RX12) (T := TX12) (N := 31) hx hb hts (tw_i inlX12) hown hK hP hL_this hK_this (by decide) rfl 0 (by decide) (hts _ (tw_c tw_176)) (pq_hv rfl hR_w_713) dX12_reefGoes_78 ?_
              refine lv_iload_n hx hb dX12_reefGoes_81 rfl (lv_at hl 3 rfl) ?_
              refine lv_sipush (v := 400) hx hb dX12_reefGoes_82 (by decide) ?_
              refine pt_i hx hb hK hP hD hS hL_w_713 hK_w_713 hN_w_713 (rg_in h_730 (by decide)) dX12_reefGoes_85 (fun r_823 H locs er_823 hP hD hS => ?_)
              replace hFr := fr_R hFr hO_w_713 (by decide) er_823
              replace hF := hF.trans (ap_n (vR_st hVT hO_w_713 (by decide) er_823))
              have hG := GM.wz hG hT_w_713 (by decide) er_823 (zn_CELL (c := x_652.toNatClampNeg) (k := 5) (by have z_i := clampE x_729; have z_0 := clampE x_652; omega) (rg_cl1 h_723 (by decide)) (by decide)) rfl (rg_w (rg_k (400 : Int32) 400 rfl) (by decide)) (by decide)
              exact K_790 r_823 _ _ _ hF hFr hG hP hD hS (lv_sub hl [0, 1, 2, 3] rfl)
          refine lv_icmp_gt (tgt := 55) hx hb dX12_reefGoes_42 (by decide) (fun c_824 => ?_) (fun c_824 => ?_)
          · replace hF := hF.trans (if_pos c_824)
            have tc_829 : (x_739).toInt < (x_732).toInt := Int32.lt_iff_toInt_lt.mp c_824
            have h_830 : rg x_739 (-2147483648) 2147483646 := rg_lt1 c_824 (rg_full _) (rg_full _) (by decide)
            have uh_830 := h_830.1
            have vh_830 := h_830.2
            have h_831 : rg x_732 (-2147483647) 2147483647 := rg_lt2 c_824 (rg_full _) (rg_full _) (by decide)
            have uh_831 := h_831.1
            have vh_831 := h_831.2
            refine lv_aload_n hx hb dX12_reefGoes_55 rfl (lv_at hl 1 rfl) ?_
            refine pg_f (v := .ref w_713) (C := RX12) (T := TX12) (N := 31) hx hb hts (tw_i inlX12) hown hK hP hL_this hK_this (by decide) rfl 0 (by decide) (hts _ (tw_c tw_176)) (pq_hv rfl hR_w_713) dX12_reefGoes_56 ?_
            refine lv_bipush (v := 15) hx hb dX12_reefGoes_59 (by decide) ?_
            refine pl_i hx hb hK hP hL_w_713 hK_w_713 hN_w_713 (vp_in_iff.mpr (by decide)) dX12_reefGoes_61 ?_
            refine lv_topi (fun x_832 ex_832 => ?_)
            replace hF := hF.trans (ap_n (vR_r hO_w_713 (by decide) ex_832))
            refine lv_ineg hx hb dX12_reefGoes_62 ?_
            refine lv_topi (fun x_833 ex_833 => ?_)
            replace hF := hF.trans (ap_n ex_833)
            exact K_769 x_833 _ _ _ hF hFr hG hP hD hS (lv_sub hl [1, 2, 3, 0] rfl)
          · replace hF := hF.trans (if_neg c_824)
            have tc_834 : (x_732).toInt ≤ (x_739).toInt := Int32.le_iff_toInt_le.mp (nlt c_824)
            refine lv_aload_n hx hb dX12_reefGoes_45 rfl (lv_at hl 1 rfl) ?_
            refine pg_f (v := .ref w_713) (C := RX12) (T := TX12) (N := 31) hx hb hts (tw_i inlX12) hown hK hP hL_this hK_this (by decide) rfl 0 (by decide) (hts _ (tw_c tw_176)) (pq_hv rfl hR_w_713) dX12_reefGoes_46 ?_
            refine lv_bipush (v := 14) hx hb dX12_reefGoes_49 (by decide) ?_
            refine pl_i hx hb hK hP hL_w_713 hK_w_713 hN_w_713 (vp_in_iff.mpr (by decide)) dX12_reefGoes_51 ?_
            refine lv_topi (fun x_835 ex_835 => ?_)
            replace hF := hF.trans (ap_n (vR_r hO_w_713 (by decide) ex_835))
            refine lv_goto (tgt := 63) hx hb dX12_reefGoes_52 (by decide) ?_
            exact K_769 x_835 _ _ _ hF hFr hG hP hD hS (lv_sub hl [1, 2, 3, 0] rfl)
    exact L_709 _ (0 : Int32) ri _ _ _ (rg_w (rg_k (0 : Int32) 0 rfl) (by decide)) (Nat.lt_succ_self _) hF hFr hG hP hD hS (lv_sub hl [1, 2, 0] rfl)
  exact go _ _ _ hP hD hS hl

set_option maxRecDepth 100000 in
def g_X12_tableAt_c3 (a0 : Int32) (I : Nat → Int32) (J : Nat → Int64) (ri : Nat → Nat → Int32) (rj : Nat → Nat → Int64) (rq : Nat → Nat → Option Nat) : Int32 × vM := (ap1 (a0 - a0 / (12 : Int32) * (12 : Int32)) fun (x_2 : Int32) => (ap1 ((5 : Int32) * x_2) fun (x_4 : Int32) => (ap1 ((20 : Int32) + x_4) fun (x_6 : Int32) => (ap1 (x_6 + (3 : Int32)) fun (x_8 : Int32) => (ap1 (ri 384 (x_8).toNatClampNeg) fun (x_10 : Int32) => (x_10, I, J, ri, rj, rq))))))
set_option maxRecDepth 100000 in
theorem g_X12_tableAt_c3_e {a0 : Int32} {I : Nat → Int32} {J : Nat → Int64} {ri : Nat → Nat → Int32} {rj : Nat → Nat → Int64} {rq : Nat → Nat → Option Nat} : g_X12_tableAt_c3 a0 I J ri rj rq = (ap1 (a0 - a0 / (12 : Int32) * (12 : Int32)) fun (x_2 : Int32) => (ap1 ((5 : Int32) * x_2) fun (x_4 : Int32) => (ap1 ((20 : Int32) + x_4) fun (x_6 : Int32) => (ap1 (x_6 + (3 : Int32)) fun (x_8 : Int32) => (ap1 (ri 384 (x_8).toNatClampNeg) fun (x_10 : Int32) => (x_10, I, J, ri, rj, rq)))))) := rfl
set_option maxHeartbeats 4000000 in
set_option maxRecDepth 100000 in
theorem s_X12_tableAt_c3 (l : Launch) (D : va_G) (t : pq_T) (σ : pq_S) (I : Nat → Nat → Int32) (J : Nat → Nat → Int64) (ri : Nat → Nat → Int32) (rj : Nat → Nat → Int64) (rq : Nat → Nat → Option Nat) (sz : Nat) (tg : Nat → Nat) (hSH : SH σ tg) (hG0 : GT tg I ri) (this : Nat) (a0 : Int32) (hL_this : this ∈ σ.1) (hK_this : σ.2.1 this = 12) (h_a0 : rg a0 0 600) : MetI l yX12_tableAt (wa yX12_tableAt cX12_tableAt 3 (some .int)) ({ frames := 0, cells := 0, slots := 0, locals := 0 }) [.ref this, .int a0, .int 3] D t σ (I, J, ri, rj, rq) sz 0 0 (fun (r : Int32) (u : pq_S × pq_M) => u = (σ, I, J, ri, rj, rq) ∧ g_X12_tableAt_c3 a0 (vI 12 σ this I) (vJ 12 σ this J) (vR 12 σ this ri) (vL 12 σ this rj) (vQ 12 σ this rq) = (r, (vI 12 σ this I), (vJ 12 σ this J), (vR 12 σ this ri), (vL 12 σ this rj), (vQ 12 σ this rq))) := by
  refine Met.ofW (cc := cX12_tableAt) (maxL := 3) (ret := (some .int)) (by decide) rfl ?_
  intro p e s m args below meth c s₁ B hml hv
  obtain ⟨rfl, hsz, hP, hK, hD0, hN⟩ := hv
  have hx := B.exec
  have hb := B.bytes
  have hr := B.returns
  have hts := atoms_spec (ws := (wa yX12_tableAt cX12_tableAt 3 (some .int))) B.pre
  have hown : s.vm.findClass RX12 = some m.cls := findClass_of_methodNamed B.named
  have hlocks := B.notSynchronized
  subst hsz
  have hD : va_D (pq_B t σ (I, J, ri, rj, rq) s.heap.size) (pq_P t σ (I, J, ri, rj, rq)) := hD0.self
  generalize hAe : pq_B t σ (I, J, ri, rj, rq) s.heap.size = A at hD ⊢
  have hA : ∀ q : Nat, s.heap.size ≤ q → A q := fun q h => by rw [← hAe]; exact Or.inr h
  have hS : va_S A s.heap s.heap [] := va_S.rf
  have hG : GM [] tg σ I ri I ri rq := ⟨hG0, fun _ _ _ => rfl, fun _ _ _ _ _ => rfl, fun _ _ _ _ _ _ => rfl⟩
  have hl := lv_entry ([.ref this, .int a0, .int 3]) (n := 3) (Nat.le_of_ble_eq_true rfl)
  rw [lg_entry_eq]
  generalize (lg_sl ([.ref this, .int a0, .int 3]) ++ List.replicate (3 - (lg_sl ([.ref this, .int a0, .int 3])).length) Slot.unset).toArray = ls at hl ⊢
  have hl : lv_has ls 3 [(0, .ref this), (1, .int a0), (2, .int 3)] := hl
  refine q_gen (fun Q hQ => ?_)
  have go : ∀ (H : Heap) (locs : List Loc) (ls : Array Slot), va_P D vwCl (pq_P t σ (I, J, ri, rj, rq)) H → va_D A (pq_P t σ (I, J, ri, rj, rq)) → va_S A s.heap H locs → lv_has ls 3 [(0, .ref this), (1, .int a0), (2, .int 3)] → W p l e ({ frames := 0, cells := 0, slots := 0, locals := 0 } : Room) s m (List.toArray ([.ref this, .int a0, .int 3] : List Value)) below meth c H locs 0 0 Q (F0 m 0 ls []) := by
    intro H locs ls hP hD hS hl
    have hO_this : this = vo σ 12 this := rfl
    have hVT : VT 12 σ tg this := vt_12 hSH hL_this hK_this
    have hFr : FR 12 tg σ this (I, J, ri, rj, rq) (I, J, ri, rj, rq) := fr_rf
    obtain ⟨F, hF0⟩ : ∃ F, F = g_X12_tableAt_c3 a0 (vI 12 σ this I) (vJ 12 σ this J) (vR 12 σ this ri) (vL 12 σ this rj) (vQ 12 σ this rq) := ⟨_, rfl⟩
    have hF := hF0.trans g_X12_tableAt_c3_e
    refine lv_aload_n hx hb dX12_tableAt_0 rfl (lv_at hl 0 rfl) ?_
    obtain ⟨w_1, hR_w_1, hL_w_1, hK_w_1, hN_w_1, hT_w_1⟩ := sh_a hSH 384 (ci := 12) (kd := 13) (len := 12720) rfl (by decide) hL_this hK_this
    have hO_w_1 : w_1 = vrow σ 384 this := vo_k (c := 12) hO_this hR_w_1
    refine pg_f (v := .ref w_1) (C := RX12) (T := TX12) (N := 31) hx hb hts (tw_i inlX12) hown hK hP hL_this hK_this (by decide) rfl 0 (by decide) (hts _ (tw_c tw_176)) (pq_hv rfl hR_w_1) dX12_tableAt_1 ?_
    refine lv_bipush (v := 20) hx hb dX12_tableAt_4 (by decide) ?_
    refine lv_iconst (v := 5) hx hb dX12_tableAt_6 (by decide) ?_
    refine lv_iload_n hx hb dX12_tableAt_7 rfl (lv_at hl 1 rfl) ?_
    refine lv_bipush (v := 12) hx hb dX12_tableAt_8 (by decide) ?_
    refine lv_irem hx hb dX12_tableAt_10 (by decide) ?_
    refine lv_topi (fun x_2 ex_2 => ?_)
    replace hF := hF.trans (ap_n ex_2)
    have h_3 : rg x_2 0 11 := rg_of_eq ex_2 (rg_rem h_a0 rfl (by decide))
    have uh_3 := h_3.1
    have vh_3 := h_3.2
    refine lv_imul hx hb dX12_tableAt_11 ?_
    refine lv_topi (fun x_4 ex_4 => ?_)
    replace hF := hF.trans (ap_n ex_4)
    have h_5 : rg x_4 0 55 := rg_of_eq ex_4 (rg_mul (rg_k (5 : Int32) 5 rfl) h_3 (by decide))
    have uh_5 := h_5.1
    have vh_5 := h_5.2
    have tx_4 : (x_4).toInt = 5 * (x_2).toInt := by rw [ex_4]; exact i_mul_rg (a2 := 5) (b2 := (x_2).toInt) rfl rfl (rg_k (5 : Int32) 5 rfl) h_3 (by decide)
    refine lv_iadd hx hb dX12_tableAt_12 ?_
    refine lv_topi (fun x_6 ex_6 => ?_)
    replace hF := hF.trans (ap_n ex_6)
    have h_7 : rg x_6 20 75 := rg_of_eq ex_6 (rg_add (rg_k (20 : Int32) 20 rfl) h_5 (by decide))
    have uh_7 := h_7.1
    have vh_7 := h_7.2
    have tx_6 : (x_6).toInt = 20 + (x_4).toInt := by rw [ex_6]; exact i_add_rg (a2 := 20) (b2 := (x_4).toInt) rfl rfl (rg_k (20 : Int32) 20 rfl) h_5 (by decide)
    refine lv_iload_n hx hb dX12_tableAt_13 rfl (lv_at hl 2 rfl) ?_
    refine lv_iadd hx hb dX12_tableAt_14 ?_
    refine lv_topi (fun x_8 ex_8 => ?_)
    replace hF := hF.trans (ap_n ex_8)
    have h_9 : rg x_8 23 78 := rg_of_eq ex_8 (rg_add h_7 (rg_k (3 : Int32) 3 rfl) (by decide))
    have uh_9 := h_9.1
    have vh_9 := h_9.2
    have tx_8 : (x_8).toInt = (x_6).toInt + 3 := by rw [ex_8]; exact i_add_rg (a2 := (x_6).toInt) (b2 := 3) rfl rfl h_7 (rg_k (3 : Int32) 3 rfl) (by decide)
    refine pl_i hx hb hK hP hL_w_1 hK_w_1 hN_w_1 (rg_in h_9 (by decide)) dX12_tableAt_15 ?_
    refine lv_topi (fun x_10 ex_10 => ?_)
    replace hF := hF.trans (ap_n (vR_r hO_w_1 (by decide) ex_10))
    subst hQ
    exact W.iret (v := x_10) hx hb hr (fun t1 ht hW => ⟨⟨x_10, (σ, I, J, ri, rj, rq), rfl, ⟨rfl, (hF0.symm.trans hF)⟩, by rw [ht]; exact hP, va_K.moved hW.alike hK, hD⟩, hS.F ht⟩) hS.2.2 dX12_tableAt_16
  exact go _ _ _ hP hD hS hl

set_option maxRecDepth 100000 in
def g_X12_cellAt_c0 (a0 : Int32) (I : Nat → Int32) (J : Nat → Int64) (ri : Nat → Nat → Int32) (rj : Nat → Nat → Int64) (rq : Nat → Nat → Option Nat) : Int32 × vM := (ap1 ((16 : Int32) * a0) fun (x_2 : Int32) => (ap1 ((100 : Int32) + x_2) fun (x_4 : Int32) => (ap1 (x_4 + (0 : Int32)) fun (x_6 : Int32) => (ap1 (ri 384 (x_6).toNatClampNeg) fun (x_8 : Int32) => (x_8, I, J, ri, rj, rq)))))
set_option maxRecDepth 100000 in
theorem g_X12_cellAt_c0_e {a0 : Int32} {I : Nat → Int32} {J : Nat → Int64} {ri : Nat → Nat → Int32} {rj : Nat → Nat → Int64} {rq : Nat → Nat → Option Nat} : g_X12_cellAt_c0 a0 I J ri rj rq = (ap1 ((16 : Int32) * a0) fun (x_2 : Int32) => (ap1 ((100 : Int32) + x_2) fun (x_4 : Int32) => (ap1 (x_4 + (0 : Int32)) fun (x_6 : Int32) => (ap1 (ri 384 (x_6).toNatClampNeg) fun (x_8 : Int32) => (x_8, I, J, ri, rj, rq))))) := rfl
set_option maxHeartbeats 4000000 in
set_option maxRecDepth 100000 in
theorem s_X12_cellAt_c0 (l : Launch) (D : va_G) (t : pq_T) (σ : pq_S) (I : Nat → Nat → Int32) (J : Nat → Nat → Int64) (ri : Nat → Nat → Int32) (rj : Nat → Nat → Int64) (rq : Nat → Nat → Option Nat) (sz : Nat) (tg : Nat → Nat) (hSH : SH σ tg) (hG0 : GT tg I ri) (this : Nat) (a0 : Int32) (hL_this : this ∈ σ.1) (hK_this : σ.2.1 this = 12) (h_a0 : rg a0 0 39) : MetI l yX12_cellAt (wa yX12_cellAt cX12_cellAt 3 (some .int)) ({ frames := 0, cells := 0, slots := 0, locals := 0 }) [.ref this, .int a0, .int 0] D t σ (I, J, ri, rj, rq) sz 0 0 (fun (r : Int32) (u : pq_S × pq_M) => u = (σ, I, J, ri, rj, rq) ∧ g_X12_cellAt_c0 a0 (vI 12 σ this I) (vJ 12 σ this J) (vR 12 σ this ri) (vL 12 σ this rj) (vQ 12 σ this rq) = (r, (vI 12 σ this I), (vJ 12 σ this J), (vR 12 σ this ri), (vL 12 σ this rj), (vQ 12 σ this rq))) := by
  refine Met.ofW (cc := cX12_cellAt) (maxL := 3) (ret := (some .int)) (by decide) rfl ?_
  intro p e s m args below meth c s₁ B hml hv
  obtain ⟨rfl, hsz, hP, hK, hD0, hN⟩ := hv
  have hx := B.exec
  have hb := B.bytes
  have hr := B.returns
  have hts := atoms_spec (ws := (wa yX12_cellAt cX12_cellAt 3 (some .int))) B.pre
  have hown : s.vm.findClass RX12 = some m.cls := findClass_of_methodNamed B.named
  have hlocks := B.notSynchronized
  subst hsz
  have hD : va_D (pq_B t σ (I, J, ri, rj, rq) s.heap.size) (pq_P t σ (I, J, ri, rj, rq)) := hD0.self
  generalize hAe : pq_B t σ (I, J, ri, rj, rq) s.heap.size = A at hD ⊢
  have hA : ∀ q : Nat, s.heap.size ≤ q → A q := fun q h => by rw [← hAe]; exact Or.inr h
  have hS : va_S A s.heap s.heap [] := va_S.rf
  have hG : GM [] tg σ I ri I ri rq := ⟨hG0, fun _ _ _ => rfl, fun _ _ _ _ _ => rfl, fun _ _ _ _ _ _ => rfl⟩
  have hl := lv_entry ([.ref this, .int a0, .int 0]) (n := 3) (Nat.le_of_ble_eq_true rfl)
  rw [lg_entry_eq]
  generalize (lg_sl ([.ref this, .int a0, .int 0]) ++ List.replicate (3 - (lg_sl ([.ref this, .int a0, .int 0])).length) Slot.unset).toArray = ls at hl ⊢
  have hl : lv_has ls 3 [(0, .ref this), (1, .int a0), (2, .int 0)] := hl
  refine q_gen (fun Q hQ => ?_)
  have go : ∀ (H : Heap) (locs : List Loc) (ls : Array Slot), va_P D vwCl (pq_P t σ (I, J, ri, rj, rq)) H → va_D A (pq_P t σ (I, J, ri, rj, rq)) → va_S A s.heap H locs → lv_has ls 3 [(0, .ref this), (1, .int a0), (2, .int 0)] → W p l e ({ frames := 0, cells := 0, slots := 0, locals := 0 } : Room) s m (List.toArray ([.ref this, .int a0, .int 0] : List Value)) below meth c H locs 0 0 Q (F0 m 0 ls []) := by
    intro H locs ls hP hD hS hl
    have hO_this : this = vo σ 12 this := rfl
    have hVT : VT 12 σ tg this := vt_12 hSH hL_this hK_this
    have hFr : FR 12 tg σ this (I, J, ri, rj, rq) (I, J, ri, rj, rq) := fr_rf
    obtain ⟨F, hF0⟩ : ∃ F, F = g_X12_cellAt_c0 a0 (vI 12 σ this I) (vJ 12 σ this J) (vR 12 σ this ri) (vL 12 σ this rj) (vQ 12 σ this rq) := ⟨_, rfl⟩
    have hF := hF0.trans g_X12_cellAt_c0_e
    refine lv_aload_n hx hb dX12_cellAt_0 rfl (lv_at hl 0 rfl) ?_
    obtain ⟨w_1, hR_w_1, hL_w_1, hK_w_1, hN_w_1, hT_w_1⟩ := sh_a hSH 384 (ci := 12) (kd := 13) (len := 12720) rfl (by decide) hL_this hK_this
    have hO_w_1 : w_1 = vrow σ 384 this := vo_k (c := 12) hO_this hR_w_1
    refine pg_f (v := .ref w_1) (C := RX12) (T := TX12) (N := 31) hx hb hts (tw_i inlX12) hown hK hP hL_this hK_this (by decide) rfl 0 (by decide) (hts _ (tw_c tw_176)) (pq_hv rfl hR_w_1) dX12_cellAt_1 ?_
    refine lv_bipush (v := 100) hx hb dX12_cellAt_4 (by decide) ?_
    refine lv_bipush (v := 16) hx hb dX12_cellAt_6 (by decide) ?_
    refine lv_iload_n hx hb dX12_cellAt_8 rfl (lv_at hl 1 rfl) ?_
    refine lv_imul hx hb dX12_cellAt_9 ?_
    refine lv_topi (fun x_2 ex_2 => ?_)
    replace hF := hF.trans (ap_n ex_2)
    have h_3 : rg x_2 0 624 := rg_of_eq ex_2 (rg_mul (rg_k (16 : Int32) 16 rfl) h_a0 (by decide))
    have uh_3 := h_3.1
    have vh_3 := h_3.2
    have tx_2 : (x_2).toInt = 16 * (a0).toInt := by rw [ex_2]; exact i_mul_rg (a2 := 16) (b2 := (a0).toInt) rfl rfl (rg_k (16 : Int32) 16 rfl) h_a0 (by decide)
    refine lv_iadd hx hb dX12_cellAt_10 ?_
    refine lv_topi (fun x_4 ex_4 => ?_)
    replace hF := hF.trans (ap_n ex_4)
    have h_5 : rg x_4 100 724 := rg_of_eq ex_4 (rg_add (rg_k (100 : Int32) 100 rfl) h_3 (by decide))
    have uh_5 := h_5.1
    have vh_5 := h_5.2
    have tx_4 : (x_4).toInt = 100 + (x_2).toInt := by rw [ex_4]; exact i_add_rg (a2 := 100) (b2 := (x_2).toInt) rfl rfl (rg_k (100 : Int32) 100 rfl) h_3 (by decide)
    refine lv_iload_n hx hb dX12_cellAt_11 rfl (lv_at hl 2 rfl) ?_
    refine lv_iadd hx hb dX12_cellAt_12 ?_
    refine lv_topi (fun x_6 ex_6 => ?_)
    replace hF := hF.trans (ap_n ex_6)
    have h_7 : rg x_6 100 724 := rg_of_eq ex_6 (rg_add h_5 (rg_k (0 : Int32) 0 rfl) (by decide))
    have uh_7 := h_7.1
    have vh_7 := h_7.2
    have tx_6 : (x_6).toInt = (x_4).toInt + 0 := by rw [ex_6]; exact i_add_rg (a2 := (x_4).toInt) (b2 := 0) rfl rfl h_5 (rg_k (0 : Int32) 0 rfl) (by decide)
    refine pl_i hx hb hK hP hL_w_1 hK_w_1 hN_w_1 (rg_in h_7 (by decide)) dX12_cellAt_13 ?_
    refine lv_topi (fun x_8 ex_8 => ?_)
    replace hF := hF.trans (ap_n (vR_r hO_w_1 (by decide) ex_8))
    subst hQ
    exact W.iret (v := x_8) hx hb hr (fun t1 ht hW => ⟨⟨x_8, (σ, I, J, ri, rj, rq), rfl, ⟨rfl, (hF0.symm.trans hF)⟩, by rw [ht]; exact hP, va_K.moved hW.alike hK, hD⟩, hS.F ht⟩) hS.2.2 dX12_cellAt_14
  exact go _ _ _ hP hD hS hl

set_option maxRecDepth 100000 in
def g_X12_sandGoes_K187 (x_48979 : Int32) (k_g_X12_sandGoes_L67 : (Int32) → (Nat → Nat → Int32) → vM) (ri_49529 : Nat → Nat → Int32) : vM := (ap1 (x_48979 + Int32.ofInt 1) fun (x_49533 : Int32) => (k_g_X12_sandGoes_L67 x_49533 ri_49529))
set_option maxRecDepth 100000 in
theorem g_X12_sandGoes_K187_e {x_48979 : Int32} {k_g_X12_sandGoes_L67 : (Int32) → (Nat → Nat → Int32) → vM} {ri_49529 : Nat → Nat → Int32} : g_X12_sandGoes_K187 x_48979 k_g_X12_sandGoes_L67 ri_49529 = (ap1 (x_48979 + Int32.ofInt 1) fun (x_49533 : Int32) => (k_g_X12_sandGoes_L67 x_49533 ri_49529)) := rfl
set_option maxRecDepth 100000 in
def g_X12_sandGoes_K135 (x_49409 : Int32) (y_43517 : Int32) (x_48979 : Int32) (k_g_X12_sandGoes_L67 : (Int32) → (Nat → Nat → Int32) → vM) (r_49264 : Nat → Nat → Int32) : vM := (if (y_43517) ≤ x_49409 then (ap1 (r_49264 384 ((9 : Int32)).toNatClampNeg) fun (x_49541 : Int32) => (ap1 (r_49264 409 (x_48979).toNatClampNeg) fun (x_49542 : Int32) => (ap1 (x_49541 + x_49542) fun (x_49543 : Int32) => (ap1 (va_up r_49264 384 (upd (r_49264 384) ((9 : Int32)).toNatClampNeg x_49543)) fun (r_49544 : Nat → Nat → Int32) => (g_X12_sandGoes_K187 x_48979 k_g_X12_sandGoes_L67 r_49544))))) else (ap1 ((16 : Int32) * x_49409) fun (x_49548 : Int32) => (ap1 ((100 : Int32) + x_49548) fun (x_49550 : Int32) => (ap1 (x_49550 + (4 : Int32)) fun (x_49552 : Int32) => (ap1 (r_49264 384 (x_49552).toNatClampNeg) fun (x_49554 : Int32) => (ap1 (r_49264 409 (x_48979).toNatClampNeg) fun (x_49555 : Int32) => (ap1 (x_49554 + x_49555) fun (x_49556 : Int32) => (ap1 (va_up r_49264 384 (upd (r_49264 384) (x_49552).toNatClampNeg x_49556)) fun (r_49557 : Nat → Nat → Int32) => (g_X12_sandGoes_K187 x_48979 k_g_X12_sandGoes_L67 r_49557)))))))))
set_option maxRecDepth 100000 in
theorem g_X12_sandGoes_K135_e {x_49409 : Int32} {y_43517 : Int32} {x_48979 : Int32} {k_g_X12_sandGoes_L67 : (Int32) → (Nat → Nat → Int32) → vM} {r_49264 : Nat → Nat → Int32} : g_X12_sandGoes_K135 x_49409 y_43517 x_48979 k_g_X12_sandGoes_L67 r_49264  = (if (y_43517) ≤ x_49409 then (ap1 (r_49264 384 ((9 : Int32)).toNatClampNeg) fun (x_49541 : Int32) => (ap1 (r_49264 409 (x_48979).toNatClampNeg) fun (x_49542 : Int32) => (ap1 (x_49541 + x_49542) fun (x_49543 : Int32) => (ap1 (va_up r_49264 384 (upd (r_49264 384) ((9 : Int32)).toNatClampNeg x_49543)) fun (r_49544 : Nat → Nat → Int32) => (g_X12_sandGoes_K187 x_48979 k_g_X12_sandGoes_L67 r_49544))))) else (ap1 ((16 : Int32) * x_49409) fun (x_49548 : Int32) => (ap1 ((100 : Int32) + x_49548) fun (x_49550 : Int32) => (ap1 (x_49550 + (4 : Int32)) fun (x_49552 : Int32) => (ap1 (r_49264 384 (x_49552).toNatClampNeg) fun (x_49554 : Int32) => (ap1 (r_49264 409 (x_48979).toNatClampNeg) fun (x_49555 : Int32) => (ap1 (x_49554 + x_49555) fun (x_49556 : Int32) => (ap1 (va_up r_49264 384 (upd (r_49264 384) (x_49552).toNatClampNeg x_49556)) fun (r_49557 : Nat → Nat → Int32) => (g_X12_sandGoes_K187 x_48979 k_g_X12_sandGoes_L67 r_49557))))))))) := rfl
set_option maxRecDepth 100000 in
def g_X12_sandGoes_L104 (I : Nat → Int32) (J : Nat → Int64) (rj : Nat → Nat → Int64) (rq : Nat → Nat → Option Nat) (y_43517 : Int32) (x_48979 : Int32) (k_g_X12_sandGoes_L67 : (Int32) → (Nat → Nat → Int32) → vM) (r_49264 : Nat → Nat → Int32) : Nat → (Int32) → vM
  | 0, x_49409 => (I, J, r_49264, rj, rq)
  | n_49458 + 1, x_49409 => (if (y_43517) ≤ x_49409 then (g_X12_sandGoes_K135 x_49409 y_43517 x_48979 k_g_X12_sandGoes_L67 r_49264 ) else (bnI (g_X12_cellAt_c0 x_49409 I J r_49264 rj rq) fun (x_49567 : Int32) (_ : Nat → Int32) (_ : Nat → Int64) (_ : Nat → Nat → Int32) (_ : Nat → Nat → Int64) (_ : Nat → Nat → Option Nat) => (bnI (g_X12_cellAt_c0 x_48979 I J r_49264 rj rq) fun (x_49574 : Int32) (_ : Nat → Int32) (_ : Nat → Int64) (_ : Nat → Nat → Int32) (_ : Nat → Nat → Int64) (_ : Nat → Nat → Option Nat) => (if x_49567 = x_49574 then (g_X12_sandGoes_K135 x_49409 y_43517 x_48979 k_g_X12_sandGoes_L67 r_49264 ) else (ap1 (x_49409 + Int32.ofInt 1) fun (x_49586 : Int32) => ((g_X12_sandGoes_L104 I J rj rq y_43517 x_48979 k_g_X12_sandGoes_L67 r_49264 n_49458) x_49586))))))
set_option maxRecDepth 100000 in
theorem g_X12_sandGoes_L104_e {I : Nat → Int32} {J : Nat → Int64} {rj : Nat → Nat → Int64} {rq : Nat → Nat → Option Nat} {y_43517 : Int32} {x_48979 : Int32} {k_g_X12_sandGoes_L67 : (Int32) → (Nat → Nat → Int32) → vM} {r_49264 : Nat → Nat → Int32} {n_49458 : Nat} {x_49409 : Int32} : g_X12_sandGoes_L104 I J rj rq y_43517 x_48979 k_g_X12_sandGoes_L67 r_49264 (n_49458 + 1) x_49409 = (if (y_43517) ≤ x_49409 then (g_X12_sandGoes_K135 x_49409 y_43517 x_48979 k_g_X12_sandGoes_L67 r_49264 ) else (bnI (g_X12_cellAt_c0 x_49409 I J r_49264 rj rq) fun (x_49567 : Int32) (_ : Nat → Int32) (_ : Nat → Int64) (_ : Nat → Nat → Int32) (_ : Nat → Nat → Int64) (_ : Nat → Nat → Option Nat) => (bnI (g_X12_cellAt_c0 x_48979 I J r_49264 rj rq) fun (x_49574 : Int32) (_ : Nat → Int32) (_ : Nat → Int64) (_ : Nat → Nat → Int32) (_ : Nat → Nat → Int64) (_ : Nat → Nat → Option Nat) => (if x_49567 = x_49574 then (g_X12_sandGoes_K135 x_49409 y_43517 x_48979 k_g_X12_sandGoes_L67 r_49264 ) else (ap1 (x_49409 + Int32.ofInt 1) fun (x_49586 : Int32) => ((g_X12_sandGoes_L104 I J rj rq y_43517 x_48979 k_g_X12_sandGoes_L67 r_49264 n_49458) x_49586)))))) := rfl
set_option maxRecDepth 100000 in
def g_X12_sandGoes_L67 (I : Nat → Int32) (J : Nat → Int64) (rj : Nat → Nat → Int64) (rq : Nat → Nat → Option Nat) (y_43517 : Int32) : Nat → (Int32) → (Nat → Nat → Int32) → vM
  | 0, x_48979, ri_48980 => (I, J, ri_48980, rj, rq)
  | n_49240 + 1, x_48979, ri_48980 => (if (y_43517) ≤ x_48979 then (I, J, ri_48980, rj, rq) else (ap1 ((16 : Int32) * x_48979) fun (x_49254 : Int32) => (ap1 ((100 : Int32) + x_49254) fun (x_49256 : Int32) => (ap1 (x_49256 + (4 : Int32)) fun (x_49258 : Int32) => (ap1 (ri_48980 384 (x_49258).toNatClampNeg) fun (x_49260 : Int32) => (ap1 (ri_48980 409 (x_48979).toNatClampNeg) fun (x_49262 : Int32) => (ap1 (x_49260 - x_49262) fun (x_49263 : Int32) => (ap1 (va_up ri_48980 384 (upd (ri_48980 384) (x_49258).toNatClampNeg x_49263)) fun (r_49264 : Nat → Nat → Int32) => (ap1 (x_48979 + (1 : Int32)) fun (x_49265 : Int32) => (g_X12_sandGoes_L104 I J rj rq y_43517 x_48979 (g_X12_sandGoes_L67 I J rj rq y_43517 n_49240) r_49264 ((40 - (x_49265).toInt).toNat + 1) x_49265))))))))))
set_option maxRecDepth 100000 in
theorem g_X12_sandGoes_L67_e {I : Nat → Int32} {J : Nat → Int64} {rj : Nat → Nat → Int64} {rq : Nat → Nat → Option Nat} {y_43517 : Int32} {n_49240 : Nat} {x_48979 : Int32} {ri_48980 : Nat → Nat → Int32} : g_X12_sandGoes_L67 I J rj rq y_43517 (n_49240 + 1) x_48979 ri_48980 = (if (y_43517) ≤ x_48979 then (I, J, ri_48980, rj, rq) else (ap1 ((16 : Int32) * x_48979) fun (x_49254 : Int32) => (ap1 ((100 : Int32) + x_49254) fun (x_49256 : Int32) => (ap1 (x_49256 + (4 : Int32)) fun (x_49258 : Int32) => (ap1 (ri_48980 384 (x_49258).toNatClampNeg) fun (x_49260 : Int32) => (ap1 (ri_48980 409 (x_48979).toNatClampNeg) fun (x_49262 : Int32) => (ap1 (x_49260 - x_49262) fun (x_49263 : Int32) => (ap1 (va_up ri_48980 384 (upd (ri_48980 384) (x_49258).toNatClampNeg x_49263)) fun (r_49264 : Nat → Nat → Int32) => (ap1 (x_48979 + (1 : Int32)) fun (x_49265 : Int32) => (g_X12_sandGoes_L104 I J rj rq y_43517 x_48979 (g_X12_sandGoes_L67 I J rj rq y_43517 n_49240) r_49264 ((40 - (x_49265).toInt).toNat + 1) x_49265)))))))))) := rfl
set_option maxRecDepth 100000 in
def g_X12_sandGoes_K58 (x_37480 : Int32) (ri_37481 : Nat → Nat → Int32) (k_g_X12_sandGoes_L2 : (Int32) → (Nat → Nat → Int32) → vM) (x_49630 : Int32) : vM := (ap1 (va_up ri_37481 409 (upd (ri_37481 409) (x_37480).toNatClampNeg x_49630)) fun (r_49635 : Nat → Nat → Int32) => (ap1 (x_37480 + Int32.ofInt 1) fun (x_49636 : Int32) => (k_g_X12_sandGoes_L2 x_49636 r_49635)))
set_option maxRecDepth 100000 in
theorem g_X12_sandGoes_K58_e {x_37480 : Int32} {ri_37481 : Nat → Nat → Int32} {k_g_X12_sandGoes_L2 : (Int32) → (Nat → Nat → Int32) → vM} {x_49630 : Int32} : g_X12_sandGoes_K58 x_37480 ri_37481 k_g_X12_sandGoes_L2 x_49630 = (ap1 (va_up ri_37481 409 (upd (ri_37481 409) (x_37480).toNatClampNeg x_49630)) fun (r_49635 : Nat → Nat → Int32) => (ap1 (x_37480 + Int32.ofInt 1) fun (x_49636 : Int32) => (k_g_X12_sandGoes_L2 x_49636 r_49635))) := rfl
set_option maxRecDepth 100000 in
def g_X12_sandGoes_L2 (a0 : Int32) (I : Nat → Int32) (J : Nat → Int64) (ri : Nat → Nat → Int32) (rj : Nat → Nat → Int64) (rq : Nat → Nat → Option Nat) : Nat → (Int32) → (Nat → Nat → Int32) → vM
  | 0, x_37480, ri_37481 => (I, J, ri_37481, rj, rq)
  | n_43510 + 1, x_37480, ri_37481 => (ap1 (ri 384 2) fun (y_43517 : Int32) => (if (y_43517) ≤ x_37480 then (g_X12_sandGoes_L67 I J rj rq y_43517 ((40 - ((0 : Int32)).toInt).toNat + 1) (0 : Int32) ri_37481) else (bnI (g_X12_tableAt_c3 a0 I J ri_37481 rj rq) fun (x_49591 : Int32) (_ : Nat → Int32) (_ : Nat → Int64) (_ : Nat → Nat → Int32) (_ : Nat → Nat → Int64) (_ : Nat → Nat → Option Nat) => (bnI (g_X12_cellAt_c6 x_37480 I J ri_37481 rj rq) fun (x_49599 : Int32) (_ : Nat → Int32) (_ : Nat → Int64) (_ : Nat → Nat → Int32) (_ : Nat → Nat → Int64) (_ : Nat → Nat → Option Nat) => (if x_49599 ≤ (0 : Int32) then (bnI (g_X12_cellAt_c4 x_37480 I J ri_37481 rj rq) fun (x_49645 : Int32) (_ : Nat → Int32) (_ : Nat → Int64) (_ : Nat → Nat → Int32) (_ : Nat → Nat → Int64) (_ : Nat → Nat → Option Nat) => (if x_49591 ≤ x_49645 then (g_X12_sandGoes_K58 x_37480 ri_37481 (g_X12_sandGoes_L2 a0 I J ri rj rq n_43510) x_49591) else (bnI (g_X12_cellAt_c4 x_37480 I J ri_37481 rj rq) fun (x_49661 : Int32) (_ : Nat → Int32) (_ : Nat → Int64) (_ : Nat → Nat → Int32) (_ : Nat → Nat → Int64) (_ : Nat → Nat → Option Nat) => (g_X12_sandGoes_K58 x_37480 ri_37481 (g_X12_sandGoes_L2 a0 I J ri rj rq n_43510) x_49661)))) else (g_X12_sandGoes_K58 x_37480 ri_37481 (g_X12_sandGoes_L2 a0 I J ri rj rq n_43510) (0 : Int32)))))))
set_option maxRecDepth 100000 in
theorem g_X12_sandGoes_L2_e {a0 : Int32} {I : Nat → Int32} {J : Nat → Int64} {ri : Nat → Nat → Int32} {rj : Nat → Nat → Int64} {rq : Nat → Nat → Option Nat} {n_43510 : Nat} {x_37480 : Int32} {ri_37481 : Nat → Nat → Int32} : g_X12_sandGoes_L2 a0 I J ri rj rq (n_43510 + 1) x_37480 ri_37481 = (ap1 (ri 384 2) fun (y_43517 : Int32) => (if (y_43517) ≤ x_37480 then (g_X12_sandGoes_L67 I J rj rq y_43517 ((40 - ((0 : Int32)).toInt).toNat + 1) (0 : Int32) ri_37481) else (bnI (g_X12_tableAt_c3 a0 I J ri_37481 rj rq) fun (x_49591 : Int32) (_ : Nat → Int32) (_ : Nat → Int64) (_ : Nat → Nat → Int32) (_ : Nat → Nat → Int64) (_ : Nat → Nat → Option Nat) => (bnI (g_X12_cellAt_c6 x_37480 I J ri_37481 rj rq) fun (x_49599 : Int32) (_ : Nat → Int32) (_ : Nat → Int64) (_ : Nat → Nat → Int32) (_ : Nat → Nat → Int64) (_ : Nat → Nat → Option Nat) => (if x_49599 ≤ (0 : Int32) then (bnI (g_X12_cellAt_c4 x_37480 I J ri_37481 rj rq) fun (x_49645 : Int32) (_ : Nat → Int32) (_ : Nat → Int64) (_ : Nat → Nat → Int32) (_ : Nat → Nat → Int64) (_ : Nat → Nat → Option Nat) => (if x_49591 ≤ x_49645 then (g_X12_sandGoes_K58 x_37480 ri_37481 (g_X12_sandGoes_L2 a0 I J ri rj rq n_43510) x_49591) else (bnI (g_X12_cellAt_c4 x_37480 I J ri_37481 rj rq) fun (x_49661 : Int32) (_ : Nat → Int32) (_ : Nat → Int64) (_ : Nat → Nat → Int32) (_ : Nat → Nat → Int64) (_ : Nat → Nat → Option Nat) => (g_X12_sandGoes_K58 x_37480 ri_37481 (g_X12_sandGoes_L2 a0 I J ri rj rq n_43510) x_49661)))) else (g_X12_sandGoes_K58 x_37480 ri_37481 (g_X12_sandGoes_L2 a0 I J ri rj rq n_43510) (0 : Int32))))))) := rfl
set_option maxRecDepth 100000 in
def g_X12_sandGoes (a0 : Int32) (I : Nat → Int32) (J : Nat → Int64) (ri : Nat → Nat → Int32) (rj : Nat → Nat → Int64) (rq : Nat → Nat → Option Nat) : vM := (g_X12_sandGoes_L2 a0 I J ri rj rq ((40 - ((0 : Int32)).toInt).toNat + 1) (0 : Int32) ri)
set_option maxRecDepth 100000 in
theorem g_X12_sandGoes_e {a0 : Int32} {I : Nat → Int32} {J : Nat → Int64} {ri : Nat → Nat → Int32} {rj : Nat → Nat → Int64} {rq : Nat → Nat → Option Nat} : g_X12_sandGoes a0 I J ri rj rq = (g_X12_sandGoes_L2 a0 I J ri rj rq ((40 - ((0 : Int32)).toInt).toNat + 1) (0 : Int32) ri) := rfl
set_option maxHeartbeats 4000000 in
set_option maxRecDepth 100000 in
theorem s_X12_sandGoes (l : Launch) (D : va_G) (t : pq_T) (σ : pq_S) (I : Nat → Nat → Int32) (J : Nat → Nat → Int64) (ri : Nat → Nat → Int32) (rj : Nat → Nat → Int64) (rq : Nat → Nat → Option Nat) (sz : Nat) (tg : Nat → Nat) (hSH : SH σ tg) (hG0 : GT tg I ri) (this : Nat) (a0 : Int32) (hL_this : this ∈ σ.1) (hK_this : σ.2.1 this = 12) (h_a0 : rg a0 0 599) : MetV l yX12_sandGoes (wa yX12_sandGoes cX12_sandGoes 4 none) ({ frames := 1, cells := 0, slots := 0, locals := 22 }) [.ref this, .int a0] D t σ (I, J, ri, rj, rq) sz 0 0 (fun (u : pq_S × pq_M) => ∃ ri' : Nat → Nat → Int32, u = (σ, I, J, ri', rj, rq) ∧ GM [1304] tg σ I ri I ri' rq ∧ g_X12_sandGoes a0 (vI 12 σ this I) (vJ 12 σ this J) (vR 12 σ this ri) (vL 12 σ this rj) (vQ 12 σ this rq) = ((vI 12 σ this I), (vJ 12 σ this J), (vR 12 σ this ri'), (vL 12 σ this rj), (vQ 12 σ this rq)) ∧ FR 12 tg σ this (I, J, ri, rj, rq) (I, J, ri', rj, rq)) := by
  refine Met.ofW (cc := cX12_sandGoes) (maxL := 4) (ret := none) (by decide) rfl ?_
  intro p e s m args below meth c s₁ B hml hv
  obtain ⟨rfl, hsz, hP, hK, hD0, hN⟩ := hv
  have hx := B.exec
  have hb := B.bytes
  have hr := B.returns
  have hts := atoms_spec (ws := (wa yX12_sandGoes cX12_sandGoes 4 none)) B.pre
  have hown : s.vm.findClass RX12 = some m.cls := findClass_of_methodNamed B.named
  have hlocks := B.notSynchronized
  subst hsz
  have hD : va_D (pq_B t σ (I, J, ri, rj, rq) s.heap.size) (pq_P t σ (I, J, ri, rj, rq)) := hD0.self
  generalize hAe : pq_B t σ (I, J, ri, rj, rq) s.heap.size = A at hD ⊢
  have hA : ∀ q : Nat, s.heap.size ≤ q → A q := fun q h => by rw [← hAe]; exact Or.inr h
  have hS : va_S A s.heap s.heap [] := va_S.rf
  have hG : GM [1304] tg σ I ri I ri rq := ⟨hG0, fun _ _ _ => rfl, fun _ _ _ _ _ => rfl, fun _ _ _ _ _ _ => rfl⟩
  have hl := lv_entry ([.ref this, .int a0]) (n := 4) (Nat.le_of_ble_eq_true rfl)
  rw [lg_entry_eq]
  generalize (lg_sl ([.ref this, .int a0]) ++ List.replicate (4 - (lg_sl ([.ref this, .int a0])).length) Slot.unset).toArray = ls at hl ⊢
  have hl : lv_has ls 4 [(0, .ref this), (1, .int a0)] := hl
  refine q_gen (fun Q hQ => ?_)
  have go : ∀ (H : Heap) (locs : List Loc) (ls : Array Slot), va_P D vwCl (pq_P t σ (I, J, ri, rj, rq)) H → va_D A (pq_P t σ (I, J, ri, rj, rq)) → va_S A s.heap H locs → lv_has ls 4 [(0, .ref this), (1, .int a0)] → W p l e ({ frames := 1, cells := 0, slots := 0, locals := 22 } : Room) s m (List.toArray ([.ref this, .int a0] : List Value)) below meth c H locs 0 0 Q (F0 m 0 ls []) := by
    intro H locs ls hP hD hS hl
    have hO_this : this = vo σ 12 this := rfl
    have hVT : VT 12 σ tg this := vt_12 hSH hL_this hK_this
    have hFr : FR 12 tg σ this (I, J, ri, rj, rq) (I, J, ri, rj, rq) := fr_rf
    obtain ⟨F, hF0⟩ : ∃ F, F = g_X12_sandGoes a0 (vI 12 σ this I) (vJ 12 σ this J) (vR 12 σ this ri) (vL 12 σ this rj) (vQ 12 σ this rq) := ⟨_, rfl⟩
    have hF := hF0.trans g_X12_sandGoes_e
    refine lv_iconst (v := 0) hx hb dX12_sandGoes_0 (by decide) ?_
    refine lv_istore_n (lv' := [(2, .int 0), (0, .ref this), (1, .int a0)]) hx hb dX12_sandGoes_1 rfl hl (by decide) rfl (fun ls hl => ?_)
    have L_43511 : ∀ (n_43510 : Nat) (x_37480 : Int32) (ri_37481 : Nat → Nat → Int32) (H : Heap) (locs : List Loc) (ls : Array Slot), rg x_37480 0 40 → (40 - (x_37480).toInt).toNat < n_43510 → F = g_X12_sandGoes_L2 a0 (vI 12 σ this I) (vJ 12 σ this J) (vR 12 σ this ri) (vL 12 σ this rj) (vQ 12 σ this rq) n_43510 x_37480 (vR 12 σ this ri_37481) → FR 12 tg σ this (I, J, ri, rj, rq) (I, J, ri_37481, rj, rq) → GM [1304] tg σ I ri I ri_37481 rq → va_P D vwCl (pq_P t σ (I, J, ri_37481, rj, rq)) H → va_D A (pq_P t σ (I, J, ri_37481, rj, rq)) → va_S A s.heap H locs → lv_has ls 4 [(0, .ref this), (1, .int a0), (2, .int x_37480)] → W p l e ({ frames := 1, cells := 0, slots := 0, locals := 22 } : Room) s m (List.toArray ([.ref this, .int a0] : List Value)) below meth c H locs 0 0 Q (F0 m 2 ls []) := by
      intro n_43510
      induction n_43510 with
      | zero => intro x_37480 ri_37481 H locs ls h_43514 hm_43509 hF hFr hG hP hD hS hl; exact absurd hm_43509 (Nat.not_lt_zero _)
      | succ n_43510 ih_43512 =>
        intro x_37480 ri_37481 H locs ls h_43514 hm_43509 hF hFr hG hP hD hS hl
        have uh_43514 := h_43514.1
        have vh_43514 := h_43514.2
        replace hF := hF.trans g_X12_sandGoes_L2_e
        refine lv_iload_n hx hb dX12_sandGoes_2 rfl (lv_at hl 2 rfl) ?_
        refine lv_aload_n hx hb dX12_sandGoes_3 rfl (lv_at hl 0 rfl) ?_
        obtain ⟨w_43515, hR_w_43515, hL_w_43515, hK_w_43515, hN_w_43515, hT_w_43515⟩ := sh_a hSH 384 (ci := 12) (kd := 13) (len := 12720) rfl (by decide) hL_this hK_this
        have hO_w_43515 : w_43515 = vrow σ 384 this := vo_k (c := 12) hO_this hR_w_43515
        refine pg_f (v := .ref w_43515) (C := RX12) (T := TX12) (N := 31) hx hb hts (tw_i inlX12) hown hK hP hL_this hK_this (by decide) rfl 0 (by decide) (hts _ (tw_c tw_176)) (pq_hv rfl hR_w_43515) dX12_sandGoes_4 ?_
        refine lv_iconst (v := 2) hx hb dX12_sandGoes_7 (by decide) ?_
        refine pl_i hx hb hK hP hL_w_43515 hK_w_43515 hN_w_43515 (vp_in_iff.mpr (by decide)) dX12_sandGoes_8 ?_
        refine lv_tov (ri w_43515 2) (hG.2.2.1 w_43515 hT_w_43515 2 (by decide) (by decide)) ?_
        have h_43516 : rg (ri w_43515 2) 0 40 := GM.z0 hG0 (by rw [hT_w_43515]; decide) (i := 2) (k := 2) (by decide) rfl
        have uh_43516 := h_43516.1
        have vh_43516 := h_43516.2
        replace hF := hF.trans (ap_n (vR_r hO_w_43515 (by decide) rfl))
        refine lv_icmp_ge (tgt := 65) hx hb dX12_sandGoes_9 (by decide) (fun c_43518 => ?_) (fun c_43518 => ?_)
        · replace hF := hF.trans (if_pos c_43518)
          have tc_43523 : (ri w_43515 2).toInt ≤ (x_37480).toInt := Int32.le_iff_toInt_le.mp c_43518
          refine lv_iconst (v := 0) hx hb dX12_sandGoes_65 (by decide) ?_
          refine lv_istore_n (lv' := [(2, .int 0), (0, .ref this), (1, .int a0)]) hx hb dX12_sandGoes_66 rfl hl (by decide) rfl (fun ls hl => ?_)
          have L_49241 : ∀ (n_49240 : Nat) (x_48979 : Int32) (ri_48980 : Nat → Nat → Int32) (H : Heap) (locs : List Loc) (ls : Array Slot), rg x_48979 0 40 → (40 - (x_48979).toInt).toNat < n_49240 → F = g_X12_sandGoes_L67 (vI 12 σ this I) (vJ 12 σ this J) (vL 12 σ this rj) (vQ 12 σ this rq) (ri w_43515 2) n_49240 x_48979 (vR 12 σ this ri_48980) → FR 12 tg σ this (I, J, ri, rj, rq) (I, J, ri_48980, rj, rq) → GM [1304] tg σ I ri I ri_48980 rq → va_P D vwCl (pq_P t σ (I, J, ri_48980, rj, rq)) H → va_D A (pq_P t σ (I, J, ri_48980, rj, rq)) → va_S A s.heap H locs → lv_has ls 4 [(0, .ref this), (2, .int x_48979)] → W p l e ({ frames := 1, cells := 0, slots := 0, locals := 22 } : Room) s m (List.toArray ([.ref this, .int a0] : List Value)) below meth c H locs 0 0 Q (F0 m 67 ls []) := by
            intro n_49240
            induction n_49240 with
            | zero => intro x_48979 ri_48980 H locs ls h_49244 hm_49239 hF hFr hG hP hD hS hl; exact absurd hm_49239 (Nat.not_lt_zero _)
            | succ n_49240 ih_49242 =>
              intro x_48979 ri_48980 H locs ls h_49244 hm_49239 hF hFr hG hP hD hS hl
              have uh_49244 := h_49244.1
              have vh_49244 := h_49244.2
              replace hF := hF.trans g_X12_sandGoes_L67_e
              refine lv_iload_n hx hb dX12_sandGoes_67 rfl (lv_at hl 1 rfl) ?_
              refine lv_aload_n hx hb dX12_sandGoes_68 rfl (lv_at hl 0 rfl) ?_
              refine pg_f (v := .ref w_43515) (C := RX12) (T := TX12) (N := 31) hx hb hts (tw_i inlX12) hown hK hP hL_this hK_this (by decide) rfl 0 (by decide) (hts _ (tw_c tw_176)) (pq_hv rfl hR_w_43515) dX12_sandGoes_69 ?_
              refine lv_iconst (v := 2) hx hb dX12_sandGoes_72 (by decide) ?_
              refine pl_i hx hb hK hP hL_w_43515 hK_w_43515 hN_w_43515 (vp_in_iff.mpr (by decide)) dX12_sandGoes_73 ?_
              refine lv_tov (ri w_43515 2) (hG.2.2.1 w_43515 hT_w_43515 2 (by decide) (by decide)) ?_
              refine lv_icmp_ge (tgt := 193) hx hb dX12_sandGoes_74 (by decide) (fun c_49245 => ?_) (fun c_49245 => ?_)
              · replace hF := hF.trans (if_pos c_49245)
                have tc_49250 : (ri w_43515 2).toInt ≤ (x_48979).toInt := Int32.le_iff_toInt_le.mp c_49245
                subst hQ
                exact W.vret hx hb hr (fun t1 ht hW => ⟨⟨(σ, I, J, ri_48980, rj, rq), rfl, ⟨ri_48980, rfl, hG, (hF0.symm.trans hF), hFr⟩, by rw [ht]; exact hP, va_K.moved hW.alike hK, hD⟩, hS.F ht⟩) hS.2.2 dX12_sandGoes_193
              · replace hF := hF.trans (if_neg c_49245)
                have tc_49251 : (x_48979).toInt < (ri w_43515 2).toInt := Int32.lt_iff_toInt_lt.mp (nle c_49245)
                have h_49252 : rg x_48979 0 39 := rg_lt1 (nle c_49245) h_49244 h_43516 (by decide)
                have uh_49252 := h_49252.1
                have vh_49252 := h_49252.2
                have h_49253 : rg (ri w_43515 2) 1 40 := rg_lt2 (nle c_49245) h_49244 h_43516 (by decide)
                have uh_49253 := h_49253.1
                have vh_49253 := h_49253.2
                refine lv_aload_n hx hb dX12_sandGoes_77 rfl (lv_at hl 0 rfl) ?_
                refine pg_f (v := .ref w_43515) (C := RX12) (T := TX12) (N := 31) hx hb hts (tw_i inlX12) hown hK hP hL_this hK_this (by decide) rfl 0 (by decide) (hts _ (tw_c tw_176)) (pq_hv rfl hR_w_43515) dX12_sandGoes_78 ?_
                refine lv_bipush (v := 100) hx hb dX12_sandGoes_81 (by decide) ?_
                refine lv_bipush (v := 16) hx hb dX12_sandGoes_83 (by decide) ?_
                refine lv_iload_n hx hb dX12_sandGoes_85 rfl (lv_at hl 1 rfl) ?_
                refine lv_imul hx hb dX12_sandGoes_86 ?_
                refine lv_topi (fun x_49254 ex_49254 => ?_)
                replace hF := hF.trans (ap_n ex_49254)
                have h_49255 : rg x_49254 0 624 := rg_of_eq ex_49254 (rg_mul (rg_k (16 : Int32) 16 rfl) h_49252 (by decide))
                have uh_49255 := h_49255.1
                have vh_49255 := h_49255.2
                have tx_49254 : (x_49254).toInt = 16 * (x_48979).toInt := by rw [ex_49254]; exact i_mul_rg (a2 := 16) (b2 := (x_48979).toInt) rfl rfl (rg_k (16 : Int32) 16 rfl) h_49252 (by decide)
                refine lv_iadd hx hb dX12_sandGoes_87 ?_
                refine lv_topi (fun x_49256 ex_49256 => ?_)
                replace hF := hF.trans (ap_n ex_49256)
                have h_49257 : rg x_49256 100 724 := rg_of_eq ex_49256 (rg_add (rg_k (100 : Int32) 100 rfl) h_49255 (by decide))
                have uh_49257 := h_49257.1
                have vh_49257 := h_49257.2
                have tx_49256 : (x_49256).toInt = 100 + (x_49254).toInt := by rw [ex_49256]; exact i_add_rg (a2 := 100) (b2 := (x_49254).toInt) rfl rfl (rg_k (100 : Int32) 100 rfl) h_49255 (by decide)
                refine lv_iconst (v := 4) hx hb dX12_sandGoes_88 (by decide) ?_
                refine lv_iadd hx hb dX12_sandGoes_89 ?_
                refine lv_topi (fun x_49258 ex_49258 => ?_)
                replace hF := hF.trans (ap_n ex_49258)
                have h_49259 : rg x_49258 104 728 := rg_of_eq ex_49258 (rg_add h_49257 (rg_k (4 : Int32) 4 rfl) (by decide))
                have uh_49259 := h_49259.1
                have vh_49259 := h_49259.2
                have tx_49258 : (x_49258).toInt = (x_49256).toInt + 4 := by rw [ex_49258]; exact i_add_rg (a2 := (x_49256).toInt) (b2 := 4) rfl rfl h_49257 (rg_k (4 : Int32) 4 rfl) (by decide)
                refine lv_dup2_11 hx hb dX12_sandGoes_90 rfl rfl ?_
                refine pl_i hx hb hK hP hL_w_43515 hK_w_43515 hN_w_43515 (rg_in h_49259 (by decide)) dX12_sandGoes_91 ?_
                refine lv_topi (fun x_49260 ex_49260 => ?_)
                replace hF := hF.trans (ap_n (vR_r hO_w_43515 (by decide) ex_49260))
                refine lv_aload_n hx hb dX12_sandGoes_92 rfl (lv_at hl 0 rfl) ?_
                obtain ⟨w_49261, hR_w_49261, hL_w_49261, hK_w_49261, hN_w_49261, hT_w_49261⟩ := sh_a hSH 409 (ci := 12) (kd := 13) (len := 40) rfl (by decide) hL_this hK_this
                have hO_w_49261 : w_49261 = vrow σ 409 this := vo_k (c := 12) hO_this hR_w_49261
                refine pg_f (v := .ref w_49261) (C := RX12) (T := TX12) (N := 31) hx hb hts (tw_i inlX12) hown hK hP hL_this hK_this (by decide) rfl 25 (by decide) (hts _ (tw_c tw_187)) (pq_hv rfl hR_w_49261) dX12_sandGoes_93 ?_
                refine lv_iload_n hx hb dX12_sandGoes_96 rfl (lv_at hl 1 rfl) ?_
                refine pl_i hx hb hK hP hL_w_49261 hK_w_49261 hN_w_49261 (rg_in h_49252 (by decide)) dX12_sandGoes_97 ?_
                refine lv_topi (fun x_49262 ex_49262 => ?_)
                replace hF := hF.trans (ap_n (vR_r hO_w_49261 (by decide) ex_49262))
                refine lv_isub hx hb dX12_sandGoes_98 ?_
                refine lv_topi (fun x_49263 ex_49263 => ?_)
                replace hF := hF.trans (ap_n ex_49263)
                refine pt_i hx hb hK hP hD hS hL_w_43515 hK_w_43515 hN_w_43515 (rg_in h_49259 (by decide)) dX12_sandGoes_99 (fun r_49264 H locs er_49264 hP hD hS => ?_)
                replace hFr := fr_R hFr hO_w_43515 (by decide) er_49264
                replace hF := hF.trans (ap_n (vR_st hVT hO_w_43515 (by decide) er_49264))
                have hG := GM.wz hG hT_w_43515 (by decide) er_49264 (zn_CELL (c := x_48979.toNatClampNeg) (k := 4) (by have z_i := clampE x_49258; have z_0 := clampE x_48979; omega) (rg_cl1 h_49252 (by decide)) (by decide)) rfl (rg_w (rg_full _) (by decide)) (by decide)
                refine lv_iload_n hx hb dX12_sandGoes_100 rfl (lv_at hl 1 rfl) ?_
                refine lv_iconst (v := 1) hx hb dX12_sandGoes_101 (by decide) ?_
                refine lv_iadd hx hb dX12_sandGoes_102 ?_
                refine lv_topi (fun x_49265 ex_49265 => ?_)
                replace hF := hF.trans (ap_n ex_49265)
                have h_49266 : rg x_49265 1 40 := rg_of_eq ex_49265 (rg_add h_49252 (rg_k (1 : Int32) 1 rfl) (by decide))
                have uh_49266 := h_49266.1
                have vh_49266 := h_49266.2
                have tx_49265 : (x_49265).toInt = (x_48979).toInt + 1 := by rw [ex_49265]; exact i_add_rg (a2 := (x_48979).toInt) (b2 := 1) rfl rfl h_49252 (rg_k (1 : Int32) 1 rfl) (by decide)
                refine lv_istore_n (lv' := [(3, .int x_49265), (0, .ref this), (2, .int x_48979)]) hx hb dX12_sandGoes_103 rfl hl (by decide) rfl (fun ls hl => ?_)
                have L_49459 : ∀ (n_49458 : Nat) (x_49409 : Int32) (H : Heap) (locs : List Loc) (ls : Array Slot), rg x_49409 1 40 → (40 - (x_49409).toInt).toNat < n_49458 → F = g_X12_sandGoes_L104 (vI 12 σ this I) (vJ 12 σ this J) (vL 12 σ this rj) (vQ 12 σ this rq) (ri w_43515 2) x_48979 (g_X12_sandGoes_L67 (vI 12 σ this I) (vJ 12 σ this J) (vL 12 σ this rj) (vQ 12 σ this rq) (ri w_43515 2) n_49240) (vR 12 σ this r_49264) n_49458 x_49409 → FR 12 tg σ this (I, J, ri, rj, rq) (I, J, r_49264, rj, rq) → GM [1304] tg σ I ri I r_49264 rq → va_P D vwCl (pq_P t σ (I, J, r_49264, rj, rq)) H → va_D A (pq_P t σ (I, J, r_49264, rj, rq)) → va_S A s.heap H locs → lv_has ls 4 [(0, .ref this), (2, .int x_48979), (3, .int x_49409)] → W p l e ({ frames := 1, cells := 0, slots := 0, locals := 22 } : Room) s m (List.toArray ([.ref this, .int a0] : List Value)) below meth c H locs 0 0 Q (F0 m 104 ls []) := by
                  intro n_49458
                  induction n_49458 with
                  | zero => intro x_49409 H locs ls h_49462 hm_49457 hF hFr hG hP hD hS hl; exact absurd hm_49457 (Nat.not_lt_zero _)
                  | succ n_49458 ih_49460 =>
                    intro x_49409 H locs ls h_49462 hm_49457 hF hFr hG hP hD hS hl
                    have uh_49462 := h_49462.1
                    have vh_49462 := h_49462.2
                    replace hF := hF.trans g_X12_sandGoes_L104_e
                    refine lv_iload_n hx hb dX12_sandGoes_104 rfl (lv_at hl 2 rfl) ?_
                    refine lv_aload_n hx hb dX12_sandGoes_105 rfl (lv_at hl 0 rfl) ?_
                    refine pg_f (v := .ref w_43515) (C := RX12) (T := TX12) (N := 31) hx hb hts (tw_i inlX12) hown hK hP hL_this hK_this (by decide) rfl 0 (by decide) (hts _ (tw_c tw_176)) (pq_hv rfl hR_w_43515) dX12_sandGoes_106 ?_
                    refine lv_iconst (v := 2) hx hb dX12_sandGoes_109 (by decide) ?_
                    refine pl_i hx hb hK hP hL_w_43515 hK_w_43515 hN_w_43515 (vp_in_iff.mpr (by decide)) dX12_sandGoes_110 ?_
                    refine lv_tov (ri w_43515 2) (hG.2.2.1 w_43515 hT_w_43515 2 (by decide) (by decide)) ?_
                    have K_49509 : ∀  (H : Heap) (locs : List Loc) (ls : Array Slot), F = g_X12_sandGoes_K135 x_49409 (ri w_43515 2) x_48979 (g_X12_sandGoes_L67 (vI 12 σ this I) (vJ 12 σ this J) (vL 12 σ this rj) (vQ 12 σ this rq) (ri w_43515 2) n_49240) (vR 12 σ this r_49264)  → FR 12 tg σ this (I, J, ri, rj, rq) (I, J, r_49264, rj, rq) → GM [1304] tg σ I ri I r_49264 rq → va_P D vwCl (pq_P t σ (I, J, r_49264, rj, rq)) H → va_D A (pq_P t σ (I, J, r_49264, rj, rq)) → va_S A s.heap H locs → lv_has ls 4 [(0, .ref this), (2, .int x_48979), (3, .int x_49409)] → W p l e ({ frames := 1, cells := 0, slots := 0, locals := 22 } : Room) s m (List.toArray ([.ref this, .int a0] : List Value)) below meth c H locs 0 0 Q (F0 m 135 ls []) := by
                      intro H locs ls hF hFr hG hP hD hS hl
                      replace hF := hF.trans g_X12_sandGoes_K135_e
                      refine lv_iload_n hx hb dX12_sandGoes_135 rfl (lv_at hl 2 rfl) ?_
                      refine lv_aload_n hx hb dX12_sandGoes_136 rfl (lv_at hl 0 rfl) ?_
                      refine pg_f (v := .ref w_43515) (C := RX12) (T := TX12) (N := 31) hx hb hts (tw_i inlX12) hown hK hP hL_this hK_this (by decide) rfl 0 (by decide) (hts _ (tw_c tw_176)) (pq_hv rfl hR_w_43515) dX12_sandGoes_137 ?_
                      refine lv_iconst (v := 2) hx hb dX12_sandGoes_140 (by decide) ?_
                      refine pl_i hx hb hK hP hL_w_43515 hK_w_43515 hN_w_43515 (vp_in_iff.mpr (by decide)) dX12_sandGoes_141 ?_
                      refine lv_tov (ri w_43515 2) (hG.2.2.1 w_43515 hT_w_43515 2 (by decide) (by decide)) ?_
                      have K_49532 : ∀  (ri_49529 : Nat → Nat → Int32) (H : Heap) (locs : List Loc) (ls : Array Slot), F = g_X12_sandGoes_K187 x_48979 (g_X12_sandGoes_L67 (vI 12 σ this I) (vJ 12 σ this J) (vL 12 σ this rj) (vQ 12 σ this rq) (ri w_43515 2) n_49240) (vR 12 σ this ri_49529) → FR 12 tg σ this (I, J, ri, rj, rq) (I, J, ri_49529, rj, rq) → GM [1304] tg σ I ri I ri_49529 rq → va_P D vwCl (pq_P t σ (I, J, ri_49529, rj, rq)) H → va_D A (pq_P t σ (I, J, ri_49529, rj, rq)) → va_S A s.heap H locs → lv_has ls 4 [(0, .ref this), (2, .int x_48979)] → W p l e ({ frames := 1, cells := 0, slots := 0, locals := 22 } : Room) s m (List.toArray ([.ref this, .int a0] : List Value)) below meth c H locs 0 0 Q (F0 m 187 ls []) := by
                        intro ri_49529 H locs ls hF hFr hG hP hD hS hl
                        replace hF := hF.trans g_X12_sandGoes_K187_e
                        obtain ⟨x_49533, ex_49533⟩ : ∃ y : Int32, y = x_48979 + Int32.ofInt 1 := ⟨_, rfl⟩
                        replace hF := hF.trans (ap_n ex_49533)
                        have h_49534 : rg x_49533 1 40 := rg_of_eq ex_49533 (rg_add h_49252 (rg_k (Int32.ofInt 1) 1 rfl) (by decide))
                        have uh_49534 := h_49534.1
                        have vh_49534 := h_49534.2
                        have tx_49533 : (x_49533).toInt = (x_48979).toInt + 1 := by rw [ex_49533]; exact i_add_rg (a2 := (x_48979).toInt) (b2 := 1) rfl rfl h_49252 (rg_k (Int32.ofInt 1) 1 rfl) (by decide)
                        refine lv_iinc (v := x_49533) (lv' := [(2, .int x_49533), (0, .ref this)]) hx hb dX12_sandGoes_187 hl (k := 1) rfl ex_49533.symm (by decide) rfl (fun ls hl => ?_)
                        refine lv_goto (tgt := 67) hx hb dX12_sandGoes_190 (by decide) ?_
                        exact ih_49242 x_49533 ri_49529 _ _ _ (rg_w h_49534 (by decide)) (ms_up 1 hm_49239 ex_49533 rfl (by decide) h_49252 (by decide) (by decide)) hF hFr hG hP hD hS (lv_sub hl [1, 0] rfl)
                      refine lv_icmp_ge (tgt := 171) hx hb dX12_sandGoes_142 (by decide) (fun c_49535 => ?_) (fun c_49535 => ?_)
                      · replace hF := hF.trans (if_pos c_49535)
                        have tc_49540 : (ri w_43515 2).toInt ≤ (x_49409).toInt := Int32.le_iff_toInt_le.mp c_49535
                        refine lv_aload_n hx hb dX12_sandGoes_171 rfl (lv_at hl 0 rfl) ?_
                        refine pg_f (v := .ref w_43515) (C := RX12) (T := TX12) (N := 31) hx hb hts (tw_i inlX12) hown hK hP hL_this hK_this (by decide) rfl 0 (by decide) (hts _ (tw_c tw_176)) (pq_hv rfl hR_w_43515) dX12_sandGoes_172 ?_
                        refine lv_bipush (v := 9) hx hb dX12_sandGoes_175 (by decide) ?_
                        refine lv_dup2_11 hx hb dX12_sandGoes_177 rfl rfl ?_
                        refine pl_i hx hb hK hP hL_w_43515 hK_w_43515 hN_w_43515 (vp_in_iff.mpr (by decide)) dX12_sandGoes_178 ?_
                        refine lv_topi (fun x_49541 ex_49541 => ?_)
                        replace hF := hF.trans (ap_n (vR_r hO_w_43515 (by decide) ex_49541))
                        refine lv_aload_n hx hb dX12_sandGoes_179 rfl (lv_at hl 0 rfl) ?_
                        refine pg_f (v := .ref w_49261) (C := RX12) (T := TX12) (N := 31) hx hb hts (tw_i inlX12) hown hK hP hL_this hK_this (by decide) rfl 25 (by decide) (hts _ (tw_c tw_187)) (pq_hv rfl hR_w_49261) dX12_sandGoes_180 ?_
                        refine lv_iload_n hx hb dX12_sandGoes_183 rfl (lv_at hl 1 rfl) ?_
                        refine pl_i hx hb hK hP hL_w_49261 hK_w_49261 hN_w_49261 (rg_in h_49252 (by decide)) dX12_sandGoes_184 ?_
                        refine lv_topi (fun x_49542 ex_49542 => ?_)
                        replace hF := hF.trans (ap_n (vR_r hO_w_49261 (by decide) ex_49542))
                        refine lv_iadd hx hb dX12_sandGoes_185 ?_
                        refine lv_topi (fun x_49543 ex_49543 => ?_)
                        replace hF := hF.trans (ap_n ex_49543)
                        refine pt_i hx hb hK hP hD hS hL_w_43515 hK_w_43515 hN_w_43515 (vp_in_iff.mpr (by decide)) dX12_sandGoes_186 (fun r_49544 H locs er_49544 hP hD hS => ?_)
                        replace hFr := fr_R hFr hO_w_43515 (by decide) er_49544
                        replace hF := hF.trans (ap_n (vR_st hVT hO_w_43515 (by decide) er_49544))
                        have hG := GM.wz hG hT_w_43515 (by decide) er_49544 (show zn ((9 : Int32)).toNatClampNeg = 9 from by decide) rfl (rg_w (rg_full _) (by decide)) (by decide)
                        exact K_49532 r_49544 _ _ _ hF hFr hG hP hD hS (lv_sub hl [0, 1] rfl)
                      · replace hF := hF.trans (if_neg c_49535)
                        have tc_49545 : (x_49409).toInt < (ri w_43515 2).toInt := Int32.lt_iff_toInt_lt.mp (nle c_49535)
                        have h_49546 : rg x_49409 1 39 := rg_lt1 (nle c_49535) h_49462 h_49253 (by decide)
                        have uh_49546 := h_49546.1
                        have vh_49546 := h_49546.2
                        have h_49547 : rg (ri w_43515 2) 2 40 := rg_lt2 (nle c_49535) h_49462 h_49253 (by decide)
                        have uh_49547 := h_49547.1
                        have vh_49547 := h_49547.2
                        refine lv_aload_n hx hb dX12_sandGoes_145 rfl (lv_at hl 0 rfl) ?_
                        refine pg_f (v := .ref w_43515) (C := RX12) (T := TX12) (N := 31) hx hb hts (tw_i inlX12) hown hK hP hL_this hK_this (by decide) rfl 0 (by decide) (hts _ (tw_c tw_176)) (pq_hv rfl hR_w_43515) dX12_sandGoes_146 ?_
                        refine lv_bipush (v := 100) hx hb dX12_sandGoes_149 (by decide) ?_
                        refine lv_bipush (v := 16) hx hb dX12_sandGoes_151 (by decide) ?_
                        refine lv_iload_n hx hb dX12_sandGoes_153 rfl (lv_at hl 2 rfl) ?_
                        refine lv_imul hx hb dX12_sandGoes_154 ?_
                        refine lv_topi (fun x_49548 ex_49548 => ?_)
                        replace hF := hF.trans (ap_n ex_49548)
                        have h_49549 : rg x_49548 16 624 := rg_of_eq ex_49548 (rg_mul (rg_k (16 : Int32) 16 rfl) h_49546 (by decide))
                        have uh_49549 := h_49549.1
                        have vh_49549 := h_49549.2
                        have tx_49548 : (x_49548).toInt = 16 * (x_49409).toInt := by rw [ex_49548]; exact i_mul_rg (a2 := 16) (b2 := (x_49409).toInt) rfl rfl (rg_k (16 : Int32) 16 rfl) h_49546 (by decide)
                        refine lv_iadd hx hb dX12_sandGoes_155 ?_
                        refine lv_topi (fun x_49550 ex_49550 => ?_)
                        replace hF := hF.trans (ap_n ex_49550)
                        have h_49551 : rg x_49550 116 724 := rg_of_eq ex_49550 (rg_add (rg_k (100 : Int32) 100 rfl) h_49549 (by decide))
                        have uh_49551 := h_49551.1
                        have vh_49551 := h_49551.2
                        have tx_49550 : (x_49550).toInt = 100 + (x_49548).toInt := by rw [ex_49550]; exact i_add_rg (a2 := 100) (b2 := (x_49548).toInt) rfl rfl (rg_k (100 : Int32) 100 rfl) h_49549 (by decide)
                        refine lv_iconst (v := 4) hx hb dX12_sandGoes_156 (by decide) ?_
                        refine lv_iadd hx hb dX12_sandGoes_157 ?_
                        refine lv_topi (fun x_49552 ex_49552 => ?_)
                        replace hF := hF.trans (ap_n ex_49552)
                        have h_49553 : rg x_49552 120 728 := rg_of_eq ex_49552 (rg_add h_49551 (rg_k (4 : Int32) 4 rfl) (by decide))
                        have uh_49553 := h_49553.1
                        have vh_49553 := h_49553.2
                        have tx_49552 : (x_49552).toInt = (x_49550).toInt + 4 := by rw [ex_49552]; exact i_add_rg (a2 := (x_49550).toInt) (b2 := 4) rfl rfl h_49551 (rg_k (4 : Int32) 4 rfl) (by decide)
                        refine lv_dup2_11 hx hb dX12_sandGoes_158 rfl rfl ?_
                        refine pl_i hx hb hK hP hL_w_43515 hK_w_43515 hN_w_43515 (rg_in h_49553 (by decide)) dX12_sandGoes_159 ?_
                        refine lv_topi (fun x_49554 ex_49554 => ?_)
                        replace hF := hF.trans (ap_n (vR_r hO_w_43515 (by decide) ex_49554))
                        refine lv_aload_n hx hb dX12_sandGoes_160 rfl (lv_at hl 0 rfl) ?_
                        refine pg_f (v := .ref w_49261) (C := RX12) (T := TX12) (N := 31) hx hb hts (tw_i inlX12) hown hK hP hL_this hK_this (by decide) rfl 25 (by decide) (hts _ (tw_c tw_187)) (pq_hv rfl hR_w_49261) dX12_sandGoes_161 ?_
                        refine lv_iload_n hx hb dX12_sandGoes_164 rfl (lv_at hl 1 rfl) ?_
                        refine pl_i hx hb hK hP hL_w_49261 hK_w_49261 hN_w_49261 (rg_in h_49252 (by decide)) dX12_sandGoes_165 ?_
                        refine lv_topi (fun x_49555 ex_49555 => ?_)
                        replace hF := hF.trans (ap_n (vR_r hO_w_49261 (by decide) ex_49555))
                        refine lv_iadd hx hb dX12_sandGoes_166 ?_
                        refine lv_topi (fun x_49556 ex_49556 => ?_)
                        replace hF := hF.trans (ap_n ex_49556)
                        refine pt_i hx hb hK hP hD hS hL_w_43515 hK_w_43515 hN_w_43515 (rg_in h_49553 (by decide)) dX12_sandGoes_167 (fun r_49557 H locs er_49557 hP hD hS => ?_)
                        replace hFr := fr_R hFr hO_w_43515 (by decide) er_49557
                        replace hF := hF.trans (ap_n (vR_st hVT hO_w_43515 (by decide) er_49557))
                        have hG := GM.wz hG hT_w_43515 (by decide) er_49557 (zn_CELL (c := x_49409.toNatClampNeg) (k := 4) (by have z_i := clampE x_49552; have z_0 := clampE x_49409; omega) (rg_cl1 h_49546 (by decide)) (by decide)) rfl (rg_w (rg_full _) (by decide)) (by decide)
                        refine lv_goto (tgt := 187) hx hb dX12_sandGoes_168 (by decide) ?_
                        exact K_49532 r_49557 _ _ _ hF hFr hG hP hD hS (lv_sub hl [0, 1] rfl)
                    refine lv_icmp_ge (tgt := 135) hx hb dX12_sandGoes_111 (by decide) (fun c_49558 => ?_) (fun c_49558 => ?_)
                    · replace hF := hF.trans (if_pos c_49558)
                      have tc_49563 : (ri w_43515 2).toInt ≤ (x_49409).toInt := Int32.le_iff_toInt_le.mp c_49558
                      exact K_49509 _ _ _ hF hFr hG hP hD hS (lv_sub hl [0, 1, 2] rfl)
                    · replace hF := hF.trans (if_neg c_49558)
                      have tc_49564 : (x_49409).toInt < (ri w_43515 2).toInt := Int32.lt_iff_toInt_lt.mp (nle c_49558)
                      have h_49565 : rg x_49409 1 39 := rg_lt1 (nle c_49558) h_49462 h_49253 (by decide)
                      have uh_49565 := h_49565.1
                      have vh_49565 := h_49565.2
                      have h_49566 : rg (ri w_43515 2) 2 40 := rg_lt2 (nle c_49558) h_49462 h_49253 (by decide)
                      have uh_49566 := h_49566.1
                      have vh_49566 := h_49566.2
                      refine lv_aload_n hx hb dX12_sandGoes_114 rfl (lv_at hl 0 rfl) ?_
                      refine lv_iload_n hx hb dX12_sandGoes_115 rfl (lv_at hl 2 rfl) ?_
                      refine lv_iconst (v := 0) hx hb dX12_sandGoes_116 (by decide) ?_
                      refine pk_i (va_runV (As := [.int x_49409, .int 0]) (rest := []) ⟨hx, hb, hml, hown, hts⟩ (s_X12_cellAt_c0 l D t σ I J r_49264 rj rq H.size tg hSH hG.1 this x_49409 hL_this hK_this (rg_w h_49565 (by decide))) (cwV 2 hts (tw_V tw_361 tw_362 tw_363 tw_5 tw_364) rfl rfl rfl cv_yX12_cellAt_2 ⟨Nat.le_of_ble_eq_true rfl, Nat.le_of_ble_eq_true rfl⟩) ⟨pq_blind, pq_recv hK hP hL_this hK_this (by decide) rfl, pq_pre hK hN hP hD⟩ rfl rfl hl.1 rfl (lv_room (Nat.le_of_ble_eq_true rfl)) dX12_sandGoes_117 ⟨Nat.le_of_ble_eq_true rfl, Nat.le_of_ble_eq_true rfl⟩) hD hS hA (fun x_49567 σ1 μ1 H locs hw_49568 hP hD hS => ?_)
                      obtain ⟨hu_49569, hfn_49572⟩ := hw_49568
                      obtain ⟨hu_49569a, hu_49569b⟩ := Prod.mk.inj hu_49569
                      rw [hu_49569a, hu_49569b] at hP hD
                      replace hF := hF.trans (bn_n hfn_49572)
                      refine lv_aload_n hx hb dX12_sandGoes_120 rfl (lv_at hl 0 rfl) ?_
                      refine lv_iload_n hx hb dX12_sandGoes_121 rfl (lv_at hl 1 rfl) ?_
                      refine lv_iconst (v := 0) hx hb dX12_sandGoes_122 (by decide) ?_
                      refine pk_i (va_runV (As := [.int x_48979, .int 0]) (rest := [.int x_49567]) ⟨hx, hb, hml, hown, hts⟩ (s_X12_cellAt_c0 l D t σ I J r_49264 rj rq H.size tg hSH hG.1 this x_48979 hL_this hK_this (rg_w h_49252 (by decide))) (cwV 2 hts (tw_V tw_361 tw_362 tw_363 tw_5 tw_364) rfl rfl rfl cv_yX12_cellAt_2 ⟨Nat.le_of_ble_eq_true rfl, Nat.le_of_ble_eq_true rfl⟩) ⟨pq_blind, pq_recv hK hP hL_this hK_this (by decide) rfl, pq_pre hK hN hP hD⟩ rfl rfl hl.1 rfl (lv_room (Nat.le_of_ble_eq_true rfl)) dX12_sandGoes_123 ⟨Nat.le_of_ble_eq_true rfl, Nat.le_of_ble_eq_true rfl⟩) hD hS hA (fun x_49574 σ1 μ1 H locs hw_49575 hP hD hS => ?_)
                      obtain ⟨hu_49576, hfn_49579⟩ := hw_49575
                      obtain ⟨hu_49576a, hu_49576b⟩ := Prod.mk.inj hu_49576
                      rw [hu_49576a, hu_49576b] at hP hD
                      replace hF := hF.trans (bn_n hfn_49579)
                      refine lv_icmp_eq (tgt := 135) hx hb dX12_sandGoes_126 (by decide) (fun c_49581 => ?_) (fun c_49581 => ?_)
                      · replace hF := hF.trans (if_pos c_49581)
                        have tc_49584 : (x_49567).toInt = (x_49574).toInt := congrArg Int32.toInt c_49581
                        exact K_49509 _ _ _ hF hFr hG hP hD hS (lv_sub hl [0, 1, 2] rfl)
                      · replace hF := hF.trans (if_neg c_49581)
                        have tc_49585 : (x_49567).toInt ≠ (x_49574).toInt := fun q => c_49581 (Int32.toInt_inj.mp q)
                        obtain ⟨x_49586, ex_49586⟩ : ∃ y : Int32, y = x_49409 + Int32.ofInt 1 := ⟨_, rfl⟩
                        replace hF := hF.trans (ap_n ex_49586)
                        have h_49587 : rg x_49586 2 40 := rg_of_eq ex_49586 (rg_add h_49565 (rg_k (Int32.ofInt 1) 1 rfl) (by decide))
                        have uh_49587 := h_49587.1
                        have vh_49587 := h_49587.2
                        have tx_49586 : (x_49586).toInt = (x_49409).toInt + 1 := by rw [ex_49586]; exact i_add_rg (a2 := (x_49409).toInt) (b2 := 1) rfl rfl h_49565 (rg_k (Int32.ofInt 1) 1 rfl) (by decide)
                        refine lv_iinc (v := x_49586) (lv' := [(3, .int x_49586), (0, .ref this), (2, .int x_48979)]) hx hb dX12_sandGoes_129 hl (k := 2) rfl ex_49586.symm (by decide) rfl (fun ls hl => ?_)
                        refine lv_goto (tgt := 104) hx hb dX12_sandGoes_132 (by decide) ?_
                        exact ih_49460 x_49586 _ _ _ (rg_w h_49587 (by decide)) (ms_up 1 hm_49457 ex_49586 rfl (by decide) h_49565 (by decide) (by decide)) hF hFr hG hP hD hS (lv_sub hl [1, 2, 0] rfl)
                exact L_49459 _ x_49265 _ _ _ (rg_w h_49266 (by decide)) (Nat.lt_succ_self _) hF hFr hG hP hD hS (lv_sub hl [1, 2, 0] rfl)
          exact L_49241 _ (0 : Int32) ri_37481 _ _ _ (rg_w (rg_k (0 : Int32) 0 rfl) (by decide)) (Nat.lt_succ_self _) hF hFr hG hP hD hS (lv_sub hl [1, 0] rfl)
        · replace hF := hF.trans (if_neg c_43518)
          have tc_49588 : (x_37480).toInt < (ri w_43515 2).toInt := Int32.lt_iff_toInt_lt.mp (nle c_43518)
          have h_49589 : rg x_37480 0 39 := rg_lt1 (nle c_43518) h_43514 h_43516 (by decide)
          have uh_49589 := h_49589.1
          have vh_49589 := h_49589.2
          have h_49590 : rg (ri w_43515 2) 1 40 := rg_lt2 (nle c_43518) h_43514 h_43516 (by decide)
          have uh_49590 := h_49590.1
          have vh_49590 := h_49590.2
          refine lv_aload_n hx hb dX12_sandGoes_12 rfl (lv_at hl 0 rfl) ?_
          refine lv_iload_n hx hb dX12_sandGoes_13 rfl (lv_at hl 1 rfl) ?_
          refine lv_iconst (v := 3) hx hb dX12_sandGoes_14 (by decide) ?_
          refine pk_i (va_runV (As := [.int a0, .int 3]) (rest := []) ⟨hx, hb, hml, hown, hts⟩ (s_X12_tableAt_c3 l D t σ I J ri_37481 rj rq H.size tg hSH hG.1 this a0 hL_this hK_this (rg_w h_a0 (by decide))) (cwV 2 hts (tw_V tw_1201 tw_1202 tw_1203 tw_5 tw_1204) rfl rfl rfl cv_yX12_tableAt_2 ⟨Nat.le_of_ble_eq_true rfl, Nat.le_of_ble_eq_true rfl⟩) ⟨pq_blind, pq_recv hK hP hL_this hK_this (by decide) rfl, pq_pre hK hN hP hD⟩ rfl rfl hl.1 rfl (lv_room (Nat.le_of_ble_eq_true rfl)) dX12_sandGoes_15 ⟨Nat.le_of_ble_eq_true rfl, Nat.le_of_ble_eq_true rfl⟩) hD hS hA (fun x_49591 σ1 μ1 H locs hw_49592 hP hD hS => ?_)
          obtain ⟨hu_49593, hfn_49596⟩ := hw_49592
          obtain ⟨hu_49593a, hu_49593b⟩ := Prod.mk.inj hu_49593
          rw [hu_49593a, hu_49593b] at hP hD
          replace hF := hF.trans (bn_n hfn_49596)
          refine lv_istore_n (lv' := [(3, .int x_49591), (0, .ref this), (1, .int a0), (2, .int x_37480)]) hx hb dX12_sandGoes_18 rfl hl (by decide) rfl (fun ls hl => ?_)
          refine lv_aload_n hx hb dX12_sandGoes_19 rfl (lv_at hl 1 rfl) ?_
          obtain ⟨w_49598, hR_w_49598, hL_w_49598, hK_w_49598, hN_w_49598, hT_w_49598⟩ := sh_a hSH 409 (ci := 12) (kd := 13) (len := 40) rfl (by decide) hL_this hK_this
          have hO_w_49598 : w_49598 = vrow σ 409 this := vo_k (c := 12) hO_this hR_w_49598
          refine pg_f (v := .ref w_49598) (C := RX12) (T := TX12) (N := 31) hx hb hts (tw_i inlX12) hown hK hP hL_this hK_this (by decide) rfl 25 (by decide) (hts _ (tw_c tw_187)) (pq_hv rfl hR_w_49598) dX12_sandGoes_20 ?_
          refine lv_iload_n hx hb dX12_sandGoes_23 rfl (lv_at hl 3 rfl) ?_
          refine lv_aload_n hx hb dX12_sandGoes_24 rfl (lv_at hl 1 rfl) ?_
          refine lv_iload_n hx hb dX12_sandGoes_25 rfl (lv_at hl 3 rfl) ?_
          refine lv_bipush (v := 6) hx hb dX12_sandGoes_26 (by decide) ?_
          refine pk_i (va_runV (As := [.int x_37480, .int 6]) (rest := [.int x_37480, .ref w_49598]) ⟨hx, hb, hml, hown, hts⟩ (s_X12_cellAt_c6 l D t σ I J ri_37481 rj rq H.size tg hSH hG.1 this x_37480 hL_this hK_this (rg_w h_49589 (by decide))) (cwV 2 hts (tw_V tw_361 tw_362 tw_363 tw_5 tw_364) rfl rfl rfl cv_yX12_cellAt_2 ⟨Nat.le_of_ble_eq_true rfl, Nat.le_of_ble_eq_true rfl⟩) ⟨pq_blind, pq_recv hK hP hL_this hK_this (by decide) rfl, pq_pre hK hN hP hD⟩ rfl rfl hl.1 rfl (lv_room (Nat.le_of_ble_eq_true rfl)) dX12_sandGoes_28 ⟨Nat.le_of_ble_eq_true rfl, Nat.le_of_ble_eq_true rfl⟩) hD hS hA (fun x_49599 σ1 μ1 H locs hw_49600 hP hD hS => ?_)
          obtain ⟨hu_49601, hfn_49604⟩ := hw_49600
          obtain ⟨hu_49601a, hu_49601b⟩ := Prod.mk.inj hu_49601
          rw [hu_49601a, hu_49601b] at hP hD
          replace hF := hF.trans (bn_n hfn_49604)
          have K_49634 : ∀  (x_49630 : Int32) (H : Heap) (locs : List Loc) (ls : Array Slot), F = g_X12_sandGoes_K58 x_37480 (vR 12 σ this ri_37481) (g_X12_sandGoes_L2 a0 (vI 12 σ this I) (vJ 12 σ this J) (vR 12 σ this ri) (vL 12 σ this rj) (vQ 12 σ this rq) n_43510) x_49630 → FR 12 tg σ this (I, J, ri, rj, rq) (I, J, ri_37481, rj, rq) → GM [1304] tg σ I ri I ri_37481 rq → va_P D vwCl (pq_P t σ (I, J, ri_37481, rj, rq)) H → va_D A (pq_P t σ (I, J, ri_37481, rj, rq)) → va_S A s.heap H locs → lv_has ls 4 [(0, .ref this), (1, .int a0), (2, .int x_37480)] → W p l e ({ frames := 1, cells := 0, slots := 0, locals := 22 } : Room) s m (List.toArray ([.ref this, .int a0] : List Value)) below meth c H locs 0 0 Q (F0 m 58 ls [.int x_49630, .int x_37480, .ref w_49598]) := by
            intro x_49630 H locs ls hF hFr hG hP hD hS hl
            replace hF := hF.trans g_X12_sandGoes_K58_e
            refine pt_i hx hb hK hP hD hS hL_w_49598 hK_w_49598 hN_w_49598 (rg_in h_49589 (by decide)) dX12_sandGoes_58 (fun r_49635 H locs er_49635 hP hD hS => ?_)
            replace hFr := fr_R hFr hO_w_49598 (by decide) er_49635
            replace hF := hF.trans (ap_n (vR_st hVT hO_w_49598 (by decide) er_49635))
            have hG := GM.wR hG hSH hT_w_49598 rfl er_49635 (rg_w (rg_full _) (by decide)) (by decide)
            obtain ⟨x_49636, ex_49636⟩ : ∃ y : Int32, y = x_37480 + Int32.ofInt 1 := ⟨_, rfl⟩
            replace hF := hF.trans (ap_n ex_49636)
            have h_49637 : rg x_49636 1 40 := rg_of_eq ex_49636 (rg_add h_49589 (rg_k (Int32.ofInt 1) 1 rfl) (by decide))
            have uh_49637 := h_49637.1
            have vh_49637 := h_49637.2
            have tx_49636 : (x_49636).toInt = (x_37480).toInt + 1 := by rw [ex_49636]; exact i_add_rg (a2 := (x_37480).toInt) (b2 := 1) rfl rfl h_49589 (rg_k (Int32.ofInt 1) 1 rfl) (by decide)
            refine lv_iinc (v := x_49636) (lv' := [(2, .int x_49636), (0, .ref this), (1, .int a0)]) hx hb dX12_sandGoes_59 hl (k := 2) rfl ex_49636.symm (by decide) rfl (fun ls hl => ?_)
            refine lv_goto (tgt := 2) hx hb dX12_sandGoes_62 (by decide) ?_
            exact ih_43512 x_49636 r_49635 _ _ _ (rg_w h_49637 (by decide)) (ms_up 1 hm_43509 ex_49636 rfl (by decide) h_49589 (by decide) (by decide)) hF hFr hG hP hD hS (lv_sub hl [1, 2, 0] rfl)
          refine lv_if_le (tgt := 38) hx hb dX12_sandGoes_31 (by decide) (fun c_49638 => ?_) (fun c_49638 => ?_)
          · replace hF := hF.trans (if_pos c_49638)
            have tc_49643 : (x_49599).toInt ≤ 0 := Int32.le_iff_toInt_le.mp c_49638
            have h_49644 : rg x_49599 (-2147483648) 0 := rg_le1 c_49638 (rg_full _) (rg_k (0 : Int32) 0 rfl) (by decide)
            have uh_49644 := h_49644.1
            have vh_49644 := h_49644.2
            refine lv_aload_n hx hb dX12_sandGoes_38 rfl (lv_at hl 1 rfl) ?_
            refine lv_iload_n hx hb dX12_sandGoes_39 rfl (lv_at hl 3 rfl) ?_
            refine lv_iconst (v := 4) hx hb dX12_sandGoes_40 (by decide) ?_
            refine pk_i (va_runV (As := [.int x_37480, .int 4]) (rest := [.int x_37480, .ref w_49598]) ⟨hx, hb, hml, hown, hts⟩ (s_X12_cellAt_c4 l D t σ I J ri_37481 rj rq H.size tg hSH hG.1 this x_37480 hL_this hK_this (rg_w h_49589 (by decide))) (cwV 2 hts (tw_V tw_361 tw_362 tw_363 tw_5 tw_364) rfl rfl rfl cv_yX12_cellAt_2 ⟨Nat.le_of_ble_eq_true rfl, Nat.le_of_ble_eq_true rfl⟩) ⟨pq_blind, pq_recv hK hP hL_this hK_this (by decide) rfl, pq_pre hK hN hP hD⟩ rfl rfl hl.1 rfl (lv_room (Nat.le_of_ble_eq_true rfl)) dX12_sandGoes_41 ⟨Nat.le_of_ble_eq_true rfl, Nat.le_of_ble_eq_true rfl⟩) hD hS hA (fun x_49645 σ1 μ1 H locs hw_49646 hP hD hS => ?_)
            obtain ⟨hu_49647, hfn_49650⟩ := hw_49646
            obtain ⟨hu_49647a, hu_49647b⟩ := Prod.mk.inj hu_49647
            rw [hu_49647a, hu_49647b] at hP hD
            replace hF := hF.trans (bn_n hfn_49650)
            refine lv_iload_n hx hb dX12_sandGoes_44 rfl (lv_at hl 0 rfl) ?_
            refine lv_icmp_ge (tgt := 57) hx hb dX12_sandGoes_45 (by decide) (fun c_49652 => ?_) (fun c_49652 => ?_)
            · replace hF := hF.trans (if_pos c_49652)
              have tc_49657 : (x_49591).toInt ≤ (x_49645).toInt := Int32.le_iff_toInt_le.mp c_49652
              refine lv_iload_n hx hb dX12_sandGoes_57 rfl (lv_at hl 0 rfl) ?_
              exact K_49634 x_49591 _ _ _ hF hFr hG hP hD hS (lv_sub hl [1, 2, 3] rfl)
            · replace hF := hF.trans (if_neg c_49652)
              have tc_49658 : (x_49645).toInt < (x_49591).toInt := Int32.lt_iff_toInt_lt.mp (nle c_49652)
              have h_49659 : rg x_49645 (-2147483648) 2147483646 := rg_lt1 (nle c_49652) (rg_full _) (rg_full _) (by decide)
              have uh_49659 := h_49659.1
              have vh_49659 := h_49659.2
              have h_49660 : rg x_49591 (-2147483647) 2147483647 := rg_lt2 (nle c_49652) (rg_full _) (rg_full _) (by decide)
              have uh_49660 := h_49660.1
              have vh_49660 := h_49660.2
              refine lv_aload_n hx hb dX12_sandGoes_48 rfl (lv_at hl 1 rfl) ?_
              refine lv_iload_n hx hb dX12_sandGoes_49 rfl (lv_at hl 3 rfl) ?_
              refine lv_iconst (v := 4) hx hb dX12_sandGoes_50 (by decide) ?_
              refine pk_i (va_runV (As := [.int x_37480, .int 4]) (rest := [.int x_37480, .ref w_49598]) ⟨hx, hb, hml, hown, hts⟩ (s_X12_cellAt_c4 l D t σ I J ri_37481 rj rq H.size tg hSH hG.1 this x_37480 hL_this hK_this (rg_w h_49589 (by decide))) (cwV 2 hts (tw_V tw_361 tw_362 tw_363 tw_5 tw_364) rfl rfl rfl cv_yX12_cellAt_2 ⟨Nat.le_of_ble_eq_true rfl, Nat.le_of_ble_eq_true rfl⟩) ⟨pq_blind, pq_recv hK hP hL_this hK_this (by decide) rfl, pq_pre hK hN hP hD⟩ rfl rfl hl.1 rfl (lv_room (Nat.le_of_ble_eq_true rfl)) dX12_sandGoes_51 ⟨Nat.le_of_ble_eq_true rfl, Nat.le_of_ble_eq_true rfl⟩) hD hS hA (fun x_49661 σ1 μ1 H locs hw_49662 hP hD hS => ?_)
              obtain ⟨hu_49663, hfn_49666⟩ := hw_49662
              obtain ⟨hu_49663a, hu_49663b⟩ := Prod.mk.inj hu_49663
              rw [hu_49663a, hu_49663b] at hP hD
              replace hF := hF.trans (bn_n hfn_49666)
              refine lv_goto (tgt := 58) hx hb dX12_sandGoes_54 (by decide) ?_
              exact K_49634 x_49661 _ _ _ hF hFr hG hP hD hS (lv_sub hl [1, 2, 3] rfl)
          · replace hF := hF.trans (if_neg c_49638)
            have tc_49668 : 0 < (x_49599).toInt := Int32.lt_iff_toInt_lt.mp (nle c_49638)
            have h_49669 : rg x_49599 1 2147483647 := rg_lt2 (nle c_49638) (rg_k (0 : Int32) 0 rfl) (rg_full _) (by decide)
            have uh_49669 := h_49669.1
            have vh_49669 := h_49669.2
            refine lv_iconst (v := 0) hx hb dX12_sandGoes_34 (by decide) ?_
            refine lv_goto (tgt := 58) hx hb dX12_sandGoes_35 (by decide) ?_
            exact K_49634 (0 : Int32) _ _ _ hF hFr hG hP hD hS (lv_sub hl [1, 2, 3] rfl)
    exact L_43511 _ (0 : Int32) ri _ _ _ (rg_w (rg_k (0 : Int32) 0 rfl) (by decide)) (Nat.lt_succ_self _) hF hFr hG hP hD hS (lv_sub hl [1, 2, 0] rfl)
  exact go _ _ _ hP hD hS hl
