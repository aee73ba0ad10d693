theorem dX12_sandBehind_0 : decode cX12_sandBehind 0 = .ok (.iconst 0, 1) := oc_3 (by decide +kernel)
theorem dX12_sandBehind_1 : decode cX12_sandBehind 1 = .ok (.istore 4, 2) := oc_54 (by decide +kernel)
theorem dX12_sandBehind_3 : decode cX12_sandBehind 3 = .ok (.iload 4, 2) := oc_21 (by decide +kernel)
theorem dX12_sandBehind_5 : decode cX12_sandBehind 5 = .ok (.iload_n 3, 1) := oc_29 (by decide +kernel)
theorem dX12_sandBehind_6 : decode cX12_sandBehind 6 = .ok (.if_icmp .ge 14, 3) := oc_162 (a := 0) (b := 14) (by decide +kernel)
theorem dX12_sandBehind_20 : decode cX12_sandBehind 20 = .ok (.aload_n 0, 1) := oc_42 (by decide +kernel)
theorem dX12_sandBehind_21 : decode cX12_sandBehind 21 = .ok (.iload_n 1, 1) := oc_27 (by decide +kernel)
theorem dX12_sandBehind_22 : decode cX12_sandBehind 22 = .ok (.iconst 4, 1) := oc_7 (by decide +kernel)
theorem dX12_sandBehind_23 : decode cX12_sandBehind 23 = .ok (.invokevirtual 91, 3) := oc_182 (a := 0) (b := 91) (by decide +kernel)
theorem dX12_sandBehind_26 : decode cX12_sandBehind 26 = .ok (.istore 4, 2) := oc_54 (by decide +kernel)
theorem dX12_sandBehind_28 : decode cX12_sandBehind 28 = .ok (.aload_n 0, 1) := oc_42 (by decide +kernel)
theorem dX12_sandBehind_29 : decode cX12_sandBehind 29 = .ok (.getfield 16, 3) := oc_180 (a := 0) (b := 16) (by decide +kernel)
theorem dX12_sandBehind_32 : decode cX12_sandBehind 32 = .ok (.aload_n 0, 1) := oc_42 (by decide +kernel)
theorem dX12_sandBehind_33 : decode cX12_sandBehind 33 = .ok (.getfield 7, 3) := oc_180 (a := 0) (b := 7) (by decide +kernel)
theorem dX12_sandBehind_36 : decode cX12_sandBehind 36 = .ok (.invokestatic 58, 3) := oc_184 (a := 0) (b := 58) (by decide +kernel)
theorem dX12_sandBehind_39 : decode cX12_sandBehind 39 = .ok (.iload 4, 2) := oc_21 (by decide +kernel)
theorem dX12_sandBehind_41 : decode cX12_sandBehind 41 = .ok (.ireturn, 1) := oc_172 (by decide +kernel)
theorem dX12_sandBehind_9 : decode cX12_sandBehind 9 = .ok (.aload_n 0, 1) := oc_42 (by decide +kernel)
theorem dX12_sandBehind_10 : decode cX12_sandBehind 10 = .ok (.iload_n 2, 1) := oc_28 (by decide +kernel)
theorem dX12_sandBehind_11 : decode cX12_sandBehind 11 = .ok (.invokevirtual 372, 3) := oc_182 (a := 1) (b := 116) (by decide +kernel)
theorem dX12_sandBehind_14 : decode cX12_sandBehind 14 = .ok (.iinc 4 1, 3) := oc_132 (b := 1) (by decide +kernel)
theorem dX12_sandBehind_17 : decode cX12_sandBehind 17 = .ok (.goto (-14), 3) := oc_167 (a := 255) (b := 242) (by decide +kernel)
theorem dX12_keeps_0 : decode cX12_keeps 0 = .ok (.aload_n 0, 1) := oc_42 (by decide +kernel)
theorem dX12_keeps_1 : decode cX12_keeps 1 = .ok (.iload_n 1, 1) := oc_27 (by decide +kernel)
theorem dX12_keeps_2 : decode cX12_keeps 2 = .ok (.invokevirtual 88, 3) := oc_182 (a := 0) (b := 88) (by decide +kernel)
theorem dX12_keeps_38 : decode cX12_keeps 38 = .ok (.ldc 87, 2) := oc_18 (by decide +kernel)
theorem dX12_keeps_40 : decode cX12_keeps 40 = .ok (.ireturn, 1) := oc_172 (by decide +kernel)
theorem dX12_keeps_5 : decode cX12_keeps 5 = .ok (.ifCond .eq 33, 3) := oc_153 (a := 0) (b := 33) (by decide +kernel)
theorem dX12_keeps_8 : decode cX12_keeps 8 = .ok (.aload_n 0, 1) := oc_42 (by decide +kernel)
theorem dX12_keeps_9 : decode cX12_keeps 9 = .ok (.iload_n 2, 1) := oc_28 (by decide +kernel)
theorem dX12_keeps_10 : decode cX12_keeps 10 = .ok (.invokevirtual 88, 3) := oc_182 (a := 0) (b := 88) (by decide +kernel)
theorem dX12_keeps_13 : decode cX12_keeps 13 = .ok (.ifCond .eq 25, 3) := oc_153 (a := 0) (b := 25) (by decide +kernel)
theorem dX12_keeps_16 : decode cX12_keeps 16 = .ok (.aload_n 0, 1) := oc_42 (by decide +kernel)
theorem dX12_keeps_17 : decode cX12_keeps 17 = .ok (.iload_n 1, 1) := oc_27 (by decide +kernel)
theorem dX12_keeps_18 : decode cX12_keeps 18 = .ok (.bipush 6, 2) := oc_16 (a := 6) (by decide +kernel)
theorem dX12_keeps_20 : decode cX12_keeps 20 = .ok (.invokevirtual 91, 3) := oc_182 (a := 0) (b := 91) (by decide +kernel)
theorem dX12_keeps_23 : decode cX12_keeps 23 = .ok (.ifCond .eq 15, 3) := oc_153 (a := 0) (b := 15) (by decide +kernel)
theorem dX12_keeps_26 : decode cX12_keeps 26 = .ok (.aload_n 0, 1) := oc_42 (by decide +kernel)
theorem dX12_keeps_27 : decode cX12_keeps 27 = .ok (.iload 4, 2) := oc_21 (by decide +kernel)
theorem dX12_keeps_29 : decode cX12_keeps 29 = .ok (.bipush 60, 2) := oc_16 (a := 60) (by decide +kernel)
theorem dX12_keeps_31 : decode cX12_keeps 31 = .ok (.iload_n 3, 1) := oc_29 (by decide +kernel)
theorem dX12_keeps_32 : decode cX12_keeps 32 = .ok (.invokevirtual 369, 3) := oc_182 (a := 1) (b := 113) (by decide +kernel)
theorem dX12_keeps_35 : decode cX12_keeps 35 = .ok (.ifCond .ne 6, 3) := oc_154 (a := 0) (b := 6) (by decide +kernel)
theorem dX12_keeps_41 : decode cX12_keeps 41 = .ok (.aload_n 0, 1) := oc_42 (by decide +kernel)
theorem dX12_keeps_42 : decode cX12_keeps 42 = .ok (.getfield 7, 3) := oc_180 (a := 0) (b := 7) (by decide +kernel)
theorem dX12_keeps_45 : decode cX12_keeps 45 = .ok (.aload_n 0, 1) := oc_42 (by decide +kernel)
theorem dX12_keeps_46 : decode cX12_keeps 46 = .ok (.getfield 16, 3) := oc_180 (a := 0) (b := 16) (by decide +kernel)
theorem dX12_keeps_49 : decode cX12_keeps 49 = .ok (.invokestatic 58, 3) := oc_184 (a := 0) (b := 58) (by decide +kernel)
theorem dX12_keeps_52 : decode cX12_keeps 52 = .ok (.aload_n 0, 1) := oc_42 (by decide +kernel)
theorem dX12_keeps_53 : decode cX12_keeps 53 = .ok (.iload_n 2, 1) := oc_28 (by decide +kernel)
theorem dX12_keeps_54 : decode cX12_keeps 54 = .ok (.iload_n 3, 1) := oc_29 (by decide +kernel)
theorem dX12_keeps_55 : decode cX12_keeps 55 = .ok (.iload 4, 2) := oc_21 (by decide +kernel)
theorem tw_1424 : Cond.methodLink RX12 375 yX12_sandBehind ∈ wsL_law := sg_60 _ (List.mem_of_getElem? (i := 8) rfl)
theorem tw_1425 : Cond.instanceMethod yX12_sandBehind ∈ wsL_law := sg_60 _ (List.mem_of_getElem? (i := 9) rfl)
theorem tw_1426 : Cond.selects RX12 yX12_sandBehind yX12_sandBehind ∈ wsL_law := sg_60 _ (List.mem_of_getElem? (i := 10) rfl)
theorem tw_1427 : Cond.code yX12_sandBehind cX12_sandBehind 5 (some .int) ∈ wsL_law := sg_60 _ (List.mem_of_getElem? (i := 11) rfl)
theorem dX12_keeps_57 : decode cX12_keeps 57 = .ok (.invokevirtual 375, 3) := oc_182 (a := 1) (b := 119) (by decide +kernel)
theorem dX12_keeps_60 : decode cX12_keeps 60 = .ok (.istore 5, 2) := oc_54 (by decide +kernel)
theorem dX12_keeps_62 : decode cX12_keeps 62 = .ok (.aload_n 0, 1) := oc_42 (by decide +kernel)
theorem dX12_keeps_63 : decode cX12_keeps 63 = .ok (.getfield 7, 3) := oc_180 (a := 0) (b := 7) (by decide +kernel)
theorem dX12_keeps_66 : decode cX12_keeps 66 = .ok (.bipush 100, 2) := oc_16 (a := 100) (by decide +kernel)
theorem dX12_keeps_68 : decode cX12_keeps 68 = .ok (.bipush 16, 2) := oc_16 (a := 16) (by decide +kernel)
theorem dX12_keeps_70 : decode cX12_keeps 70 = .ok (.iload_n 1, 1) := oc_27 (by decide +kernel)
theorem dX12_keeps_71 : decode cX12_keeps 71 = .ok (.imul, 1) := oc_104 (by decide +kernel)
theorem dX12_keeps_72 : decode cX12_keeps 72 = .ok (.iadd, 1) := oc_96 (by decide +kernel)
theorem dX12_keeps_73 : decode cX12_keeps 73 = .ok (.bipush 6, 2) := oc_16 (a := 6) (by decide +kernel)
theorem dX12_keeps_75 : decode cX12_keeps 75 = .ok (.iadd, 1) := oc_96 (by decide +kernel)
theorem dX12_keeps_76 : decode cX12_keeps 76 = .ok (.iconst 0, 1) := oc_3 (by decide +kernel)
theorem dX12_keeps_77 : decode cX12_keeps 77 = .ok (.iastore, 1) := oc_79 (by decide +kernel)
theorem dX12_keeps_78 : decode cX12_keeps 78 = .ok (.iload 5, 2) := oc_21 (by decide +kernel)
theorem dX12_keeps_80 : decode cX12_keeps 80 = .ok (.aload_n 0, 1) := oc_42 (by decide +kernel)
theorem dX12_keeps_81 : decode cX12_keeps 81 = .ok (.iload_n 2, 1) := oc_28 (by decide +kernel)
theorem dX12_keeps_82 : decode cX12_keeps 82 = .ok (.iload_n 3, 1) := oc_29 (by decide +kernel)
theorem dX12_keeps_83 : decode cX12_keeps 83 = .ok (.iload 4, 2) := oc_21 (by decide +kernel)
theorem dX12_keeps_85 : decode cX12_keeps 85 = .ok (.invokevirtual 375, 3) := oc_182 (a := 1) (b := 119) (by decide +kernel)
theorem dX12_keeps_88 : decode cX12_keeps 88 = .ok (.isub, 1) := oc_100 (by decide +kernel)
theorem dX12_keeps_89 : decode cX12_keeps 89 = .ok (.ireturn, 1) := oc_172 (by decide +kernel)
theorem dX12_wants_0 : decode cX12_wants 0 = .ok (.iconst 0, 1) := oc_3 (by decide +kernel)
theorem dX12_wants_1 : decode cX12_wants 1 = .ok (.istore_n 1, 1) := oc_60 (by decide +kernel)
theorem dX12_wants_2 : decode cX12_wants 2 = .ok (.iconst 0, 1) := oc_3 (by decide +kernel)
theorem dX12_wants_3 : decode cX12_wants 3 = .ok (.istore_n 2, 1) := oc_61 (by decide +kernel)
theorem dX12_wants_4 : decode cX12_wants 4 = .ok (.iload_n 2, 1) := oc_28 (by decide +kernel)
theorem dX12_wants_5 : decode cX12_wants 5 = .ok (.aload_n 0, 1) := oc_42 (by decide +kernel)
theorem dX12_wants_6 : decode cX12_wants 6 = .ok (.getfield 7, 3) := oc_180 (a := 0) (b := 7) (by decide +kernel)
theorem dX12_wants_9 : decode cX12_wants 9 = .ok (.iconst 5, 1) := oc_8 (by decide +kernel)
theorem dX12_wants_10 : decode cX12_wants 10 = .ok (.iaload, 1) := oc_46 (by decide +kernel)
theorem dX12_wants_11 : decode cX12_wants 11 = .ok (.if_icmp .ge 26, 3) := oc_162 (a := 0) (b := 26) (by decide +kernel)
theorem dX12_wants_37 : decode cX12_wants 37 = .ok (.iload_n 1, 1) := oc_27 (by decide +kernel)
theorem dX12_wants_38 : decode cX12_wants 38 = .ok (.ireturn, 1) := oc_172 (by decide +kernel)
theorem dX12_wants_14 : decode cX12_wants 14 = .ok (.iload_n 1, 1) := oc_27 (by decide +kernel)
theorem dX12_wants_15 : decode cX12_wants 15 = .ok (.aload_n 0, 1) := oc_42 (by decide +kernel)
theorem dX12_wants_16 : decode cX12_wants 16 = .ok (.iload_n 2, 1) := oc_28 (by decide +kernel)
theorem dX12_wants_17 : decode cX12_wants 17 = .ok (.iconst 5, 1) := oc_8 (by decide +kernel)
theorem dX12_wants_18 : decode cX12_wants 18 = .ok (.invokevirtual 94, 3) := oc_182 (a := 0) (b := 94) (by decide +kernel)
theorem dX12_wants_21 : decode cX12_wants 21 = .ok (.aload_n 0, 1) := oc_42 (by decide +kernel)
theorem dX12_wants_22 : decode cX12_wants 22 = .ok (.iload_n 2, 1) := oc_28 (by decide +kernel)
theorem dX12_wants_23 : decode cX12_wants 23 = .ok (.bipush 6, 2) := oc_16 (a := 6) (by decide +kernel)
theorem dX12_wants_25 : decode cX12_wants 25 = .ok (.invokevirtual 94, 3) := oc_182 (a := 0) (b := 94) (by decide +kernel)
theorem dX12_wants_28 : decode cX12_wants 28 = .ok (.iadd, 1) := oc_96 (by decide +kernel)
theorem dX12_wants_29 : decode cX12_wants 29 = .ok (.iadd, 1) := oc_96 (by decide +kernel)
theorem dX12_wants_30 : decode cX12_wants 30 = .ok (.istore_n 1, 1) := oc_60 (by decide +kernel)
theorem dX12_wants_31 : decode cX12_wants 31 = .ok (.iinc 2 1, 3) := oc_132 (b := 1) (by decide +kernel)
theorem dX12_wants_34 : decode cX12_wants 34 = .ok (.goto (-30), 3) := oc_167 (a := 255) (b := 226) (by decide +kernel)
theorem dX12_nextOrder_0 : decode cX12_nextOrder 0 = .ok (.iload_n 1, 1) := oc_27 (by decide +kernel)
theorem dX12_nextOrder_1 : decode cX12_nextOrder 1 = .ok (.iconst 2, 1) := oc_5 (by decide +kernel)
theorem dX12_nextOrder_2 : decode cX12_nextOrder 2 = .ok (.isub, 1) := oc_100 (by decide +kernel)
theorem dX12_nextOrder_3 : decode cX12_nextOrder 3 = .ok (.istore_n 2, 1) := oc_61 (by decide +kernel)
theorem dX12_nextOrder_4 : decode cX12_nextOrder 4 = .ok (.iload_n 2, 1) := oc_28 (by decide +kernel)
theorem dX12_nextOrder_5 : decode cX12_nextOrder 5 = .ok (.ifCond .lt 26, 3) := oc_155 (a := 0) (b := 26) (by decide +kernel)
theorem dX12_nextOrder_31 : decode cX12_nextOrder 31 = .ok (.iload_n 2, 1) := oc_28 (by decide +kernel)
theorem dX12_nextOrder_32 : decode cX12_nextOrder 32 = .ok (.ifCond .ge 5, 3) := oc_156 (a := 0) (b := 5) (by decide +kernel)
theorem dX12_nextOrder_35 : decode cX12_nextOrder 35 = .ok (.iconst 0, 1) := oc_3 (by decide +kernel)
theorem dX12_nextOrder_36 : decode cX12_nextOrder 36 = .ok (.ireturn, 1) := oc_172 (by decide +kernel)
theorem dX12_nextOrder_8 : decode cX12_nextOrder 8 = .ok (.aload_n 0, 1) := oc_42 (by decide +kernel)
theorem tw_191 : Cond.fieldLink RX12 55 "RingsUnderModel" "rings" "[I" ∈ wsL_law := sg_8 _ (List.mem_of_getElem? (i := 23) rfl)
theorem dX12_nextOrder_9 : decode cX12_nextOrder 9 = .ok (.getfield 55, 3) := oc_180 (a := 0) (b := 55) (by decide +kernel)
theorem dX12_nextOrder_12 : decode cX12_nextOrder 12 = .ok (.iload_n 2, 1) := oc_28 (by decide +kernel)
theorem dX12_nextOrder_13 : decode cX12_nextOrder 13 = .ok (.iaload, 1) := oc_46 (by decide +kernel)
theorem dX12_nextOrder_14 : decode cX12_nextOrder 14 = .ok (.aload_n 0, 1) := oc_42 (by decide +kernel)
theorem dX12_nextOrder_15 : decode cX12_nextOrder 15 = .ok (.getfield 55, 3) := oc_180 (a := 0) (b := 55) (by decide +kernel)
theorem dX12_nextOrder_18 : decode cX12_nextOrder 18 = .ok (.iload_n 2, 1) := oc_28 (by decide +kernel)
theorem dX12_nextOrder_19 : decode cX12_nextOrder 19 = .ok (.iconst 1, 1) := oc_4 (by decide +kernel)
theorem dX12_nextOrder_20 : decode cX12_nextOrder 20 = .ok (.iadd, 1) := oc_96 (by decide +kernel)
theorem dX12_nextOrder_21 : decode cX12_nextOrder 21 = .ok (.iaload, 1) := oc_46 (by decide +kernel)
theorem dX12_nextOrder_22 : decode cX12_nextOrder 22 = .ok (.if_icmp .le 9, 3) := oc_164 (a := 0) (b := 9) (by decide +kernel)
theorem dX12_nextOrder_37 : decode cX12_nextOrder 37 = .ok (.iload_n 1, 1) := oc_27 (by decide +kernel)
theorem dX12_nextOrder_38 : decode cX12_nextOrder 38 = .ok (.iconst 1, 1) := oc_4 (by decide +kernel)
theorem dX12_nextOrder_39 : decode cX12_nextOrder 39 = .ok (.isub, 1) := oc_100 (by decide +kernel)
theorem dX12_nextOrder_40 : decode cX12_nextOrder 40 = .ok (.istore_n 3, 1) := oc_62 (by decide +kernel)
theorem dX12_nextOrder_41 : decode cX12_nextOrder 41 = .ok (.aload_n 0, 1) := oc_42 (by decide +kernel)
theorem dX12_nextOrder_42 : decode cX12_nextOrder 42 = .ok (.getfield 55, 3) := oc_180 (a := 0) (b := 55) (by decide +kernel)
theorem dX12_nextOrder_45 : decode cX12_nextOrder 45 = .ok (.iload_n 3, 1) := oc_29 (by decide +kernel)
theorem dX12_nextOrder_46 : decode cX12_nextOrder 46 = .ok (.iaload, 1) := oc_46 (by decide +kernel)
theorem dX12_nextOrder_47 : decode cX12_nextOrder 47 = .ok (.aload_n 0, 1) := oc_42 (by decide +kernel)
theorem dX12_nextOrder_48 : decode cX12_nextOrder 48 = .ok (.getfield 55, 3) := oc_180 (a := 0) (b := 55) (by decide +kernel)
theorem dX12_nextOrder_51 : decode cX12_nextOrder 51 = .ok (.iload_n 2, 1) := oc_28 (by decide +kernel)
theorem dX12_nextOrder_52 : decode cX12_nextOrder 52 = .ok (.iaload, 1) := oc_46 (by decide +kernel)
theorem dX12_nextOrder_53 : decode cX12_nextOrder 53 = .ok (.if_icmp .ge 9, 3) := oc_162 (a := 0) (b := 9) (by decide +kernel)
theorem dX12_nextOrder_62 : decode cX12_nextOrder 62 = .ok (.aload_n 0, 1) := oc_42 (by decide +kernel)
theorem dX12_nextOrder_63 : decode cX12_nextOrder 63 = .ok (.getfield 55, 3) := oc_180 (a := 0) (b := 55) (by decide +kernel)
theorem dX12_nextOrder_66 : decode cX12_nextOrder 66 = .ok (.iload_n 2, 1) := oc_28 (by decide +kernel)
theorem dX12_nextOrder_67 : decode cX12_nextOrder 67 = .ok (.iaload, 1) := oc_46 (by decide +kernel)
theorem dX12_nextOrder_68 : decode cX12_nextOrder 68 = .ok (.istore 4, 2) := oc_54 (by decide +kernel)
theorem dX12_nextOrder_70 : decode cX12_nextOrder 70 = .ok (.aload_n 0, 1) := oc_42 (by decide +kernel)
theorem dX12_nextOrder_71 : decode cX12_nextOrder 71 = .ok (.getfield 55, 3) := oc_180 (a := 0) (b := 55) (by decide +kernel)
theorem dX12_nextOrder_74 : decode cX12_nextOrder 74 = .ok (.iload_n 2, 1) := oc_28 (by decide +kernel)
theorem dX12_nextOrder_75 : decode cX12_nextOrder 75 = .ok (.aload_n 0, 1) := oc_42 (by decide +kernel)
theorem dX12_nextOrder_76 : decode cX12_nextOrder 76 = .ok (.getfield 55, 3) := oc_180 (a := 0) (b := 55) (by decide +kernel)
theorem dX12_nextOrder_79 : decode cX12_nextOrder 79 = .ok (.iload_n 3, 1) := oc_29 (by decide +kernel)
theorem dX12_nextOrder_80 : decode cX12_nextOrder 80 = .ok (.iaload, 1) := oc_46 (by decide +kernel)
theorem dX12_nextOrder_81 : decode cX12_nextOrder 81 = .ok (.iastore, 1) := oc_79 (by decide +kernel)
theorem dX12_nextOrder_82 : decode cX12_nextOrder 82 = .ok (.aload_n 0, 1) := oc_42 (by decide +kernel)
theorem dX12_nextOrder_83 : decode cX12_nextOrder 83 = .ok (.getfield 55, 3) := oc_180 (a := 0) (b := 55) (by decide +kernel)
theorem dX12_nextOrder_86 : decode cX12_nextOrder 86 = .ok (.iload_n 3, 1) := oc_29 (by decide +kernel)
theorem dX12_nextOrder_87 : decode cX12_nextOrder 87 = .ok (.iload 4, 2) := oc_21 (by decide +kernel)
theorem dX12_nextOrder_89 : decode cX12_nextOrder 89 = .ok (.iastore, 1) := oc_79 (by decide +kernel)
theorem dX12_nextOrder_90 : decode cX12_nextOrder 90 = .ok (.iload_n 2, 1) := oc_28 (by decide +kernel)
theorem dX12_nextOrder_91 : decode cX12_nextOrder 91 = .ok (.iconst 1, 1) := oc_4 (by decide +kernel)
theorem dX12_nextOrder_92 : decode cX12_nextOrder 92 = .ok (.iadd, 1) := oc_96 (by decide +kernel)
theorem dX12_nextOrder_93 : decode cX12_nextOrder 93 = .ok (.istore 5, 2) := oc_54 (by decide +kernel)
theorem dX12_nextOrder_95 : decode cX12_nextOrder 95 = .ok (.iload_n 1, 1) := oc_27 (by decide +kernel)
theorem dX12_nextOrder_96 : decode cX12_nextOrder 96 = .ok (.iconst 1, 1) := oc_4 (by decide +kernel)
theorem dX12_nextOrder_97 : decode cX12_nextOrder 97 = .ok (.isub, 1) := oc_100 (by decide +kernel)
theorem dX12_nextOrder_98 : decode cX12_nextOrder 98 = .ok (.istore 6, 2) := oc_54 (by decide +kernel)
theorem dX12_nextOrder_100 : decode cX12_nextOrder 100 = .ok (.iload 5, 2) := oc_21 (by decide +kernel)
theorem dX12_nextOrder_102 : decode cX12_nextOrder 102 = .ok (.iload 6, 2) := oc_21 (by decide +kernel)
theorem dX12_nextOrder_104 : decode cX12_nextOrder 104 = .ok (.if_icmp .ge 44, 3) := oc_162 (a := 0) (b := 44) (by decide +kernel)
theorem dX12_nextOrder_148 : decode cX12_nextOrder 148 = .ok (.iconst 1, 1) := oc_4 (by decide +kernel)
theorem dX12_nextOrder_149 : decode cX12_nextOrder 149 = .ok (.ireturn, 1) := oc_172 (by decide +kernel)
theorem dX12_nextOrder_107 : decode cX12_nextOrder 107 = .ok (.aload_n 0, 1) := oc_42 (by decide +kernel)
theorem dX12_nextOrder_108 : decode cX12_nextOrder 108 = .ok (.getfield 55, 3) := oc_180 (a := 0) (b := 55) (by decide +kernel)
theorem dX12_nextOrder_111 : decode cX12_nextOrder 111 = .ok (.iload 5, 2) := oc_21 (by decide +kernel)
theorem dX12_nextOrder_113 : decode cX12_nextOrder 113 = .ok (.iaload, 1) := oc_46 (by decide +kernel)
theorem dX12_nextOrder_114 : decode cX12_nextOrder 114 = .ok (.istore 4, 2) := oc_54 (by decide +kernel)
theorem dX12_nextOrder_116 : decode cX12_nextOrder 116 = .ok (.aload_n 0, 1) := oc_42 (by decide +kernel)
theorem dX12_nextOrder_117 : decode cX12_nextOrder 117 = .ok (.getfield 55, 3) := oc_180 (a := 0) (b := 55) (by decide +kernel)
theorem dX12_nextOrder_120 : decode cX12_nextOrder 120 = .ok (.iload 5, 2) := oc_21 (by decide +kernel)
theorem dX12_nextOrder_122 : decode cX12_nextOrder 122 = .ok (.aload_n 0, 1) := oc_42 (by decide +kernel)
theorem dX12_nextOrder_123 : decode cX12_nextOrder 123 = .ok (.getfield 55, 3) := oc_180 (a := 0) (b := 55) (by decide +kernel)
theorem dX12_nextOrder_126 : decode cX12_nextOrder 126 = .ok (.iload 6, 2) := oc_21 (by decide +kernel)
theorem dX12_nextOrder_128 : decode cX12_nextOrder 128 = .ok (.iaload, 1) := oc_46 (by decide +kernel)
theorem dX12_nextOrder_129 : decode cX12_nextOrder 129 = .ok (.iastore, 1) := oc_79 (by decide +kernel)
theorem dX12_nextOrder_130 : decode cX12_nextOrder 130 = .ok (.aload_n 0, 1) := oc_42 (by decide +kernel)
theorem dX12_nextOrder_131 : decode cX12_nextOrder 131 = .ok (.getfield 55, 3) := oc_180 (a := 0) (b := 55) (by decide +kernel)
theorem dX12_nextOrder_134 : decode cX12_nextOrder 134 = .ok (.iload 6, 2) := oc_21 (by decide +kernel)
theorem dX12_nextOrder_136 : decode cX12_nextOrder 136 = .ok (.iload 4, 2) := oc_21 (by decide +kernel)
theorem dX12_nextOrder_138 : decode cX12_nextOrder 138 = .ok (.iastore, 1) := oc_79 (by decide +kernel)
theorem dX12_nextOrder_139 : decode cX12_nextOrder 139 = .ok (.iinc 5 1, 3) := oc_132 (b := 1) (by decide +kernel)
theorem dX12_nextOrder_142 : decode cX12_nextOrder 142 = .ok (.iinc 6 (-1), 3) := oc_132 (b := 255) (by decide +kernel)
theorem dX12_nextOrder_145 : decode cX12_nextOrder 145 = .ok (.goto (-45), 3) := oc_167 (a := 255) (b := 211) (by decide +kernel)
theorem dX12_nextOrder_56 : decode cX12_nextOrder 56 = .ok (.iinc 3 (-1), 3) := oc_132 (b := 255) (by decide +kernel)
theorem dX12_nextOrder_59 : decode cX12_nextOrder 59 = .ok (.goto (-18), 3) := oc_167 (a := 255) (b := 238) (by decide +kernel)
theorem dX12_nextOrder_25 : decode cX12_nextOrder 25 = .ok (.iinc 2 (-1), 3) := oc_132 (b := 255) (by decide +kernel)
theorem dX12_nextOrder_28 : decode cX12_nextOrder 28 = .ok (.goto (-24), 3) := oc_167 (a := 255) (b := 232) (by decide +kernel)
theorem dX12_order_0 : decode cX12_order 0 = .ok (.aload_n 0, 1) := oc_42 (by decide +kernel)
theorem dX12_order_1 : decode cX12_order 1 = .ok (.iload_n 2, 1) := oc_28 (by decide +kernel)
theorem dX12_order_2 : decode cX12_order 2 = .ok (.bipush 12, 2) := oc_16 (a := 12) (by decide +kernel)
theorem dX12_order_4 : decode cX12_order 4 = .ok (.iload_n 1, 1) := oc_27 (by decide +kernel)
theorem dX12_order_5 : decode cX12_order 5 = .ok (.invokevirtual 369, 3) := oc_182 (a := 1) (b := 113) (by decide +kernel)
theorem dX12_order_24 : decode cX12_order 24 = .ok (.iconst (-1), 1) := oc_2 (by decide +kernel)
theorem dX12_order_25 : decode cX12_order 25 = .ok (.ireturn, 1) := oc_172 (by decide +kernel)
theorem dX12_order_8 : decode cX12_order 8 = .ok (.ifCond .eq 16, 3) := oc_153 (a := 0) (b := 16) (by decide +kernel)
theorem dX12_order_11 : decode cX12_order 11 = .ok (.iload_n 3, 1) := oc_29 (by decide +kernel)
theorem dX12_order_12 : decode cX12_order 12 = .ok (.iconst (-1), 1) := oc_2 (by decide +kernel)
theorem dX12_order_26 : decode cX12_order 26 = .ok (.aload_n 0, 1) := oc_42 (by decide +kernel)
theorem dX12_order_27 : decode cX12_order 27 = .ok (.getfield 7, 3) := oc_180 (a := 0) (b := 7) (by decide +kernel)
theorem dX12_order_30 : decode cX12_order 30 = .ok (.aload_n 0, 1) := oc_42 (by decide +kernel)
theorem dX12_order_31 : decode cX12_order 31 = .ok (.getfield 16, 3) := oc_180 (a := 0) (b := 16) (by decide +kernel)
theorem dX12_order_34 : decode cX12_order 34 = .ok (.invokestatic 58, 3) := oc_184 (a := 0) (b := 58) (by decide +kernel)
theorem dX12_order_37 : decode cX12_order 37 = .ok (.aload_n 0, 1) := oc_42 (by decide +kernel)
theorem dX12_order_38 : decode cX12_order 38 = .ok (.getfield 7, 3) := oc_180 (a := 0) (b := 7) (by decide +kernel)
theorem dX12_order_41 : decode cX12_order 41 = .ok (.iconst 1, 1) := oc_4 (by decide +kernel)
theorem dX12_order_42 : decode cX12_order 42 = .ok (.iaload, 1) := oc_46 (by decide +kernel)
theorem dX12_order_43 : decode cX12_order 43 = .ok (.istore 4, 2) := oc_54 (by decide +kernel)
theorem dX12_order_45 : decode cX12_order 45 = .ok (.iconst 0, 1) := oc_3 (by decide +kernel)
theorem dX12_order_46 : decode cX12_order 46 = .ok (.istore 5, 2) := oc_54 (by decide +kernel)
theorem dX12_order_48 : decode cX12_order 48 = .ok (.iload 5, 2) := oc_21 (by decide +kernel)
theorem dX12_order_50 : decode cX12_order 50 = .ok (.iconst 5, 1) := oc_8 (by decide +kernel)
theorem dX12_order_51 : decode cX12_order 51 = .ok (.if_icmp .ge 18, 3) := oc_162 (a := 0) (b := 18) (by decide +kernel)
theorem dX12_order_69 : decode cX12_order 69 = .ok (.iconst (-1), 1) := oc_2 (by decide +kernel)
theorem dX12_order_70 : decode cX12_order 70 = .ok (.istore 5, 2) := oc_54 (by decide +kernel)
theorem dX12_order_72 : decode cX12_order 72 = .ok (.aload_n 0, 1) := oc_42 (by decide +kernel)
theorem dX12_order_73 : decode cX12_order 73 = .ok (.iconst 1, 1) := oc_4 (by decide +kernel)
theorem dX12_order_74 : decode cX12_order 74 = .ok (.putfield 328, 3) := oc_181 (a := 1) (b := 72) (by decide +kernel)
theorem dX12_order_77 : decode cX12_order 77 = .ok (.iconst 1, 1) := oc_4 (by decide +kernel)
theorem dX12_order_78 : decode cX12_order 78 = .ok (.istore 6, 2) := oc_54 (by decide +kernel)
theorem dX12_order_80 : decode cX12_order 80 = .ok (.iload 6, 2) := oc_21 (by decide +kernel)
theorem dX12_order_82 : decode cX12_order 82 = .ok (.ifCond .eq 136, 3) := oc_153 (a := 0) (b := 136) (by decide +kernel)
theorem dX12_order_218 : decode cX12_order 218 = .ok (.aload_n 0, 1) := oc_42 (by decide +kernel)
theorem dX12_order_219 : decode cX12_order 219 = .ok (.iconst 0, 1) := oc_3 (by decide +kernel)
theorem dX12_order_220 : decode cX12_order 220 = .ok (.putfield 328, 3) := oc_181 (a := 1) (b := 72) (by decide +kernel)
theorem dX12_order_223 : decode cX12_order 223 = .ok (.iload_n 3, 1) := oc_29 (by decide +kernel)
theorem dX12_order_224 : decode cX12_order 224 = .ok (.iconst (-1), 1) := oc_2 (by decide +kernel)
theorem dX12_order_225 : decode cX12_order 225 = .ok (.if_icmp .ne 8, 3) := oc_160 (a := 0) (b := 8) (by decide +kernel)
theorem dX12_order_233 : decode cX12_order 233 = .ok (.aload_n 0, 1) := oc_42 (by decide +kernel)
theorem tw_190 : Cond.fieldLink RX12 52 "RingsUnderModel" "bestRow" "[I" ∈ wsL_law := sg_8 _ (List.mem_of_getElem? (i := 22) rfl)
theorem dX12_order_234 : decode cX12_order 234 = .ok (.getfield 52, 3) := oc_180 (a := 0) (b := 52) (by decide +kernel)
theorem dX12_order_237 : decode cX12_order 237 = .ok (.iload_n 3, 1) := oc_29 (by decide +kernel)
theorem dX12_order_238 : decode cX12_order 238 = .ok (.iaload, 1) := oc_46 (by decide +kernel)
theorem dX12_order_239 : decode cX12_order 239 = .ok (.ireturn, 1) := oc_172 (by decide +kernel)
theorem dX12_order_228 : decode cX12_order 228 = .ok (.iload 5, 2) := oc_21 (by decide +kernel)
theorem dX12_order_230 : decode cX12_order 230 = .ok (.goto 9, 3) := oc_167 (a := 0) (b := 9) (by decide +kernel)
theorem dX12_order_85 : decode cX12_order 85 = .ok (.iconst 0, 1) := oc_3 (by decide +kernel)
theorem dX12_order_86 : decode cX12_order 86 = .ok (.istore 7, 2) := oc_54 (by decide +kernel)
theorem dX12_order_88 : decode cX12_order 88 = .ok (.iload 7, 2) := oc_21 (by decide +kernel)
theorem dX12_order_90 : decode cX12_order 90 = .ok (.iload 4, 2) := oc_21 (by decide +kernel)
theorem dX12_order_92 : decode cX12_order 92 = .ok (.if_icmp .ge 23, 3) := oc_162 (a := 0) (b := 23) (by decide +kernel)
theorem dX12_order_115 : decode cX12_order 115 = .ok (.aload_n 0, 1) := oc_42 (by decide +kernel)
theorem tw_1487 : Cond.methodLink RX12 378 yX12_wants ∈ wsL_law := sg_62 _ (List.mem_of_getElem? (i := 23) rfl)
theorem tw_1488 : Cond.instanceMethod yX12_wants ∈ wsL_law := sg_63 _ (List.mem_of_getElem? (i := 0) rfl)
theorem tw_1489 : Cond.selects RX12 yX12_wants yX12_wants ∈ wsL_law := sg_63 _ (List.mem_of_getElem? (i := 1) rfl)
theorem tw_1490 : Cond.code yX12_wants cX12_wants 3 (some .int) ∈ wsL_law := sg_63 _ (List.mem_of_getElem? (i := 2) rfl)
theorem dX12_order_116 : decode cX12_order 116 = .ok (.invokevirtual 378, 3) := oc_182 (a := 1) (b := 122) (by decide +kernel)
theorem dX12_order_119 : decode cX12_order 119 = .ok (.istore 7, 2) := oc_54 (by decide +kernel)
theorem dX12_order_121 : decode cX12_order 121 = .ok (.iconst 0, 1) := oc_3 (by decide +kernel)
theorem dX12_order_122 : decode cX12_order 122 = .ok (.istore 8, 2) := oc_54 (by decide +kernel)
theorem dX12_order_124 : decode cX12_order 124 = .ok (.iload 8, 2) := oc_21 (by decide +kernel)
theorem dX12_order_126 : decode cX12_order 126 = .ok (.iload_n 2, 1) := oc_28 (by decide +kernel)
theorem dX12_order_127 : decode cX12_order 127 = .ok (.if_icmp .ge 14, 3) := oc_162 (a := 0) (b := 14) (by decide +kernel)
theorem dX12_order_141 : decode cX12_order 141 = .ok (.aload_n 0, 1) := oc_42 (by decide +kernel)
theorem dX12_order_142 : decode cX12_order 142 = .ok (.invokevirtual 378, 3) := oc_182 (a := 1) (b := 122) (by decide +kernel)
theorem dX12_order_145 : decode cX12_order 145 = .ok (.iload 7, 2) := oc_21 (by decide +kernel)
theorem dX12_order_147 : decode cX12_order 147 = .ok (.isub, 1) := oc_100 (by decide +kernel)
theorem dX12_order_148 : decode cX12_order 148 = .ok (.istore 8, 2) := oc_54 (by decide +kernel)
theorem dX12_order_150 : decode cX12_order 150 = .ok (.aload_n 0, 1) := oc_42 (by decide +kernel)
theorem dX12_order_151 : decode cX12_order 151 = .ok (.getfield 16, 3) := oc_180 (a := 0) (b := 16) (by decide +kernel)
theorem dX12_order_154 : decode cX12_order 154 = .ok (.aload_n 0, 1) := oc_42 (by decide +kernel)
theorem dX12_order_155 : decode cX12_order 155 = .ok (.getfield 7, 3) := oc_180 (a := 0) (b := 7) (by decide +kernel)
theorem dX12_order_158 : decode cX12_order 158 = .ok (.invokestatic 58, 3) := oc_184 (a := 0) (b := 58) (by decide +kernel)
theorem dX12_order_161 : decode cX12_order 161 = .ok (.iload 5, 2) := oc_21 (by decide +kernel)
theorem dX12_order_173 : decode cX12_order 173 = .ok (.iload 8, 2) := oc_21 (by decide +kernel)
theorem dX12_order_175 : decode cX12_order 175 = .ok (.istore 5, 2) := oc_54 (by decide +kernel)
theorem dX12_order_177 : decode cX12_order 177 = .ok (.iconst 0, 1) := oc_3 (by decide +kernel)
theorem dX12_order_178 : decode cX12_order 178 = .ok (.istore 9, 2) := oc_54 (by decide +kernel)
theorem dX12_order_180 : decode cX12_order 180 = .ok (.iload 9, 2) := oc_21 (by decide +kernel)
theorem dX12_order_182 : decode cX12_order 182 = .ok (.iload 4, 2) := oc_21 (by decide +kernel)
theorem dX12_order_184 : decode cX12_order 184 = .ok (.if_icmp .ge 23, 3) := oc_162 (a := 0) (b := 23) (by decide +kernel)
theorem dX12_order_207 : decode cX12_order 207 = .ok (.aload_n 0, 1) := oc_42 (by decide +kernel)
theorem dX12_order_208 : decode cX12_order 208 = .ok (.iload 4, 2) := oc_21 (by decide +kernel)
theorem tw_1491 : Cond.methodLink RX12 381 yX12_nextOrder ∈ wsL_law := sg_63 _ (List.mem_of_getElem? (i := 3) rfl)
theorem tw_1492 : Cond.instanceMethod yX12_nextOrder ∈ wsL_law := sg_63 _ (List.mem_of_getElem? (i := 4) rfl)
theorem tw_1493 : Cond.selects RX12 yX12_nextOrder yX12_nextOrder ∈ wsL_law := sg_63 _ (List.mem_of_getElem? (i := 5) rfl)
theorem tw_1494 : Cond.code yX12_nextOrder cX12_nextOrder 7 (some .boolean) ∈ wsL_law := sg_63 _ (List.mem_of_getElem? (i := 6) rfl)
theorem dX12_order_210 : decode cX12_order 210 = .ok (.invokevirtual 381, 3) := oc_182 (a := 1) (b := 125) (by decide +kernel)
theorem dX12_order_213 : decode cX12_order 213 = .ok (.istore 6, 2) := oc_54 (by decide +kernel)
theorem dX12_order_215 : decode cX12_order 215 = .ok (.goto (-135), 3) := oc_167 (a := 255) (b := 121) (by decide +kernel)
theorem dX12_order_187 : decode cX12_order 187 = .ok (.aload_n 0, 1) := oc_42 (by decide +kernel)
theorem dX12_order_188 : decode cX12_order 188 = .ok (.getfield 52, 3) := oc_180 (a := 0) (b := 52) (by decide +kernel)
theorem dX12_order_191 : decode cX12_order 191 = .ok (.iload 9, 2) := oc_21 (by decide +kernel)
theorem dX12_order_193 : decode cX12_order 193 = .ok (.aload_n 0, 1) := oc_42 (by decide +kernel)
theorem dX12_order_194 : decode cX12_order 194 = .ok (.getfield 55, 3) := oc_180 (a := 0) (b := 55) (by decide +kernel)
theorem dX12_order_197 : decode cX12_order 197 = .ok (.iload 9, 2) := oc_21 (by decide +kernel)
theorem dX12_order_199 : decode cX12_order 199 = .ok (.iaload, 1) := oc_46 (by decide +kernel)
theorem dX12_order_200 : decode cX12_order 200 = .ok (.iastore, 1) := oc_79 (by decide +kernel)
theorem dX12_order_201 : decode cX12_order 201 = .ok (.iinc 9 1, 3) := oc_132 (b := 1) (by decide +kernel)
theorem dX12_order_204 : decode cX12_order 204 = .ok (.goto (-24), 3) := oc_167 (a := 255) (b := 232) (by decide +kernel)
theorem dX12_order_163 : decode cX12_order 163 = .ok (.ifCond .lt 10, 3) := oc_155 (a := 0) (b := 10) (by decide +kernel)
theorem dX12_order_166 : decode cX12_order 166 = .ok (.iload 8, 2) := oc_21 (by decide +kernel)
theorem dX12_order_168 : decode cX12_order 168 = .ok (.iload 5, 2) := oc_21 (by decide +kernel)
theorem dX12_order_170 : decode cX12_order 170 = .ok (.if_icmp .ge 37, 3) := oc_162 (a := 0) (b := 37) (by decide +kernel)
theorem dX12_order_130 : decode cX12_order 130 = .ok (.aload_n 0, 1) := oc_42 (by decide +kernel)
theorem dX12_order_131 : decode cX12_order 131 = .ok (.iload_n 1, 1) := oc_27 (by decide +kernel)
theorem dX12_order_132 : decode cX12_order 132 = .ok (.invokevirtual 372, 3) := oc_182 (a := 1) (b := 116) (by decide +kernel)
theorem dX12_order_135 : decode cX12_order 135 = .ok (.iinc 8 1, 3) := oc_132 (b := 1) (by decide +kernel)
theorem dX12_order_138 : decode cX12_order 138 = .ok (.goto (-14), 3) := oc_167 (a := 255) (b := 242) (by decide +kernel)
theorem dX12_order_95 : decode cX12_order 95 = .ok (.aload_n 0, 1) := oc_42 (by decide +kernel)
theorem dX12_order_96 : decode cX12_order 96 = .ok (.getfield 40, 3) := oc_180 (a := 0) (b := 40) (by decide +kernel)
theorem dX12_order_99 : decode cX12_order 99 = .ok (.aload_n 0, 1) := oc_42 (by decide +kernel)
theorem dX12_order_100 : decode cX12_order 100 = .ok (.getfield 55, 3) := oc_180 (a := 0) (b := 55) (by decide +kernel)
theorem dX12_order_103 : decode cX12_order 103 = .ok (.iload 7, 2) := oc_21 (by decide +kernel)
theorem dX12_order_105 : decode cX12_order 105 = .ok (.iaload, 1) := oc_46 (by decide +kernel)
theorem dX12_order_106 : decode cX12_order 106 = .ok (.iload 7, 2) := oc_21 (by decide +kernel)
theorem dX12_order_108 : decode cX12_order 108 = .ok (.iastore, 1) := oc_79 (by decide +kernel)
theorem dX12_order_109 : decode cX12_order 109 = .ok (.iinc 7 1, 3) := oc_132 (b := 1) (by decide +kernel)
theorem dX12_order_112 : decode cX12_order 112 = .ok (.goto (-24), 3) := oc_167 (a := 255) (b := 232) (by decide +kernel)
theorem dX12_order_54 : decode cX12_order 54 = .ok (.aload_n 0, 1) := oc_42 (by decide +kernel)
theorem dX12_order_55 : decode cX12_order 55 = .ok (.getfield 55, 3) := oc_180 (a := 0) (b := 55) (by decide +kernel)
theorem dX12_order_58 : decode cX12_order 58 = .ok (.iload 5, 2) := oc_21 (by decide +kernel)
theorem dX12_order_60 : decode cX12_order 60 = .ok (.iload 5, 2) := oc_21 (by decide +kernel)
theorem dX12_order_62 : decode cX12_order 62 = .ok (.iastore, 1) := oc_79 (by decide +kernel)
theorem dX12_order_63 : decode cX12_order 63 = .ok (.iinc 5 1, 3) := oc_132 (b := 1) (by decide +kernel)
theorem dX12_order_66 : decode cX12_order 66 = .ok (.goto (-18), 3) := oc_167 (a := 255) (b := 238) (by decide +kernel)
theorem dX12_order_13 : decode cX12_order 13 = .ok (.if_icmp .eq 13, 3) := oc_159 (a := 0) (b := 13) (by decide +kernel)
theorem dX12_order_16 : decode cX12_order 16 = .ok (.aload_n 0, 1) := oc_42 (by decide +kernel)
theorem dX12_order_17 : decode cX12_order 17 = .ok (.iload_n 3, 1) := oc_29 (by decide +kernel)
theorem dX12_order_18 : decode cX12_order 18 = .ok (.invokevirtual 66, 3) := oc_182 (a := 0) (b := 66) (by decide +kernel)
theorem dX12_order_21 : decode cX12_order 21 = .ok (.ifCond .ne 5, 3) := oc_154 (a := 0) (b := 5) (by decide +kernel)
set_option maxRecDepth 100000 in
def g_X12_sandBehind_L3 (a0 : Int32) (a1 : Int32) (a2 : Int32) (J : Nat → Int64) (rq : Nat → Nat → Option Nat) : Nat → (Int32) → (Nat → Int32) → (Nat → Nat → Int32) → (Nat → Nat → Int64) → Int32 × vM
  | 0, x_596, I_597, ri_598, rj_599 => ((0 : Int32), I_597, J, ri_598, rj_599, rq)
  | n_643 + 1, x_596, I_597, ri_598, rj_599 => (if a2 ≤ x_596 then (bnI (g_X12_cellAt_c4 a0 I_597 J ri_598 rj_599 rq) fun (x_657 : Int32) (_ : Nat → Int32) (_ : Nat → Int64) (_ : Nat → Nat → Int32) (_ : Nat → Nat → Int64) (_ : Nat → Nat → Option Nat) => (ap1 (va_up ri_598 384 (va_cpy (ri_598 386) (ri_598 384) 0 0 12720)) fun (ri_666 : Nat → Nat → Int32) => (x_657, I_597, J, ri_666, rj_599, rq))) else (bnV (g_X12_month a1 I_597 J ri_598 rj_599 rq) fun (I_681 : Nat → Int32) (_ : Nat → Int64) (ri_682 : Nat → Nat → Int32) (rj_683 : Nat → Nat → Int64) (_ : Nat → Nat → Option Nat) => (ap1 (x_596 + Int32.ofInt 1) fun (x_692 : Int32) => ((g_X12_sandBehind_L3 a0 a1 a2 J rq n_643) x_692 I_681 ri_682 rj_683))))
set_option maxRecDepth 100000 in
theorem g_X12_sandBehind_L3_e {a0 : Int32} {a1 : Int32} {a2 : Int32} {J : Nat → Int64} {rq : Nat → Nat → Option Nat} {n_643 : Nat} {x_596 : Int32} {I_597 : Nat → Int32} {ri_598 : Nat → Nat → Int32} {rj_599 : Nat → Nat → Int64} : g_X12_sandBehind_L3 a0 a1 a2 J rq (n_643 + 1) x_596 I_597 ri_598 rj_599 = (if a2 ≤ x_596 then (bnI (g_X12_cellAt_c4 a0 I_597 J ri_598 rj_599 rq) fun (x_657 : Int32) (_ : Nat → Int32) (_ : Nat → Int64) (_ : Nat → Nat → Int32) (_ : Nat → Nat → Int64) (_ : Nat → Nat → Option Nat) => (ap1 (va_up ri_598 384 (va_cpy (ri_598 386) (ri_598 384) 0 0 12720)) fun (ri_666 : Nat → Nat → Int32) => (x_657, I_597, J, ri_666, rj_599, rq))) else (bnV (g_X12_month a1 I_597 J ri_598 rj_599 rq) fun (I_681 : Nat → Int32) (_ : Nat → Int64) (ri_682 : Nat → Nat → Int32) (rj_683 : Nat → Nat → Int64) (_ : Nat → Nat → Option Nat) => (ap1 (x_596 + Int32.ofInt 1) fun (x_692 : Int32) => ((g_X12_sandBehind_L3 a0 a1 a2 J rq n_643) x_692 I_681 ri_682 rj_683)))) := rfl
set_option maxRecDepth 100000 in
def g_X12_sandBehind (a0 : Int32) (a1 : Int32) (a2 : Int32) (I : Nat → Int32) (J : Nat → Int64) (ri : Nat → Nat → Int32) (rj : Nat → Nat → Int64) (rq : Nat → Nat → Option Nat) : Int32 × vM := (g_X12_sandBehind_L3 a0 a1 a2 J rq ((60 - ((0 : Int32)).toInt).toNat + 1) (0 : Int32) I ri rj)
set_option maxRecDepth 100000 in
theorem g_X12_sandBehind_e {a0 : Int32} {a1 : Int32} {a2 : Int32} {I : Nat → Int32} {J : Nat → Int64} {ri : Nat → Nat → Int32} {rj : Nat → Nat → Int64} {rq : Nat → Nat → Option Nat} : g_X12_sandBehind a0 a1 a2 I J ri rj rq = (g_X12_sandBehind_L3 a0 a1 a2 J rq ((60 - ((0 : Int32)).toInt).toNat + 1) (0 : Int32) I ri rj) := rfl
set_option maxHeartbeats 4000000 in
set_option maxRecDepth 100000 in
theorem s_X12_sandBehind (l : Launch) (D : va_G) (t : pq_T) (σ : pq_S) (I : Nat → Nat → Int32) (J : Nat → Nat → Int64) (ri : Nat → Nat → Int32) (rj : Nat → Nat → Int64) (rq : Nat → Nat → Option Nat) (sz : Nat) (tg : Nat → Nat) (hSH : SH σ tg) (hG0 : GT tg I ri) (this : Nat) (a0 : Int32) (a1 : Int32) (a2 : Int32) (hL_this : this ∈ σ.1) (hK_this : σ.2.1 this = 12) (h_a0 : rg a0 0 39) (h_a2 : rg a2 1 60) (this_a : Nat) (hR_this_a : σ.2.2.1 384 this = some this_a) (hL_this_a : this_a ∈ σ.1) (hK_this_a : σ.2.1 this_a = 13) (hN_this_a : σ.2.2.2 this_a = 12720) (hT_this_a : tg this_a = 384) (this_kept : Nat) (hR_this_kept : σ.2.2.1 386 this = some this_kept) (hL_this_kept : this_kept ∈ σ.1) (hK_this_kept : σ.2.1 this_kept = 13) (hN_this_kept : σ.2.2.2 this_kept = 12720) (hT_this_kept : tg this_kept = 386) (hcl : (ri this_a 0).toInt + a2.toInt ≤ 600) (hkc : (ri this_kept 0).toInt = (ri this_a 0).toInt) : MetI l yX12_sandBehind (wa yX12_sandBehind cX12_sandBehind 5 (some .int)) ({ frames := 7, cells := 0, slots := 0, locals := 172 }) [.ref this, .int a0, .int a1, .int a2] D t σ (I, J, ri, rj, rq) sz 0 0 (fun (r : Int32) (u : pq_S × pq_M) => ∃ I' : Nat → Nat → Int32, ∃ ri' : Nat → Nat → Int32, ∃ rj' : Nat → Nat → Int64, u = (σ, I', J, ri', rj', rq) ∧ GM [1305, 1304, 1403, 1000, 1001, 1002, 1003, 1004, 1005, 1006, 1007, 1010, 1013, 1014, 1015, 1500, 1501, 1502, 1503, 1504, 1100, 1101, 1102, 1103, 1104, 1300, 1301, 1306, 1308, 1700, 1701, 1702] tg σ I ri I' ri' rq ∧ ((ri' this_a 0).toInt = (ri this_kept 0).toInt) ∧ ((ri' this_kept 0).toInt = (ri this_kept 0).toInt) ∧ g_X12_sandBehind a0 a1 a2 (vI 12 σ this I) (vJ 12 σ this J) (vR 12 σ this ri) (vL 12 σ this rj) (vQ 12 σ this rq) = (r, (vI 12 σ this I'), (vJ 12 σ this J), (vR 12 σ this ri'), (vL 12 σ this rj'), (vQ 12 σ this rq)) ∧ FR 12 tg σ this (I, J, ri, rj, rq) (I', J, ri', rj', rq)) := by
  refine Met.ofW (cc := cX12_sandBehind) (maxL := 5) (ret := (some .int)) (by decide +kernel) rfl ?_
  intro p e s m args below meth c s₁ B hml hv
  obtain ⟨rfl, hsz, hP, hK, hD0, hN⟩ := hv
  have hx := B.exec
  have hb := B.bytes
  have hr := B.returns
  have hts := atoms_spec (ws := (wa yX12_sandBehind cX12_sandBehind 5 (some .int))) B.pre
  have hown : s.vm.findClass RX12 = some m.cls := findClass_of_methodNamed B.named
  have hlocks := B.notSynchronized
  subst hsz
  have hD : va_D (pq_B t σ (I, J, ri, rj, rq) s.heap.size) (pq_P t σ (I, J, ri, rj, rq)) := hD0.self
  generalize hAe : pq_B t σ (I, J, ri, rj, rq) s.heap.size = A at hD ⊢
  have hA : ∀ q : Nat, s.heap.size ≤ q → A q := fun q h => by rw [← hAe]; exact Or.inr h
  have hS : va_S A s.heap s.heap [] := va_S.rf
  have hG : GM [1305, 1304, 1403, 1000, 1001, 1002, 1003, 1004, 1005, 1006, 1007, 1010, 1013, 1014, 1015, 1500, 1501, 1502, 1503, 1504, 1100, 1101, 1102, 1103, 1104, 1300, 1301, 1306, 1308, 1700, 1701, 1702] tg σ I ri I ri rq := ⟨hG0, fun _ _ _ => rfl, fun _ _ _ _ _ => rfl, fun _ _ _ _ _ _ => rfl⟩
  have hl := lv_entry ([.ref this, .int a0, .int a1, .int a2]) (n := 5) (Nat.le_of_ble_eq_true rfl)
  rw [lg_entry_eq]
  generalize (lg_sl ([.ref this, .int a0, .int a1, .int a2]) ++ List.replicate (5 - (lg_sl ([.ref this, .int a0, .int a1, .int a2])).length) Slot.unset).toArray = ls at hl ⊢
  have hl : lv_has ls 5 [(0, .ref this), (1, .int a0), (2, .int a1), (3, .int a2)] := hl
  refine q_gen (fun Q hQ => ?_)
  have go : ∀ (H : Heap) (locs : List Loc) (ls : Array Slot), va_P D vwCl (pq_P t σ (I, J, ri, rj, rq)) H → va_D A (pq_P t σ (I, J, ri, rj, rq)) → va_S A s.heap H locs → lv_has ls 5 [(0, .ref this), (1, .int a0), (2, .int a1), (3, .int a2)] → W p l e ({ frames := 7, cells := 0, slots := 0, locals := 172 } : Room) s m (List.toArray ([.ref this, .int a0, .int a1, .int a2] : List Value)) below meth c H locs 0 0 Q (F0 m 0 ls []) := by
    intro H locs ls hP hD hS hl
    have hO_this : this = vo σ 12 this := rfl
    have hVT : VT 12 σ tg this := vt_12 hSH hL_this hK_this
    have hFr : FR 12 tg σ this (I, J, ri, rj, rq) (I, J, ri, rj, rq) := fr_rf
    have hO_this_a : this_a = vrow σ 384 this := vo_k (c := 12) hO_this hR_this_a
    have hO_this_kept : this_kept = vrow σ 386 this := vo_k (c := 12) hO_this hR_this_kept
    obtain ⟨F, hF0⟩ : ∃ F, F = g_X12_sandBehind a0 a1 a2 (vI 12 σ this I) (vJ 12 σ this J) (vR 12 σ this ri) (vL 12 σ this rj) (vQ 12 σ this rq) := ⟨_, rfl⟩
    have hF := hF0.trans g_X12_sandBehind_e
    refine lv_iconst (v := 0) hx hb dX12_sandBehind_0 (by decide +kernel) ?_
    refine lv_istore (lv' := [(4, .int 0), (0, .ref this), (1, .int a0), (2, .int a1), (3, .int a2)]) hx hb dX12_sandBehind_1 hl (by decide +kernel) rfl (fun ls hl => ?_)
    have L_644 : ∀ (n_643 : Nat) (x_596 : Int32) (I_597 : Nat → Nat → Int32) (ri_598 : Nat → Nat → Int32) (rj_599 : Nat → Nat → Int64) (H : Heap) (locs : List Loc) (ls : Array Slot), rg x_596 0 60 → ((ri_598 this_a 0).toInt = (ri this_a 0).toInt + (x_596).toInt ∧ (ri_598 this_kept 0).toInt = (ri this_kept 0).toInt) → (60 - (x_596).toInt).toNat < n_643 → F = g_X12_sandBehind_L3 a0 a1 a2 (vJ 12 σ this J) (vQ 12 σ this rq) n_643 x_596 (vI 12 σ this I_597) (vR 12 σ this ri_598) (vL 12 σ this rj_599) → FR 12 tg σ this (I, J, ri, rj, rq) (I_597, J, ri_598, rj_599, rq) → GM [1305, 1304, 1403, 1000, 1001, 1002, 1003, 1004, 1005, 1006, 1007, 1010, 1013, 1014, 1015, 1500, 1501, 1502, 1503, 1504, 1100, 1101, 1102, 1103, 1104, 1300, 1301, 1306, 1308, 1700, 1701, 1702] tg σ I ri I_597 ri_598 rq → va_P D vwCl (pq_P t σ (I_597, J, ri_598, rj_599, rq)) H → va_D A (pq_P t σ (I_597, J, ri_598, rj_599, rq)) → va_S A s.heap H locs → lv_has ls 5 [(0, .ref this), (1, .int a0), (2, .int a1), (3, .int a2), (4, .int x_596)] → W p l e ({ frames := 7, cells := 0, slots := 0, locals := 172 } : Room) s m (List.toArray ([.ref this, .int a0, .int a1, .int a2] : List Value)) below meth c H locs 0 0 Q (F0 m 3 ls []) := by
      intro n_643
      induction n_643 with
      | zero => intro x_596 I_597 ri_598 rj_599 H locs ls h_648 hrel_649 hm_642 hF hFr hG hP hD hS hl; exact absurd hm_642 (Nat.not_lt_zero _)
      | succ n_643 ih_645 =>
        intro x_596 I_597 ri_598 rj_599 H locs ls h_648 hrel_649 hm_642 hF hFr hG hP hD hS hl
        have uh_648 := h_648.1
        have vh_648 := h_648.2
        replace hF := hF.trans g_X12_sandBehind_L3_e
        refine lv_iload hx hb dX12_sandBehind_3 (lv_at hl 4 rfl) ?_
        refine lv_iload_n hx hb dX12_sandBehind_5 rfl (lv_at hl 3 rfl) ?_
        refine lv_icmp_ge (tgt := 20) hx hb dX12_sandBehind_6 (by decide +kernel) (fun c_650 => ?_) (fun c_650 => ?_)
        · replace hF := hF.trans (if_pos c_650)
          have tc_655 : (a2).toInt ≤ (x_596).toInt := Int32.le_iff_toInt_le.mp c_650
          have h_656 : rg x_596 1 60 := rg_le2 c_650 h_a2 h_648 (by decide +kernel)
          have uh_656 := h_656.1
          have vh_656 := h_656.2
          refine lv_aload_n hx hb dX12_sandBehind_20 rfl (lv_at hl 0 rfl) ?_
          refine lv_iload_n hx hb dX12_sandBehind_21 rfl (lv_at hl 1 rfl) ?_
          refine lv_iconst (v := 4) hx hb dX12_sandBehind_22 (by decide +kernel) ?_
          refine pk_i (va_runV (As := [.int a0, .int 4]) (rest := []) ⟨hx, hb, hml, hown, hts⟩ (s_X12_cellAt_c4 l D t σ I_597 J ri_598 rj_599 rq H.size tg hSH hG.1 this a0 hL_this hK_this (rg_w h_a0 (by decide +kernel))) (cwV 2 hts (tw_V tw_361 tw_362 tw_363 tw_5 tw_364) rfl rfl rfl cv_yX12_cellAt_2 ⟨Nat.le_of_ble_eq_true rfl, Nat.le_of_ble_eq_true rfl⟩) ⟨pq_blind, pq_recv hK hP hL_this hK_this (by decide +kernel) rfl, pq_pre hK hN hP hD⟩ rfl rfl hl.1 rfl (lv_room (Nat.le_of_ble_eq_true rfl)) dX12_sandBehind_23 ⟨Nat.le_of_ble_eq_true rfl, Nat.le_of_ble_eq_true rfl⟩) hD hS hA (fun x_657 σ1 μ1 H locs hw_658 hP hD hS => ?_)
          obtain ⟨hu_659, hfn_662⟩ := hw_658
          obtain ⟨hu_659a, hu_659b⟩ := Prod.mk.inj hu_659
          rw [hu_659a, hu_659b] at hP hD
          replace hF := hF.trans (bn_n hfn_662)
          refine lv_istore (lv' := [(4, .int x_657), (0, .ref this), (1, .int a0), (2, .int a1), (3, .int a2)]) hx hb dX12_sandBehind_26 hl (by decide +kernel) rfl (fun ls hl => ?_)
          refine lv_aload_n hx hb dX12_sandBehind_28 rfl (lv_at hl 1 rfl) ?_
          refine pg_f (v := .ref this_kept) (C := RX12) (T := TX12) (N := 31) hx hb hts (tw_i inlX12) hown hK hP hL_this hK_this (by decide +kernel) rfl 2 (by decide +kernel) (hts _ (tw_c tw_178)) (pq_hv rfl hR_this_kept) dX12_sandBehind_29 ?_
          refine lv_aload_n hx hb dX12_sandBehind_32 rfl (lv_at hl 1 rfl) ?_
          refine pg_f (v := .ref this_a) (C := RX12) (T := TX12) (N := 31) hx hb hts (tw_i inlX12) hown hK hP hL_this hK_this (by decide +kernel) rfl 0 (by decide +kernel) (hts _ (tw_c tw_176)) (pq_hv rfl hR_this_a) dX12_sandBehind_33 ?_
          refine pk_v (va_runS (As := [.ref this_kept, .ref this_a]) (rest := []) ⟨hx, hb, hml, hown, hts⟩ (c_X12_copy l D t σ I_597 J ri_598 rj_599 rq H.size this_kept this_a 12720 hL_this_kept hK_this_kept hN_this_kept hL_this_a hK_this_a hN_this_a rfl (tg_ne hT_this_kept hT_this_a (by decide +kernel))) (va_cwS 2 hts (tw_S tw_192 tw_193 tw_5 tw_194) rfl rfl rfl cd_yX12_copy_2 ⟨Nat.le_of_ble_eq_true rfl, Nat.le_of_ble_eq_true rfl⟩) ⟨pq_blind, pq_pre hK hN hP hD⟩ rfl rfl hl.1 rfl (lv_room (Nat.le_of_ble_eq_true rfl)) dX12_sandBehind_36 ⟨Nat.le_of_ble_eq_true rfl, Nat.le_of_ble_eq_true rfl⟩) hD hS hA (fun σ1 μ1 H locs hw_665 hP hD hS => ?_)
          obtain ⟨ri_666, hu_667, hp_670, hp_671, hp_672⟩ := hw_665
          obtain ⟨hu_667a, hu_667b⟩ := Prod.mk.inj hu_667
          rw [hu_667a, hu_667b] at hP hD
          replace hF := hF.trans (ap_n (vR_cp hVT hO_this_a (by decide +kernel) (funext fun _ => (vR_r hO_this_kept (by decide +kernel) rfl)) hp_672))
          replace hFr := fr_R hFr hO_this_a (by decide +kernel) hp_672
          have tt_675 : (ri_666 this_a 0).toInt = (ri_598 this_kept 0).toInt := congrArg Int32.toInt (hp_670 0 (by decide +kernel))
          have tt_676 : (ri_666 this_kept 0).toInt = (ri_598 this_kept 0).toInt := congrArg Int32.toInt (congrFun (hp_671 this_kept (tg_ne hT_this_kept hT_this_a (by decide +kernel))) 0)
          have hG := GM.cp hG hT_this_kept hT_this_a (by decide +kernel) hp_670 hp_671 (by decide +kernel)
          refine lv_iload hx hb dX12_sandBehind_39 (lv_at hl 0 rfl) ?_
          subst hQ
          exact W.iret (v := x_657) hx hb hr (fun t1 ht hW => ⟨⟨x_657, (σ, I_597, J, ri_666, rj_599, rq), rfl, ⟨I_597, ri_666, rj_599, rfl, hG, (by omega), (by omega), (hF0.symm.trans hF), hFr⟩, by rw [ht]; exact hP, va_K.moved hW.alike hK, hD⟩, hS.F ht⟩) hS.2.2 dX12_sandBehind_41
        · replace hF := hF.trans (if_neg c_650)
          have tc_677 : (x_596).toInt < (a2).toInt := Int32.lt_iff_toInt_lt.mp (nle c_650)
          have h_678 : rg x_596 0 59 := rg_lt1 (nle c_650) h_648 h_a2 (by decide +kernel)
          have uh_678 := h_678.1
          have vh_678 := h_678.2
          refine lv_aload_n hx hb dX12_sandBehind_9 rfl (lv_at hl 0 rfl) ?_
          refine lv_iload_n hx hb dX12_sandBehind_10 rfl (lv_at hl 2 rfl) ?_
          refine pk_v (va_runV (As := [.int a1]) (rest := []) ⟨hx, hb, hml, hown, hts⟩ (s_X12_month l D t σ I_597 J ri_598 rj_599 rq H.size tg hSH hG.1 this a1 hL_this hK_this this_a hR_this_a hL_this_a hK_this_a hN_this_a hT_this_a (by omega)) (cwV 1 hts (tw_V tw_1193 tw_1194 tw_1195 tw_5 tw_1196) rfl rfl rfl cv_yX12_month_1 ⟨Nat.le_of_ble_eq_true rfl, Nat.le_of_ble_eq_true rfl⟩) ⟨pq_blind, pq_recv hK hP hL_this hK_this (by decide +kernel) rfl, pq_pre hK hN hP hD⟩ rfl rfl hl.1 rfl (lv_room (Nat.le_of_ble_eq_true rfl)) dX12_sandBehind_11 ⟨Nat.le_of_ble_eq_true rfl, Nat.le_of_ble_eq_true rfl⟩) hD hS hA (fun σ1 μ1 H locs hw_680 hP hD hS => ?_)
          obtain ⟨I_681, ri_682, rj_683, hu_684, hg_685, hp_687, hfn_688, hfr_689⟩ := hw_680
          obtain ⟨hu_684a, hu_684b⟩ := Prod.mk.inj hu_684
          rw [hu_684a, hu_684b] at hP hD
          replace hF := hF.trans (bv_n hfn_688)
          replace hFr := fr_tr hFr hfr_689
          have tt_690 := hp_687
          have tt_691 : (ri_682 this_kept 0).toInt = (ri_598 this_kept 0).toInt := congrArg Int32.toInt (congrFun (hg_685.2.2.2 386 2001 (by decide +kernel) (by decide +kernel) this_kept hT_this_kept) 0)
          have hG := GM.tr hG hg_685 (by decide +kernel)
          obtain ⟨x_692, ex_692⟩ : ∃ y : Int32, y = x_596 + Int32.ofInt 1 := ⟨_, rfl⟩
          replace hF := hF.trans (ap_n ex_692)
          have h_693 : rg x_692 1 60 := rg_of_eq ex_692 (rg_add h_678 (rg_k (Int32.ofInt 1) 1 rfl) (by decide +kernel))
          have uh_693 := h_693.1
          have vh_693 := h_693.2
          have tx_692 : (x_692).toInt = (x_596).toInt + 1 := by rw [ex_692]; exact i_add_rg (a2 := (x_596).toInt) (b2 := 1) rfl rfl h_678 (rg_k (Int32.ofInt 1) 1 rfl) (by decide +kernel)
          refine lv_iinc (v := x_692) (lv' := [(4, .int x_692), (0, .ref this), (1, .int a0), (2, .int a1), (3, .int a2)]) hx hb dX12_sandBehind_14 hl (k := 4) rfl ex_692.symm (by decide +kernel) rfl (fun ls hl => ?_)
          refine lv_goto (tgt := 3) hx hb dX12_sandBehind_17 (by decide +kernel) ?_
          exact ih_645 x_692 I_681 ri_682 rj_683 _ _ _ (rg_w h_693 (by decide +kernel)) (by omega) (ms_up 1 hm_642 ex_692 rfl (by decide +kernel) h_678 (by decide +kernel) (by decide +kernel)) hF hFr hG hP hD hS (lv_sub hl [1, 2, 3, 4, 0] rfl)
    exact L_644 _ (0 : Int32) I ri rj _ _ _ (rg_w (rg_k (0 : Int32) 0 rfl) (by decide +kernel)) (by have k0 : (0 : Int32).toInt = 0 := rfl; omega) (Nat.lt_succ_self _) hF hFr hG hP hD hS (lv_sub hl [1, 2, 3, 4, 0] rfl)
  exact go _ _ _ hP hD hS hl

set_option maxRecDepth 100000 in
def g_X12_keeps_K38 (I : Nat → Int32) (J : Nat → Int64) (ri : Nat → Nat → Int32) (rj : Nat → Nat → Int64) (rq : Nat → Nat → Option Nat) : Int32 × vM := ((-1000000 : Int32), I, J, ri, rj, rq)
set_option maxRecDepth 100000 in
theorem g_X12_keeps_K38_e {I : Nat → Int32} {J : Nat → Int64} {ri : Nat → Nat → Int32} {rj : Nat → Nat → Int64} {rq : Nat → Nat → Option Nat} : g_X12_keeps_K38 I J ri rj rq  = ((-1000000 : Int32), I, J, ri, rj, rq) := rfl
set_option maxRecDepth 100000 in
def g_X12_keeps (a0 : Int32) (a1 : Int32) (a2 : Int32) (a3 : Int32) (I : Nat → Int32) (J : Nat → Int64) (ri : Nat → Nat → Int32) (rj : Nat → Nat → Int64) (rq : Nat → Nat → Option Nat) : Int32 × vM := (bnI (g_X12_isCell a0 I J ri rj rq) fun (x_1 : Int32) (_ : Nat → Int32) (_ : Nat → Int64) (_ : Nat → Nat → Int32) (_ : Nat → Nat → Int64) (_ : Nat → Nat → Option Nat) => (if x_1 = (0 : Int32) then (g_X12_keeps_K38 I J ri rj rq ) else (bnI (g_X12_isCell a1 I J ri rj rq) fun (x_128 : Int32) (_ : Nat → Int32) (_ : Nat → Int64) (_ : Nat → Nat → Int32) (_ : Nat → Nat → Int64) (_ : Nat → Nat → Option Nat) => (if x_128 = (0 : Int32) then (g_X12_keeps_K38 I J ri rj rq ) else (bnI (g_X12_cellAt_c6 a0 I J ri rj rq) fun (x_149 : Int32) (_ : Nat → Int32) (_ : Nat → Int64) (_ : Nat → Nat → Int32) (_ : Nat → Nat → Int64) (_ : Nat → Nat → Option Nat) => (if x_149 = (0 : Int32) then (g_X12_keeps_K38 I J ri rj rq ) else (bnI (g_X12_isTime a3 (60 : Int32) a2 I J ri rj rq) fun (x_163 : Int32) (_ : Nat → Int32) (_ : Nat → Int64) (_ : Nat → Nat → Int32) (_ : Nat → Nat → Int64) (_ : Nat → Nat → Option Nat) => (if x_163 = (0 : Int32) then (g_X12_keeps_K38 I J ri rj rq ) else (ap1 (va_up ri 386 (va_cpy (ri 384) (ri 386) 0 0 12720)) fun (ri_191 : Nat → Nat → Int32) => (bnI (g_X12_sandBehind a1 a2 a3 I J ri_191 rj rq) fun (x_202 : Int32) (I_204 : Nat → Int32) (_ : Nat → Int64) (ri_205 : Nat → Nat → Int32) (rj_206 : Nat → Nat → Int64) (_ : Nat → Nat → Option Nat) => (ap1 ((16 : Int32) * a0) fun (x_217 : Int32) => (ap1 ((100 : Int32) + x_217) fun (x_219 : Int32) => (ap1 (x_219 + (6 : Int32)) fun (x_221 : Int32) => (ap1 (va_up ri_205 384 (upd (ri_205 384) (x_221).toNatClampNeg (0 : Int32))) fun (r_223 : Nat → Nat → Int32) => (bnI (g_X12_sandBehind a1 a2 a3 I_204 J r_223 rj_206 rq) fun (x_226 : Int32) (I_228 : Nat → Int32) (_ : Nat → Int64) (ri_229 : Nat → Nat → Int32) (rj_230 : Nat → Nat → Int64) (_ : Nat → Nat → Option Nat) => (ap1 (x_202 - x_226) fun (x_241 : Int32) => (x_241, I_228, J, ri_229, rj_230, rq)))))))))))))))))
set_option maxRecDepth 100000 in
theorem g_X12_keeps_e {a0 : Int32} {a1 : Int32} {a2 : Int32} {a3 : Int32} {I : Nat → Int32} {J : Nat → Int64} {ri : Nat → Nat → Int32} {rj : Nat → Nat → Int64} {rq : Nat → Nat → Option Nat} : g_X12_keeps a0 a1 a2 a3 I J ri rj rq = (bnI (g_X12_isCell a0 I J ri rj rq) fun (x_1 : Int32) (_ : Nat → Int32) (_ : Nat → Int64) (_ : Nat → Nat → Int32) (_ : Nat → Nat → Int64) (_ : Nat → Nat → Option Nat) => (if x_1 = (0 : Int32) then (g_X12_keeps_K38 I J ri rj rq ) else (bnI (g_X12_isCell a1 I J ri rj rq) fun (x_128 : Int32) (_ : Nat → Int32) (_ : Nat → Int64) (_ : Nat → Nat → Int32) (_ : Nat → Nat → Int64) (_ : Nat → Nat → Option Nat) => (if x_128 = (0 : Int32) then (g_X12_keeps_K38 I J ri rj rq ) else (bnI (g_X12_cellAt_c6 a0 I J ri rj rq) fun (x_149 : Int32) (_ : Nat → Int32) (_ : Nat → Int64) (_ : Nat → Nat → Int32) (_ : Nat → Nat → Int64) (_ : Nat → Nat → Option Nat) => (if x_149 = (0 : Int32) then (g_X12_keeps_K38 I J ri rj rq ) else (bnI (g_X12_isTime a3 (60 : Int32) a2 I J ri rj rq) fun (x_163 : Int32) (_ : Nat → Int32) (_ : Nat → Int64) (_ : Nat → Nat → Int32) (_ : Nat → Nat → Int64) (_ : Nat → Nat → Option Nat) => (if x_163 = (0 : Int32) then (g_X12_keeps_K38 I J ri rj rq ) else (ap1 (va_up ri 386 (va_cpy (ri 384) (ri 386) 0 0 12720)) fun (ri_191 : Nat → Nat → Int32) => (bnI (g_X12_sandBehind a1 a2 a3 I J ri_191 rj rq) fun (x_202 : Int32) (I_204 : Nat → Int32) (_ : Nat → Int64) (ri_205 : Nat → Nat → Int32) (rj_206 : Nat → Nat → Int64) (_ : Nat → Nat → Option Nat) => (ap1 ((16 : Int32) * a0) fun (x_217 : Int32) => (ap1 ((100 : Int32) + x_217) fun (x_219 : Int32) => (ap1 (x_219 + (6 : Int32)) fun (x_221 : Int32) => (ap1 (va_up ri_205 384 (upd (ri_205 384) (x_221).toNatClampNeg (0 : Int32))) fun (r_223 : Nat → Nat → Int32) => (bnI (g_X12_sandBehind a1 a2 a3 I_204 J r_223 rj_206 rq) fun (x_226 : Int32) (I_228 : Nat → Int32) (_ : Nat → Int64) (ri_229 : Nat → Nat → Int32) (rj_230 : Nat → Nat → Int64) (_ : Nat → Nat → Option Nat) => (ap1 (x_202 - x_226) fun (x_241 : Int32) => (x_241, I_228, J, ri_229, rj_230, rq))))))))))))))))) := rfl
set_option maxHeartbeats 4000000 in
set_option maxRecDepth 100000 in
theorem s_X12_keeps (l : Launch) (D : va_G) (t : pq_T) (σ : pq_S) (I : Nat → Nat → Int32) (J : Nat → Nat → Int64) (ri : Nat → Nat → Int32) (rj : Nat → Nat → Int64) (rq : Nat → Nat → Option Nat) (sz : Nat) (tg : Nat → Nat) (hSH : SH σ tg) (hG0 : GT tg I ri) (this : Nat) (a0 : Int32) (a1 : Int32) (a2 : Int32) (a3 : Int32) (hL_this : this ∈ σ.1) (hK_this : σ.2.1 this = 12) (this_a : Nat) (hR_this_a : σ.2.2.1 384 this = some this_a) (hL_this_a : this_a ∈ σ.1) (hK_this_a : σ.2.1 this_a = 13) (hN_this_a : σ.2.2.2 this_a = 12720) (hT_this_a : tg this_a = 384) (this_kept : Nat) (hR_this_kept : σ.2.2.1 386 this = some this_kept) (hL_this_kept : this_kept ∈ σ.1) (hK_this_kept : σ.2.1 this_kept = 13) (hN_this_kept : σ.2.2.2 this_kept = 12720) (hT_this_kept : tg this_kept = 386) : MetI l yX12_keeps (wa yX12_keeps cX12_keeps 6 (some .int)) ({ frames := 8, cells := 0, slots := 0, locals := 196 }) [.ref this, .int a0, .int a1, .int a2, .int a3] D t σ (I, J, ri, rj, rq) sz 0 0 (fun (r : Int32) (u : pq_S × pq_M) => ∃ I' : Nat → Nat → Int32, ∃ ri' : Nat → Nat → Int32, ∃ rj' : Nat → Nat → Int64, u = (σ, I', J, ri', rj', rq) ∧ GM [2001, 1305, 1304, 1403, 1000, 1001, 1002, 1003, 1004, 1005, 1006, 1007, 1010, 1013, 1014, 1015, 1500, 1501, 1502, 1503, 1504, 1100, 1101, 1102, 1103, 1104, 1300, 1301, 1306, 1308, 1700, 1701, 1702] tg σ I ri I' ri' rq ∧ g_X12_keeps a0 a1 a2 a3 (vI 12 σ this I) (vJ 12 σ this J) (vR 12 σ this ri) (vL 12 σ this rj) (vQ 12 σ this rq) = (r, (vI 12 σ this I'), (vJ 12 σ this J), (vR 12 σ this ri'), (vL 12 σ this rj'), (vQ 12 σ this rq)) ∧ FR 12 tg σ this (I, J, ri, rj, rq) (I', J, ri', rj', rq)) := by
  refine Met.ofW (cc := cX12_keeps) (maxL := 6) (ret := (some .int)) (by decide +kernel) rfl ?_
  intro p e s m args below meth c s₁ B hml hv
  obtain ⟨rfl, hsz, hP, hK, hD0, hN⟩ := hv
  have hx := B.exec
  have hb := B.bytes
  have hr := B.returns
  have hts := atoms_spec (ws := (wa yX12_keeps cX12_keeps 6 (some .int))) B.pre
  have hown : s.vm.findClass RX12 = some m.cls := findClass_of_methodNamed B.named
  have hlocks := B.notSynchronized
  subst hsz
  have hD : va_D (pq_B t σ (I, J, ri, rj, rq) s.heap.size) (pq_P t σ (I, J, ri, rj, rq)) := hD0.self
  generalize hAe : pq_B t σ (I, J, ri, rj, rq) s.heap.size = A at hD ⊢
  have hA : ∀ q : Nat, s.heap.size ≤ q → A q := fun q h => by rw [← hAe]; exact Or.inr h
  have hS : va_S A s.heap s.heap [] := va_S.rf
  have hG : GM [2001, 1305, 1304, 1403, 1000, 1001, 1002, 1003, 1004, 1005, 1006, 1007, 1010, 1013, 1014, 1015, 1500, 1501, 1502, 1503, 1504, 1100, 1101, 1102, 1103, 1104, 1300, 1301, 1306, 1308, 1700, 1701, 1702] tg σ I ri I ri rq := ⟨hG0, fun _ _ _ => rfl, fun _ _ _ _ _ => rfl, fun _ _ _ _ _ _ => rfl⟩
  have hl := lv_entry ([.ref this, .int a0, .int a1, .int a2, .int a3]) (n := 6) (Nat.le_of_ble_eq_true rfl)
  rw [lg_entry_eq]
  generalize (lg_sl ([.ref this, .int a0, .int a1, .int a2, .int a3]) ++ List.replicate (6 - (lg_sl ([.ref this, .int a0, .int a1, .int a2, .int a3])).length) Slot.unset).toArray = ls at hl ⊢
  have hl : lv_has ls 6 [(0, .ref this), (1, .int a0), (2, .int a1), (3, .int a2), (4, .int a3)] := hl
  refine q_gen (fun Q hQ => ?_)
  have go : ∀ (H : Heap) (locs : List Loc) (ls : Array Slot), va_P D vwCl (pq_P t σ (I, J, ri, rj, rq)) H → va_D A (pq_P t σ (I, J, ri, rj, rq)) → va_S A s.heap H locs → lv_has ls 6 [(0, .ref this), (1, .int a0), (2, .int a1), (3, .int a2), (4, .int a3)] → W p l e ({ frames := 8, cells := 0, slots := 0, locals := 196 } : Room) s m (List.toArray ([.ref this, .int a0, .int a1, .int a2, .int a3] : List Value)) below meth c H locs 0 0 Q (F0 m 0 ls []) := by
    intro H locs ls hP hD hS hl
    have hO_this : this = vo σ 12 this := rfl
    have hVT : VT 12 σ tg this := vt_12 hSH hL_this hK_this
    have hFr : FR 12 tg σ this (I, J, ri, rj, rq) (I, J, ri, rj, rq) := fr_rf
    have hO_this_a : this_a = vrow σ 384 this := vo_k (c := 12) hO_this hR_this_a
    have hO_this_kept : this_kept = vrow σ 386 this := vo_k (c := 12) hO_this hR_this_kept
    obtain ⟨F, hF0⟩ : ∃ F, F = g_X12_keeps a0 a1 a2 a3 (vI 12 σ this I) (vJ 12 σ this J) (vR 12 σ this ri) (vL 12 σ this rj) (vQ 12 σ this rq) := ⟨_, rfl⟩
    have hF := hF0.trans g_X12_keeps_e
    refine lv_aload_n hx hb dX12_keeps_0 rfl (lv_at hl 0 rfl) ?_
    refine lv_iload_n hx hb dX12_keeps_1 rfl (lv_at hl 1 rfl) ?_
    refine pk_i (va_runV (As := [.int a0]) (rest := []) ⟨hx, hb, hml, hown, hts⟩ (s_X12_isCell l D t σ I J ri rj rq H.size tg hSH hG.1 this a0 hL_this hK_this) (cwV 1 hts (tw_V tw_340 tw_341 tw_342 tw_5 tw_343) rfl rfl rfl cv_yX12_isCell_1 ⟨Nat.le_of_ble_eq_true rfl, Nat.le_of_ble_eq_true rfl⟩) ⟨pq_blind, pq_recv hK hP hL_this hK_this (by decide +kernel) rfl, pq_pre hK hN hP hD⟩ rfl rfl hl.1 rfl (lv_room (Nat.le_of_ble_eq_true rfl)) dX12_keeps_2 ⟨Nat.le_of_ble_eq_true rfl, Nat.le_of_ble_eq_true rfl⟩) hD hS hA (fun x_1 σ1 μ1 H locs hw_2 hP hD hS => ?_)
    obtain ⟨hu_3, hfn_6, hr_5⟩ := hw_2
    obtain ⟨hu_3a, hu_3b⟩ := Prod.mk.inj hu_3
    rw [hu_3a, hu_3b] at hP hD
    replace hF := hF.trans (bn_n hfn_6)
    have h_8 : rg x_1 0 1 := by rcases hr_5 with ⟨q, -⟩ | ⟨q, -⟩ <;> rw [q] <;> exact ⟨by decide +kernel, by decide +kernel⟩
    have uh_8 := h_8.1
    have vh_8 := h_8.2
    have K_114 : ∀  (H : Heap) (locs : List Loc) (ls : Array Slot), F = g_X12_keeps_K38 (vI 12 σ this I) (vJ 12 σ this J) (vR 12 σ this ri) (vL 12 σ this rj) (vQ 12 σ this rq)  → FR 12 tg σ this (I, J, ri, rj, rq) (I, J, ri, rj, rq) → GM [2001, 1305, 1304, 1403, 1000, 1001, 1002, 1003, 1004, 1005, 1006, 1007, 1010, 1013, 1014, 1015, 1500, 1501, 1502, 1503, 1504, 1100, 1101, 1102, 1103, 1104, 1300, 1301, 1306, 1308, 1700, 1701, 1702] tg σ I ri I ri rq → va_P D vwCl (pq_P t σ (I, J, ri, rj, rq)) H → va_D A (pq_P t σ (I, J, ri, rj, rq)) → va_S A s.heap H locs → lv_has ls 6 [] → W p l e ({ frames := 8, cells := 0, slots := 0, locals := 196 } : Room) s m (List.toArray ([.ref this, .int a0, .int a1, .int a2, .int a3] : List Value)) below meth c H locs 0 0 Q (F0 m 38 ls []) := by
      intro H locs ls hF hFr hG hP hD hS hl
      replace hF := hF.trans g_X12_keeps_K38_e
      refine lv_ldc hx hb hown (hts _ (tw_c tw_288)) dX12_keeps_38 ?_
      subst hQ
      exact W.iret (v := (-1000000)) hx hb hr (fun t1 ht hW => ⟨⟨(-1000000), (σ, I, J, ri, rj, rq), rfl, ⟨I, ri, rj, rfl, hG, (hF0.symm.trans hF), hFr⟩, by rw [ht]; exact hP, va_K.moved hW.alike hK, hD⟩, hS.F ht⟩) hS.2.2 dX12_keeps_40
    refine lv_if_eq (tgt := 38) hx hb dX12_keeps_5 (by decide +kernel) (fun c_115 => ?_) (fun c_115 => ?_)
    · replace hF := hF.trans (if_pos c_115)
      have f_122 := (hr_5.resolve_left (fun q => absurd (q.1.symm.trans c_115) (by decide +kernel))).2
      have tc_123 : (x_1).toInt = 0 := congrArg Int32.toInt c_115
      have h_124 : rg x_1 0 0 := rg_and h_8 (rg_of_eq c_115 (rg_k (0 : Int32) 0 rfl)) (by decide +kernel)
      have uh_124 := h_124.1
      have vh_124 := h_124.2
      exact K_114 _ _ _ hF hFr hG hP hD hS (lv_sub hl [] rfl)
    · replace hF := hF.trans (if_neg c_115)
      have f_125 := (hr_5.resolve_right (fun q => c_115 q.1)).2
      have uf_125 := f_125.1
      have vf_125 := f_125.2
      have tc_126 : (x_1).toInt ≠ 0 := fun q => c_115 (Int32.toInt_inj.mp q)
      have h_127 : rg x_1 1 1 := rg_ne c_115 h_8 0 rfl (by decide +kernel)
      have uh_127 := h_127.1
      have vh_127 := h_127.2
      refine lv_aload_n hx hb dX12_keeps_8 rfl (lv_at hl 0 rfl) ?_
      refine lv_iload_n hx hb dX12_keeps_9 rfl (lv_at hl 2 rfl) ?_
      refine pk_i (va_runV (As := [.int a1]) (rest := []) ⟨hx, hb, hml, hown, hts⟩ (s_X12_isCell l D t σ I J ri rj rq H.size tg hSH hG.1 this a1 hL_this hK_this) (cwV 1 hts (tw_V tw_340 tw_341 tw_342 tw_5 tw_343) rfl rfl rfl cv_yX12_isCell_1 ⟨Nat.le_of_ble_eq_true rfl, Nat.le_of_ble_eq_true rfl⟩) ⟨pq_blind, pq_recv hK hP hL_this hK_this (by decide +kernel) rfl, pq_pre hK hN hP hD⟩ rfl rfl hl.1 rfl (lv_room (Nat.le_of_ble_eq_true rfl)) dX12_keeps_10 ⟨Nat.le_of_ble_eq_true rfl, Nat.le_of_ble_eq_true rfl⟩) hD hS hA (fun x_128 σ1 μ1 H locs hw_129 hP hD hS => ?_)
      obtain ⟨hu_130, hfn_133, hr_132⟩ := hw_129
      obtain ⟨hu_130a, hu_130b⟩ := Prod.mk.inj hu_130
      rw [hu_130a, hu_130b] at hP hD
      replace hF := hF.trans (bn_n hfn_133)
      have h_135 : rg x_128 0 1 := by rcases hr_132 with ⟨q, -⟩ | ⟨q, -⟩ <;> rw [q] <;> exact ⟨by decide +kernel, by decide +kernel⟩
      have uh_135 := h_135.1
      have vh_135 := h_135.2
      refine lv_if_eq (tgt := 38) hx hb dX12_keeps_13 (by decide +kernel) (fun c_136 => ?_) (fun c_136 => ?_)
      · replace hF := hF.trans (if_pos c_136)
        have f_143 := (hr_132.resolve_left (fun q => absurd (q.1.symm.trans c_136) (by decide +kernel))).2
        have tc_144 : (x_128).toInt = 0 := congrArg Int32.toInt c_136
        have h_145 : rg x_128 0 0 := rg_and h_135 (rg_of_eq c_136 (rg_k (0 : Int32) 0 rfl)) (by decide +kernel)
        have uh_145 := h_145.1
        have vh_145 := h_145.2
        exact K_114 _ _ _ hF hFr hG hP hD hS (lv_sub hl [] rfl)
      · replace hF := hF.trans (if_neg c_136)
        have f_146 := (hr_132.resolve_right (fun q => c_136 q.1)).2
        have uf_146 := f_146.1
        have vf_146 := f_146.2
        have tc_147 : (x_128).toInt ≠ 0 := fun q => c_136 (Int32.toInt_inj.mp q)
        have h_148 : rg x_128 1 1 := rg_ne c_136 h_135 0 rfl (by decide +kernel)
        have uh_148 := h_148.1
        have vh_148 := h_148.2
        refine lv_aload_n hx hb dX12_keeps_16 rfl (lv_at hl 0 rfl) ?_
        refine lv_iload_n hx hb dX12_keeps_17 rfl (lv_at hl 1 rfl) ?_
        refine lv_bipush (v := 6) hx hb dX12_keeps_18 (by decide +kernel) ?_
        refine pk_i (va_runV (As := [.int a0, .int 6]) (rest := []) ⟨hx, hb, hml, hown, hts⟩ (s_X12_cellAt_c6 l D t σ I J ri rj rq H.size tg hSH hG.1 this a0 hL_this hK_this (rg_w f_125 (by decide +kernel))) (cwV 2 hts (tw_V tw_361 tw_362 tw_363 tw_5 tw_364) rfl rfl rfl cv_yX12_cellAt_2 ⟨Nat.le_of_ble_eq_true rfl, Nat.le_of_ble_eq_true rfl⟩) ⟨pq_blind, pq_recv hK hP hL_this hK_this (by decide +kernel) rfl, pq_pre hK hN hP hD⟩ rfl rfl hl.1 rfl (lv_room (Nat.le_of_ble_eq_true rfl)) dX12_keeps_20 ⟨Nat.le_of_ble_eq_true rfl, Nat.le_of_ble_eq_true rfl⟩) hD hS hA (fun x_149 σ1 μ1 H locs hw_150 hP hD hS => ?_)
        obtain ⟨hu_151, hfn_154⟩ := hw_150
        obtain ⟨hu_151a, hu_151b⟩ := Prod.mk.inj hu_151
        rw [hu_151a, hu_151b] at hP hD
        replace hF := hF.trans (bn_n hfn_154)
        refine lv_if_eq (tgt := 38) hx hb dX12_keeps_23 (by decide +kernel) (fun c_156 => ?_) (fun c_156 => ?_)
        · replace hF := hF.trans (if_pos c_156)
          have tc_160 : (x_149).toInt = 0 := congrArg Int32.toInt c_156
          have h_161 : rg x_149 0 0 := rg_and (rg_full _) (rg_of_eq c_156 (rg_k (0 : Int32) 0 rfl)) (by decide +kernel)
          have uh_161 := h_161.1
          have vh_161 := h_161.2
          exact K_114 _ _ _ hF hFr hG hP hD hS (lv_sub hl [] rfl)
        · replace hF := hF.trans (if_neg c_156)
          have tc_162 : (x_149).toInt ≠ 0 := fun q => c_156 (Int32.toInt_inj.mp q)
          refine lv_aload_n hx hb dX12_keeps_26 rfl (lv_at hl 0 rfl) ?_
          refine lv_iload hx hb dX12_keeps_27 (lv_at hl 4 rfl) ?_
          refine lv_bipush (v := 60) hx hb dX12_keeps_29 (by decide +kernel) ?_
          refine lv_iload_n hx hb dX12_keeps_31 rfl (lv_at hl 3 rfl) ?_
          refine pk_i (va_runV (As := [.int a3, .int 60, .int a2]) (rest := []) ⟨hx, hb, hml, hown, hts⟩ (s_X12_isTime l D t σ I J ri rj rq H.size tg hSH hG.1 this a3 (60 : Int32) a2 hL_this hK_this (rg_w (rg_k (60 : Int32) 60 rfl) (by decide +kernel)) this_a hR_this_a hL_this_a hK_this_a hN_this_a hT_this_a) (cwV 3 hts (tw_V tw_1189 tw_1190 tw_1191 tw_5 tw_1192) rfl rfl rfl cv_yX12_isTime_3 ⟨Nat.le_of_ble_eq_true rfl, Nat.le_of_ble_eq_true rfl⟩) ⟨pq_blind, pq_recv hK hP hL_this hK_this (by decide +kernel) rfl, pq_pre hK hN hP hD⟩ rfl rfl hl.1 rfl (lv_room (Nat.le_of_ble_eq_true rfl)) dX12_keeps_32 ⟨Nat.le_of_ble_eq_true rfl, Nat.le_of_ble_eq_true rfl⟩) hD hS hA (fun x_163 σ1 μ1 H locs hw_164 hP hD hS => ?_)
          obtain ⟨hu_165, hfn_168, hr_167⟩ := hw_164
          obtain ⟨hu_165a, hu_165b⟩ := Prod.mk.inj hu_165
          rw [hu_165a, hu_165b] at hP hD
          replace hF := hF.trans (bn_n hfn_168)
          have h_170 : rg x_163 0 1 := by rcases hr_167 with ⟨q, -⟩ | ⟨q, -⟩ <;> rw [q] <;> exact ⟨by decide +kernel, by decide +kernel⟩
          have uh_170 := h_170.1
          have vh_170 := h_170.2
          refine lv_if_ne (tgt := 41) hx hb dX12_keeps_35 (by decide +kernel) (fun c_171 => ?_) (fun c_171 => ?_)
          · replace hF := hF.trans (if_neg c_171)
            obtain ⟨f_182, f_183, f_184, f_185⟩ := (hr_167.resolve_right (fun q => c_171 q.1)).2
            have uf_182 := f_182.1
            have vf_182 := f_182.2
            have uf_183 := f_183.1
            have vf_183 := f_183.2
            have tc_186 : (a3).toInt ≤ 60 := Int32.le_iff_toInt_le.mp f_184
            have tc_187 : (x_163).toInt ≠ 0 := fun q => c_171 (Int32.toInt_inj.mp q)
            have h_188 : rg x_163 1 1 := rg_ne c_171 h_170 0 rfl (by decide +kernel)
            have uh_188 := h_188.1
            have vh_188 := h_188.2
            refine lv_aload_n hx hb dX12_keeps_41 rfl (lv_at hl 0 rfl) ?_
            refine pg_f (v := .ref this_a) (C := RX12) (T := TX12) (N := 31) hx hb hts (tw_i inlX12) hown hK hP hL_this hK_this (by decide +kernel) rfl 0 (by decide +kernel) (hts _ (tw_c tw_176)) (pq_hv rfl hR_this_a) dX12_keeps_42 ?_
            refine lv_aload_n hx hb dX12_keeps_45 rfl (lv_at hl 0 rfl) ?_
            refine pg_f (v := .ref this_kept) (C := RX12) (T := TX12) (N := 31) hx hb hts (tw_i inlX12) hown hK hP hL_this hK_this (by decide +kernel) rfl 2 (by decide +kernel) (hts _ (tw_c tw_178)) (pq_hv rfl hR_this_kept) dX12_keeps_46 ?_
            refine pk_v (va_runS (As := [.ref this_a, .ref this_kept]) (rest := []) ⟨hx, hb, hml, hown, hts⟩ (c_X12_copy l D t σ I J ri rj rq H.size this_a this_kept 12720 hL_this_a hK_this_a hN_this_a hL_this_kept hK_this_kept hN_this_kept rfl (tg_ne hT_this_a hT_this_kept (by decide +kernel))) (va_cwS 2 hts (tw_S tw_192 tw_193 tw_5 tw_194) rfl rfl rfl cd_yX12_copy_2 ⟨Nat.le_of_ble_eq_true rfl, Nat.le_of_ble_eq_true rfl⟩) ⟨pq_blind, pq_pre hK hN hP hD⟩ rfl rfl hl.1 rfl (lv_room (Nat.le_of_ble_eq_true rfl)) dX12_keeps_49 ⟨Nat.le_of_ble_eq_true rfl, Nat.le_of_ble_eq_true rfl⟩) hD hS hA (fun σ1 μ1 H locs hw_190 hP hD hS => ?_)
            obtain ⟨ri_191, hu_192, hp_195, hp_196, hp_197⟩ := hw_190
            obtain ⟨hu_192a, hu_192b⟩ := Prod.mk.inj hu_192
            rw [hu_192a, hu_192b] at hP hD
            replace hF := hF.trans (ap_n (vR_cp hVT hO_this_kept (by decide +kernel) (funext fun _ => (vR_r hO_this_a (by decide +kernel) rfl)) hp_197))
            replace hFr := fr_R hFr hO_this_kept (by decide +kernel) hp_197
            have tt_200 : (ri_191 this_kept 0).toInt = (ri this_a 0).toInt := congrArg Int32.toInt (hp_195 0 (by decide +kernel))
            have tt_201 : (ri_191 this_a 0).toInt = (ri this_a 0).toInt := congrArg Int32.toInt (congrFun (hp_196 this_a (tg_ne hT_this_a hT_this_kept (by decide +kernel))) 0)
            have hG := GM.cp hG hT_this_a hT_this_kept (by decide +kernel) hp_195 hp_196 (by decide +kernel)
            refine lv_aload_n hx hb dX12_keeps_52 rfl (lv_at hl 0 rfl) ?_
            refine lv_iload_n hx hb dX12_keeps_53 rfl (lv_at hl 2 rfl) ?_
            refine lv_iload_n hx hb dX12_keeps_54 rfl (lv_at hl 3 rfl) ?_
            refine lv_iload hx hb dX12_keeps_55 (lv_at hl 4 rfl) ?_
            refine pk_i (va_runV (As := [.int a1, .int a2, .int a3]) (rest := []) ⟨hx, hb, hml, hown, hts⟩ (s_X12_sandBehind l D t σ I J ri_191 rj rq H.size tg hSH hG.1 this a1 a2 a3 hL_this hK_this (rg_w f_146 (by decide +kernel)) (rg_w f_182 (by decide +kernel)) this_a hR_this_a hL_this_a hK_this_a hN_this_a hT_this_a this_kept hR_this_kept hL_this_kept hK_this_kept hN_this_kept hT_this_kept (by omega) (by omega)) (cwV 3 hts (tw_V tw_1424 tw_1425 tw_1426 tw_5 tw_1427) rfl rfl rfl cv_yX12_sandBehind_3 ⟨Nat.le_of_ble_eq_true rfl, Nat.le_of_ble_eq_true rfl⟩) ⟨pq_blind, pq_recv hK hP hL_this hK_this (by decide +kernel) rfl, pq_pre hK hN hP hD⟩ rfl rfl hl.1 rfl (lv_room (Nat.le_of_ble_eq_true rfl)) dX12_keeps_57 ⟨Nat.le_of_ble_eq_true rfl, Nat.le_of_ble_eq_true rfl⟩) hD hS hA (fun x_202 σ1 μ1 H locs hw_203 hP hD hS => ?_)
            obtain ⟨I_204, ri_205, rj_206, hu_207, hg_208, hp_210, hp_211, hfn_212, hfr_213⟩ := hw_203
            obtain ⟨hu_207a, hu_207b⟩ := Prod.mk.inj hu_207
            rw [hu_207a, hu_207b] at hP hD
            replace hF := hF.trans (bn_n hfn_212)
            replace hFr := fr_tr hFr hfr_213
            have tt_214 := hp_210
            have tt_215 := hp_211
            have tt_216 : (ri_205 this_kept 0).toInt = (ri_191 this_kept 0).toInt := congrArg Int32.toInt (congrFun (hg_208.2.2.2 386 2001 (by decide +kernel) (by decide +kernel) this_kept hT_this_kept) 0)
            have hG := GM.tr hG hg_208 (by decide +kernel)
            refine lv_istore (lv' := [(5, .int x_202), (0, .ref this), (1, .int a0), (2, .int a1), (3, .int a2), (4, .int a3)]) hx hb dX12_keeps_60 hl (by decide +kernel) rfl (fun ls hl => ?_)
            refine lv_aload_n hx hb dX12_keeps_62 rfl (lv_at hl 1 rfl) ?_
            refine pg_f (v := .ref this_a) (C := RX12) (T := TX12) (N := 31) hx hb hts (tw_i inlX12) hown hK hP hL_this hK_this (by decide +kernel) rfl 0 (by decide +kernel) (hts _ (tw_c tw_176)) (pq_hv rfl hR_this_a) dX12_keeps_63 ?_
            refine lv_bipush (v := 100) hx hb dX12_keeps_66 (by decide +kernel) ?_
            refine lv_bipush (v := 16) hx hb dX12_keeps_68 (by decide +kernel) ?_
            refine lv_iload_n hx hb dX12_keeps_70 rfl (lv_at hl 2 rfl) ?_
            refine lv_imul hx hb dX12_keeps_71 ?_
            refine lv_topi (fun x_217 ex_217 => ?_)
            replace hF := hF.trans (ap_n ex_217)
            have h_218 : rg x_217 0 624 := rg_of_eq ex_217 (rg_mul (rg_k (16 : Int32) 16 rfl) f_125 (by decide +kernel))
            have uh_218 := h_218.1
            have vh_218 := h_218.2
            have tx_217 : (x_217).toInt = 16 * (a0).toInt := by rw [ex_217]; exact i_mul_rg (a2 := 16) (b2 := (a0).toInt) rfl rfl (rg_k (16 : Int32) 16 rfl) f_125 (by decide +kernel)
            refine lv_iadd hx hb dX12_keeps_72 ?_
            refine lv_topi (fun x_219 ex_219 => ?_)
            replace hF := hF.trans (ap_n ex_219)
            have h_220 : rg x_219 100 724 := rg_of_eq ex_219 (rg_add (rg_k (100 : Int32) 100 rfl) h_218 (by decide +kernel))
            have uh_220 := h_220.1
            have vh_220 := h_220.2
            have tx_219 : (x_219).toInt = 100 + (x_217).toInt := by rw [ex_219]; exact i_add_rg (a2 := 100) (b2 := (x_217).toInt) rfl rfl (rg_k (100 : Int32) 100 rfl) h_218 (by decide +kernel)
            refine lv_bipush (v := 6) hx hb dX12_keeps_73 (by decide +kernel) ?_
            refine lv_iadd hx hb dX12_keeps_75 ?_
            refine lv_topi (fun x_221 ex_221 => ?_)
            replace hF := hF.trans (ap_n ex_221)
            have h_222 : rg x_221 106 730 := rg_of_eq ex_221 (rg_add h_220 (rg_k (6 : Int32) 6 rfl) (by decide +kernel))
            have uh_222 := h_222.1
            have vh_222 := h_222.2
            have tx_221 : (x_221).toInt = (x_219).toInt + 6 := by rw [ex_221]; exact i_add_rg (a2 := (x_219).toInt) (b2 := 6) rfl rfl h_220 (rg_k (6 : Int32) 6 rfl) (by decide +kernel)
            refine lv_iconst (v := 0) hx hb dX12_keeps_76 (by decide +kernel) ?_
            refine pt_i hx hb hK hP hD hS hL_this_a hK_this_a hN_this_a (rg_in h_222 (by decide +kernel)) dX12_keeps_77 (fun r_223 H locs er_223 hP hD hS => ?_)
            replace hFr := fr_R hFr hO_this_a (by decide +kernel) er_223
            replace hF := hF.trans (ap_n (vR_st hVT hO_this_a (by decide +kernel) er_223))
            have hG := GM.wz hG hT_this_a (by decide +kernel) er_223 (zn_CELL (c := a0.toNatClampNeg) (k := 6) (by have z_i := clampE x_221; have z_0 := clampE a0; omega) (rg_cl1 f_125 (by decide +kernel)) (by decide +kernel)) rfl (rg_w (rg_k (0 : Int32) 0 rfl) (by decide +kernel)) (by decide +kernel)
            have tt_224 : (r_223 this_a 0).toInt = (ri_205 this_a 0).toInt := congrArg Int32.toInt (cz_ne (j := 0) er_223 (zn_CELL (c := a0.toNatClampNeg) (k := 6) (by have z_i := clampE x_221; have z_0 := clampE a0; omega) (rg_cl1 f_125 (by decide +kernel)) (by decide +kernel)) (by decide +kernel) (by decide +kernel) rfl)
            have tt_225 : (r_223 this_kept 0).toInt = (ri_205 this_kept 0).toInt := by rw [er_223, va_up_ne _ _ (tg_ne hT_this_kept hT_this_a (by decide +kernel))]
            refine lv_iload hx hb dX12_keeps_78 (lv_at hl 0 rfl) ?_
            refine lv_aload_n hx hb dX12_keeps_80 rfl (lv_at hl 1 rfl) ?_
            refine lv_iload_n hx hb dX12_keeps_81 rfl (lv_at hl 3 rfl) ?_
            refine lv_iload_n hx hb dX12_keeps_82 rfl (lv_at hl 4 rfl) ?_
            refine lv_iload hx hb dX12_keeps_83 (lv_at hl 5 rfl) ?_
            refine pk_i (va_runV (As := [.int a1, .int a2, .int a3]) (rest := [.int x_202]) ⟨hx, hb, hml, hown, hts⟩ (s_X12_sandBehind l D t σ I_204 J r_223 rj_206 rq H.size tg hSH hG.1 this a1 a2 a3 hL_this hK_this (rg_w f_146 (by decide +kernel)) (rg_w f_182 (by decide +kernel)) this_a hR_this_a hL_this_a hK_this_a hN_this_a hT_this_a this_kept hR_this_kept hL_this_kept hK_this_kept hN_this_kept hT_this_kept (by omega) (by omega)) (cwV 3 hts (tw_V tw_1424 tw_1425 tw_1426 tw_5 tw_1427) rfl rfl rfl cv_yX12_sandBehind_3 ⟨Nat.le_of_ble_eq_true rfl, Nat.le_of_ble_eq_true rfl⟩) ⟨pq_blind, pq_recv hK hP hL_this hK_this (by decide +kernel) rfl, pq_pre hK hN hP hD⟩ rfl rfl hl.1 rfl (lv_room (Nat.le_of_ble_eq_true rfl)) dX12_keeps_85 ⟨Nat.le_of_ble_eq_true rfl, Nat.le_of_ble_eq_true rfl⟩) hD hS hA (fun x_226 σ1 μ1 H locs hw_227 hP hD hS => ?_)
            obtain ⟨I_228, ri_229, rj_230, hu_231, hg_232, hp_234, hp_235, hfn_236, hfr_237⟩ := hw_227
            obtain ⟨hu_231a, hu_231b⟩ := Prod.mk.inj hu_231
            rw [hu_231a, hu_231b] at hP hD
            replace hF := hF.trans (bn_n hfn_236)
            replace hFr := fr_tr hFr hfr_237
            have tt_238 := hp_234
            have tt_239 := hp_235
            have tt_240 : (ri_229 this_kept 0).toInt = (r_223 this_kept 0).toInt := congrArg Int32.toInt (congrFun (hg_232.2.2.2 386 2001 (by decide +kernel) (by decide +kernel) this_kept hT_this_kept) 0)
            have hG := GM.tr hG hg_232 (by decide +kernel)
            refine lv_isub hx hb dX12_keeps_88 ?_
            refine lv_topi (fun x_241 ex_241 => ?_)
            replace hF := hF.trans (ap_n ex_241)
            subst hQ
            exact W.iret (v := x_241) hx hb hr (fun t1 ht hW => ⟨⟨x_241, (σ, I_228, J, ri_229, rj_230, rq), rfl, ⟨I_228, ri_229, rj_230, rfl, hG, (hF0.symm.trans hF), hFr⟩, by rw [ht]; exact hP, va_K.moved hW.alike hK, hD⟩, hS.F ht⟩) hS.2.2 dX12_keeps_89
          · replace hF := hF.trans (if_pos c_171)
            have f_242 := (hr_167.resolve_left (fun q => absurd (q.1.symm.trans c_171) (by decide +kernel))).2
            have tc_243 : (x_163).toInt = 0 := congrArg Int32.toInt c_171
            have h_244 : rg x_163 0 0 := rg_and h_170 (rg_of_eq c_171 (rg_k (0 : Int32) 0 rfl)) (by decide +kernel)
            have uh_244 := h_244.1
            have vh_244 := h_244.2
            exact K_114 _ _ _ hF hFr hG hP hD hS (lv_sub hl [] rfl)
  exact go _ _ _ hP hD hS hl

set_option maxRecDepth 100000 in
def g_X12_wants_L4 (I : Nat → Int32) (J : Nat → Int64) (ri : Nat → Nat → Int32) (rj : Nat → Nat → Int64) (rq : Nat → Nat → Option Nat) : Nat → (Int32) → (Int32) → Int32 × vM
  | 0, x_373, x_374 => ((0 : Int32), I, J, ri, rj, rq)
  | n_405 + 1, x_373, x_374 => (ap1 (ri 384 5) fun (y_412 : Int32) => (if (y_412) ≤ x_374 then (x_373, I, J, ri, rj, rq) else (bnI (g_X12_personAt_c5 x_374 I J ri rj rq) fun (x_422 : Int32) (_ : Nat → Int32) (_ : Nat → Int64) (_ : Nat → Nat → Int32) (_ : Nat → Nat → Int64) (_ : Nat → Nat → Option Nat) => (bnI (g_X12_personAt_c6 x_374 I J ri rj rq) fun (x_430 : Int32) (_ : Nat → Int32) (_ : Nat → Int64) (_ : Nat → Nat → Int32) (_ : Nat → Nat → Int64) (_ : Nat → Nat → Option Nat) => (ap1 (x_422 + x_430) fun (x_438 : Int32) => (ap1 (x_373 + x_438) fun (x_439 : Int32) => (ap1 (x_374 + Int32.ofInt 1) fun (x_440 : Int32) => ((g_X12_wants_L4 I J ri rj rq n_405) x_439 x_440))))))))
set_option maxRecDepth 100000 in
theorem g_X12_wants_L4_e {I : Nat → Int32} {J : Nat → Int64} {ri : Nat → Nat → Int32} {rj : Nat → Nat → Int64} {rq : Nat → Nat → Option Nat} {n_405 : Nat} {x_373 : Int32} {x_374 : Int32} : g_X12_wants_L4 I J ri rj rq (n_405 + 1) x_373 x_374 = (ap1 (ri 384 5) fun (y_412 : Int32) => (if (y_412) ≤ x_374 then (x_373, I, J, ri, rj, rq) else (bnI (g_X12_personAt_c5 x_374 I J ri rj rq) fun (x_422 : Int32) (_ : Nat → Int32) (_ : Nat → Int64) (_ : Nat → Nat → Int32) (_ : Nat → Nat → Int64) (_ : Nat → Nat → Option Nat) => (bnI (g_X12_personAt_c6 x_374 I J ri rj rq) fun (x_430 : Int32) (_ : Nat → Int32) (_ : Nat → Int64) (_ : Nat → Nat → Int32) (_ : Nat → Nat → Int64) (_ : Nat → Nat → Option Nat) => (ap1 (x_422 + x_430) fun (x_438 : Int32) => (ap1 (x_373 + x_438) fun (x_439 : Int32) => (ap1 (x_374 + Int32.ofInt 1) fun (x_440 : Int32) => ((g_X12_wants_L4 I J ri rj rq n_405) x_439 x_440)))))))) := rfl
set_option maxRecDepth 100000 in
def g_X12_wants (I : Nat → Int32) (J : Nat → Int64) (ri : Nat → Nat → Int32) (rj : Nat → Nat → Int64) (rq : Nat → Nat → Option Nat) : Int32 × vM := (g_X12_wants_L4 I J ri rj rq ((40 - ((0 : Int32)).toInt).toNat + 1) (0 : Int32) (0 : Int32))
set_option maxRecDepth 100000 in
theorem g_X12_wants_e {I : Nat → Int32} {J : Nat → Int64} {ri : Nat → Nat → Int32} {rj : Nat → Nat → Int64} {rq : Nat → Nat → Option Nat} : g_X12_wants I J ri rj rq = (g_X12_wants_L4 I J ri rj rq ((40 - ((0 : Int32)).toInt).toNat + 1) (0 : Int32) (0 : Int32)) := rfl
set_option maxHeartbeats 4000000 in
set_option maxRecDepth 100000 in
theorem s_X12_wants (l : Launch) (D : va_G) (t : pq_T) (σ : pq_S) (I : Nat → Nat → Int32) (J : Nat → Nat → Int64) (ri : Nat → Nat → Int32) (rj : Nat → Nat → Int64) (rq : Nat → Nat → Option Nat) (sz : Nat) (tg : Nat → Nat) (hSH : SH σ tg) (hG0 : GT tg I ri) (this : Nat) (hL_this : this ∈ σ.1) (hK_this : σ.2.1 this = 12) : MetI l yX12_wants (wa yX12_wants cX12_wants 3 (some .int)) ({ frames := 1, cells := 0, slots := 0, locals := 22 }) [.ref this] D t σ (I, J, ri, rj, rq) sz 0 0 (fun (r : Int32) (u : pq_S × pq_M) => u = (σ, I, J, ri, rj, rq) ∧ g_X12_wants (vI 12 σ this I) (vJ 12 σ this J) (vR 12 σ this ri) (vL 12 σ this rj) (vQ 12 σ this rq) = (r, (vI 12 σ this I), (vJ 12 σ this J), (vR 12 σ this ri), (vL 12 σ this rj), (vQ 12 σ this rq))) := by
  refine Met.ofW (cc := cX12_wants) (maxL := 3) (ret := (some .int)) (by decide +kernel) rfl ?_
  intro p e s m args below meth c s₁ B hml hv
  obtain ⟨rfl, hsz, hP, hK, hD0, hN⟩ := hv
  have hx := B.exec
  have hb := B.bytes
  have hr := B.returns
  have hts := atoms_spec (ws := (wa yX12_wants cX12_wants 3 (some .int))) B.pre
  have hown : s.vm.findClass RX12 = some m.cls := findClass_of_methodNamed B.named
  have hlocks := B.notSynchronized
  subst hsz
  have hD : va_D (pq_B t σ (I, J, ri, rj, rq) s.heap.size) (pq_P t σ (I, J, ri, rj, rq)) := hD0.self
  generalize hAe : pq_B t σ (I, J, ri, rj, rq) s.heap.size = A at hD ⊢
  have hA : ∀ q : Nat, s.heap.size ≤ q → A q := fun q h => by rw [← hAe]; exact Or.inr h
  have hS : va_S A s.heap s.heap [] := va_S.rf
  have hG : GM [] tg σ I ri I ri rq := ⟨hG0, fun _ _ _ => rfl, fun _ _ _ _ _ => rfl, fun _ _ _ _ _ _ => rfl⟩
  have hl := lv_entry ([.ref this]) (n := 3) (Nat.le_of_ble_eq_true rfl)
  rw [lg_entry_eq]
  generalize (lg_sl ([.ref this]) ++ List.replicate (3 - (lg_sl ([.ref this])).length) Slot.unset).toArray = ls at hl ⊢
  have hl : lv_has ls 3 [(0, .ref this)] := hl
  refine q_gen (fun Q hQ => ?_)
  have go : ∀ (H : Heap) (locs : List Loc) (ls : Array Slot), va_P D vwCl (pq_P t σ (I, J, ri, rj, rq)) H → va_D A (pq_P t σ (I, J, ri, rj, rq)) → va_S A s.heap H locs → lv_has ls 3 [(0, .ref this)] → W p l e ({ frames := 1, cells := 0, slots := 0, locals := 22 } : Room) s m (List.toArray ([.ref this] : List Value)) below meth c H locs 0 0 Q (F0 m 0 ls []) := by
    intro H locs ls hP hD hS hl
    have hO_this : this = vo σ 12 this := rfl
    have hVT : VT 12 σ tg this := vt_12 hSH hL_this hK_this
    have hFr : FR 12 tg σ this (I, J, ri, rj, rq) (I, J, ri, rj, rq) := fr_rf
    obtain ⟨F, hF0⟩ : ∃ F, F = g_X12_wants (vI 12 σ this I) (vJ 12 σ this J) (vR 12 σ this ri) (vL 12 σ this rj) (vQ 12 σ this rq) := ⟨_, rfl⟩
    have hF := hF0.trans g_X12_wants_e
    refine lv_iconst (v := 0) hx hb dX12_wants_0 (by decide +kernel) ?_
    refine lv_istore_n (lv' := [(1, .int 0), (0, .ref this)]) hx hb dX12_wants_1 rfl hl (by decide +kernel) rfl (fun ls hl => ?_)
    refine lv_iconst (v := 0) hx hb dX12_wants_2 (by decide +kernel) ?_
    refine lv_istore_n (lv' := [(2, .int 0), (1, .int 0), (0, .ref this)]) hx hb dX12_wants_3 rfl hl (by decide +kernel) rfl (fun ls hl => ?_)
    have L_406 : ∀ (n_405 : Nat) (x_373 : Int32) (x_374 : Int32) (H : Heap) (locs : List Loc) (ls : Array Slot), rg x_374 0 40 → (40 - (x_374).toInt).toNat < n_405 → F = g_X12_wants_L4 (vI 12 σ this I) (vJ 12 σ this J) (vR 12 σ this ri) (vL 12 σ this rj) (vQ 12 σ this rq) n_405 x_373 x_374 → FR 12 tg σ this (I, J, ri, rj, rq) (I, J, ri, rj, rq) → GM [] tg σ I ri I ri rq → va_P D vwCl (pq_P t σ (I, J, ri, rj, rq)) H → va_D A (pq_P t σ (I, J, ri, rj, rq)) → va_S A s.heap H locs → lv_has ls 3 [(0, .ref this), (1, .int x_373), (2, .int x_374)] → W p l e ({ frames := 1, cells := 0, slots := 0, locals := 22 } : Room) s m (List.toArray ([.ref this] : List Value)) below meth c H locs 0 0 Q (F0 m 4 ls []) := by
      intro n_405
      induction n_405 with
      | zero => intro x_373 x_374 H locs ls h_409 hm_404 hF hFr hG hP hD hS hl; exact absurd hm_404 (Nat.not_lt_zero _)
      | succ n_405 ih_407 =>
        intro x_373 x_374 H locs ls h_409 hm_404 hF hFr hG hP hD hS hl
        have uh_409 := h_409.1
        have vh_409 := h_409.2
        replace hF := hF.trans g_X12_wants_L4_e
        refine lv_iload_n hx hb dX12_wants_4 rfl (lv_at hl 2 rfl) ?_
        refine lv_aload_n hx hb dX12_wants_5 rfl (lv_at hl 0 rfl) ?_
        obtain ⟨w_410, hR_w_410, hL_w_410, hK_w_410, hN_w_410, hT_w_410⟩ := sh_a hSH 384 (ci := 12) (kd := 13) (len := 12720) rfl (by decide +kernel) hL_this hK_this
        have hO_w_410 : w_410 = vrow σ 384 this := vo_k (c := 12) hO_this hR_w_410
        refine pg_f (v := .ref w_410) (C := RX12) (T := TX12) (N := 31) hx hb hts (tw_i inlX12) hown hK hP hL_this hK_this (by decide +kernel) rfl 0 (by decide +kernel) (hts _ (tw_c tw_176)) (pq_hv rfl hR_w_410) dX12_wants_6 ?_
        refine lv_iconst (v := 5) hx hb dX12_wants_9 (by decide +kernel) ?_
        refine pl_i hx hb hK hP hL_w_410 hK_w_410 hN_w_410 (vp_in_iff.mpr (by decide +kernel)) dX12_wants_10 ?_
        refine lv_tov (ri w_410 5) rfl ?_
        have h_411 : rg (ri w_410 5) 0 40 := GM.z0 hG0 (by rw [hT_w_410]; decide) (i := 5) (k := 5) (by decide +kernel) rfl
        have uh_411 := h_411.1
        have vh_411 := h_411.2
        replace hF := hF.trans (ap_n (vR_r hO_w_410 (by decide +kernel) rfl))
        refine lv_icmp_ge (tgt := 37) hx hb dX12_wants_11 (by decide +kernel) (fun c_413 => ?_) (fun c_413 => ?_)
        · replace hF := hF.trans (if_pos c_413)
          have tc_418 : (ri w_410 5).toInt ≤ (x_374).toInt := Int32.le_iff_toInt_le.mp c_413
          refine lv_iload_n hx hb dX12_wants_37 rfl (lv_at hl 1 rfl) ?_
          subst hQ
          exact W.iret (v := x_373) hx hb hr (fun t1 ht hW => ⟨⟨x_373, (σ, I, J, ri, rj, rq), rfl, ⟨rfl, (hF0.symm.trans hF)⟩, by rw [ht]; exact hP, va_K.moved hW.alike hK, hD⟩, hS.F ht⟩) hS.2.2 dX12_wants_38
        · replace hF := hF.trans (if_neg c_413)
          have tc_419 : (x_374).toInt < (ri w_410 5).toInt := Int32.lt_iff_toInt_lt.mp (nle c_413)
          have h_420 : rg x_374 0 39 := rg_lt1 (nle c_413) h_409 h_411 (by decide +kernel)
          have uh_420 := h_420.1
          have vh_420 := h_420.2
          have h_421 : rg (ri w_410 5) 1 40 := rg_lt2 (nle c_413) h_409 h_411 (by decide +kernel)
          have uh_421 := h_421.1
          have vh_421 := h_421.2
          refine lv_iload_n hx hb dX12_wants_14 rfl (lv_at hl 1 rfl) ?_
          refine lv_aload_n hx hb dX12_wants_15 rfl (lv_at hl 0 rfl) ?_
          refine lv_iload_n hx hb dX12_wants_16 rfl (lv_at hl 2 rfl) ?_
          refine lv_iconst (v := 5) hx hb dX12_wants_17 (by decide +kernel) ?_
          refine pk_i (va_runV (As := [.int x_374, .int 5]) (rest := [.int x_373]) ⟨hx, hb, hml, hown, hts⟩ (s_X12_personAt_c5 l D t σ I J ri rj rq H.size tg hSH hG.1 this x_374 hL_this hK_this (rg_w h_420 (by decide +kernel)) w_410 hR_w_410 hL_w_410 hK_w_410 hN_w_410 hT_w_410) (cwV 2 hts (tw_V tw_437 tw_438 tw_439 tw_5 tw_440) rfl rfl rfl cv_yX12_personAt_2 ⟨Nat.le_of_ble_eq_true rfl, Nat.le_of_ble_eq_true rfl⟩) ⟨pq_blind, pq_recv hK hP hL_this hK_this (by decide +kernel) rfl, pq_pre hK hN hP hD⟩ rfl rfl hl.1 rfl (lv_room (Nat.le_of_ble_eq_true rfl)) dX12_wants_18 ⟨Nat.le_of_ble_eq_true rfl, Nat.le_of_ble_eq_true rfl⟩) hD hS hA (fun x_422 σ1 μ1 H locs hw_423 hP hD hS => ?_)
          obtain ⟨hu_424, hp_427, hfn_428⟩ := hw_423
          obtain ⟨hu_424a, hu_424b⟩ := Prod.mk.inj hu_424
          rw [hu_424a, hu_424b] at hP hD
          replace hF := hF.trans (bn_n hfn_428)
          refine lv_aload_n hx hb dX12_wants_21 rfl (lv_at hl 0 rfl) ?_
          refine lv_iload_n hx hb dX12_wants_22 rfl (lv_at hl 2 rfl) ?_
          refine lv_bipush (v := 6) hx hb dX12_wants_23 (by decide +kernel) ?_
          refine pk_i (va_runV (As := [.int x_374, .int 6]) (rest := [.int x_422, .int x_373]) ⟨hx, hb, hml, hown, hts⟩ (s_X12_personAt_c6 l D t σ I J ri rj rq H.size tg hSH hG.1 this x_374 hL_this hK_this (rg_w h_420 (by decide +kernel)) w_410 hR_w_410 hL_w_410 hK_w_410 hN_w_410 hT_w_410) (cwV 2 hts (tw_V tw_437 tw_438 tw_439 tw_5 tw_440) rfl rfl rfl cv_yX12_personAt_2 ⟨Nat.le_of_ble_eq_true rfl, Nat.le_of_ble_eq_true rfl⟩) ⟨pq_blind, pq_recv hK hP hL_this hK_this (by decide +kernel) rfl, pq_pre hK hN hP hD⟩ rfl rfl hl.1 rfl (lv_room (Nat.le_of_ble_eq_true rfl)) dX12_wants_25 ⟨Nat.le_of_ble_eq_true rfl, Nat.le_of_ble_eq_true rfl⟩) hD hS hA (fun x_430 σ1 μ1 H locs hw_431 hP hD hS => ?_)
          obtain ⟨hu_432, hp_435, hfn_436⟩ := hw_431
          obtain ⟨hu_432a, hu_432b⟩ := Prod.mk.inj hu_432
          rw [hu_432a, hu_432b] at hP hD
          replace hF := hF.trans (bn_n hfn_436)
          refine lv_iadd hx hb dX12_wants_28 ?_
          refine lv_topi (fun x_438 ex_438 => ?_)
          replace hF := hF.trans (ap_n ex_438)
          refine lv_iadd hx hb dX12_wants_29 ?_
          refine lv_topi (fun x_439 ex_439 => ?_)
          replace hF := hF.trans (ap_n ex_439)
          refine lv_istore_n (lv' := [(1, .int x_439), (0, .ref this), (2, .int x_374)]) hx hb dX12_wants_30 rfl hl (by decide +kernel) rfl (fun ls hl => ?_)
          obtain ⟨x_440, ex_440⟩ : ∃ y : Int32, y = x_374 + Int32.ofInt 1 := ⟨_, rfl⟩
          replace hF := hF.trans (ap_n ex_440)
          have h_441 : rg x_440 1 40 := rg_of_eq ex_440 (rg_add h_420 (rg_k (Int32.ofInt 1) 1 rfl) (by decide +kernel))
          have uh_441 := h_441.1
          have vh_441 := h_441.2
          have tx_440 : (x_440).toInt = (x_374).toInt + 1 := by rw [ex_440]; exact i_add_rg (a2 := (x_374).toInt) (b2 := 1) rfl rfl h_420 (rg_k (Int32.ofInt 1) 1 rfl) (by decide +kernel)
          refine lv_iinc (v := x_440) (lv' := [(2, .int x_440), (1, .int x_439), (0, .ref this)]) hx hb dX12_wants_31 hl (k := 2) rfl ex_440.symm (by decide +kernel) rfl (fun ls hl => ?_)
          refine lv_goto (tgt := 4) hx hb dX12_wants_34 (by decide +kernel) ?_
          exact ih_407 x_439 x_440 _ _ _ (rg_w h_441 (by decide +kernel)) (ms_up 1 hm_404 ex_440 rfl (by decide +kernel) h_420 (by decide +kernel) (by decide +kernel)) hF hFr hG hP hD hS (lv_sub hl [2, 1, 0] rfl)
    exact L_406 _ (0 : Int32) (0 : Int32) _ _ _ (rg_w (rg_k (0 : Int32) 0 rfl) (by decide +kernel)) (Nat.lt_succ_self _) hF hFr hG hP hD hS (lv_sub hl [2, 1, 0] rfl)
  exact go _ _ _ hP hD hS hl

set_option maxRecDepth 100000 in
def g_X12_nextOrder_L100 (I : Nat → Int32) (J : Nat → Int64) (rj : Nat → Nat → Int64) (rq : Nat → Nat → Option Nat) : Nat → (Int32) → (Int32) → (Nat → Nat → Int32) → Int32 × vM
  | 0, x_3187, x_3188, ri_3189 => ((0 : Int32), I, J, ri_3189, rj, rq)
  | n_3210 + 1, x_3187, x_3188, ri_3189 => (if x_3188 ≤ x_3187 then ((1 : Int32), I, J, ri_3189, rj, rq) else (ap1 (ri_3189 414 (x_3187).toNatClampNeg) fun (x_3230 : Int32) => (ap1 (ri_3189 414 (x_3188).toNatClampNeg) fun (x_3232 : Int32) => (ap1 (va_up ri_3189 414 (upd (ri_3189 414) (x_3187).toNatClampNeg x_3232)) fun (r_3234 : Nat → Nat → Int32) => (ap1 (va_up r_3234 414 (upd (r_3234 414) (x_3188).toNatClampNeg x_3230)) fun (r_3235 : Nat → Nat → Int32) => (ap1 (x_3187 + Int32.ofInt 1) fun (x_3236 : Int32) => (ap1 (x_3188 + Int32.ofInt (-1)) fun (x_3238 : Int32) => ((g_X12_nextOrder_L100 I J rj rq n_3210) x_3236 x_3238 r_3235))))))))
set_option maxRecDepth 100000 in
theorem g_X12_nextOrder_L100_e {I : Nat → Int32} {J : Nat → Int64} {rj : Nat → Nat → Int64} {rq : Nat → Nat → Option Nat} {n_3210 : Nat} {x_3187 : Int32} {x_3188 : Int32} {ri_3189 : Nat → Nat → Int32} : g_X12_nextOrder_L100 I J rj rq (n_3210 + 1) x_3187 x_3188 ri_3189 = (if x_3188 ≤ x_3187 then ((1 : Int32), I, J, ri_3189, rj, rq) else (ap1 (ri_3189 414 (x_3187).toNatClampNeg) fun (x_3230 : Int32) => (ap1 (ri_3189 414 (x_3188).toNatClampNeg) fun (x_3232 : Int32) => (ap1 (va_up ri_3189 414 (upd (ri_3189 414) (x_3187).toNatClampNeg x_3232)) fun (r_3234 : Nat → Nat → Int32) => (ap1 (va_up r_3234 414 (upd (r_3234 414) (x_3188).toNatClampNeg x_3230)) fun (r_3235 : Nat → Nat → Int32) => (ap1 (x_3187 + Int32.ofInt 1) fun (x_3236 : Int32) => (ap1 (x_3188 + Int32.ofInt (-1)) fun (x_3238 : Int32) => ((g_X12_nextOrder_L100 I J rj rq n_3210) x_3236 x_3238 r_3235)))))))) := rfl
set_option maxRecDepth 100000 in
def g_X12_nextOrder_L41 (a0 : Int32) (I : Nat → Int32) (J : Nat → Int64) (ri : Nat → Nat → Int32) (rj : Nat → Nat → Int64) (rq : Nat → Nat → Option Nat) (x_1930 : Int32) (x_2595 : Int32) : Nat → (Int32) → Int32 × vM
  | 0, x_2980 => ((0 : Int32), I, J, ri, rj, rq)
  | n_3104 + 1, x_2980 => (ap1 (ri 414 (x_2980).toNatClampNeg) fun (x_3112 : Int32) => (if x_2595 ≤ x_3112 then (ap1 (va_up ri 414 (upd (ri 414) (x_1930).toNatClampNeg x_3112)) fun (r_3120 : Nat → Nat → Int32) => (ap1 (va_up r_3120 414 (upd (r_3120 414) (x_2980).toNatClampNeg x_2595)) fun (r_3121 : Nat → Nat → Int32) => (ap1 (x_1930 + (1 : Int32)) fun (x_3122 : Int32) => (ap1 (a0 - (1 : Int32)) fun (x_3124 : Int32) => (g_X12_nextOrder_L100 I J rj rq (((x_3124).toInt - (x_3122).toInt).toNat + 1) x_3122 x_3124 r_3121))))) else (ap1 (x_2980 + Int32.ofInt (-1)) fun (x_3243 : Int32) => ((g_X12_nextOrder_L41 a0 I J ri rj rq x_1930 x_2595 n_3104) x_3243))))
set_option maxRecDepth 100000 in
theorem g_X12_nextOrder_L41_e {a0 : Int32} {I : Nat → Int32} {J : Nat → Int64} {ri : Nat → Nat → Int32} {rj : Nat → Nat → Int64} {rq : Nat → Nat → Option Nat} {x_1930 : Int32} {x_2595 : Int32} {n_3104 : Nat} {x_2980 : Int32} : g_X12_nextOrder_L41 a0 I J ri rj rq x_1930 x_2595 (n_3104 + 1) x_2980 = (ap1 (ri 414 (x_2980).toNatClampNeg) fun (x_3112 : Int32) => (if x_2595 ≤ x_3112 then (ap1 (va_up ri 414 (upd (ri 414) (x_1930).toNatClampNeg x_3112)) fun (r_3120 : Nat → Nat → Int32) => (ap1 (va_up r_3120 414 (upd (r_3120 414) (x_2980).toNatClampNeg x_2595)) fun (r_3121 : Nat → Nat → Int32) => (ap1 (x_1930 + (1 : Int32)) fun (x_3122 : Int32) => (ap1 (a0 - (1 : Int32)) fun (x_3124 : Int32) => (g_X12_nextOrder_L100 I J rj rq (((x_3124).toInt - (x_3122).toInt).toNat + 1) x_3122 x_3124 r_3121))))) else (ap1 (x_2980 + Int32.ofInt (-1)) fun (x_3243 : Int32) => ((g_X12_nextOrder_L41 a0 I J ri rj rq x_1930 x_2595 n_3104) x_3243)))) := rfl
set_option maxRecDepth 100000 in
def g_X12_nextOrder_L4 (a0 : Int32) (I : Nat → Int32) (J : Nat → Int64) (ri : Nat → Nat → Int32) (rj : Nat → Nat → Int64) (rq : Nat → Nat → Option Nat) : Nat → (Int32) → Int32 × vM
  | 0, x_1930 => ((0 : Int32), I, J, ri, rj, rq)
  | n_2574 + 1, x_1930 => (if x_1930 < (0 : Int32) then ((0 : Int32), I, J, ri, rj, rq) else (ap1 (ri 414 (x_1930).toNatClampNeg) fun (x_2595 : Int32) => (ap1 (x_1930 + (1 : Int32)) fun (x_2597 : Int32) => (ap1 (ri 414 (x_2597).toNatClampNeg) fun (x_2599 : Int32) => (if x_2595 ≤ x_2599 then (ap1 (a0 - (1 : Int32)) fun (x_2611 : Int32) => (g_X12_nextOrder_L41 a0 I J ri rj rq x_1930 x_2595 (((x_2611).toInt - (x_1930).toInt).toNat + 1) x_2611)) else (ap1 (x_1930 + Int32.ofInt (-1)) fun (x_3249 : Int32) => ((g_X12_nextOrder_L4 a0 I J ri rj rq n_2574) x_3249)))))))
set_option maxRecDepth 100000 in
theorem g_X12_nextOrder_L4_e {a0 : Int32} {I : Nat → Int32} {J : Nat → Int64} {ri : Nat → Nat → Int32} {rj : Nat → Nat → Int64} {rq : Nat → Nat → Option Nat} {n_2574 : Nat} {x_1930 : Int32} : g_X12_nextOrder_L4 a0 I J ri rj rq (n_2574 + 1) x_1930 = (if x_1930 < (0 : Int32) then ((0 : Int32), I, J, ri, rj, rq) else (ap1 (ri 414 (x_1930).toNatClampNeg) fun (x_2595 : Int32) => (ap1 (x_1930 + (1 : Int32)) fun (x_2597 : Int32) => (ap1 (ri 414 (x_2597).toNatClampNeg) fun (x_2599 : Int32) => (if x_2595 ≤ x_2599 then (ap1 (a0 - (1 : Int32)) fun (x_2611 : Int32) => (g_X12_nextOrder_L41 a0 I J ri rj rq x_1930 x_2595 (((x_2611).toInt - (x_1930).toInt).toNat + 1) x_2611)) else (ap1 (x_1930 + Int32.ofInt (-1)) fun (x_3249 : Int32) => ((g_X12_nextOrder_L4 a0 I J ri rj rq n_2574) x_3249))))))) := rfl
set_option maxRecDepth 100000 in
def g_X12_nextOrder (a0 : Int32) (I : Nat → Int32) (J : Nat → Int64) (ri : Nat → Nat → Int32) (rj : Nat → Nat → Int64) (rq : Nat → Nat → Option Nat) : Int32 × vM := (ap1 (a0 - (2 : Int32)) fun (x_1 : Int32) => (g_X12_nextOrder_L4 a0 I J ri rj rq (((x_1).toInt - (-2)).toNat + 1) x_1))
set_option maxRecDepth 100000 in
theorem g_X12_nextOrder_e {a0 : Int32} {I : Nat → Int32} {J : Nat → Int64} {ri : Nat → Nat → Int32} {rj : Nat → Nat → Int64} {rq : Nat → Nat → Option Nat} : g_X12_nextOrder a0 I J ri rj rq = (ap1 (a0 - (2 : Int32)) fun (x_1 : Int32) => (g_X12_nextOrder_L4 a0 I J ri rj rq (((x_1).toInt - (-2)).toNat + 1) x_1)) := rfl
set_option maxHeartbeats 4000000 in
set_option maxRecDepth 100000 in
theorem s_X12_nextOrder (l : Launch) (D : va_G) (t : pq_T) (σ : pq_S) (I : Nat → Nat → Int32) (J : Nat → Nat → Int64) (ri : Nat → Nat → Int32) (rj : Nat → Nat → Int64) (rq : Nat → Nat → Option Nat) (sz : Nat) (tg : Nat → Nat) (hSH : SH σ tg) (hG0 : GT tg I ri) (this : Nat) (a0 : Int32) (hL_this : this ∈ σ.1) (hK_this : σ.2.1 this = 12) (h_a0 : rg a0 0 5) (this_rings : Nat) (hR_this_rings : σ.2.2.1 414 this = some this_rings) (hL_this_rings : this_rings ∈ σ.1) (hK_this_rings : σ.2.1 this_rings = 13) (hN_this_rings : σ.2.2.2 this_rings = 5) (hT_this_rings : tg this_rings = 414) (hinj : InjI a0.toInt (ri this_rings)) : MetI l yX12_nextOrder (wa yX12_nextOrder cX12_nextOrder 7 (some .boolean)) ({ frames := 0, cells := 0, slots := 0, locals := 0 }) [.ref this, .int a0] D t σ (I, J, ri, rj, rq) sz 0 0 (fun (r : Int32) (u : pq_S × pq_M) => ∃ ri' : Nat → Nat → Int32, u = (σ, I, J, ri', rj, rq) ∧ GM [2002] tg σ I ri I ri' rq ∧ g_X12_nextOrder a0 (vI 12 σ this I) (vJ 12 σ this J) (vR 12 σ this ri) (vL 12 σ this rj) (vQ 12 σ this rq) = (r, (vI 12 σ this I), (vJ 12 σ this J), (vR 12 σ this ri'), (vL 12 σ this rj), (vQ 12 σ this rq)) ∧ FR 12 tg σ this (I, J, ri, rj, rq) (I, J, ri', rj, rq) ∧ ((r = 1 ∧ InjI a0.toInt (ri' this_rings) ∧ ∃ k : Nat, k < 4 ∧ (∀ i, i < k → ri' this_rings i = ri this_rings i) ∧ (ri this_rings k).toInt < (ri' this_rings k).toInt) ∨ (r = 0 ∧ ri' = ri))) := by
  refine Met.ofW (cc := cX12_nextOrder) (maxL := 7) (ret := (some .boolean)) (by decide +kernel) rfl ?_
  intro p e s m args below meth c s₁ B hml hv
  obtain ⟨rfl, hsz, hP, hK, hD0, hN⟩ := hv
  have hx := B.exec
  have hb := B.bytes
  have hr := B.returns
  have hts := atoms_spec (ws := (wa yX12_nextOrder cX12_nextOrder 7 (some .boolean))) B.pre
  have hown : s.vm.findClass RX12 = some m.cls := findClass_of_methodNamed B.named
  have hlocks := B.notSynchronized
  subst hsz
  have hD : va_D (pq_B t σ (I, J, ri, rj, rq) s.heap.size) (pq_P t σ (I, J, ri, rj, rq)) := hD0.self
  generalize hAe : pq_B t σ (I, J, ri, rj, rq) s.heap.size = A at hD ⊢
  have hA : ∀ q : Nat, s.heap.size ≤ q → A q := fun q h => by rw [← hAe]; exact Or.inr h
  have hS : va_S A s.heap s.heap [] := va_S.rf
  have hG : GM [2002] tg σ I ri I ri rq := ⟨hG0, fun _ _ _ => rfl, fun _ _ _ _ _ => rfl, fun _ _ _ _ _ _ => rfl⟩
  have hl := lv_entry ([.ref this, .int a0]) (n := 7) (Nat.le_of_ble_eq_true rfl)
  rw [lg_entry_eq]
  generalize (lg_sl ([.ref this, .int a0]) ++ List.replicate (7 - (lg_sl ([.ref this, .int a0])).length) Slot.unset).toArray = ls at hl ⊢
  have hl : lv_has ls 7 [(0, .ref this), (1, .int a0)] := hl
  refine q_gen (fun Q hQ => ?_)
  have go : ∀ (H : Heap) (locs : List Loc) (ls : Array Slot), va_P D vwCl (pq_P t σ (I, J, ri, rj, rq)) H → va_D A (pq_P t σ (I, J, ri, rj, rq)) → va_S A s.heap H locs → lv_has ls 7 [(0, .ref this), (1, .int a0)] → W p l e ({ frames := 0, cells := 0, slots := 0, locals := 0 } : Room) s m (List.toArray ([.ref this, .int a0] : List Value)) below meth c H locs 0 0 Q (F0 m 0 ls []) := by
    intro H locs ls hP hD hS hl
    have hO_this : this = vo σ 12 this := rfl
    have hVT : VT 12 σ tg this := vt_12 hSH hL_this hK_this
    have hFr : FR 12 tg σ this (I, J, ri, rj, rq) (I, J, ri, rj, rq) := fr_rf
    have hO_this_rings : this_rings = vrow σ 414 this := vo_k (c := 12) hO_this hR_this_rings
    obtain ⟨F, hF0⟩ : ∃ F, F = g_X12_nextOrder a0 (vI 12 σ this I) (vJ 12 σ this J) (vR 12 σ this ri) (vL 12 σ this rj) (vQ 12 σ this rq) := ⟨_, rfl⟩
    have hF := hF0.trans g_X12_nextOrder_e
    refine lv_iload_n hx hb dX12_nextOrder_0 rfl (lv_at hl 1 rfl) ?_
    refine lv_iconst (v := 2) hx hb dX12_nextOrder_1 (by decide +kernel) ?_
    refine lv_isub hx hb dX12_nextOrder_2 ?_
    refine lv_topi (fun x_1 ex_1 => ?_)
    replace hF := hF.trans (ap_n ex_1)
    have h_2 : rg x_1 (-2) 3 := rg_of_eq ex_1 (rg_sub h_a0 (rg_k (2 : Int32) 2 rfl) (by decide +kernel))
    have uh_2 := h_2.1
    have vh_2 := h_2.2
    have tx_1 : (x_1).toInt = (a0).toInt - 2 := by rw [ex_1]; exact i_sub_rg (a2 := (a0).toInt) (b2 := 2) rfl rfl h_a0 (rg_k (2 : Int32) 2 rfl) (by decide +kernel)
    refine lv_istore_n (lv' := [(2, .int x_1), (0, .ref this), (1, .int a0)]) hx hb dX12_nextOrder_3 rfl hl (by decide +kernel) rfl (fun ls hl => ?_)
    have L_2575 : ∀ (n_2574 : Nat) (x_1930 : Int32) (H : Heap) (locs : List Loc) (ls : Array Slot), rg x_1930 (-2) 3 → ((x_1930).toInt + 2 ≤ (a0).toInt) → ((x_1930).toInt - (-2)).toNat < n_2574 → F = g_X12_nextOrder_L4 a0 (vI 12 σ this I) (vJ 12 σ this J) (vR 12 σ this ri) (vL 12 σ this rj) (vQ 12 σ this rq) n_2574 x_1930 → FR 12 tg σ this (I, J, ri, rj, rq) (I, J, ri, rj, rq) → GM [2002] tg σ I ri I ri rq → va_P D vwCl (pq_P t σ (I, J, ri, rj, rq)) H → va_D A (pq_P t σ (I, J, ri, rj, rq)) → va_S A s.heap H locs → lv_has ls 7 [(0, .ref this), (1, .int a0), (2, .int x_1930)] → W p l e ({ frames := 0, cells := 0, slots := 0, locals := 0 } : Room) s m (List.toArray ([.ref this, .int a0] : List Value)) below meth c H locs 0 0 Q (F0 m 4 ls []) := by
      intro n_2574
      induction n_2574 with
      | zero => intro x_1930 H locs ls h_2579 hrel_2580 hm_2573 hF hFr hG hP hD hS hl; exact absurd hm_2573 (Nat.not_lt_zero _)
      | succ n_2574 ih_2576 =>
        intro x_1930 H locs ls h_2579 hrel_2580 hm_2573 hF hFr hG hP hD hS hl
        have uh_2579 := h_2579.1
        have vh_2579 := h_2579.2
        replace hF := hF.trans g_X12_nextOrder_L4_e
        refine lv_iload_n hx hb dX12_nextOrder_4 rfl (lv_at hl 2 rfl) ?_
        refine lv_if_lt (tgt := 31) hx hb dX12_nextOrder_5 (by decide +kernel) (fun c_2581 => ?_) (fun c_2581 => ?_)
        · replace hF := hF.trans (if_pos c_2581)
          have tc_2586 : (x_1930).toInt < 0 := Int32.lt_iff_toInt_lt.mp c_2581
          have h_2587 : rg x_1930 (-2) (-1) := rg_lt1 c_2581 h_2579 (rg_k (0 : Int32) 0 rfl) (by decide +kernel)
          have uh_2587 := h_2587.1
          have vh_2587 := h_2587.2
          refine lv_iload_n hx hb dX12_nextOrder_31 rfl (lv_at hl 2 rfl) ?_
          refine lv_if_ge (tgt := 37) hx hb dX12_nextOrder_32 (by decide +kernel) (fun c_2588 => ?_) (fun c_2588 => ?_)
          · have tc_2591 : 0 ≤ (x_1930).toInt := Int32.le_iff_toInt_le.mp c_2588
            exact (rg_empty (rg_le2 c_2588 (rg_k (0 : Int32) 0 rfl) h_2587 (lo := 0) (hi := (-1)) (by decide +kernel)) (by decide +kernel)).elim
          · have tc_2592 : (x_1930).toInt < 0 := Int32.lt_iff_toInt_lt.mp (nle c_2588)
            refine lv_iconst (v := 0) hx hb dX12_nextOrder_35 (by decide +kernel) ?_
            subst hQ
            exact W.zret (v := 0) hx hb hr (by decide +kernel) (fun t1 ht hW => ⟨⟨0, (σ, I, J, ri, rj, rq), rfl, ⟨ri, rfl, hG, (hF0.symm.trans hF), hFr, (Or.inr ⟨rfl, rfl⟩)⟩, by rw [ht]; exact hP, va_K.moved hW.alike hK, hD⟩, hS.F ht⟩) hS.2.2 dX12_nextOrder_36
        · replace hF := hF.trans (if_neg c_2581)
          have tc_2593 : 0 ≤ (x_1930).toInt := Int32.le_iff_toInt_le.mp (nlt c_2581)
          have h_2594 : rg x_1930 0 3 := rg_le2 (nlt c_2581) (rg_k (0 : Int32) 0 rfl) h_2579 (by decide +kernel)
          have uh_2594 := h_2594.1
          have vh_2594 := h_2594.2
          refine lv_aload_n hx hb dX12_nextOrder_8 rfl (lv_at hl 0 rfl) ?_
          refine pg_f (v := .ref this_rings) (C := RX12) (T := TX12) (N := 31) hx hb hts (tw_i inlX12) hown hK hP hL_this hK_this (by decide +kernel) rfl 30 (by decide +kernel) (hts _ (tw_c tw_191)) (pq_hv rfl hR_this_rings) dX12_nextOrder_9 ?_
          refine lv_iload_n hx hb dX12_nextOrder_12 rfl (lv_at hl 2 rfl) ?_
          refine pl_i hx hb hK hP hL_this_rings hK_this_rings hN_this_rings (rg_in h_2594 (by decide +kernel)) dX12_nextOrder_13 ?_
          refine lv_topi (fun x_2595 ex_2595 => ?_)
          replace hF := hF.trans (ap_n (vR_r hO_this_rings (by decide +kernel) ex_2595))
          have h_2596 : rg x_2595 0 4 := rg_of_eq ex_2595 (GM.rR hG hT_this_rings rfl)
          have uh_2596 := h_2596.1
          have vh_2596 := h_2596.2
          refine lv_aload_n hx hb dX12_nextOrder_14 rfl (lv_at hl 0 rfl) ?_
          refine pg_f (v := .ref this_rings) (C := RX12) (T := TX12) (N := 31) hx hb hts (tw_i inlX12) hown hK hP hL_this hK_this (by decide +kernel) rfl 30 (by decide +kernel) (hts _ (tw_c tw_191)) (pq_hv rfl hR_this_rings) dX12_nextOrder_15 ?_
          refine lv_iload_n hx hb dX12_nextOrder_18 rfl (lv_at hl 2 rfl) ?_
          refine lv_iconst (v := 1) hx hb dX12_nextOrder_19 (by decide +kernel) ?_
          refine lv_iadd hx hb dX12_nextOrder_20 ?_
          refine lv_topi (fun x_2597 ex_2597 => ?_)
          replace hF := hF.trans (ap_n ex_2597)
          have h_2598 : rg x_2597 1 4 := rg_of_eq ex_2597 (rg_add h_2594 (rg_k (1 : Int32) 1 rfl) (by decide +kernel))
          have uh_2598 := h_2598.1
          have vh_2598 := h_2598.2
          have tx_2597 : (x_2597).toInt = (x_1930).toInt + 1 := by rw [ex_2597]; exact i_add_rg (a2 := (x_1930).toInt) (b2 := 1) rfl rfl h_2594 (rg_k (1 : Int32) 1 rfl) (by decide +kernel)
          refine pl_i hx hb hK hP hL_this_rings hK_this_rings hN_this_rings (rg_in h_2598 (by decide +kernel)) dX12_nextOrder_21 ?_
          refine lv_topi (fun x_2599 ex_2599 => ?_)
          replace hF := hF.trans (ap_n (vR_r hO_this_rings (by decide +kernel) ex_2599))
          have h_2600 : rg x_2599 0 4 := rg_of_eq ex_2599 (GM.rR hG hT_this_rings rfl)
          have uh_2600 := h_2600.1
          have vh_2600 := h_2600.2
          refine lv_icmp_le (tgt := 31) hx hb dX12_nextOrder_22 (by decide +kernel) (fun c_2601 => ?_) (fun c_2601 => ?_)
          · replace hF := hF.trans (if_pos c_2601)
            have tc_2606 : (x_2595).toInt ≤ (x_2599).toInt := Int32.le_iff_toInt_le.mp c_2601
            refine lv_iload_n hx hb dX12_nextOrder_31 rfl (lv_at hl 2 rfl) ?_
            refine lv_if_ge (tgt := 37) hx hb dX12_nextOrder_32 (by decide +kernel) (fun c_2607 => ?_) (fun c_2607 => ?_)
            · have tc_2610 : 0 ≤ (x_1930).toInt := Int32.le_iff_toInt_le.mp c_2607
              refine lv_iload_n hx hb dX12_nextOrder_37 rfl (lv_at hl 1 rfl) ?_
              refine lv_iconst (v := 1) hx hb dX12_nextOrder_38 (by decide +kernel) ?_
              refine lv_isub hx hb dX12_nextOrder_39 ?_
              refine lv_topi (fun x_2611 ex_2611 => ?_)
              replace hF := hF.trans (ap_n ex_2611)
              have h_2612 : rg x_2611 (-1) 4 := rg_of_eq ex_2611 (rg_sub h_a0 (rg_k (1 : Int32) 1 rfl) (by decide +kernel))
              have uh_2612 := h_2612.1
              have vh_2612 := h_2612.2
              have tx_2611 : (x_2611).toInt = (a0).toInt - 1 := by rw [ex_2611]; exact i_sub_rg (a2 := (a0).toInt) (b2 := 1) rfl rfl h_a0 (rg_k (1 : Int32) 1 rfl) (by decide +kernel)
              refine lv_istore_n (lv' := [(3, .int x_2611), (0, .ref this), (1, .int a0), (2, .int x_1930)]) hx hb dX12_nextOrder_40 rfl hl (by decide +kernel) rfl (fun ls hl => ?_)
              have L_3105 : ∀ (n_3104 : Nat) (x_2980 : Int32) (H : Heap) (locs : List Loc) (ls : Array Slot), rg x_2980 (-1) 4 → ((x_1930).toInt + 1 ≤ (x_2980).toInt ∧ (x_2980).toInt ≤ 4 ∧ (x_2980).toInt + 1 ≤ a0.toInt) → ((x_2980).toInt - (x_1930).toInt).toNat < n_3104 → F = g_X12_nextOrder_L41 a0 (vI 12 σ this I) (vJ 12 σ this J) (vR 12 σ this ri) (vL 12 σ this rj) (vQ 12 σ this rq) x_1930 x_2595 n_3104 x_2980 → FR 12 tg σ this (I, J, ri, rj, rq) (I, J, ri, rj, rq) → GM [2002] tg σ I ri I ri rq → va_P D vwCl (pq_P t σ (I, J, ri, rj, rq)) H → va_D A (pq_P t σ (I, J, ri, rj, rq)) → va_S A s.heap H locs → lv_has ls 7 [(0, .ref this), (1, .int a0), (2, .int x_1930), (3, .int x_2980)] → W p l e ({ frames := 0, cells := 0, slots := 0, locals := 0 } : Room) s m (List.toArray ([.ref this, .int a0] : List Value)) below meth c H locs 0 0 Q (F0 m 41 ls []) := by
                intro n_3104
                induction n_3104 with
                | zero => intro x_2980 H locs ls h_3109 hrel_3110 hm_3103 hF hFr hG hP hD hS hl; exact absurd hm_3103 (Nat.not_lt_zero _)
                | succ n_3104 ih_3106 =>
                  intro x_2980 H locs ls h_3109 hrel_3110 hm_3103 hF hFr hG hP hD hS hl
                  have uh_3109 := h_3109.1
                  have vh_3109 := h_3109.2
                  replace hF := hF.trans g_X12_nextOrder_L41_e
                  refine lv_aload_n hx hb dX12_nextOrder_41 rfl (lv_at hl 0 rfl) ?_
                  refine pg_f (v := .ref this_rings) (C := RX12) (T := TX12) (N := 31) hx hb hts (tw_i inlX12) hown hK hP hL_this hK_this (by decide +kernel) rfl 30 (by decide +kernel) (hts _ (tw_c tw_191)) (pq_hv rfl hR_this_rings) dX12_nextOrder_42 ?_
                  refine lv_iload_n hx hb dX12_nextOrder_45 rfl (lv_at hl 3 rfl) ?_
                  have h_3111 : rg x_2980 0 4 := ⟨by omega, by omega⟩
                  have uh_3111 := h_3111.1
                  have vh_3111 := h_3111.2
                  refine pl_i hx hb hK hP hL_this_rings hK_this_rings hN_this_rings (rg_in h_3111 (by decide +kernel)) dX12_nextOrder_46 ?_
                  refine lv_topi (fun x_3112 ex_3112 => ?_)
                  replace hF := hF.trans (ap_n (vR_r hO_this_rings (by decide +kernel) ex_3112))
                  have h_3113 : rg x_3112 0 4 := rg_of_eq ex_3112 (GM.rR hG hT_this_rings rfl)
                  have uh_3113 := h_3113.1
                  have vh_3113 := h_3113.2
                  refine lv_aload_n hx hb dX12_nextOrder_47 rfl (lv_at hl 0 rfl) ?_
                  refine pg_f (v := .ref this_rings) (C := RX12) (T := TX12) (N := 31) hx hb hts (tw_i inlX12) hown hK hP hL_this hK_this (by decide +kernel) rfl 30 (by decide +kernel) (hts _ (tw_c tw_191)) (pq_hv rfl hR_this_rings) dX12_nextOrder_48 ?_
                  refine lv_iload_n hx hb dX12_nextOrder_51 rfl (lv_at hl 2 rfl) ?_
                  refine pl_i hx hb hK hP hL_this_rings hK_this_rings hN_this_rings (rg_in h_2594 (by decide +kernel)) dX12_nextOrder_52 ?_
                  refine lv_tov x_2595 ex_2595.symm ?_
                  refine lv_icmp_ge (tgt := 62) hx hb dX12_nextOrder_53 (by decide +kernel) (fun c_3114 => ?_) (fun c_3114 => ?_)
                  · replace hF := hF.trans (if_pos c_3114)
                    have tc_3119 : (x_2595).toInt ≤ (x_3112).toInt := Int32.le_iff_toInt_le.mp c_3114
                    refine lv_aload_n hx hb dX12_nextOrder_62 rfl (lv_at hl 0 rfl) ?_
                    refine pg_f (v := .ref this_rings) (C := RX12) (T := TX12) (N := 31) hx hb hts (tw_i inlX12) hown hK hP hL_this hK_this (by decide +kernel) rfl 30 (by decide +kernel) (hts _ (tw_c tw_191)) (pq_hv rfl hR_this_rings) dX12_nextOrder_63 ?_
                    refine lv_iload_n hx hb dX12_nextOrder_66 rfl (lv_at hl 2 rfl) ?_
                    refine pl_i hx hb hK hP hL_this_rings hK_this_rings hN_this_rings (rg_in h_2594 (by decide +kernel)) dX12_nextOrder_67 ?_
                    refine lv_tov x_2595 ex_2595.symm ?_
                    refine lv_istore (lv' := [(4, .int x_2595), (0, .ref this), (1, .int a0), (2, .int x_1930), (3, .int x_2980)]) hx hb dX12_nextOrder_68 hl (by decide +kernel) rfl (fun ls hl => ?_)
                    refine lv_aload_n hx hb dX12_nextOrder_70 rfl (lv_at hl 1 rfl) ?_
                    refine pg_f (v := .ref this_rings) (C := RX12) (T := TX12) (N := 31) hx hb hts (tw_i inlX12) hown hK hP hL_this hK_this (by decide +kernel) rfl 30 (by decide +kernel) (hts _ (tw_c tw_191)) (pq_hv rfl hR_this_rings) dX12_nextOrder_71 ?_
                    refine lv_iload_n hx hb dX12_nextOrder_74 rfl (lv_at hl 3 rfl) ?_
                    refine lv_aload_n hx hb dX12_nextOrder_75 rfl (lv_at hl 1 rfl) ?_
                    refine pg_f (v := .ref this_rings) (C := RX12) (T := TX12) (N := 31) hx hb hts (tw_i inlX12) hown hK hP hL_this hK_this (by decide +kernel) rfl 30 (by decide +kernel) (hts _ (tw_c tw_191)) (pq_hv rfl hR_this_rings) dX12_nextOrder_76 ?_
                    refine lv_iload_n hx hb dX12_nextOrder_79 rfl (lv_at hl 4 rfl) ?_
                    refine pl_i hx hb hK hP hL_this_rings hK_this_rings hN_this_rings (rg_in h_3111 (by decide +kernel)) dX12_nextOrder_80 ?_
                    refine lv_tov x_3112 ex_3112.symm ?_
                    refine pt_i hx hb hK hP hD hS hL_this_rings hK_this_rings hN_this_rings (rg_in h_2594 (by decide +kernel)) dX12_nextOrder_81 (fun r_3120 H locs er_3120 hP hD hS => ?_)
                    replace hFr := fr_R hFr hO_this_rings (by decide +kernel) er_3120
                    replace hF := hF.trans (ap_n (vR_st hVT hO_this_rings (by decide +kernel) er_3120))
                    have hG := GM.wR hG hSH hT_this_rings rfl er_3120 (rg_w h_3113 (by decide +kernel)) (by decide +kernel)
                    refine lv_aload_n hx hb dX12_nextOrder_82 rfl (lv_at hl 1 rfl) ?_
                    refine pg_f (v := .ref this_rings) (C := RX12) (T := TX12) (N := 31) hx hb hts (tw_i inlX12) hown hK hP hL_this hK_this (by decide +kernel) rfl 30 (by decide +kernel) (hts _ (tw_c tw_191)) (pq_hv rfl hR_this_rings) dX12_nextOrder_83 ?_
                    refine lv_iload_n hx hb dX12_nextOrder_86 rfl (lv_at hl 4 rfl) ?_
                    refine lv_iload hx hb dX12_nextOrder_87 (lv_at hl 0 rfl) ?_
                    refine pt_i hx hb hK hP hD hS hL_this_rings hK_this_rings hN_this_rings (rg_in h_3111 (by decide +kernel)) dX12_nextOrder_89 (fun r_3121 H locs er_3121 hP hD hS => ?_)
                    replace hFr := fr_R hFr hO_this_rings (by decide +kernel) er_3121
                    replace hF := hF.trans (ap_n (vR_st hVT hO_this_rings (by decide +kernel) er_3121))
                    have hG := GM.wR hG hSH hT_this_rings rfl er_3121 (rg_w h_2596 (by decide +kernel)) (by decide +kernel)
                    have hsi : InjI a0.toInt (r_3121 this_rings) := sw_inj hinj er_3120 er_3121 ex_3112 ex_2595 (by have z0 := clampE x_1930; omega) (by have z0 := clampE x_2980; omega)
                    have hnp : ∀ i : Nat, i < x_1930.toNatClampNeg → r_3121 this_rings i = ri this_rings i := fun i hi => by rw [sw_eq er_3120 er_3121 ex_3112 ex_2595, if_neg (by have z0 := clampE x_1930; have z1 := clampE x_2980; omega), if_neg (by omega)]
                    have hnk : r_3121 this_rings x_1930.toNatClampNeg = x_3112 := by rw [sw_eq er_3120 er_3121 ex_3112 ex_2595, if_neg (by have z0 := clampE x_1930; have z1 := clampE x_2980; omega), if_pos rfl]; exact ex_3112.symm
                    have hne : (x_3112).toInt ≠ (x_2595).toInt := fun q => by have e := hinj x_2980.toNatClampNeg x_1930.toNatClampNeg (by have z0 := clampE x_2980; omega) (by have z0 := clampE x_1930; omega) (ex_3112.symm.trans ((Int32.toInt_inj.mp q).trans ex_2595)); have z0 := clampE x_2980; have z1 := clampE x_1930; omega
                    have hnl : (ri this_rings x_1930.toNatClampNeg).toInt < (r_3121 this_rings x_1930.toNatClampNeg).toInt := by have q := congrArg Int32.toInt hnk; have q2 : (x_2595).toInt = (ri this_rings x_1930.toNatClampNeg).toInt := congrArg Int32.toInt ex_2595; omega
                    refine lv_iload_n hx hb dX12_nextOrder_90 rfl (lv_at hl 3 rfl) ?_
                    refine lv_iconst (v := 1) hx hb dX12_nextOrder_91 (by decide +kernel) ?_
                    refine lv_iadd hx hb dX12_nextOrder_92 ?_
                    refine lv_topi (fun x_3122 ex_3122 => ?_)
                    replace hF := hF.trans (ap_n ex_3122)
                    have h_3123 : rg x_3122 1 4 := rg_of_eq ex_3122 (rg_add h_2594 (rg_k (1 : Int32) 1 rfl) (by decide +kernel))
                    have uh_3123 := h_3123.1
                    have vh_3123 := h_3123.2
                    have tx_3122 : (x_3122).toInt = (x_1930).toInt + 1 := by rw [ex_3122]; exact i_add_rg (a2 := (x_1930).toInt) (b2 := 1) rfl rfl h_2594 (rg_k (1 : Int32) 1 rfl) (by decide +kernel)
                    refine lv_istore (lv' := [(5, .int x_3122), (4, .int x_2595), (0, .ref this), (1, .int a0), (2, .int x_1930), (3, .int x_2980)]) hx hb dX12_nextOrder_93 hl (by decide +kernel) rfl (fun ls hl => ?_)
                    refine lv_iload_n hx hb dX12_nextOrder_95 rfl (lv_at hl 3 rfl) ?_
                    refine lv_iconst (v := 1) hx hb dX12_nextOrder_96 (by decide +kernel) ?_
                    refine lv_isub hx hb dX12_nextOrder_97 ?_
                    refine lv_topi (fun x_3124 ex_3124 => ?_)
                    replace hF := hF.trans (ap_n ex_3124)
                    have h_3125 : rg x_3124 (-1) 4 := rg_of_eq ex_3124 (rg_sub h_a0 (rg_k (1 : Int32) 1 rfl) (by decide +kernel))
                    have uh_3125 := h_3125.1
                    have vh_3125 := h_3125.2
                    have tx_3124 : (x_3124).toInt = (a0).toInt - 1 := by rw [ex_3124]; exact i_sub_rg (a2 := (a0).toInt) (b2 := 1) rfl rfl h_a0 (rg_k (1 : Int32) 1 rfl) (by decide +kernel)
                    refine lv_istore (lv' := [(6, .int x_3124), (5, .int x_3122), (4, .int x_2595), (0, .ref this), (1, .int a0), (2, .int x_1930), (3, .int x_2980)]) hx hb dX12_nextOrder_98 hl (by decide +kernel) rfl (fun ls hl => ?_)
                    have L_3211 : ∀ (n_3210 : Nat) (x_3187 : Int32) (x_3188 : Int32) (ri_3189 : Nat → Nat → Int32) (H : Heap) (locs : List Loc) (ls : Array Slot), rg x_3187 1 4 → rg x_3188 (-1) 4 → (x_1930.toInt + 1 ≤ (x_3187).toInt ∧ (x_3188).toInt + 1 ≤ a0.toInt) → (InjI a0.toInt (ri_3189 this_rings) ∧ ∀ i : Nat, i ≤ x_1930.toNatClampNeg → ri_3189 this_rings i = r_3121 this_rings i) → ((x_3188).toInt - (x_3187).toInt).toNat < n_3210 → F = g_X12_nextOrder_L100 (vI 12 σ this I) (vJ 12 σ this J) (vL 12 σ this rj) (vQ 12 σ this rq) n_3210 x_3187 x_3188 (vR 12 σ this ri_3189) → FR 12 tg σ this (I, J, ri, rj, rq) (I, J, ri_3189, rj, rq) → GM [2002] tg σ I ri I ri_3189 rq → va_P D vwCl (pq_P t σ (I, J, ri_3189, rj, rq)) H → va_D A (pq_P t σ (I, J, ri_3189, rj, rq)) → va_S A s.heap H locs → lv_has ls 7 [(0, .ref this), (5, .int x_3187), (6, .int x_3188)] → W p l e ({ frames := 0, cells := 0, slots := 0, locals := 0 } : Room) s m (List.toArray ([.ref this, .int a0] : List Value)) below meth c H locs 0 0 Q (F0 m 100 ls []) := by
                      intro n_3210
                      induction n_3210 with
                      | zero => intro x_3187 x_3188 ri_3189 H locs ls h_3217 h_3218 hrel_3219 hrel_3220 hm_3209 hF hFr hG hP hD hS hl; exact absurd hm_3209 (Nat.not_lt_zero _)
                      | succ n_3210 ih_3212 =>
                        intro x_3187 x_3188 ri_3189 H locs ls h_3217 h_3218 hrel_3219 hrel_3220 hm_3209 hF hFr hG hP hD hS hl
                        have uh_3217 := h_3217.1
                        have vh_3217 := h_3217.2
                        have uh_3218 := h_3218.1
                        have vh_3218 := h_3218.2
                        replace hF := hF.trans g_X12_nextOrder_L100_e
                        refine lv_iload hx hb dX12_nextOrder_100 (lv_at hl 1 rfl) ?_
                        refine lv_iload hx hb dX12_nextOrder_102 (lv_at hl 2 rfl) ?_
                        refine lv_icmp_ge (tgt := 148) hx hb dX12_nextOrder_104 (by decide +kernel) (fun c_3221 => ?_) (fun c_3221 => ?_)
                        · replace hF := hF.trans (if_pos c_3221)
                          have tc_3226 : (x_3188).toInt ≤ (x_3187).toInt := Int32.le_iff_toInt_le.mp c_3221
                          refine lv_iconst (v := 1) hx hb dX12_nextOrder_148 (by decide +kernel) ?_
                          subst hQ
                          exact W.zret (v := 1) hx hb hr (by decide +kernel) (fun t1 ht hW => ⟨⟨1, (σ, I, J, ri_3189, rj, rq), rfl, ⟨ri_3189, rfl, hG, (hF0.symm.trans hF), hFr, (Or.inl ⟨rfl, ⟨hrel_3220.1, x_1930.toNatClampNeg, by have z0 := clampE x_1930; omega, fun i hi => (hrel_3220.2 i (by omega)).trans (hnp i hi), by rw [hrel_3220.2 _ (Nat.le_refl _)]; exact hnl⟩⟩)⟩, by rw [ht]; exact hP, va_K.moved hW.alike hK, hD⟩, hS.F ht⟩) hS.2.2 dX12_nextOrder_149
                        · replace hF := hF.trans (if_neg c_3221)
                          have tc_3227 : (x_3187).toInt < (x_3188).toInt := Int32.lt_iff_toInt_lt.mp (nle c_3221)
                          have h_3228 : rg x_3187 1 3 := rg_lt1 (nle c_3221) h_3217 h_3218 (by decide +kernel)
                          have uh_3228 := h_3228.1
                          have vh_3228 := h_3228.2
                          have h_3229 : rg x_3188 2 4 := rg_lt2 (nle c_3221) h_3217 h_3218 (by decide +kernel)
                          have uh_3229 := h_3229.1
                          have vh_3229 := h_3229.2
                          refine lv_aload_n hx hb dX12_nextOrder_107 rfl (lv_at hl 0 rfl) ?_
                          refine pg_f (v := .ref this_rings) (C := RX12) (T := TX12) (N := 31) hx hb hts (tw_i inlX12) hown hK hP hL_this hK_this (by decide +kernel) rfl 30 (by decide +kernel) (hts _ (tw_c tw_191)) (pq_hv rfl hR_this_rings) dX12_nextOrder_108 ?_
                          refine lv_iload hx hb dX12_nextOrder_111 (lv_at hl 1 rfl) ?_
                          refine pl_i hx hb hK hP hL_this_rings hK_this_rings hN_this_rings (rg_in h_3228 (by decide +kernel)) dX12_nextOrder_113 ?_
                          refine lv_topi (fun x_3230 ex_3230 => ?_)
                          replace hF := hF.trans (ap_n (vR_r hO_this_rings (by decide +kernel) ex_3230))
                          have h_3231 : rg x_3230 0 4 := rg_of_eq ex_3230 (GM.rR hG hT_this_rings rfl)
                          have uh_3231 := h_3231.1
                          have vh_3231 := h_3231.2
                          refine lv_istore (lv' := [(4, .int x_3230), (0, .ref this), (5, .int x_3187), (6, .int x_3188)]) hx hb dX12_nextOrder_114 hl (by decide +kernel) rfl (fun ls hl => ?_)
                          refine lv_aload_n hx hb dX12_nextOrder_116 rfl (lv_at hl 1 rfl) ?_
                          refine pg_f (v := .ref this_rings) (C := RX12) (T := TX12) (N := 31) hx hb hts (tw_i inlX12) hown hK hP hL_this hK_this (by decide +kernel) rfl 30 (by decide +kernel) (hts _ (tw_c tw_191)) (pq_hv rfl hR_this_rings) dX12_nextOrder_117 ?_
                          refine lv_iload hx hb dX12_nextOrder_120 (lv_at hl 2 rfl) ?_
                          refine lv_aload_n hx hb dX12_nextOrder_122 rfl (lv_at hl 1 rfl) ?_
                          refine pg_f (v := .ref this_rings) (C := RX12) (T := TX12) (N := 31) hx hb hts (tw_i inlX12) hown hK hP hL_this hK_this (by decide +kernel) rfl 30 (by decide +kernel) (hts _ (tw_c tw_191)) (pq_hv rfl hR_this_rings) dX12_nextOrder_123 ?_
                          refine lv_iload hx hb dX12_nextOrder_126 (lv_at hl 3 rfl) ?_
                          refine pl_i hx hb hK hP hL_this_rings hK_this_rings hN_this_rings (rg_in h_3229 (by decide +kernel)) dX12_nextOrder_128 ?_
                          refine lv_topi (fun x_3232 ex_3232 => ?_)
                          replace hF := hF.trans (ap_n (vR_r hO_this_rings (by decide +kernel) ex_3232))
                          have h_3233 : rg x_3232 0 4 := rg_of_eq ex_3232 (GM.rR hG hT_this_rings rfl)
                          have uh_3233 := h_3233.1
                          have vh_3233 := h_3233.2
                          refine pt_i hx hb hK hP hD hS hL_this_rings hK_this_rings hN_this_rings (rg_in h_3228 (by decide +kernel)) dX12_nextOrder_129 (fun r_3234 H locs er_3234 hP hD hS => ?_)
                          replace hFr := fr_R hFr hO_this_rings (by decide +kernel) er_3234
                          replace hF := hF.trans (ap_n (vR_st hVT hO_this_rings (by decide +kernel) er_3234))
                          have hG := GM.wR hG hSH hT_this_rings rfl er_3234 (rg_w h_3233 (by decide +kernel)) (by decide +kernel)
                          refine lv_aload_n hx hb dX12_nextOrder_130 rfl (lv_at hl 1 rfl) ?_
                          refine pg_f (v := .ref this_rings) (C := RX12) (T := TX12) (N := 31) hx hb hts (tw_i inlX12) hown hK hP hL_this hK_this (by decide +kernel) rfl 30 (by decide +kernel) (hts _ (tw_c tw_191)) (pq_hv rfl hR_this_rings) dX12_nextOrder_131 ?_
                          refine lv_iload hx hb dX12_nextOrder_134 (lv_at hl 3 rfl) ?_
                          refine lv_iload hx hb dX12_nextOrder_136 (lv_at hl 0 rfl) ?_
                          refine pt_i hx hb hK hP hD hS hL_this_rings hK_this_rings hN_this_rings (rg_in h_3229 (by decide +kernel)) dX12_nextOrder_138 (fun r_3235 H locs er_3235 hP hD hS => ?_)
                          replace hFr := fr_R hFr hO_this_rings (by decide +kernel) er_3235
                          replace hF := hF.trans (ap_n (vR_st hVT hO_this_rings (by decide +kernel) er_3235))
                          have hG := GM.wR hG hSH hT_this_rings rfl er_3235 (rg_w h_3231 (by decide +kernel)) (by decide +kernel)
                          obtain ⟨x_3236, ex_3236⟩ : ∃ y : Int32, y = x_3187 + Int32.ofInt 1 := ⟨_, rfl⟩
                          replace hF := hF.trans (ap_n ex_3236)
                          have h_3237 : rg x_3236 2 4 := rg_of_eq ex_3236 (rg_add h_3228 (rg_k (Int32.ofInt 1) 1 rfl) (by decide +kernel))
                          have uh_3237 := h_3237.1
                          have vh_3237 := h_3237.2
                          have tx_3236 : (x_3236).toInt = (x_3187).toInt + 1 := by rw [ex_3236]; exact i_add_rg (a2 := (x_3187).toInt) (b2 := 1) rfl rfl h_3228 (rg_k (Int32.ofInt 1) 1 rfl) (by decide +kernel)
                          refine lv_iinc (v := x_3236) (lv' := [(5, .int x_3236), (4, .int x_3230), (0, .ref this), (6, .int x_3188)]) hx hb dX12_nextOrder_139 hl (k := 2) rfl ex_3236.symm (by decide +kernel) rfl (fun ls hl => ?_)
                          obtain ⟨x_3238, ex_3238⟩ : ∃ y : Int32, y = x_3188 + Int32.ofInt (-1) := ⟨_, rfl⟩
                          replace hF := hF.trans (ap_n ex_3238)
                          have h_3239 : rg x_3238 1 3 := rg_of_eq ex_3238 (rg_add h_3229 (rg_k (Int32.ofInt (-1)) (-1) rfl) (by decide +kernel))
                          have uh_3239 := h_3239.1
                          have vh_3239 := h_3239.2
                          have tx_3238 : (x_3238).toInt = (x_3188).toInt + (-1) := by rw [ex_3238]; exact i_add_rg (a2 := (x_3188).toInt) (b2 := (-1)) rfl rfl h_3229 (rg_k (Int32.ofInt (-1)) (-1) rfl) (by decide +kernel)
                          refine lv_iinc (v := x_3238) (lv' := [(6, .int x_3238), (5, .int x_3236), (4, .int x_3230), (0, .ref this)]) hx hb dX12_nextOrder_142 hl (k := 3) rfl ex_3238.symm (by decide +kernel) rfl (fun ls hl => ?_)
                          refine lv_goto (tgt := 100) hx hb dX12_nextOrder_145 (by decide +kernel) ?_
                          exact ih_3212 x_3236 x_3238 r_3235 _ _ _ (rg_w h_3237 (by decide +kernel)) (rg_w h_3239 (by decide +kernel)) (by omega) ⟨sw_inj hrel_3220.1 er_3234 er_3235 ex_3232 ex_3230 (by have z0 := clampE x_3187; omega) (by have z0 := clampE x_3188; omega), fun i hi => by rw [sw_eq er_3234 er_3235 ex_3232 ex_3230, if_neg (by have z0 := clampE x_3188; have z1 := clampE x_1930; omega), if_neg (by have z0 := clampE x_3187; have z1 := clampE x_1930; omega)]; exact hrel_3220.2 i hi⟩ (by omega) hF hFr hG hP hD hS (lv_sub hl [3, 1, 0] rfl)
                    exact L_3211 _ x_3122 x_3124 r_3121 _ _ _ (rg_w h_3123 (by decide +kernel)) (rg_w h_3125 (by decide +kernel)) (by omega) ⟨hsi, fun _ _ => rfl⟩ (Nat.lt_succ_self _) hF hFr hG hP hD hS (lv_sub hl [3, 1, 0] rfl)
                  · replace hF := hF.trans (if_neg c_3114)
                    have tc_3240 : (x_3112).toInt < (x_2595).toInt := Int32.lt_iff_toInt_lt.mp (nle c_3114)
                    have h_3241 : rg x_3112 0 3 := rg_lt1 (nle c_3114) h_3113 h_2596 (by decide +kernel)
                    have uh_3241 := h_3241.1
                    have vh_3241 := h_3241.2
                    have h_3242 : rg x_2595 1 4 := rg_lt2 (nle c_3114) h_3113 h_2596 (by decide +kernel)
                    have uh_3242 := h_3242.1
                    have vh_3242 := h_3242.2
                    have tno : (x_2980).toInt ≠ (x_2597).toInt := fun q => by have e := Int32.toInt_inj.mp q; have e2 := ex_3112; rw [e] at e2; have e3 := congrArg Int32.toInt (e2.trans ex_2599.symm); omega
                    obtain ⟨x_3243, ex_3243⟩ : ∃ y : Int32, y = x_2980 + Int32.ofInt (-1) := ⟨_, rfl⟩
                    replace hF := hF.trans (ap_n ex_3243)
                    have h_3244 : rg x_3243 (-1) 3 := rg_of_eq ex_3243 (rg_add h_3111 (rg_k (Int32.ofInt (-1)) (-1) rfl) (by decide +kernel))
                    have uh_3244 := h_3244.1
                    have vh_3244 := h_3244.2
                    have tx_3243 : (x_3243).toInt = (x_2980).toInt + (-1) := by rw [ex_3243]; exact i_add_rg (a2 := (x_2980).toInt) (b2 := (-1)) rfl rfl h_3111 (rg_k (Int32.ofInt (-1)) (-1) rfl) (by decide +kernel)
                    refine lv_iinc (v := x_3243) (lv' := [(3, .int x_3243), (0, .ref this), (1, .int a0), (2, .int x_1930)]) hx hb dX12_nextOrder_56 hl (k := 3) rfl ex_3243.symm (by decide +kernel) rfl (fun ls hl => ?_)
                    refine lv_goto (tgt := 41) hx hb dX12_nextOrder_59 (by decide +kernel) ?_
                    exact ih_3106 x_3243 _ _ _ (rg_w h_3244 (by decide +kernel)) (by omega) (by omega) hF hFr hG hP hD hS (lv_sub hl [1, 2, 3, 0] rfl)
              exact L_3105 _ x_2611 _ _ _ (rg_w h_2612 (by decide +kernel)) (by omega) (Nat.lt_succ_self _) hF hFr hG hP hD hS (lv_sub hl [1, 2, 3, 0] rfl)
            · have tc_3245 : (x_1930).toInt < 0 := Int32.lt_iff_toInt_lt.mp (nle c_2607)
              exact (rg_empty (rg_lt1 (nle c_2607) h_2594 (rg_k (0 : Int32) 0 rfl) (lo := 0) (hi := (-1)) (by decide +kernel)) (by decide +kernel)).elim
          · replace hF := hF.trans (if_neg c_2601)
            have tc_3246 : (x_2599).toInt < (x_2595).toInt := Int32.lt_iff_toInt_lt.mp (nle c_2601)
            have h_3247 : rg x_2599 0 3 := rg_lt1 (nle c_2601) h_2600 h_2596 (by decide +kernel)
            have uh_3247 := h_3247.1
            have vh_3247 := h_3247.2
            have h_3248 : rg x_2595 1 4 := rg_lt2 (nle c_2601) h_2600 h_2596 (by decide +kernel)
            have uh_3248 := h_3248.1
            have vh_3248 := h_3248.2
            obtain ⟨x_3249, ex_3249⟩ : ∃ y : Int32, y = x_1930 + Int32.ofInt (-1) := ⟨_, rfl⟩
            replace hF := hF.trans (ap_n ex_3249)
            have h_3250 : rg x_3249 (-1) 2 := rg_of_eq ex_3249 (rg_add h_2594 (rg_k (Int32.ofInt (-1)) (-1) rfl) (by decide +kernel))
            have uh_3250 := h_3250.1
            have vh_3250 := h_3250.2
            have tx_3249 : (x_3249).toInt = (x_1930).toInt + (-1) := by rw [ex_3249]; exact i_add_rg (a2 := (x_1930).toInt) (b2 := (-1)) rfl rfl h_2594 (rg_k (Int32.ofInt (-1)) (-1) rfl) (by decide +kernel)
            refine lv_iinc (v := x_3249) (lv' := [(2, .int x_3249), (0, .ref this), (1, .int a0)]) hx hb dX12_nextOrder_25 hl (k := 2) rfl ex_3249.symm (by decide +kernel) rfl (fun ls hl => ?_)
            refine lv_goto (tgt := 4) hx hb dX12_nextOrder_28 (by decide +kernel) ?_
            exact ih_2576 x_3249 _ _ _ (rg_w h_3250 (by decide +kernel)) (by omega) (ms_dn 1 hm_2573 ex_3249 rfl (by decide +kernel) h_2594 (by decide +kernel) (by decide +kernel)) hF hFr hG hP hD hS (lv_sub hl [1, 2, 0] rfl)
    exact L_2575 _ x_1 _ _ _ (rg_w h_2 (by decide +kernel)) (by omega) (Nat.lt_succ_self _) hF hFr hG hP hD hS (lv_sub hl [1, 2, 0] rfl)
  exact go _ _ _ hP hD hS hl

set_option maxRecDepth 100000 in
def g_X12_order_K24 (I : Nat → Int32) (J : Nat → Int64) (ri : Nat → Nat → Int32) (rj : Nat → Nat → Int64) (rq : Nat → Nat → Option Nat) : Int32 × vM := ((-1 : Int32), I, J, ri, rj, rq)
set_option maxRecDepth 100000 in
theorem g_X12_order_K24_e {I : Nat → Int32} {J : Nat → Int64} {ri : Nat → Nat → Int32} {rj : Nat → Nat → Int64} {rq : Nat → Nat → Option Nat} : g_X12_order_K24 I J ri rj rq  = ((-1 : Int32), I, J, ri, rj, rq) := rfl
set_option maxRecDepth 100000 in
def g_X12_order_L180 (J : Nat → Int64) (rq : Nat → Nat → Option Nat) (x_948873 : Int32) (k_g_X12_order_L80 : (Int32) → (Int32) → (Nat → Int32) → (Nat → Nat → Int32) → (Nat → Nat → Int64) → Int32 × vM) (I_1422666 : Nat → Int32) (rj_1422668 : Nat → Nat → Int64) (x_1422987 : Int32) : Nat → (Int32) → (Nat → Nat → Int32) → Int32 × vM
  | 0, x_1423423, ri_1423424 => ((0 : Int32), I_1422666, J, ri_1423424, rj_1422668, rq)
  | n_1423453 + 1, x_1423423, ri_1423424 => (if x_948873 ≤ x_1423423 then (bnI (g_X12_nextOrder x_948873 I_1422666 J ri_1423424 rj_1422668 rq) fun (x_1423468 : Int32) (_ : Nat → Int32) (_ : Nat → Int64) (ri_1423470 : Nat → Nat → Int32) (_ : Nat → Nat → Int64) (_ : Nat → Nat → Option Nat) => (k_g_X12_order_L80 x_1422987 x_1423468 I_1422666 ri_1423470 rj_1422668)) else (ap1 (ri_1423424 414 (x_1423423).toNatClampNeg) fun (x_1423483 : Int32) => (ap1 (va_up ri_1423424 413 (upd (ri_1423424 413) (x_1423423).toNatClampNeg x_1423483)) fun (r_1423485 : Nat → Nat → Int32) => (ap1 (x_1423423 + Int32.ofInt 1) fun (x_1423488 : Int32) => ((g_X12_order_L180 J rq x_948873 k_g_X12_order_L80 I_1422666 rj_1422668 x_1422987 n_1423453) x_1423488 r_1423485)))))
set_option maxRecDepth 100000 in
theorem g_X12_order_L180_e {J : Nat → Int64} {rq : Nat → Nat → Option Nat} {x_948873 : Int32} {k_g_X12_order_L80 : (Int32) → (Int32) → (Nat → Int32) → (Nat → Nat → Int32) → (Nat → Nat → Int64) → Int32 × vM} {I_1422666 : Nat → Int32} {rj_1422668 : Nat → Nat → Int64} {x_1422987 : Int32} {n_1423453 : Nat} {x_1423423 : Int32} {ri_1423424 : Nat → Nat → Int32} : g_X12_order_L180 J rq x_948873 k_g_X12_order_L80 I_1422666 rj_1422668 x_1422987 (n_1423453 + 1) x_1423423 ri_1423424 = (if x_948873 ≤ x_1423423 then (bnI (g_X12_nextOrder x_948873 I_1422666 J ri_1423424 rj_1422668 rq) fun (x_1423468 : Int32) (_ : Nat → Int32) (_ : Nat → Int64) (ri_1423470 : Nat → Nat → Int32) (_ : Nat → Nat → Int64) (_ : Nat → Nat → Option Nat) => (k_g_X12_order_L80 x_1422987 x_1423468 I_1422666 ri_1423470 rj_1422668)) else (ap1 (ri_1423424 414 (x_1423423).toNatClampNeg) fun (x_1423483 : Int32) => (ap1 (va_up ri_1423424 413 (upd (ri_1423424 413) (x_1423423).toNatClampNeg x_1423483)) fun (r_1423485 : Nat → Nat → Int32) => (ap1 (x_1423423 + Int32.ofInt 1) fun (x_1423488 : Int32) => ((g_X12_order_L180 J rq x_948873 k_g_X12_order_L80 I_1422666 rj_1422668 x_1422987 n_1423453) x_1423488 r_1423485))))) := rfl
set_option maxRecDepth 100000 in
def g_X12_order_K173 (J : Nat → Int64) (rq : Nat → Nat → Option Nat) (x_948873 : Int32) (k_g_X12_order_L80 : (Int32) → (Int32) → (Nat → Int32) → (Nat → Nat → Int32) → (Nat → Nat → Int64) → Int32 × vM) (I_1422666 : Nat → Int32) (rj_1422668 : Nat → Nat → Int64) (x_1422987 : Int32) (ri_1422990 : Nat → Nat → Int32) : Int32 × vM := (g_X12_order_L180 J rq x_948873 k_g_X12_order_L80 I_1422666 rj_1422668 x_1422987 ((5 - ((0 : Int32)).toInt).toNat + 1) (0 : Int32) ri_1422990)
set_option maxRecDepth 100000 in
theorem g_X12_order_K173_e {J : Nat → Int64} {rq : Nat → Nat → Option Nat} {x_948873 : Int32} {k_g_X12_order_L80 : (Int32) → (Int32) → (Nat → Int32) → (Nat → Nat → Int32) → (Nat → Nat → Int64) → Int32 × vM} {I_1422666 : Nat → Int32} {rj_1422668 : Nat → Nat → Int64} {x_1422987 : Int32} {ri_1422990 : Nat → Nat → Int32} : g_X12_order_K173 J rq x_948873 k_g_X12_order_L80 I_1422666 rj_1422668 x_1422987 ri_1422990  = (g_X12_order_L180 J rq x_948873 k_g_X12_order_L80 I_1422666 rj_1422668 x_1422987 ((5 - ((0 : Int32)).toInt).toNat + 1) (0 : Int32) ri_1422990) := rfl
set_option maxRecDepth 100000 in
def g_X12_order_L124 (a0 : Int32) (a1 : Int32) (J : Nat → Int64) (rq : Nat → Nat → Option Nat) (x_948873 : Int32) (x_1382707 : Int32) (k_g_X12_order_L80 : (Int32) → (Int32) → (Nat → Int32) → (Nat → Nat → Int32) → (Nat → Nat → Int64) → Int32 × vM) (x_1420229 : Int32) : Nat → (Int32) → (Nat → Int32) → (Nat → Nat → Int32) → (Nat → Nat → Int64) → Int32 × vM
  | 0, x_1422665, I_1422666, ri_1422667, rj_1422668 => ((0 : Int32), I_1422666, J, ri_1422667, rj_1422668, rq)
  | n_1422964 + 1, x_1422665, I_1422666, ri_1422667, rj_1422668 => (if a1 ≤ x_1422665 then (bnI (g_X12_wants I_1422666 J ri_1422667 rj_1422668 rq) fun (x_1422980 : Int32) (_ : Nat → Int32) (_ : Nat → Int64) (_ : Nat → Nat → Int32) (_ : Nat → Nat → Int64) (_ : Nat → Nat → Option Nat) => (ap1 (x_1422980 - x_1420229) fun (x_1422987 : Int32) => (ap1 (va_up ri_1422667 384 (va_cpy (ri_1422667 386) (ri_1422667 384) 0 0 12720)) fun (ri_1422990 : Nat → Nat → Int32) => (if x_1382707 < (0 : Int32) then (g_X12_order_K173 J rq x_948873 k_g_X12_order_L80 I_1422666 rj_1422668 x_1422987 ri_1422990 ) else (if x_1382707 ≤ x_1422987 then (bnI (g_X12_nextOrder x_948873 I_1422666 J ri_1422990 rj_1422668 rq) fun (x_1423506 : Int32) (_ : Nat → Int32) (_ : Nat → Int64) (ri_1423508 : Nat → Nat → Int32) (_ : Nat → Nat → Int64) (_ : Nat → Nat → Option Nat) => (k_g_X12_order_L80 x_1382707 x_1423506 I_1422666 ri_1423508 rj_1422668)) else (g_X12_order_K173 J rq x_948873 k_g_X12_order_L80 I_1422666 rj_1422668 x_1422987 ri_1422990 )))))) else (bnV (g_X12_month a0 I_1422666 J ri_1422667 rj_1422668 rq) fun (I_1423523 : Nat → Int32) (_ : Nat → Int64) (ri_1423524 : Nat → Nat → Int32) (rj_1423525 : Nat → Nat → Int64) (_ : Nat → Nat → Option Nat) => (ap1 (x_1422665 + Int32.ofInt 1) fun (x_1423534 : Int32) => ((g_X12_order_L124 a0 a1 J rq x_948873 x_1382707 k_g_X12_order_L80 x_1420229 n_1422964) x_1423534 I_1423523 ri_1423524 rj_1423525))))
set_option maxRecDepth 100000 in
theorem g_X12_order_L124_e {a0 : Int32} {a1 : Int32} {J : Nat → Int64} {rq : Nat → Nat → Option Nat} {x_948873 : Int32} {x_1382707 : Int32} {k_g_X12_order_L80 : (Int32) → (Int32) → (Nat → Int32) → (Nat → Nat → Int32) → (Nat → Nat → Int64) → Int32 × vM} {x_1420229 : Int32} {n_1422964 : Nat} {x_1422665 : Int32} {I_1422666 : Nat → Int32} {ri_1422667 : Nat → Nat → Int32} {rj_1422668 : Nat → Nat → Int64} : g_X12_order_L124 a0 a1 J rq x_948873 x_1382707 k_g_X12_order_L80 x_1420229 (n_1422964 + 1) x_1422665 I_1422666 ri_1422667 rj_1422668 = (if a1 ≤ x_1422665 then (bnI (g_X12_wants I_1422666 J ri_1422667 rj_1422668 rq) fun (x_1422980 : Int32) (_ : Nat → Int32) (_ : Nat → Int64) (_ : Nat → Nat → Int32) (_ : Nat → Nat → Int64) (_ : Nat → Nat → Option Nat) => (ap1 (x_1422980 - x_1420229) fun (x_1422987 : Int32) => (ap1 (va_up ri_1422667 384 (va_cpy (ri_1422667 386) (ri_1422667 384) 0 0 12720)) fun (ri_1422990 : Nat → Nat → Int32) => (if x_1382707 < (0 : Int32) then (g_X12_order_K173 J rq x_948873 k_g_X12_order_L80 I_1422666 rj_1422668 x_1422987 ri_1422990 ) else (if x_1382707 ≤ x_1422987 then (bnI (g_X12_nextOrder x_948873 I_1422666 J ri_1422990 rj_1422668 rq) fun (x_1423506 : Int32) (_ : Nat → Int32) (_ : Nat → Int64) (ri_1423508 : Nat → Nat → Int32) (_ : Nat → Nat → Int64) (_ : Nat → Nat → Option Nat) => (k_g_X12_order_L80 x_1382707 x_1423506 I_1422666 ri_1423508 rj_1422668)) else (g_X12_order_K173 J rq x_948873 k_g_X12_order_L80 I_1422666 rj_1422668 x_1422987 ri_1422990 )))))) else (bnV (g_X12_month a0 I_1422666 J ri_1422667 rj_1422668 rq) fun (I_1423523 : Nat → Int32) (_ : Nat → Int64) (ri_1423524 : Nat → Nat → Int32) (rj_1423525 : Nat → Nat → Int64) (_ : Nat → Nat → Option Nat) => (ap1 (x_1422665 + Int32.ofInt 1) fun (x_1423534 : Int32) => ((g_X12_order_L124 a0 a1 J rq x_948873 x_1382707 k_g_X12_order_L80 x_1420229 n_1422964) x_1423534 I_1423523 ri_1423524 rj_1423525)))) := rfl
set_option maxRecDepth 100000 in
def g_X12_order_L88 (a0 : Int32) (a1 : Int32) (J : Nat → Int64) (rq : Nat → Nat → Option Nat) (x_948873 : Int32) (x_1382707 : Int32) (I_1382709 : Nat → Int32) (rj_1382711 : Nat → Nat → Int64) (k_g_X12_order_L80 : (Int32) → (Int32) → (Nat → Int32) → (Nat → Nat → Int32) → (Nat → Nat → Int64) → Int32 × vM) : Nat → (Int32) → (Nat → Nat → Int32) → Int32 × vM
  | 0, x_1417165, ri_1417166 => ((0 : Int32), I_1382709, J, ri_1417166, rj_1382711, rq)
  | n_1420214 + 1, x_1417165, ri_1417166 => (if x_948873 ≤ x_1417165 then (bnI (g_X12_wants I_1382709 J ri_1417166 rj_1382711 rq) fun (x_1420229 : Int32) (_ : Nat → Int32) (_ : Nat → Int64) (_ : Nat → Nat → Int32) (_ : Nat → Nat → Int64) (_ : Nat → Nat → Option Nat) => (g_X12_order_L124 a0 a1 J rq x_948873 x_1382707 k_g_X12_order_L80 x_1420229 ((12 - ((0 : Int32)).toInt).toNat + 1) (0 : Int32) I_1382709 ri_1417166 rj_1382711)) else (ap1 (ri_1417166 414 (x_1417165).toNatClampNeg) fun (x_1423540 : Int32) => (ap1 (va_up ri_1417166 408 (upd (ri_1417166 408) (x_1423540).toNatClampNeg x_1417165)) fun (r_1423542 : Nat → Nat → Int32) => (ap1 (x_1417165 + Int32.ofInt 1) fun (x_1423545 : Int32) => ((g_X12_order_L88 a0 a1 J rq x_948873 x_1382707 I_1382709 rj_1382711 k_g_X12_order_L80 n_1420214) x_1423545 r_1423542)))))
set_option maxRecDepth 100000 in
theorem g_X12_order_L88_e {a0 : Int32} {a1 : Int32} {J : Nat → Int64} {rq : Nat → Nat → Option Nat} {x_948873 : Int32} {x_1382707 : Int32} {I_1382709 : Nat → Int32} {rj_1382711 : Nat → Nat → Int64} {k_g_X12_order_L80 : (Int32) → (Int32) → (Nat → Int32) → (Nat → Nat → Int32) → (Nat → Nat → Int64) → Int32 × vM} {n_1420214 : Nat} {x_1417165 : Int32} {ri_1417166 : Nat → Nat → Int32} : g_X12_order_L88 a0 a1 J rq x_948873 x_1382707 I_1382709 rj_1382711 k_g_X12_order_L80 (n_1420214 + 1) x_1417165 ri_1417166 = (if x_948873 ≤ x_1417165 then (bnI (g_X12_wants I_1382709 J ri_1417166 rj_1382711 rq) fun (x_1420229 : Int32) (_ : Nat → Int32) (_ : Nat → Int64) (_ : Nat → Nat → Int32) (_ : Nat → Nat → Int64) (_ : Nat → Nat → Option Nat) => (g_X12_order_L124 a0 a1 J rq x_948873 x_1382707 k_g_X12_order_L80 x_1420229 ((12 - ((0 : Int32)).toInt).toNat + 1) (0 : Int32) I_1382709 ri_1417166 rj_1382711)) else (ap1 (ri_1417166 414 (x_1417165).toNatClampNeg) fun (x_1423540 : Int32) => (ap1 (va_up ri_1417166 408 (upd (ri_1417166 408) (x_1423540).toNatClampNeg x_1417165)) fun (r_1423542 : Nat → Nat → Int32) => (ap1 (x_1417165 + Int32.ofInt 1) fun (x_1423545 : Int32) => ((g_X12_order_L88 a0 a1 J rq x_948873 x_1382707 I_1382709 rj_1382711 k_g_X12_order_L80 n_1420214) x_1423545 r_1423542))))) := rfl
set_option maxRecDepth 100000 in
def g_X12_order_L80 (a0 : Int32) (a1 : Int32) (a2 : Int32) (J : Nat → Int64) (rq : Nat → Nat → Option Nat) (x_948873 : Int32) : Nat → (Int32) → (Int32) → (Nat → Int32) → (Nat → Nat → Int32) → (Nat → Nat → Int64) → Int32 × vM
  | 0, x_1382707, x_1382708, I_1382709, ri_1382710, rj_1382711 => ((0 : Int32), I_1382709, J, ri_1382710, rj_1382711, rq)
  | n_1402980 + 1, x_1382707, x_1382708, I_1382709, ri_1382710, rj_1382711 => (if x_1382708 = (0 : Int32) then (ap1 (va_up I_1382709 407 (0 : Int32)) fun (I_1402996 : Nat → Int32) => (if a2 = (-1 : Int32) then (x_1382707, I_1402996, J, ri_1382710, rj_1382711, rq) else (ap1 (ri_1382710 413 (a2).toNatClampNeg) fun (x_1403005 : Int32) => (x_1403005, I_1402996, J, ri_1382710, rj_1382711, rq)))) else (g_X12_order_L88 a0 a1 J rq x_948873 x_1382707 I_1382709 rj_1382711 (g_X12_order_L80 a0 a1 a2 J rq x_948873 n_1402980) ((5 - ((0 : Int32)).toInt).toNat + 1) (0 : Int32) ri_1382710))
set_option maxRecDepth 100000 in
theorem g_X12_order_L80_e {a0 : Int32} {a1 : Int32} {a2 : Int32} {J : Nat → Int64} {rq : Nat → Nat → Option Nat} {x_948873 : Int32} {n_1402980 : Nat} {x_1382707 : Int32} {x_1382708 : Int32} {I_1382709 : Nat → Int32} {ri_1382710 : Nat → Nat → Int32} {rj_1382711 : Nat → Nat → Int64} : g_X12_order_L80 a0 a1 a2 J rq x_948873 (n_1402980 + 1) x_1382707 x_1382708 I_1382709 ri_1382710 rj_1382711 = (if x_1382708 = (0 : Int32) then (ap1 (va_up I_1382709 407 (0 : Int32)) fun (I_1402996 : Nat → Int32) => (if a2 = (-1 : Int32) then (x_1382707, I_1402996, J, ri_1382710, rj_1382711, rq) else (ap1 (ri_1382710 413 (a2).toNatClampNeg) fun (x_1403005 : Int32) => (x_1403005, I_1402996, J, ri_1382710, rj_1382711, rq)))) else (g_X12_order_L88 a0 a1 J rq x_948873 x_1382707 I_1382709 rj_1382711 (g_X12_order_L80 a0 a1 a2 J rq x_948873 n_1402980) ((5 - ((0 : Int32)).toInt).toNat + 1) (0 : Int32) ri_1382710)) := rfl
set_option maxRecDepth 100000 in
def g_X12_order_L48 (a0 : Int32) (a1 : Int32) (a2 : Int32) (I : Nat → Int32) (J : Nat → Int64) (rj : Nat → Nat → Int64) (rq : Nat → Nat → Option Nat) (x_948873 : Int32) : Nat → (Int32) → (Nat → Nat → Int32) → Int32 × vM
  | 0, x_1186090, ri_1186091 => ((0 : Int32), I, J, ri_1186091, rj, rq)
  | n_1304669 + 1, x_1186090, ri_1186091 => (if (5 : Int32) ≤ x_1186090 then (ap1 (va_up I 407 (1 : Int32)) fun (I_1304685 : Nat → Int32) => (g_X12_order_L80 a0 a1 a2 J rq x_948873 (6252 + 1) (-1 : Int32) (1 : Int32) I_1304685 ri_1186091 rj)) else (ap1 (va_up ri_1186091 414 (upd (ri_1186091 414) (x_1186090).toNatClampNeg x_1186090)) fun (r_1423549 : Nat → Nat → Int32) => (ap1 (x_1186090 + Int32.ofInt 1) fun (x_1423552 : Int32) => ((g_X12_order_L48 a0 a1 a2 I J rj rq x_948873 n_1304669) x_1423552 r_1423549))))
set_option maxRecDepth 100000 in
theorem g_X12_order_L48_e {a0 : Int32} {a1 : Int32} {a2 : Int32} {I : Nat → Int32} {J : Nat → Int64} {rj : Nat → Nat → Int64} {rq : Nat → Nat → Option Nat} {x_948873 : Int32} {n_1304669 : Nat} {x_1186090 : Int32} {ri_1186091 : Nat → Nat → Int32} : g_X12_order_L48 a0 a1 a2 I J rj rq x_948873 (n_1304669 + 1) x_1186090 ri_1186091 = (if (5 : Int32) ≤ x_1186090 then (ap1 (va_up I 407 (1 : Int32)) fun (I_1304685 : Nat → Int32) => (g_X12_order_L80 a0 a1 a2 J rq x_948873 (6252 + 1) (-1 : Int32) (1 : Int32) I_1304685 ri_1186091 rj)) else (ap1 (va_up ri_1186091 414 (upd (ri_1186091 414) (x_1186090).toNatClampNeg x_1186090)) fun (r_1423549 : Nat → Nat → Int32) => (ap1 (x_1186090 + Int32.ofInt 1) fun (x_1423552 : Int32) => ((g_X12_order_L48 a0 a1 a2 I J rj rq x_948873 n_1304669) x_1423552 r_1423549)))) := rfl
set_option maxRecDepth 100000 in
def g_X12_order_K26 (a0 : Int32) (a1 : Int32) (a2 : Int32) (I : Nat → Int32) (J : Nat → Int64) (ri : Nat → Nat → Int32) (rj : Nat → Nat → Int64) (rq : Nat → Nat → Option Nat) : Int32 × vM := (ap1 (va_up ri 386 (va_cpy (ri 384) (ri 386) 0 0 12720)) fun (ri_948862 : Nat → Nat → Int32) => (ap1 (ri_948862 384 ((1 : Int32)).toNatClampNeg) fun (x_948873 : Int32) => (g_X12_order_L48 a0 a1 a2 I J rj rq x_948873 ((5 - ((0 : Int32)).toInt).toNat + 1) (0 : Int32) ri_948862)))
set_option maxRecDepth 100000 in
theorem g_X12_order_K26_e {a0 : Int32} {a1 : Int32} {a2 : Int32} {I : Nat → Int32} {J : Nat → Int64} {ri : Nat → Nat → Int32} {rj : Nat → Nat → Int64} {rq : Nat → Nat → Option Nat} : g_X12_order_K26 a0 a1 a2 I J ri rj rq  = (ap1 (va_up ri 386 (va_cpy (ri 384) (ri 386) 0 0 12720)) fun (ri_948862 : Nat → Nat → Int32) => (ap1 (ri_948862 384 ((1 : Int32)).toNatClampNeg) fun (x_948873 : Int32) => (g_X12_order_L48 a0 a1 a2 I J rj rq x_948873 ((5 - ((0 : Int32)).toInt).toNat + 1) (0 : Int32) ri_948862))) := rfl
set_option maxRecDepth 100000 in
def g_X12_order (a0 : Int32) (a1 : Int32) (a2 : Int32) (I : Nat → Int32) (J : Nat → Int64) (ri : Nat → Nat → Int32) (rj : Nat → Nat → Int64) (rq : Nat → Nat → Option Nat) : Int32 × vM := (bnI (g_X12_isTime a1 (12 : Int32) a0 I J ri rj rq) fun (x_1 : Int32) (_ : Nat → Int32) (_ : Nat → Int64) (_ : Nat → Nat → Int32) (_ : Nat → Nat → Int64) (_ : Nat → Nat → Option Nat) => (if x_1 = (0 : Int32) then (g_X12_order_K24 I J ri rj rq ) else (if a2 = (-1 : Int32) then (g_X12_order_K26 a0 a1 a2 I J ri rj rq ) else (bnI (g_X12_isRing a2 I J ri rj rq) fun (x_1423561 : Int32) (_ : Nat → Int32) (_ : Nat → Int64) (_ : Nat → Nat → Int32) (_ : Nat → Nat → Int64) (_ : Nat → Nat → Option Nat) => (if x_1423561 = (0 : Int32) then (g_X12_order_K24 I J ri rj rq ) else (g_X12_order_K26 a0 a1 a2 I J ri rj rq ))))))
set_option maxRecDepth 100000 in
theorem g_X12_order_e {a0 : Int32} {a1 : Int32} {a2 : Int32} {I : Nat → Int32} {J : Nat → Int64} {ri : Nat → Nat → Int32} {rj : Nat → Nat → Int64} {rq : Nat → Nat → Option Nat} : g_X12_order a0 a1 a2 I J ri rj rq = (bnI (g_X12_isTime a1 (12 : Int32) a0 I J ri rj rq) fun (x_1 : Int32) (_ : Nat → Int32) (_ : Nat → Int64) (_ : Nat → Nat → Int32) (_ : Nat → Nat → Int64) (_ : Nat → Nat → Option Nat) => (if x_1 = (0 : Int32) then (g_X12_order_K24 I J ri rj rq ) else (if a2 = (-1 : Int32) then (g_X12_order_K26 a0 a1 a2 I J ri rj rq ) else (bnI (g_X12_isRing a2 I J ri rj rq) fun (x_1423561 : Int32) (_ : Nat → Int32) (_ : Nat → Int64) (_ : Nat → Nat → Int32) (_ : Nat → Nat → Int64) (_ : Nat → Nat → Option Nat) => (if x_1423561 = (0 : Int32) then (g_X12_order_K24 I J ri rj rq ) else (g_X12_order_K26 a0 a1 a2 I J ri rj rq )))))) := rfl
set_option maxHeartbeats 4000000 in
set_option maxRecDepth 100000 in
theorem s_X12_order (l : Launch) (D : va_G) (t : pq_T) (σ : pq_S) (I : Nat → Nat → Int32) (J : Nat → Nat → Int64) (ri : Nat → Nat → Int32) (rj : Nat → Nat → Int64) (rq : Nat → Nat → Option Nat) (sz : Nat) (tg : Nat → Nat) (hSH : SH σ tg) (hG0 : GT tg I ri) (this : Nat) (a0 : Int32) (a1 : Int32) (a2 : Int32) (hL_this : this ∈ σ.1) (hK_this : σ.2.1 this = 12) (this_a : Nat) (hR_this_a : σ.2.2.1 384 this = some this_a) (hL_this_a : this_a ∈ σ.1) (hK_this_a : σ.2.1 this_a = 13) (hN_this_a : σ.2.2.2 this_a = 12720) (hT_this_a : tg this_a = 384) (this_kept : Nat) (hR_this_kept : σ.2.2.1 386 this = some this_kept) (hL_this_kept : this_kept ∈ σ.1) (hK_this_kept : σ.2.1 this_kept = 13) (hN_this_kept : σ.2.2.2 this_kept = 12720) (hT_this_kept : tg this_kept = 386) (this_rings : Nat) (hR_this_rings : σ.2.2.1 414 this = some this_rings) (hL_this_rings : this_rings ∈ σ.1) (hK_this_rings : σ.2.1 this_rings = 13) (hN_this_rings : σ.2.2.2 this_rings = 5) (hT_this_rings : tg this_rings = 414) : MetI l yX12_order (wa yX12_order cX12_order 10 (some .int)) ({ frames := 7, cells := 0, slots := 0, locals := 172 }) [.ref this, .int a0, .int a1, .int a2] D t σ (I, J, ri, rj, rq) sz 0 0 (fun (r : Int32) (u : pq_S × pq_M) => ∃ I' : Nat → Nat → Int32, ∃ ri' : Nat → Nat → Int32, ∃ rj' : Nat → Nat → Int64, u = (σ, I', J, ri', rj', rq) ∧ GM [2001, 2002, 1305, 1304, 1403, 1000, 1001, 1002, 1003, 1004, 1005, 1006, 1007, 1010, 1013, 1014, 1015, 1500, 1501, 1502, 1503, 1504, 1100, 1101, 1102, 1103, 1104, 1300, 1301, 1306, 1308, 1700, 1701, 1702] tg σ I ri I' ri' rq ∧ g_X12_order a0 a1 a2 (vI 12 σ this I) (vJ 12 σ this J) (vR 12 σ this ri) (vL 12 σ this rj) (vQ 12 σ this rq) = (r, (vI 12 σ this I'), (vJ 12 σ this J), (vR 12 σ this ri'), (vL 12 σ this rj'), (vQ 12 σ this rq)) ∧ FR 12 tg σ this (I, J, ri, rj, rq) (I', J, ri', rj', rq)) := by
  refine Met.ofW (cc := cX12_order) (maxL := 10) (ret := (some .int)) (by decide +kernel) rfl ?_
  intro p e s m args below meth c s₁ B hml hv
  obtain ⟨rfl, hsz, hP, hK, hD0, hN⟩ := hv
  have hx := B.exec
  have hb := B.bytes
  have hr := B.returns
  have hts := atoms_spec (ws := (wa yX12_order cX12_order 10 (some .int))) B.pre
  have hown : s.vm.findClass RX12 = some m.cls := findClass_of_methodNamed B.named
  have hlocks := B.notSynchronized
  subst hsz
  have hD : va_D (pq_B t σ (I, J, ri, rj, rq) s.heap.size) (pq_P t σ (I, J, ri, rj, rq)) := hD0.self
  generalize hAe : pq_B t σ (I, J, ri, rj, rq) s.heap.size = A at hD ⊢
  have hA : ∀ q : Nat, s.heap.size ≤ q → A q := fun q h => by rw [← hAe]; exact Or.inr h
  have hS : va_S A s.heap s.heap [] := va_S.rf
  have hG : GM [2001, 2002, 1305, 1304, 1403, 1000, 1001, 1002, 1003, 1004, 1005, 1006, 1007, 1010, 1013, 1014, 1015, 1500, 1501, 1502, 1503, 1504, 1100, 1101, 1102, 1103, 1104, 1300, 1301, 1306, 1308, 1700, 1701, 1702] tg σ I ri I ri rq := ⟨hG0, fun _ _ _ => rfl, fun _ _ _ _ _ => rfl, fun _ _ _ _ _ _ => rfl⟩
  have hl := lv_entry ([.ref this, .int a0, .int a1, .int a2]) (n := 10) (Nat.le_of_ble_eq_true rfl)
  rw [lg_entry_eq]
  generalize (lg_sl ([.ref this, .int a0, .int a1, .int a2]) ++ List.replicate (10 - (lg_sl ([.ref this, .int a0, .int a1, .int a2])).length) Slot.unset).toArray = ls at hl ⊢
  have hl : lv_has ls 10 [(0, .ref this), (1, .int a0), (2, .int a1), (3, .int a2)] := hl
  refine q_gen (fun Q hQ => ?_)
  have go : ∀ (H : Heap) (locs : List Loc) (ls : Array Slot), va_P D vwCl (pq_P t σ (I, J, ri, rj, rq)) H → va_D A (pq_P t σ (I, J, ri, rj, rq)) → va_S A s.heap H locs → lv_has ls 10 [(0, .ref this), (1, .int a0), (2, .int a1), (3, .int a2)] → W p l e ({ frames := 7, cells := 0, slots := 0, locals := 172 } : Room) s m (List.toArray ([.ref this, .int a0, .int a1, .int a2] : List Value)) below meth c H locs 0 0 Q (F0 m 0 ls []) := by
    intro H locs ls hP hD hS hl
    have hO_this : this = vo σ 12 this := rfl
    have hVT : VT 12 σ tg this := vt_12 hSH hL_this hK_this
    have hFr : FR 12 tg σ this (I, J, ri, rj, rq) (I, J, ri, rj, rq) := fr_rf
    have hO_this_a : this_a = vrow σ 384 this := vo_k (c := 12) hO_this hR_this_a
    have hO_this_kept : this_kept = vrow σ 386 this := vo_k (c := 12) hO_this hR_this_kept
    have hO_this_rings : this_rings = vrow σ 414 this := vo_k (c := 12) hO_this hR_this_rings
    obtain ⟨F, hF0⟩ : ∃ F, F = g_X12_order a0 a1 a2 (vI 12 σ this I) (vJ 12 σ this J) (vR 12 σ this ri) (vL 12 σ this rj) (vQ 12 σ this rq) := ⟨_, rfl⟩
    have hF := hF0.trans g_X12_order_e
    refine lv_aload_n hx hb dX12_order_0 rfl (lv_at hl 0 rfl) ?_
    refine lv_iload_n hx hb dX12_order_1 rfl (lv_at hl 2 rfl) ?_
    refine lv_bipush (v := 12) hx hb dX12_order_2 (by decide +kernel) ?_
    refine lv_iload_n hx hb dX12_order_4 rfl (lv_at hl 1 rfl) ?_
    refine pk_i (va_runV (As := [.int a1, .int 12, .int a0]) (rest := []) ⟨hx, hb, hml, hown, hts⟩ (s_X12_isTime l D t σ I J ri rj rq H.size tg hSH hG.1 this a1 (12 : Int32) a0 hL_this hK_this (rg_w (rg_k (12 : Int32) 12 rfl) (by decide +kernel)) this_a hR_this_a hL_this_a hK_this_a hN_this_a hT_this_a) (cwV 3 hts (tw_V tw_1189 tw_1190 tw_1191 tw_5 tw_1192) rfl rfl rfl cv_yX12_isTime_3 ⟨Nat.le_of_ble_eq_true rfl, Nat.le_of_ble_eq_true rfl⟩) ⟨pq_blind, pq_recv hK hP hL_this hK_this (by decide +kernel) rfl, pq_pre hK hN hP hD⟩ rfl rfl hl.1 rfl (lv_room (Nat.le_of_ble_eq_true rfl)) dX12_order_5 ⟨Nat.le_of_ble_eq_true rfl, Nat.le_of_ble_eq_true rfl⟩) hD hS hA (fun x_1 σ1 μ1 H locs hw_2 hP hD hS => ?_)
    obtain ⟨hu_3, hfn_6, hr_5⟩ := hw_2
    obtain ⟨hu_3a, hu_3b⟩ := Prod.mk.inj hu_3
    rw [hu_3a, hu_3b] at hP hD
    replace hF := hF.trans (bn_n hfn_6)
    have h_8 : rg x_1 0 1 := by rcases hr_5 with ⟨q, -⟩ | ⟨q, -⟩ <;> rw [q] <;> exact ⟨by decide +kernel, by decide +kernel⟩
    have uh_8 := h_8.1
    have vh_8 := h_8.2
    have K_474427 : ∀  (H : Heap) (locs : List Loc) (ls : Array Slot), F = g_X12_order_K24 (vI 12 σ this I) (vJ 12 σ this J) (vR 12 σ this ri) (vL 12 σ this rj) (vQ 12 σ this rq)  → FR 12 tg σ this (I, J, ri, rj, rq) (I, J, ri, rj, rq) → GM [2001, 2002, 1305, 1304, 1403, 1000, 1001, 1002, 1003, 1004, 1005, 1006, 1007, 1010, 1013, 1014, 1015, 1500, 1501, 1502, 1503, 1504, 1100, 1101, 1102, 1103, 1104, 1300, 1301, 1306, 1308, 1700, 1701, 1702] tg σ I ri I ri rq → va_P D vwCl (pq_P t σ (I, J, ri, rj, rq)) H → va_D A (pq_P t σ (I, J, ri, rj, rq)) → va_S A s.heap H locs → lv_has ls 10 [] → W p l e ({ frames := 7, cells := 0, slots := 0, locals := 172 } : Room) s m (List.toArray ([.ref this, .int a0, .int a1, .int a2] : List Value)) below meth c H locs 0 0 Q (F0 m 24 ls []) := by
      intro H locs ls hF hFr hG hP hD hS hl
      replace hF := hF.trans g_X12_order_K24_e
      refine lv_iconst (v := (-1)) hx hb dX12_order_24 (by decide +kernel) ?_
      subst hQ
      exact W.iret (v := (-1)) hx hb hr (fun t1 ht hW => ⟨⟨(-1), (σ, I, J, ri, rj, rq), rfl, ⟨I, ri, rj, rfl, hG, (hF0.symm.trans hF), hFr⟩, by rw [ht]; exact hP, va_K.moved hW.alike hK, hD⟩, hS.F ht⟩) hS.2.2 dX12_order_25
    refine lv_if_eq (tgt := 24) hx hb dX12_order_8 (by decide +kernel) (fun c_474428 => ?_) (fun c_474428 => ?_)
    · replace hF := hF.trans (if_pos c_474428)
      have f_474440 := (hr_5.resolve_left (fun q => absurd (q.1.symm.trans c_474428) (by decide +kernel))).2
      have tc_474441 : (x_1).toInt = 0 := congrArg Int32.toInt c_474428
      have h_474442 : rg x_1 0 0 := rg_and h_8 (rg_of_eq c_474428 (rg_k (0 : Int32) 0 rfl)) (by decide +kernel)
      have uh_474442 := h_474442.1
      have vh_474442 := h_474442.2
      exact K_474427 _ _ _ hF hFr hG hP hD hS (lv_sub hl [] rfl)
    · replace hF := hF.trans (if_neg c_474428)
      obtain ⟨f_474443, f_474444, f_474445, f_474446⟩ := (hr_5.resolve_right (fun q => c_474428 q.1)).2
      have uf_474443 := f_474443.1
      have vf_474443 := f_474443.2
      have uf_474444 := f_474444.1
      have vf_474444 := f_474444.2
      have tc_474447 : (a1).toInt ≤ 12 := Int32.le_iff_toInt_le.mp f_474445
      have h_474448 : rg a1 1 12 := rg_le1 f_474445 f_474443 (rg_k (12 : Int32) 12 rfl) (by decide +kernel)
      have uh_474448 := h_474448.1
      have vh_474448 := h_474448.2
      have tc_474449 : (x_1).toInt ≠ 0 := fun q => c_474428 (Int32.toInt_inj.mp q)
      have h_474450 : rg x_1 1 1 := rg_ne c_474428 h_8 0 rfl (by decide +kernel)
      have uh_474450 := h_474450.1
      have vh_474450 := h_474450.2
      refine lv_iload_n hx hb dX12_order_11 rfl (lv_at hl 3 rfl) ?_
      refine lv_iconst (v := (-1)) hx hb dX12_order_12 (by decide +kernel) ?_
      have K_948857 : ∀  (H : Heap) (locs : List Loc) (ls : Array Slot), rg (a2) (-1) 4 → F = g_X12_order_K26 a0 a1 a2 (vI 12 σ this I) (vJ 12 σ this J) (vR 12 σ this ri) (vL 12 σ this rj) (vQ 12 σ this rq)  → FR 12 tg σ this (I, J, ri, rj, rq) (I, J, ri, rj, rq) → GM [2001, 2002, 1305, 1304, 1403, 1000, 1001, 1002, 1003, 1004, 1005, 1006, 1007, 1010, 1013, 1014, 1015, 1500, 1501, 1502, 1503, 1504, 1100, 1101, 1102, 1103, 1104, 1300, 1301, 1306, 1308, 1700, 1701, 1702] tg σ I ri I ri rq → va_P D vwCl (pq_P t σ (I, J, ri, rj, rq)) H → va_D A (pq_P t σ (I, J, ri, rj, rq)) → va_S A s.heap H locs → lv_has ls 10 [(0, .ref this), (1, .int a0), (2, .int a1), (3, .int a2)] → W p l e ({ frames := 7, cells := 0, slots := 0, locals := 172 } : Room) s m (List.toArray ([.ref this, .int a0, .int a1, .int a2] : List Value)) below meth c H locs 0 0 Q (F0 m 26 ls []) := by
        intro H locs ls h_948859 hF hFr hG hP hD hS hl
        have uh_948859 := h_948859.1
        have vh_948859 := h_948859.2
        replace hF := hF.trans g_X12_order_K26_e
        refine lv_aload_n hx hb dX12_order_26 rfl (lv_at hl 0 rfl) ?_
        refine pg_f (v := .ref this_a) (C := RX12) (T := TX12) (N := 31) hx hb hts (tw_i inlX12) hown hK hP hL_this hK_this (by decide +kernel) rfl 0 (by decide +kernel) (hts _ (tw_c tw_176)) (pq_hv rfl hR_this_a) dX12_order_27 ?_
        refine lv_aload_n hx hb dX12_order_30 rfl (lv_at hl 0 rfl) ?_
        refine pg_f (v := .ref this_kept) (C := RX12) (T := TX12) (N := 31) hx hb hts (tw_i inlX12) hown hK hP hL_this hK_this (by decide +kernel) rfl 2 (by decide +kernel) (hts _ (tw_c tw_178)) (pq_hv rfl hR_this_kept) dX12_order_31 ?_
        refine pk_v (va_runS (As := [.ref this_a, .ref this_kept]) (rest := []) ⟨hx, hb, hml, hown, hts⟩ (c_X12_copy l D t σ I J ri rj rq H.size this_a this_kept 12720 hL_this_a hK_this_a hN_this_a hL_this_kept hK_this_kept hN_this_kept rfl (tg_ne hT_this_a hT_this_kept (by decide +kernel))) (va_cwS 2 hts (tw_S tw_192 tw_193 tw_5 tw_194) rfl rfl rfl cd_yX12_copy_2 ⟨Nat.le_of_ble_eq_true rfl, Nat.le_of_ble_eq_true rfl⟩) ⟨pq_blind, pq_pre hK hN hP hD⟩ rfl rfl hl.1 rfl (lv_room (Nat.le_of_ble_eq_true rfl)) dX12_order_34 ⟨Nat.le_of_ble_eq_true rfl, Nat.le_of_ble_eq_true rfl⟩) hD hS hA (fun σ1 μ1 H locs hw_948861 hP hD hS => ?_)
        obtain ⟨ri_948862, hu_948863, hp_948866, hp_948867, hp_948868⟩ := hw_948861
        obtain ⟨hu_948863a, hu_948863b⟩ := Prod.mk.inj hu_948863
        rw [hu_948863a, hu_948863b] at hP hD
        replace hF := hF.trans (ap_n (vR_cp hVT hO_this_kept (by decide +kernel) (funext fun _ => (vR_r hO_this_a (by decide +kernel) rfl)) hp_948868))
        replace hFr := fr_R hFr hO_this_kept (by decide +kernel) hp_948868
        have tt_948871 : (ri_948862 this_kept 0).toInt = (ri this_a 0).toInt := congrArg Int32.toInt (hp_948866 0 (by decide +kernel))
        have tt_948872 : (ri_948862 this_a 0).toInt = (ri this_a 0).toInt := congrArg Int32.toInt (congrFun (hp_948867 this_a (tg_ne hT_this_a hT_this_kept (by decide +kernel))) 0)
        have hG := GM.cp hG hT_this_a hT_this_kept (by decide +kernel) hp_948866 hp_948867 (by decide +kernel)
        refine lv_aload_n hx hb dX12_order_37 rfl (lv_at hl 0 rfl) ?_
        refine pg_f (v := .ref this_a) (C := RX12) (T := TX12) (N := 31) hx hb hts (tw_i inlX12) hown hK hP hL_this hK_this (by decide +kernel) rfl 0 (by decide +kernel) (hts _ (tw_c tw_176)) (pq_hv rfl hR_this_a) dX12_order_38 ?_
        refine lv_iconst (v := 1) hx hb dX12_order_41 (by decide +kernel) ?_
        refine pl_i hx hb hK hP hL_this_a hK_this_a hN_this_a (vp_in_iff.mpr (by decide +kernel)) dX12_order_42 ?_
        refine lv_topi (fun x_948873 ex_948873 => ?_)
        replace hF := hF.trans (ap_n (vR_r hO_this_a (by decide +kernel) ex_948873))
        have h_948874 : rg x_948873 0 5 := rg_of_eq ex_948873 (GM.z hG (by rw [hT_this_a]; decide) (show zn ((1 : Int32)).toNatClampNeg = 1 from by decide +kernel) rfl)
        have uh_948874 := h_948874.1
        have vh_948874 := h_948874.2
        refine lv_istore (lv' := [(4, .int x_948873), (0, .ref this), (1, .int a0), (2, .int a1), (3, .int a2)]) hx hb dX12_order_43 hl (by decide +kernel) rfl (fun ls hl => ?_)
        refine lv_iconst (v := 0) hx hb dX12_order_45 (by decide +kernel) ?_
        refine lv_istore (lv' := [(5, .int 0), (4, .int x_948873), (0, .ref this), (1, .int a0), (2, .int a1), (3, .int a2)]) hx hb dX12_order_46 hl (by decide +kernel) rfl (fun ls hl => ?_)
        have L_1304670 : ∀ (n_1304669 : Nat) (x_1186090 : Int32) (ri_1186091 : Nat → Nat → Int32) (H : Heap) (locs : List Loc) (ls : Array Slot), rg x_1186090 0 5 → ((ri_1186091 this_a 0).toInt = (ri this_a 0).toInt ∧ (ri_1186091 this_kept 0).toInt = (ri this_a 0).toInt) → (∀ j : Nat, (j : Int) < (x_1186090).toInt → (ri_1186091 this_rings j).toInt = j) → (5 - (x_1186090).toInt).toNat < n_1304669 → F = g_X12_order_L48 a0 a1 a2 (vI 12 σ this I) (vJ 12 σ this J) (vL 12 σ this rj) (vQ 12 σ this rq) x_948873 n_1304669 x_1186090 (vR 12 σ this ri_1186091) → FR 12 tg σ this (I, J, ri, rj, rq) (I, J, ri_1186091, rj, rq) → GM [2001, 2002, 1305, 1304, 1403, 1000, 1001, 1002, 1003, 1004, 1005, 1006, 1007, 1010, 1013, 1014, 1015, 1500, 1501, 1502, 1503, 1504, 1100, 1101, 1102, 1103, 1104, 1300, 1301, 1306, 1308, 1700, 1701, 1702] tg σ I ri I ri_1186091 rq → va_P D vwCl (pq_P t σ (I, J, ri_1186091, rj, rq)) H → va_D A (pq_P t σ (I, J, ri_1186091, rj, rq)) → va_S A s.heap H locs → lv_has ls 10 [(0, .ref this), (1, .int a0), (2, .int a1), (3, .int a2), (4, .int x_948873), (5, .int x_1186090)] → W p l e ({ frames := 7, cells := 0, slots := 0, locals := 172 } : Room) s m (List.toArray ([.ref this, .int a0, .int a1, .int a2] : List Value)) below meth c H locs 0 0 Q (F0 m 48 ls []) := by
          intro n_1304669
          induction n_1304669 with
          | zero => intro x_1186090 ri_1186091 H locs ls h_1304675 hrel_1304676 hrel_1304677 hm_1304668 hF hFr hG hP hD hS hl; exact absurd hm_1304668 (Nat.not_lt_zero _)
          | succ n_1304669 ih_1304671 =>
            intro x_1186090 ri_1186091 H locs ls h_1304675 hrel_1304676 hrel_1304677 hm_1304668 hF hFr hG hP hD hS hl
            have uh_1304675 := h_1304675.1
            have vh_1304675 := h_1304675.2
            replace hF := hF.trans g_X12_order_L48_e
            refine lv_iload hx hb dX12_order_48 (lv_at hl 5 rfl) ?_
            refine lv_iconst (v := 5) hx hb dX12_order_50 (by decide +kernel) ?_
            refine lv_icmp_ge (tgt := 69) hx hb dX12_order_51 (by decide +kernel) (fun c_1304678 => ?_) (fun c_1304678 => ?_)
            · replace hF := hF.trans (if_pos c_1304678)
              have tc_1304683 : 5 ≤ (x_1186090).toInt := Int32.le_iff_toInt_le.mp c_1304678
              have h_1304684 : rg x_1186090 5 5 := rg_le2 c_1304678 (rg_k (5 : Int32) 5 rfl) h_1304675 (by decide +kernel)
              have uh_1304684 := h_1304684.1
              have vh_1304684 := h_1304684.2
              refine lv_iconst (v := (-1)) hx hb dX12_order_69 (by decide +kernel) ?_
              refine lv_istore (lv' := [(5, .int (-1)), (0, .ref this), (1, .int a0), (2, .int a1), (3, .int a2), (4, .int x_948873)]) hx hb dX12_order_70 hl (by decide +kernel) rfl (fun ls hl => ?_)
              refine lv_aload_n hx hb dX12_order_72 rfl (lv_at hl 1 rfl) ?_
              refine lv_iconst (v := 1) hx hb dX12_order_73 (by decide +kernel) ?_
              refine pp_i (v := 1) (ty := .int) (C := RX12) (T := TX12) (N := 31) hx hb hts (tw_i inlX12) tyX12 tyX12_ok nmX12 hown hK hP hD hS hL_this hK_this (by decide +kernel) rfl 23 407 (by decide +kernel) (hts _ (tw_c tw_1238)) rfl (tyX12_ok 23 (by decide +kernel)) rfl rfl (Nat.le_of_ble_eq_true rfl) (ps_407 _ _ _ _ _) dX12_order_74 (fun I_1304685 H locs eI_1304685 hP hD hS => ?_)
              replace hFr := fr_I (f := 407) hFr hO_this (by decide +kernel) eI_1304685
              replace hF := hF.trans (ap_n (vI_st (f := 407) hO_this (by decide +kernel) eI_1304685))
              have hG := GM.wI hG 407 rfl eI_1304685 (rg_w (rg_k (1 : Int32) 1 rfl) (by decide +kernel)) (by decide +kernel)
              refine lv_iconst (v := 1) hx hb dX12_order_77 (by decide +kernel) ?_
              refine lv_istore (lv' := [(6, .int 1), (5, .int (-1)), (0, .ref this), (1, .int a0), (2, .int a1), (3, .int a2), (4, .int x_948873)]) hx hb dX12_order_78 hl (by decide +kernel) rfl (fun ls hl => ?_)
              have L_1402981 : ∀ (n_1402980 : Nat) (x_1382707 : Int32) (x_1382708 : Int32) (I_1382709 : Nat → Nat → Int32) (ri_1382710 : Nat → Nat → Int32) (rj_1382711 : Nat → Nat → Int64) (H : Heap) (locs : List Loc) (ls : Array Slot), rg x_1382708 0 1 → ((ri_1382710 this_a 0).toInt = (ri this_a 0).toInt ∧ (ri_1382710 this_kept 0).toInt = (ri this_a 0).toInt) → (InjI (x_948873).toInt (ri_1382710 this_rings)) → (2 * (3125 - lexM (ri_1382710 this_rings)) + (x_1382708).toInt).toNat < n_1402980 → F = g_X12_order_L80 a0 a1 a2 (vJ 12 σ this J) (vQ 12 σ this rq) x_948873 n_1402980 x_1382707 x_1382708 (vI 12 σ this I_1382709) (vR 12 σ this ri_1382710) (vL 12 σ this rj_1382711) → FR 12 tg σ this (I, J, ri, rj, rq) (I_1382709, J, ri_1382710, rj_1382711, rq) → GM [2001, 2002, 1305, 1304, 1403, 1000, 1001, 1002, 1003, 1004, 1005, 1006, 1007, 1010, 1013, 1014, 1015, 1500, 1501, 1502, 1503, 1504, 1100, 1101, 1102, 1103, 1104, 1300, 1301, 1306, 1308, 1700, 1701, 1702] tg σ I ri I_1382709 ri_1382710 rq → va_P D vwCl (pq_P t σ (I_1382709, J, ri_1382710, rj_1382711, rq)) H → va_D A (pq_P t σ (I_1382709, J, ri_1382710, rj_1382711, rq)) → va_S A s.heap H locs → lv_has ls 10 [(0, .ref this), (1, .int a0), (2, .int a1), (3, .int a2), (4, .int x_948873), (5, .int x_1382707), (6, .int x_1382708)] → W p l e ({ frames := 7, cells := 0, slots := 0, locals := 172 } : Room) s m (List.toArray ([.ref this, .int a0, .int a1, .int a2] : List Value)) below meth c H locs 0 0 Q (F0 m 80 ls []) := by
                intro n_1402980
                induction n_1402980 with
                | zero => intro x_1382707 x_1382708 I_1382709 ri_1382710 rj_1382711 H locs ls h_1402986 hrel_1402987 hrel_1402988 hm_1402979 hF hFr hG hP hD hS hl; exact absurd hm_1402979 (Nat.not_lt_zero _)
                | succ n_1402980 ih_1402982 =>
                  intro x_1382707 x_1382708 I_1382709 ri_1382710 rj_1382711 H locs ls h_1402986 hrel_1402987 hrel_1402988 hm_1402979 hF hFr hG hP hD hS hl
                  have uh_1402986 := h_1402986.1
                  have vh_1402986 := h_1402986.2
                  replace hF := hF.trans g_X12_order_L80_e
                  refine lv_iload hx hb dX12_order_80 (lv_at hl 6 rfl) ?_
                  refine lv_if_eq (tgt := 218) hx hb dX12_order_82 (by decide +kernel) (fun c_1402989 => ?_) (fun c_1402989 => ?_)
                  · replace hF := hF.trans (if_pos c_1402989)
                    have tc_1402994 : (x_1382708).toInt = 0 := congrArg Int32.toInt c_1402989
                    have h_1402995 : rg x_1382708 0 0 := rg_and h_1402986 (rg_of_eq c_1402989 (rg_k (0 : Int32) 0 rfl)) (by decide +kernel)
                    have uh_1402995 := h_1402995.1
                    have vh_1402995 := h_1402995.2
                    refine lv_aload_n hx hb dX12_order_218 rfl (lv_at hl 0 rfl) ?_
                    refine lv_iconst (v := 0) hx hb dX12_order_219 (by decide +kernel) ?_
                    refine pp_i (v := 0) (ty := .int) (C := RX12) (T := TX12) (N := 31) hx hb hts (tw_i inlX12) tyX12 tyX12_ok nmX12 hown hK hP hD hS hL_this hK_this (by decide +kernel) rfl 23 407 (by decide +kernel) (hts _ (tw_c tw_1238)) rfl (tyX12_ok 23 (by decide +kernel)) rfl rfl (Nat.le_of_ble_eq_true rfl) (ps_407 _ _ _ _ _) dX12_order_220 (fun I_1402996 H locs eI_1402996 hP hD hS => ?_)
                    replace hFr := fr_I (f := 407) hFr hO_this (by decide +kernel) eI_1402996
                    replace hF := hF.trans (ap_n (vI_st (f := 407) hO_this (by decide +kernel) eI_1402996))
                    have hG := GM.wI hG 407 rfl eI_1402996 (rg_w (rg_k (0 : Int32) 0 rfl) (by decide +kernel)) (by decide +kernel)
                    refine lv_iload_n hx hb dX12_order_223 rfl (lv_at hl 3 rfl) ?_
                    refine lv_iconst (v := (-1)) hx hb dX12_order_224 (by decide +kernel) ?_
                    refine lv_icmp_ne (tgt := 233) hx hb dX12_order_225 (by decide +kernel) (fun c_1402997 => ?_) (fun c_1402997 => ?_)
                    · replace hF := hF.trans (if_neg c_1402997)
                      have tc_1403002 : (a2).toInt ≠ (-1) := fun q => c_1402997 (Int32.toInt_inj.mp q)
                      have h_1403003 : rg a2 0 4 := rg_ne c_1402997 h_948859 (-1) rfl (by decide +kernel)
                      have uh_1403003 := h_1403003.1
                      have vh_1403003 := h_1403003.2
                      refine lv_aload_n hx hb dX12_order_233 rfl (lv_at hl 0 rfl) ?_
                      obtain ⟨w_1403004, hR_w_1403004, hL_w_1403004, hK_w_1403004, hN_w_1403004, hT_w_1403004⟩ := sh_a hSH 413 (ci := 12) (kd := 13) (len := 5) rfl (by decide +kernel) hL_this hK_this
                      have hO_w_1403004 : w_1403004 = vrow σ 413 this := vo_k (c := 12) hO_this hR_w_1403004
                      refine pg_f (v := .ref w_1403004) (C := RX12) (T := TX12) (N := 31) hx hb hts (tw_i inlX12) hown hK hP hL_this hK_this (by decide +kernel) rfl 29 (by decide +kernel) (hts _ (tw_c tw_190)) (pq_hv rfl hR_w_1403004) dX12_order_234 ?_
                      refine lv_iload_n hx hb dX12_order_237 rfl (lv_at hl 3 rfl) ?_
                      refine pl_i hx hb hK hP hL_w_1403004 hK_w_1403004 hN_w_1403004 (rg_in h_1403003 (by decide +kernel)) dX12_order_238 ?_
                      refine lv_topi (fun x_1403005 ex_1403005 => ?_)
                      replace hF := hF.trans (ap_n (vR_r hO_w_1403004 (by decide +kernel) ex_1403005))
                      subst hQ
                      exact W.iret (v := x_1403005) hx hb hr (fun t1 ht hW => ⟨⟨x_1403005, (σ, I_1402996, J, ri_1382710, rj_1382711, rq), rfl, ⟨I_1402996, ri_1382710, rj_1382711, rfl, hG, (hF0.symm.trans hF), hFr⟩, by rw [ht]; exact hP, va_K.moved hW.alike hK, hD⟩, hS.F ht⟩) hS.2.2 dX12_order_239
                    · replace hF := hF.trans (if_pos c_1402997)
                      have tc_1403006 : (a2).toInt = (-1) := congrArg Int32.toInt c_1402997
                      have h_1403007 : rg a2 (-1) (-1) := rg_and h_948859 (rg_of_eq c_1402997 (rg_k (-1 : Int32) (-1) rfl)) (by decide +kernel)
                      have uh_1403007 := h_1403007.1
                      have vh_1403007 := h_1403007.2
                      refine lv_iload hx hb dX12_order_228 (lv_at hl 5 rfl) ?_
                      refine lv_goto (tgt := 239) hx hb dX12_order_230 (by decide +kernel) ?_
                      subst hQ
                      exact W.iret (v := x_1382707) hx hb hr (fun t1 ht hW => ⟨⟨x_1382707, (σ, I_1402996, J, ri_1382710, rj_1382711, rq), rfl, ⟨I_1402996, ri_1382710, rj_1382711, rfl, hG, (hF0.symm.trans hF), hFr⟩, by rw [ht]; exact hP, va_K.moved hW.alike hK, hD⟩, hS.F ht⟩) hS.2.2 dX12_order_239
                  · replace hF := hF.trans (if_neg c_1402989)
                    have tc_1403008 : (x_1382708).toInt ≠ 0 := fun q => c_1402989 (Int32.toInt_inj.mp q)
                    have h_1403009 : rg x_1382708 1 1 := rg_ne c_1402989 h_1402986 0 rfl (by decide +kernel)
                    have uh_1403009 := h_1403009.1
                    have vh_1403009 := h_1403009.2
                    refine lv_iconst (v := 0) hx hb dX12_order_85 (by decide +kernel) ?_
                    refine lv_istore (lv' := [(7, .int 0), (0, .ref this), (1, .int a0), (2, .int a1), (3, .int a2), (4, .int x_948873), (5, .int x_1382707), (6, .int x_1382708)]) hx hb dX12_order_86 hl (by decide +kernel) rfl (fun ls hl => ?_)
                    have L_1420215 : ∀ (n_1420214 : Nat) (x_1417165 : Int32) (ri_1417166 : Nat → Nat → Int32) (H : Heap) (locs : List Loc) (ls : Array Slot), rg x_1417165 0 5 → ((ri_1417166 this_a 0).toInt = (ri this_a 0).toInt ∧ (ri_1417166 this_kept 0).toInt = (ri this_a 0).toInt) → (ri_1417166 this_rings = ri_1382710 this_rings) → (5 - (x_1417165).toInt).toNat < n_1420214 → F = g_X12_order_L88 a0 a1 (vJ 12 σ this J) (vQ 12 σ this rq) x_948873 x_1382707 (vI 12 σ this I_1382709) (vL 12 σ this rj_1382711) (g_X12_order_L80 a0 a1 a2 (vJ 12 σ this J) (vQ 12 σ this rq) x_948873 n_1402980) n_1420214 x_1417165 (vR 12 σ this ri_1417166) → FR 12 tg σ this (I, J, ri, rj, rq) (I_1382709, J, ri_1417166, rj_1382711, rq) → GM [2001, 2002, 1305, 1304, 1403, 1000, 1001, 1002, 1003, 1004, 1005, 1006, 1007, 1010, 1013, 1014, 1015, 1500, 1501, 1502, 1503, 1504, 1100, 1101, 1102, 1103, 1104, 1300, 1301, 1306, 1308, 1700, 1701, 1702] tg σ I ri I_1382709 ri_1417166 rq → va_P D vwCl (pq_P t σ (I_1382709, J, ri_1417166, rj_1382711, rq)) H → va_D A (pq_P t σ (I_1382709, J, ri_1417166, rj_1382711, rq)) → va_S A s.heap H locs → lv_has ls 10 [(0, .ref this), (1, .int a0), (2, .int a1), (3, .int a2), (4, .int x_948873), (5, .int x_1382707), (7, .int x_1417165)] → W p l e ({ frames := 7, cells := 0, slots := 0, locals := 172 } : Room) s m (List.toArray ([.ref this, .int a0, .int a1, .int a2] : List Value)) below meth c H locs 0 0 Q (F0 m 88 ls []) := by
                      intro n_1420214
                      induction n_1420214 with
                      | zero => intro x_1417165 ri_1417166 H locs ls h_1420220 hrel_1420221 hrel_1420222 hm_1420213 hF hFr hG hP hD hS hl; exact absurd hm_1420213 (Nat.not_lt_zero _)
                      | succ n_1420214 ih_1420216 =>
                        intro x_1417165 ri_1417166 H locs ls h_1420220 hrel_1420221 hrel_1420222 hm_1420213 hF hFr hG hP hD hS hl
                        have uh_1420220 := h_1420220.1
                        have vh_1420220 := h_1420220.2
                        replace hF := hF.trans g_X12_order_L88_e
                        refine lv_iload hx hb dX12_order_88 (lv_at hl 6 rfl) ?_
                        refine lv_iload hx hb dX12_order_90 (lv_at hl 4 rfl) ?_
                        refine lv_icmp_ge (tgt := 115) hx hb dX12_order_92 (by decide +kernel) (fun c_1420223 => ?_) (fun c_1420223 => ?_)
                        · replace hF := hF.trans (if_pos c_1420223)
                          have tc_1420228 : (x_948873).toInt ≤ (x_1417165).toInt := Int32.le_iff_toInt_le.mp c_1420223
                          refine lv_aload_n hx hb dX12_order_115 rfl (lv_at hl 0 rfl) ?_
                          refine pk_i (va_runV (As := []) (rest := []) ⟨hx, hb, hml, hown, hts⟩ (s_X12_wants l D t σ I_1382709 J ri_1417166 rj_1382711 rq H.size tg hSH hG.1 this hL_this hK_this) (cwV 0 hts (tw_V tw_1487 tw_1488 tw_1489 tw_5 tw_1490) rfl rfl rfl cv_yX12_wants_0 ⟨Nat.le_of_ble_eq_true rfl, Nat.le_of_ble_eq_true rfl⟩) ⟨pq_blind, pq_recv hK hP hL_this hK_this (by decide +kernel) rfl, pq_pre hK hN hP hD⟩ rfl rfl hl.1 rfl (lv_room (Nat.le_of_ble_eq_true rfl)) dX12_order_116 ⟨Nat.le_of_ble_eq_true rfl, Nat.le_of_ble_eq_true rfl⟩) hD hS hA (fun x_1420229 σ1 μ1 H locs hw_1420230 hP hD hS => ?_)
                          obtain ⟨hu_1420231, hfn_1420234⟩ := hw_1420230
                          obtain ⟨hu_1420231a, hu_1420231b⟩ := Prod.mk.inj hu_1420231
                          rw [hu_1420231a, hu_1420231b] at hP hD
                          replace hF := hF.trans (bn_n hfn_1420234)
                          refine lv_istore (lv' := [(7, .int x_1420229), (0, .ref this), (1, .int a0), (2, .int a1), (3, .int a2), (4, .int x_948873), (5, .int x_1382707)]) hx hb dX12_order_119 hl (by decide +kernel) rfl (fun ls hl => ?_)
                          refine lv_iconst (v := 0) hx hb dX12_order_121 (by decide +kernel) ?_
                          refine lv_istore (lv' := [(8, .int 0), (7, .int x_1420229), (0, .ref this), (1, .int a0), (2, .int a1), (3, .int a2), (4, .int x_948873), (5, .int x_1382707)]) hx hb dX12_order_122 hl (by decide +kernel) rfl (fun ls hl => ?_)
                          have L_1422965 : ∀ (n_1422964 : Nat) (x_1422665 : Int32) (I_1422666 : Nat → Nat → Int32) (ri_1422667 : Nat → Nat → Int32) (rj_1422668 : Nat → Nat → Int64) (H : Heap) (locs : List Loc) (ls : Array Slot), rg x_1422665 0 12 → ((ri_1422667 this_a 0).toInt = (ri this_a 0).toInt + (x_1422665).toInt ∧ (ri_1422667 this_kept 0).toInt = (ri this_a 0).toInt) → (ri_1422667 this_rings = ri_1382710 this_rings) → (12 - (x_1422665).toInt).toNat < n_1422964 → F = g_X12_order_L124 a0 a1 (vJ 12 σ this J) (vQ 12 σ this rq) x_948873 x_1382707 (g_X12_order_L80 a0 a1 a2 (vJ 12 σ this J) (vQ 12 σ this rq) x_948873 n_1402980) x_1420229 n_1422964 x_1422665 (vI 12 σ this I_1422666) (vR 12 σ this ri_1422667) (vL 12 σ this rj_1422668) → FR 12 tg σ this (I, J, ri, rj, rq) (I_1422666, J, ri_1422667, rj_1422668, rq) → GM [2001, 2002, 1305, 1304, 1403, 1000, 1001, 1002, 1003, 1004, 1005, 1006, 1007, 1010, 1013, 1014, 1015, 1500, 1501, 1502, 1503, 1504, 1100, 1101, 1102, 1103, 1104, 1300, 1301, 1306, 1308, 1700, 1701, 1702] tg σ I ri I_1422666 ri_1422667 rq → va_P D vwCl (pq_P t σ (I_1422666, J, ri_1422667, rj_1422668, rq)) H → va_D A (pq_P t σ (I_1422666, J, ri_1422667, rj_1422668, rq)) → va_S A s.heap H locs → lv_has ls 10 [(0, .ref this), (1, .int a0), (2, .int a1), (3, .int a2), (4, .int x_948873), (5, .int x_1382707), (7, .int x_1420229), (8, .int x_1422665)] → W p l e ({ frames := 7, cells := 0, slots := 0, locals := 172 } : Room) s m (List.toArray ([.ref this, .int a0, .int a1, .int a2] : List Value)) below meth c H locs 0 0 Q (F0 m 124 ls []) := by
                            intro n_1422964
                            induction n_1422964 with
                            | zero => intro x_1422665 I_1422666 ri_1422667 rj_1422668 H locs ls h_1422970 hrel_1422971 hrel_1422972 hm_1422963 hF hFr hG hP hD hS hl; exact absurd hm_1422963 (Nat.not_lt_zero _)
                            | succ n_1422964 ih_1422966 =>
                              intro x_1422665 I_1422666 ri_1422667 rj_1422668 H locs ls h_1422970 hrel_1422971 hrel_1422972 hm_1422963 hF hFr hG hP hD hS hl
                              have uh_1422970 := h_1422970.1
                              have vh_1422970 := h_1422970.2
                              replace hF := hF.trans g_X12_order_L124_e
                              refine lv_iload hx hb dX12_order_124 (lv_at hl 7 rfl) ?_
                              refine lv_iload_n hx hb dX12_order_126 rfl (lv_at hl 2 rfl) ?_
                              refine lv_icmp_ge (tgt := 141) hx hb dX12_order_127 (by decide +kernel) (fun c_1422973 => ?_) (fun c_1422973 => ?_)
                              · replace hF := hF.trans (if_pos c_1422973)
                                have tc_1422978 : (a1).toInt ≤ (x_1422665).toInt := Int32.le_iff_toInt_le.mp c_1422973
                                have h_1422979 : rg x_1422665 1 12 := rg_le2 c_1422973 h_474448 h_1422970 (by decide +kernel)
                                have uh_1422979 := h_1422979.1
                                have vh_1422979 := h_1422979.2
                                refine lv_aload_n hx hb dX12_order_141 rfl (lv_at hl 0 rfl) ?_
                                refine pk_i (va_runV (As := []) (rest := []) ⟨hx, hb, hml, hown, hts⟩ (s_X12_wants l D t σ I_1422666 J ri_1422667 rj_1422668 rq H.size tg hSH hG.1 this hL_this hK_this) (cwV 0 hts (tw_V tw_1487 tw_1488 tw_1489 tw_5 tw_1490) rfl rfl rfl cv_yX12_wants_0 ⟨Nat.le_of_ble_eq_true rfl, Nat.le_of_ble_eq_true rfl⟩) ⟨pq_blind, pq_recv hK hP hL_this hK_this (by decide +kernel) rfl, pq_pre hK hN hP hD⟩ rfl rfl hl.1 rfl (lv_room (Nat.le_of_ble_eq_true rfl)) dX12_order_142 ⟨Nat.le_of_ble_eq_true rfl, Nat.le_of_ble_eq_true rfl⟩) hD hS hA (fun x_1422980 σ1 μ1 H locs hw_1422981 hP hD hS => ?_)
                                obtain ⟨hu_1422982, hfn_1422985⟩ := hw_1422981
                                obtain ⟨hu_1422982a, hu_1422982b⟩ := Prod.mk.inj hu_1422982
                                rw [hu_1422982a, hu_1422982b] at hP hD
                                replace hF := hF.trans (bn_n hfn_1422985)
                                refine lv_iload hx hb dX12_order_145 (lv_at hl 6 rfl) ?_
                                refine lv_isub hx hb dX12_order_147 ?_
                                refine lv_topi (fun x_1422987 ex_1422987 => ?_)
                                replace hF := hF.trans (ap_n ex_1422987)
                                refine lv_istore (lv' := [(8, .int x_1422987), (0, .ref this), (1, .int a0), (2, .int a1), (3, .int a2), (4, .int x_948873), (5, .int x_1382707), (7, .int x_1420229)]) hx hb dX12_order_148 hl (by decide +kernel) rfl (fun ls hl => ?_)
                                refine lv_aload_n hx hb dX12_order_150 rfl (lv_at hl 1 rfl) ?_
                                refine pg_f (v := .ref this_kept) (C := RX12) (T := TX12) (N := 31) hx hb hts (tw_i inlX12) hown hK hP hL_this hK_this (by decide +kernel) rfl 2 (by decide +kernel) (hts _ (tw_c tw_178)) (pq_hv rfl hR_this_kept) dX12_order_151 ?_
                                refine lv_aload_n hx hb dX12_order_154 rfl (lv_at hl 1 rfl) ?_
                                refine pg_f (v := .ref this_a) (C := RX12) (T := TX12) (N := 31) hx hb hts (tw_i inlX12) hown hK hP hL_this hK_this (by decide +kernel) rfl 0 (by decide +kernel) (hts _ (tw_c tw_176)) (pq_hv rfl hR_this_a) dX12_order_155 ?_
                                refine pk_v (va_runS (As := [.ref this_kept, .ref this_a]) (rest := []) ⟨hx, hb, hml, hown, hts⟩ (c_X12_copy l D t σ I_1422666 J ri_1422667 rj_1422668 rq H.size this_kept this_a 12720 hL_this_kept hK_this_kept hN_this_kept hL_this_a hK_this_a hN_this_a rfl (tg_ne hT_this_kept hT_this_a (by decide +kernel))) (va_cwS 2 hts (tw_S tw_192 tw_193 tw_5 tw_194) rfl rfl rfl cd_yX12_copy_2 ⟨Nat.le_of_ble_eq_true rfl, Nat.le_of_ble_eq_true rfl⟩) ⟨pq_blind, pq_pre hK hN hP hD⟩ rfl rfl hl.1 rfl (lv_room (Nat.le_of_ble_eq_true rfl)) dX12_order_158 ⟨Nat.le_of_ble_eq_true rfl, Nat.le_of_ble_eq_true rfl⟩) hD hS hA (fun σ1 μ1 H locs hw_1422989 hP hD hS => ?_)
                                obtain ⟨ri_1422990, hu_1422991, hp_1422994, hp_1422995, hp_1422996⟩ := hw_1422989
                                obtain ⟨hu_1422991a, hu_1422991b⟩ := Prod.mk.inj hu_1422991
                                rw [hu_1422991a, hu_1422991b] at hP hD
                                replace hF := hF.trans (ap_n (vR_cp hVT hO_this_a (by decide +kernel) (funext fun _ => (vR_r hO_this_kept (by decide +kernel) rfl)) hp_1422996))
                                replace hFr := fr_R hFr hO_this_a (by decide +kernel) hp_1422996
                                have tt_1422999 : (ri_1422990 this_a 0).toInt = (ri_1422667 this_kept 0).toInt := congrArg Int32.toInt (hp_1422994 0 (by decide +kernel))
                                have tt_1423000 : (ri_1422990 this_kept 0).toInt = (ri_1422667 this_kept 0).toInt := congrArg Int32.toInt (congrFun (hp_1422995 this_kept (tg_ne hT_this_kept hT_this_a (by decide +kernel))) 0)
                                have hG := GM.cp hG hT_this_kept hT_this_a (by decide +kernel) hp_1422994 hp_1422995 (by decide +kernel)
                                refine lv_iload hx hb dX12_order_161 (lv_at hl 6 rfl) ?_
                                have K_1423251 : ∀  (H : Heap) (locs : List Loc) (ls : Array Slot), F = g_X12_order_K173 (vJ 12 σ this J) (vQ 12 σ this rq) x_948873 (g_X12_order_L80 a0 a1 a2 (vJ 12 σ this J) (vQ 12 σ this rq) x_948873 n_1402980) (vI 12 σ this I_1422666) (vL 12 σ this rj_1422668) x_1422987 (vR 12 σ this ri_1422990)  → FR 12 tg σ this (I, J, ri, rj, rq) (I_1422666, J, ri_1422990, rj_1422668, rq) → GM [2001, 2002, 1305, 1304, 1403, 1000, 1001, 1002, 1003, 1004, 1005, 1006, 1007, 1010, 1013, 1014, 1015, 1500, 1501, 1502, 1503, 1504, 1100, 1101, 1102, 1103, 1104, 1300, 1301, 1306, 1308, 1700, 1701, 1702] tg σ I ri I_1422666 ri_1422990 rq → va_P D vwCl (pq_P t σ (I_1422666, J, ri_1422990, rj_1422668, rq)) H → va_D A (pq_P t σ (I_1422666, J, ri_1422990, rj_1422668, rq)) → va_S A s.heap H locs → lv_has ls 10 [(0, .ref this), (1, .int a0), (2, .int a1), (3, .int a2), (4, .int x_948873), (8, .int x_1422987)] → W p l e ({ frames := 7, cells := 0, slots := 0, locals := 172 } : Room) s m (List.toArray ([.ref this, .int a0, .int a1, .int a2] : List Value)) below meth c H locs 0 0 Q (F0 m 173 ls []) := by
                                  intro H locs ls hF hFr hG hP hD hS hl
                                  replace hF := hF.trans g_X12_order_K173_e
                                  refine lv_iload hx hb dX12_order_173 (lv_at hl 5 rfl) ?_
                                  refine lv_istore (lv' := [(5, .int x_1422987), (0, .ref this), (1, .int a0), (2, .int a1), (3, .int a2), (4, .int x_948873), (8, .int x_1422987)]) hx hb dX12_order_175 hl (by decide +kernel) rfl (fun ls hl => ?_)
                                  refine lv_iconst (v := 0) hx hb dX12_order_177 (by decide +kernel) ?_
                                  refine lv_istore (lv' := [(9, .int 0), (5, .int x_1422987), (0, .ref this), (1, .int a0), (2, .int a1), (3, .int a2), (4, .int x_948873), (8, .int x_1422987)]) hx hb dX12_order_178 hl (by decide +kernel) rfl (fun ls hl => ?_)
                                  have L_1423454 : ∀ (n_1423453 : Nat) (x_1423423 : Int32) (ri_1423424 : Nat → Nat → Int32) (H : Heap) (locs : List Loc) (ls : Array Slot), rg x_1423423 0 5 → ((ri_1423424 this_a 0).toInt = (ri this_a 0).toInt ∧ (ri_1423424 this_kept 0).toInt = (ri this_a 0).toInt) → (ri_1423424 this_rings = ri_1382710 this_rings) → (5 - (x_1423423).toInt).toNat < n_1423453 → F = g_X12_order_L180 (vJ 12 σ this J) (vQ 12 σ this rq) x_948873 (g_X12_order_L80 a0 a1 a2 (vJ 12 σ this J) (vQ 12 σ this rq) x_948873 n_1402980) (vI 12 σ this I_1422666) (vL 12 σ this rj_1422668) x_1422987 n_1423453 x_1423423 (vR 12 σ this ri_1423424) → FR 12 tg σ this (I, J, ri, rj, rq) (I_1422666, J, ri_1423424, rj_1422668, rq) → GM [2001, 2002, 1305, 1304, 1403, 1000, 1001, 1002, 1003, 1004, 1005, 1006, 1007, 1010, 1013, 1014, 1015, 1500, 1501, 1502, 1503, 1504, 1100, 1101, 1102, 1103, 1104, 1300, 1301, 1306, 1308, 1700, 1701, 1702] tg σ I ri I_1422666 ri_1423424 rq → va_P D vwCl (pq_P t σ (I_1422666, J, ri_1423424, rj_1422668, rq)) H → va_D A (pq_P t σ (I_1422666, J, ri_1423424, rj_1422668, rq)) → va_S A s.heap H locs → lv_has ls 10 [(0, .ref this), (1, .int a0), (2, .int a1), (3, .int a2), (4, .int x_948873), (5, .int x_1422987), (9, .int x_1423423)] → W p l e ({ frames := 7, cells := 0, slots := 0, locals := 172 } : Room) s m (List.toArray ([.ref this, .int a0, .int a1, .int a2] : List Value)) below meth c H locs 0 0 Q (F0 m 180 ls []) := by
                                    intro n_1423453
                                    induction n_1423453 with
                                    | zero => intro x_1423423 ri_1423424 H locs ls h_1423459 hrel_1423460 hrel_1423461 hm_1423452 hF hFr hG hP hD hS hl; exact absurd hm_1423452 (Nat.not_lt_zero _)
                                    | succ n_1423453 ih_1423455 =>
                                      intro x_1423423 ri_1423424 H locs ls h_1423459 hrel_1423460 hrel_1423461 hm_1423452 hF hFr hG hP hD hS hl
                                      have uh_1423459 := h_1423459.1
                                      have vh_1423459 := h_1423459.2
                                      replace hF := hF.trans g_X12_order_L180_e
                                      refine lv_iload hx hb dX12_order_180 (lv_at hl 6 rfl) ?_
                                      refine lv_iload hx hb dX12_order_182 (lv_at hl 4 rfl) ?_
                                      refine lv_icmp_ge (tgt := 207) hx hb dX12_order_184 (by decide +kernel) (fun c_1423462 => ?_) (fun c_1423462 => ?_)
                                      · replace hF := hF.trans (if_pos c_1423462)
                                        have tc_1423467 : (x_948873).toInt ≤ (x_1423423).toInt := Int32.le_iff_toInt_le.mp c_1423462
                                        refine lv_aload_n hx hb dX12_order_207 rfl (lv_at hl 0 rfl) ?_
                                        refine lv_iload hx hb dX12_order_208 (lv_at hl 4 rfl) ?_
                                        have hjn : InjI ((x_948873).toInt) (ri_1423424 this_rings) := by rw [hrel_1423461]; exact hrel_1402988
                                        have srgs : ∀ i, rg (ri_1423424 this_rings i) 0 4 := fun i => GM.rR hG hT_this_rings rfl
                                        refine pk_i (va_runV (As := [.int x_948873]) (rest := []) ⟨hx, hb, hml, hown, hts⟩ (s_X12_nextOrder l D t σ I_1422666 J ri_1423424 rj_1422668 rq H.size tg hSH hG.1 this x_948873 hL_this hK_this (rg_w h_948874 (by decide +kernel)) this_rings hR_this_rings hL_this_rings hK_this_rings hN_this_rings hT_this_rings (by assumption)) (cwV 1 hts (tw_V tw_1491 tw_1492 tw_1493 tw_5 tw_1494) rfl rfl rfl cv_yX12_nextOrder_1 ⟨Nat.le_of_ble_eq_true rfl, Nat.le_of_ble_eq_true rfl⟩) ⟨pq_blind, pq_recv hK hP hL_this hK_this (by decide +kernel) rfl, pq_pre hK hN hP hD⟩ rfl rfl hl.1 rfl (lv_room (Nat.le_of_ble_eq_true rfl)) dX12_order_210 ⟨Nat.le_of_ble_eq_true rfl, Nat.le_of_ble_eq_true rfl⟩) hD hS hA (fun x_1423468 σ1 μ1 H locs hw_1423469 hP hD hS => ?_)
                                        obtain ⟨ri_1423470, hu_1423471, hg_1423472, hfn_1423474, hfr_1423475, hr_1423473⟩ := hw_1423469
                                        obtain ⟨hu_1423471a, hu_1423471b⟩ := Prod.mk.inj hu_1423471
                                        rw [hu_1423471a, hu_1423471b] at hP hD
                                        replace hF := hF.trans (bn_n hfn_1423474)
                                        replace hFr := fr_tr hFr hfr_1423475
                                        have tt_1423476 : (ri_1423470 this_a 0).toInt = (ri_1423424 this_a 0).toInt := congrArg Int32.toInt (hg_1423472.2.2.1 this_a hT_this_a 0 (by decide +kernel) (by decide +kernel))
                                        have tt_1423477 : (ri_1423470 this_kept 0).toInt = (ri_1423424 this_kept 0).toInt := congrArg Int32.toInt (congrFun (hg_1423472.2.2.2 386 2001 (by decide +kernel) (by decide +kernel) this_kept hT_this_kept) 0)
                                        have hG := GM.tr hG hg_1423472 (by decide +kernel)
                                        have h_1423478 : rg x_1423468 0 1 := by rcases hr_1423473 with ⟨q, -⟩ | ⟨q, -⟩ <;> rw [q] <;> exact ⟨by decide +kernel, by decide +kernel⟩
                                        have uh_1423478 := h_1423478.1
                                        have vh_1423478 := h_1423478.2
                                        refine lv_istore (lv' := [(6, .int x_1423468), (0, .ref this), (1, .int a0), (2, .int a1), (3, .int a2), (4, .int x_948873), (5, .int x_1422987), (9, .int x_1423423)]) hx hb dX12_order_213 hl (by decide +kernel) rfl (fun ls hl => ?_)
                                        refine lv_goto (tgt := 80) hx hb dX12_order_215 (by decide +kernel) ?_
                                        exact ih_1402982 x_1422987 x_1423468 I_1422666 ri_1423470 rj_1422668 _ _ _ (rg_w h_1423478 (by decide +kernel)) (by omega) (by rcases hr_1423473 with ⟨q, f1, -⟩ | ⟨q, f0⟩; exact f1; rw [f0, hrel_1423461]; exact hrel_1402988) (by have eL : lexM (ri_1423424 this_rings) = lexM (ri_1382710 this_rings) := congrArg lexM hrel_1423461; have b1 := lex_b (f := ri_1382710 this_rings) (fun i => by rw [← hrel_1423461]; exact srgs i); have b2 := lex_b (f := ri_1423470 this_rings) (fun i => GM.rR hG hT_this_rings rfl); rcases hr_1423473 with ⟨q, f1, f2⟩ | ⟨q, f0⟩; have l1 := lex_up (f := ri_1423424 this_rings) (g := ri_1423470 this_rings) srgs (fun i => GM.rR hG hT_this_rings rfl) f2; have q2 := congrArg Int32.toInt q; have q3 : (1 : Int32).toInt = 1 := rfl; omega; have q2 := congrArg Int32.toInt q; have q3 : (0 : Int32).toInt = 0 := rfl; have e0 : lexM (ri_1423470 this_rings) = lexM (ri_1423424 this_rings) := (by rw [f0]); omega) hF hFr hG hP hD hS (lv_sub hl [1, 2, 3, 4, 5, 6, 0] rfl)
                                      · replace hF := hF.trans (if_neg c_1423462)
                                        have tc_1423479 : (x_1423423).toInt < (x_948873).toInt := Int32.lt_iff_toInt_lt.mp (nle c_1423462)
                                        have h_1423480 : rg x_1423423 0 4 := rg_lt1 (nle c_1423462) h_1423459 h_948874 (by decide +kernel)
                                        have uh_1423480 := h_1423480.1
                                        have vh_1423480 := h_1423480.2
                                        have h_1423481 : rg x_948873 1 5 := rg_lt2 (nle c_1423462) h_1423459 h_948874 (by decide +kernel)
                                        have uh_1423481 := h_1423481.1
                                        have vh_1423481 := h_1423481.2
                                        refine lv_aload_n hx hb dX12_order_187 rfl (lv_at hl 0 rfl) ?_
                                        obtain ⟨w_1423482, hR_w_1423482, hL_w_1423482, hK_w_1423482, hN_w_1423482, hT_w_1423482⟩ := sh_a hSH 413 (ci := 12) (kd := 13) (len := 5) rfl (by decide +kernel) hL_this hK_this
                                        have hO_w_1423482 : w_1423482 = vrow σ 413 this := vo_k (c := 12) hO_this hR_w_1423482
                                        refine pg_f (v := .ref w_1423482) (C := RX12) (T := TX12) (N := 31) hx hb hts (tw_i inlX12) hown hK hP hL_this hK_this (by decide +kernel) rfl 29 (by decide +kernel) (hts _ (tw_c tw_190)) (pq_hv rfl hR_w_1423482) dX12_order_188 ?_
                                        refine lv_iload hx hb dX12_order_191 (lv_at hl 6 rfl) ?_
                                        refine lv_aload_n hx hb dX12_order_193 rfl (lv_at hl 0 rfl) ?_
                                        refine pg_f (v := .ref this_rings) (C := RX12) (T := TX12) (N := 31) hx hb hts (tw_i inlX12) hown hK hP hL_this hK_this (by decide +kernel) rfl 30 (by decide +kernel) (hts _ (tw_c tw_191)) (pq_hv rfl hR_this_rings) dX12_order_194 ?_
                                        refine lv_iload hx hb dX12_order_197 (lv_at hl 6 rfl) ?_
                                        refine pl_i hx hb hK hP hL_this_rings hK_this_rings hN_this_rings (rg_in h_1423480 (by decide +kernel)) dX12_order_199 ?_
                                        refine lv_topi (fun x_1423483 ex_1423483 => ?_)
                                        replace hF := hF.trans (ap_n (vR_r hO_this_rings (by decide +kernel) ex_1423483))
                                        have h_1423484 : rg x_1423483 0 4 := rg_of_eq ex_1423483 (GM.rR hG hT_this_rings rfl)
                                        have uh_1423484 := h_1423484.1
                                        have vh_1423484 := h_1423484.2
                                        refine pt_i hx hb hK hP hD hS hL_w_1423482 hK_w_1423482 hN_w_1423482 (rg_in h_1423480 (by decide +kernel)) dX12_order_200 (fun r_1423485 H locs er_1423485 hP hD hS => ?_)
                                        replace hFr := fr_R hFr hO_w_1423482 (by decide +kernel) er_1423485
                                        replace hF := hF.trans (ap_n (vR_st hVT hO_w_1423482 (by decide +kernel) er_1423485))
                                        have hG := GM.wR hG hSH hT_w_1423482 rfl er_1423485 (rg_w h_1423484 (by decide +kernel)) (by decide +kernel)
                                        have tt_1423486 : (r_1423485 this_a 0).toInt = (ri_1423424 this_a 0).toInt := congrArg Int32.toInt (congrFun (ro_ne er_1423485 (tg_ne hT_this_a hT_w_1423482 (by decide +kernel))) 0)
                                        have tt_1423487 : (r_1423485 this_kept 0).toInt = (ri_1423424 this_kept 0).toInt := congrArg Int32.toInt (congrFun (ro_ne er_1423485 (tg_ne hT_this_kept hT_w_1423482 (by decide +kernel))) 0)
                                        obtain ⟨x_1423488, ex_1423488⟩ : ∃ y : Int32, y = x_1423423 + Int32.ofInt 1 := ⟨_, rfl⟩
                                        replace hF := hF.trans (ap_n ex_1423488)
                                        have h_1423489 : rg x_1423488 1 5 := rg_of_eq ex_1423488 (rg_add h_1423480 (rg_k (Int32.ofInt 1) 1 rfl) (by decide +kernel))
                                        have uh_1423489 := h_1423489.1
                                        have vh_1423489 := h_1423489.2
                                        have tx_1423488 : (x_1423488).toInt = (x_1423423).toInt + 1 := by rw [ex_1423488]; exact i_add_rg (a2 := (x_1423423).toInt) (b2 := 1) rfl rfl h_1423480 (rg_k (Int32.ofInt 1) 1 rfl) (by decide +kernel)
                                        refine lv_iinc (v := x_1423488) (lv' := [(9, .int x_1423488), (0, .ref this), (1, .int a0), (2, .int a1), (3, .int a2), (4, .int x_948873), (5, .int x_1422987)]) hx hb dX12_order_201 hl (k := 6) rfl ex_1423488.symm (by decide +kernel) rfl (fun ls hl => ?_)
                                        refine lv_goto (tgt := 180) hx hb dX12_order_204 (by decide +kernel) ?_
                                        exact ih_1423455 x_1423488 r_1423485 _ _ _ (rg_w h_1423489 (by decide +kernel)) (by omega) ((ro_ne er_1423485 (tg_ne hT_this_rings hT_w_1423482 (by decide +kernel))).trans hrel_1423461) (ms_up 1 hm_1423452 ex_1423488 rfl (by decide +kernel) h_1423480 (by decide +kernel) (by decide +kernel)) hF hFr hG hP hD hS (lv_sub hl [1, 2, 3, 4, 5, 6, 0] rfl)
                                  exact L_1423454 _ (0 : Int32) ri_1422990 _ _ _ (rg_w (rg_k (0 : Int32) 0 rfl) (by decide +kernel)) (by have k0 : (0 : Int32).toInt = 0 := rfl; omega) ((hp_1422995 this_rings (tg_ne hT_this_rings hT_this_a (by decide +kernel))).trans hrel_1422972) (Nat.lt_succ_self _) hF hFr hG hP hD hS (lv_sub hl [2, 3, 4, 5, 6, 1, 0] rfl)
                                refine lv_if_lt (tgt := 173) hx hb dX12_order_163 (by decide +kernel) (fun c_1423490 => ?_) (fun c_1423490 => ?_)
                                · replace hF := hF.trans (if_pos c_1423490)
                                  have tc_1423495 : (x_1382707).toInt < 0 := Int32.lt_iff_toInt_lt.mp c_1423490
                                  have h_1423496 : rg x_1382707 (-2147483648) (-1) := rg_lt1 c_1423490 (rg_full _) (rg_k (0 : Int32) 0 rfl) (by decide +kernel)
                                  have uh_1423496 := h_1423496.1
                                  have vh_1423496 := h_1423496.2
                                  exact K_1423251 _ _ _ hF hFr hG hP hD hS (lv_sub hl [1, 2, 3, 4, 5, 0] rfl)
                                · replace hF := hF.trans (if_neg c_1423490)
                                  have tc_1423497 : 0 ≤ (x_1382707).toInt := Int32.le_iff_toInt_le.mp (nlt c_1423490)
                                  have h_1423498 : rg x_1382707 0 2147483647 := rg_le2 (nlt c_1423490) (rg_k (0 : Int32) 0 rfl) (rg_full _) (by decide +kernel)
                                  have uh_1423498 := h_1423498.1
                                  have vh_1423498 := h_1423498.2
                                  refine lv_iload hx hb dX12_order_166 (lv_at hl 0 rfl) ?_
                                  refine lv_iload hx hb dX12_order_168 (lv_at hl 6 rfl) ?_
                                  refine lv_icmp_ge (tgt := 207) hx hb dX12_order_170 (by decide +kernel) (fun c_1423499 => ?_) (fun c_1423499 => ?_)
                                  · replace hF := hF.trans (if_pos c_1423499)
                                    have tc_1423504 : (x_1382707).toInt ≤ (x_1422987).toInt := Int32.le_iff_toInt_le.mp c_1423499
                                    have h_1423505 : rg x_1422987 0 2147483647 := rg_le2 c_1423499 h_1423498 (rg_full _) (by decide +kernel)
                                    have uh_1423505 := h_1423505.1
                                    have vh_1423505 := h_1423505.2
                                    refine lv_aload_n hx hb dX12_order_207 rfl (lv_at hl 1 rfl) ?_
                                    refine lv_iload hx hb dX12_order_208 (lv_at hl 5 rfl) ?_
                                    have hjn : InjI ((x_948873).toInt) (ri_1422990 this_rings) := by rw [((hp_1422995 this_rings (tg_ne hT_this_rings hT_this_a (by decide +kernel))).trans hrel_1422972)]; exact hrel_1402988
                                    have srgs : ∀ i, rg (ri_1422990 this_rings i) 0 4 := fun i => GM.rR hG hT_this_rings rfl
                                    refine pk_i (va_runV (As := [.int x_948873]) (rest := []) ⟨hx, hb, hml, hown, hts⟩ (s_X12_nextOrder l D t σ I_1422666 J ri_1422990 rj_1422668 rq H.size tg hSH hG.1 this x_948873 hL_this hK_this (rg_w h_948874 (by decide +kernel)) this_rings hR_this_rings hL_this_rings hK_this_rings hN_this_rings hT_this_rings (by assumption)) (cwV 1 hts (tw_V tw_1491 tw_1492 tw_1493 tw_5 tw_1494) rfl rfl rfl cv_yX12_nextOrder_1 ⟨Nat.le_of_ble_eq_true rfl, Nat.le_of_ble_eq_true rfl⟩) ⟨pq_blind, pq_recv hK hP hL_this hK_this (by decide +kernel) rfl, pq_pre hK hN hP hD⟩ rfl rfl hl.1 rfl (lv_room (Nat.le_of_ble_eq_true rfl)) dX12_order_210 ⟨Nat.le_of_ble_eq_true rfl, Nat.le_of_ble_eq_true rfl⟩) hD hS hA (fun x_1423506 σ1 μ1 H locs hw_1423507 hP hD hS => ?_)
                                    obtain ⟨ri_1423508, hu_1423509, hg_1423510, hfn_1423512, hfr_1423513, hr_1423511⟩ := hw_1423507
                                    obtain ⟨hu_1423509a, hu_1423509b⟩ := Prod.mk.inj hu_1423509
                                    rw [hu_1423509a, hu_1423509b] at hP hD
                                    replace hF := hF.trans (bn_n hfn_1423512)
                                    replace hFr := fr_tr hFr hfr_1423513
                                    have tt_1423514 : (ri_1423508 this_a 0).toInt = (ri_1422990 this_a 0).toInt := congrArg Int32.toInt (hg_1423510.2.2.1 this_a hT_this_a 0 (by decide +kernel) (by decide +kernel))
                                    have tt_1423515 : (ri_1423508 this_kept 0).toInt = (ri_1422990 this_kept 0).toInt := congrArg Int32.toInt (congrFun (hg_1423510.2.2.2 386 2001 (by decide +kernel) (by decide +kernel) this_kept hT_this_kept) 0)
                                    have hG := GM.tr hG hg_1423510 (by decide +kernel)
                                    have h_1423516 : rg x_1423506 0 1 := by rcases hr_1423511 with ⟨q, -⟩ | ⟨q, -⟩ <;> rw [q] <;> exact ⟨by decide +kernel, by decide +kernel⟩
                                    have uh_1423516 := h_1423516.1
                                    have vh_1423516 := h_1423516.2
                                    refine lv_istore (lv' := [(6, .int x_1423506), (8, .int x_1422987), (0, .ref this), (1, .int a0), (2, .int a1), (3, .int a2), (4, .int x_948873), (5, .int x_1382707), (7, .int x_1420229)]) hx hb dX12_order_213 hl (by decide +kernel) rfl (fun ls hl => ?_)
                                    refine lv_goto (tgt := 80) hx hb dX12_order_215 (by decide +kernel) ?_
                                    exact ih_1402982 x_1382707 x_1423506 I_1422666 ri_1423508 rj_1422668 _ _ _ (rg_w h_1423516 (by decide +kernel)) (by omega) (by rcases hr_1423511 with ⟨q, f1, -⟩ | ⟨q, f0⟩; exact f1; rw [f0, ((hp_1422995 this_rings (tg_ne hT_this_rings hT_this_a (by decide +kernel))).trans hrel_1422972)]; exact hrel_1402988) (by have eL : lexM (ri_1422990 this_rings) = lexM (ri_1382710 this_rings) := congrArg lexM ((hp_1422995 this_rings (tg_ne hT_this_rings hT_this_a (by decide +kernel))).trans hrel_1422972); have b1 := lex_b (f := ri_1382710 this_rings) (fun i => by rw [← ((hp_1422995 this_rings (tg_ne hT_this_rings hT_this_a (by decide +kernel))).trans hrel_1422972)]; exact srgs i); have b2 := lex_b (f := ri_1423508 this_rings) (fun i => GM.rR hG hT_this_rings rfl); rcases hr_1423511 with ⟨q, f1, f2⟩ | ⟨q, f0⟩; have l1 := lex_up (f := ri_1422990 this_rings) (g := ri_1423508 this_rings) srgs (fun i => GM.rR hG hT_this_rings rfl) f2; have q2 := congrArg Int32.toInt q; have q3 : (1 : Int32).toInt = 1 := rfl; omega; have q2 := congrArg Int32.toInt q; have q3 : (0 : Int32).toInt = 0 := rfl; have e0 : lexM (ri_1423508 this_rings) = lexM (ri_1422990 this_rings) := (by rw [f0]); omega) hF hFr hG hP hD hS (lv_sub hl [2, 3, 4, 5, 6, 7, 0] rfl)
                                  · replace hF := hF.trans (if_neg c_1423499)
                                    have tc_1423517 : (x_1422987).toInt < (x_1382707).toInt := Int32.lt_iff_toInt_lt.mp (nle c_1423499)
                                    have h_1423518 : rg x_1422987 (-2147483648) 2147483646 := rg_lt1 (nle c_1423499) (rg_full _) h_1423498 (by decide +kernel)
                                    have uh_1423518 := h_1423518.1
                                    have vh_1423518 := h_1423518.2
                                    exact K_1423251 _ _ _ hF hFr hG hP hD hS (lv_sub hl [1, 2, 3, 4, 5, 0] rfl)
                              · replace hF := hF.trans (if_neg c_1422973)
                                have tc_1423519 : (x_1422665).toInt < (a1).toInt := Int32.lt_iff_toInt_lt.mp (nle c_1422973)
                                have h_1423520 : rg x_1422665 0 11 := rg_lt1 (nle c_1422973) h_1422970 h_474448 (by decide +kernel)
                                have uh_1423520 := h_1423520.1
                                have vh_1423520 := h_1423520.2
                                refine lv_aload_n hx hb dX12_order_130 rfl (lv_at hl 0 rfl) ?_
                                refine lv_iload_n hx hb dX12_order_131 rfl (lv_at hl 1 rfl) ?_
                                refine pk_v (va_runV (As := [.int a0]) (rest := []) ⟨hx, hb, hml, hown, hts⟩ (s_X12_month l D t σ I_1422666 J ri_1422667 rj_1422668 rq H.size tg hSH hG.1 this a0 hL_this hK_this this_a hR_this_a hL_this_a hK_this_a hN_this_a hT_this_a (by omega)) (cwV 1 hts (tw_V tw_1193 tw_1194 tw_1195 tw_5 tw_1196) rfl rfl rfl cv_yX12_month_1 ⟨Nat.le_of_ble_eq_true rfl, Nat.le_of_ble_eq_true rfl⟩) ⟨pq_blind, pq_recv hK hP hL_this hK_this (by decide +kernel) rfl, pq_pre hK hN hP hD⟩ rfl rfl hl.1 rfl (lv_room (Nat.le_of_ble_eq_true rfl)) dX12_order_132 ⟨Nat.le_of_ble_eq_true rfl, Nat.le_of_ble_eq_true rfl⟩) hD hS hA (fun σ1 μ1 H locs hw_1423522 hP hD hS => ?_)
                                obtain ⟨I_1423523, ri_1423524, rj_1423525, hu_1423526, hg_1423527, hp_1423529, hfn_1423530, hfr_1423531⟩ := hw_1423522
                                obtain ⟨hu_1423526a, hu_1423526b⟩ := Prod.mk.inj hu_1423526
                                rw [hu_1423526a, hu_1423526b] at hP hD
                                replace hF := hF.trans (bv_n hfn_1423530)
                                replace hFr := fr_tr hFr hfr_1423531
                                have tt_1423532 := hp_1423529
                                have tt_1423533 : (ri_1423524 this_kept 0).toInt = (ri_1422667 this_kept 0).toInt := congrArg Int32.toInt (congrFun (hg_1423527.2.2.2 386 2001 (by decide +kernel) (by decide +kernel) this_kept hT_this_kept) 0)
                                have hG := GM.tr hG hg_1423527 (by decide +kernel)
                                obtain ⟨x_1423534, ex_1423534⟩ : ∃ y : Int32, y = x_1422665 + Int32.ofInt 1 := ⟨_, rfl⟩
                                replace hF := hF.trans (ap_n ex_1423534)
                                have h_1423535 : rg x_1423534 1 12 := rg_of_eq ex_1423534 (rg_add h_1423520 (rg_k (Int32.ofInt 1) 1 rfl) (by decide +kernel))
                                have uh_1423535 := h_1423535.1
                                have vh_1423535 := h_1423535.2
                                have tx_1423534 : (x_1423534).toInt = (x_1422665).toInt + 1 := by rw [ex_1423534]; exact i_add_rg (a2 := (x_1422665).toInt) (b2 := 1) rfl rfl h_1423520 (rg_k (Int32.ofInt 1) 1 rfl) (by decide +kernel)
                                refine lv_iinc (v := x_1423534) (lv' := [(8, .int x_1423534), (0, .ref this), (1, .int a0), (2, .int a1), (3, .int a2), (4, .int x_948873), (5, .int x_1382707), (7, .int x_1420229)]) hx hb dX12_order_135 hl (k := 7) rfl ex_1423534.symm (by decide +kernel) rfl (fun ls hl => ?_)
                                refine lv_goto (tgt := 124) hx hb dX12_order_138 (by decide +kernel) ?_
                                exact ih_1422966 x_1423534 I_1423523 ri_1423524 rj_1423525 _ _ _ (rg_w h_1423535 (by decide +kernel)) (by omega) ((hg_1423527.2.2.2 414 2002 (by decide +kernel) (by decide +kernel) this_rings hT_this_rings).trans hrel_1422972) (ms_up 1 hm_1422963 ex_1423534 rfl (by decide +kernel) h_1423520 (by decide +kernel) (by decide +kernel)) hF hFr hG hP hD hS (lv_sub hl [1, 2, 3, 4, 5, 6, 7, 0] rfl)
                          exact L_1422965 _ (0 : Int32) I_1382709 ri_1417166 rj_1382711 _ _ _ (rg_w (rg_k (0 : Int32) 0 rfl) (by decide +kernel)) (by have k0 : (0 : Int32).toInt = 0 := rfl; omega) hrel_1420222 (Nat.lt_succ_self _) hF hFr hG hP hD hS (lv_sub hl [2, 3, 4, 5, 6, 7, 1, 0] rfl)
                        · replace hF := hF.trans (if_neg c_1420223)
                          have tc_1423536 : (x_1417165).toInt < (x_948873).toInt := Int32.lt_iff_toInt_lt.mp (nle c_1420223)
                          have h_1423537 : rg x_1417165 0 4 := rg_lt1 (nle c_1420223) h_1420220 h_948874 (by decide +kernel)
                          have uh_1423537 := h_1423537.1
                          have vh_1423537 := h_1423537.2
                          have h_1423538 : rg x_948873 1 5 := rg_lt2 (nle c_1420223) h_1420220 h_948874 (by decide +kernel)
                          have uh_1423538 := h_1423538.1
                          have vh_1423538 := h_1423538.2
                          refine lv_aload_n hx hb dX12_order_95 rfl (lv_at hl 0 rfl) ?_
                          obtain ⟨w_1423539, hR_w_1423539, hL_w_1423539, hK_w_1423539, hN_w_1423539, hT_w_1423539⟩ := sh_a hSH 408 (ci := 12) (kd := 13) (len := 5) rfl (by decide +kernel) hL_this hK_this
                          have hO_w_1423539 : w_1423539 = vrow σ 408 this := vo_k (c := 12) hO_this hR_w_1423539
                          refine pg_f (v := .ref w_1423539) (C := RX12) (T := TX12) (N := 31) hx hb hts (tw_i inlX12) hown hK hP hL_this hK_this (by decide +kernel) rfl 24 (by decide +kernel) (hts _ (tw_c tw_186)) (pq_hv rfl hR_w_1423539) dX12_order_96 ?_
                          refine lv_aload_n hx hb dX12_order_99 rfl (lv_at hl 0 rfl) ?_
                          refine pg_f (v := .ref this_rings) (C := RX12) (T := TX12) (N := 31) hx hb hts (tw_i inlX12) hown hK hP hL_this hK_this (by decide +kernel) rfl 30 (by decide +kernel) (hts _ (tw_c tw_191)) (pq_hv rfl hR_this_rings) dX12_order_100 ?_
                          refine lv_iload hx hb dX12_order_103 (lv_at hl 6 rfl) ?_
                          refine pl_i hx hb hK hP hL_this_rings hK_this_rings hN_this_rings (rg_in h_1423537 (by decide +kernel)) dX12_order_105 ?_
                          refine lv_topi (fun x_1423540 ex_1423540 => ?_)
                          replace hF := hF.trans (ap_n (vR_r hO_this_rings (by decide +kernel) ex_1423540))
                          have h_1423541 : rg x_1423540 0 4 := rg_of_eq ex_1423540 (GM.rR hG hT_this_rings rfl)
                          have uh_1423541 := h_1423541.1
                          have vh_1423541 := h_1423541.2
                          refine lv_iload hx hb dX12_order_106 (lv_at hl 6 rfl) ?_
                          refine pt_i hx hb hK hP hD hS hL_w_1423539 hK_w_1423539 hN_w_1423539 (rg_in h_1423541 (by decide +kernel)) dX12_order_108 (fun r_1423542 H locs er_1423542 hP hD hS => ?_)
                          replace hFr := fr_R hFr hO_w_1423539 (by decide +kernel) er_1423542
                          replace hF := hF.trans (ap_n (vR_st hVT hO_w_1423539 (by decide +kernel) er_1423542))
                          have hG := GM.wR hG hSH hT_w_1423539 rfl er_1423542 (rg_w h_1423537 (by decide +kernel)) (by decide +kernel)
                          have tt_1423543 : (r_1423542 this_a 0).toInt = (ri_1417166 this_a 0).toInt := congrArg Int32.toInt (congrFun (ro_ne er_1423542 (tg_ne hT_this_a hT_w_1423539 (by decide +kernel))) 0)
                          have tt_1423544 : (r_1423542 this_kept 0).toInt = (ri_1417166 this_kept 0).toInt := congrArg Int32.toInt (congrFun (ro_ne er_1423542 (tg_ne hT_this_kept hT_w_1423539 (by decide +kernel))) 0)
                          obtain ⟨x_1423545, ex_1423545⟩ : ∃ y : Int32, y = x_1417165 + Int32.ofInt 1 := ⟨_, rfl⟩
                          replace hF := hF.trans (ap_n ex_1423545)
                          have h_1423546 : rg x_1423545 1 5 := rg_of_eq ex_1423545 (rg_add h_1423537 (rg_k (Int32.ofInt 1) 1 rfl) (by decide +kernel))
                          have uh_1423546 := h_1423546.1
                          have vh_1423546 := h_1423546.2
                          have tx_1423545 : (x_1423545).toInt = (x_1417165).toInt + 1 := by rw [ex_1423545]; exact i_add_rg (a2 := (x_1417165).toInt) (b2 := 1) rfl rfl h_1423537 (rg_k (Int32.ofInt 1) 1 rfl) (by decide +kernel)
                          refine lv_iinc (v := x_1423545) (lv' := [(7, .int x_1423545), (0, .ref this), (1, .int a0), (2, .int a1), (3, .int a2), (4, .int x_948873), (5, .int x_1382707)]) hx hb dX12_order_109 hl (k := 6) rfl ex_1423545.symm (by decide +kernel) rfl (fun ls hl => ?_)
                          refine lv_goto (tgt := 88) hx hb dX12_order_112 (by decide +kernel) ?_
                          exact ih_1420216 x_1423545 r_1423542 _ _ _ (rg_w h_1423546 (by decide +kernel)) (by omega) ((ro_ne er_1423542 (tg_ne hT_this_rings hT_w_1423539 (by decide +kernel))).trans hrel_1420222) (ms_up 1 hm_1420213 ex_1423545 rfl (by decide +kernel) h_1423537 (by decide +kernel) (by decide +kernel)) hF hFr hG hP hD hS (lv_sub hl [1, 2, 3, 4, 5, 6, 0] rfl)
                    exact L_1420215 _ (0 : Int32) ri_1382710 _ _ _ (rg_w (rg_k (0 : Int32) 0 rfl) (by decide +kernel)) (by have k0 : (0 : Int32).toInt = 0 := rfl; omega) rfl (Nat.lt_succ_self _) hF hFr hG hP hD hS (lv_sub hl [1, 2, 3, 4, 5, 6, 0] rfl)
              exact L_1402981 _ (-1 : Int32) (1 : Int32) I_1304685 ri_1186091 rj _ _ _ (rg_w (rg_k (1 : Int32) 1 rfl) (by decide +kernel)) (by have k0 : ((-1) : Int32).toInt = (-1) := rfl; have k1 : (1 : Int32).toInt = 1 := rfl; omega) (inj_id (fun j hj => hrel_1304677 j (by omega)) (by omega)) (by have b1 := lex_b (f := ri_1186091 this_rings) (fun i => GM.rR hG hT_this_rings rfl); have k1 : (1 : Int32).toInt = 1 := rfl; omega) hF hFr hG hP hD hS (lv_sub hl [2, 3, 4, 5, 6, 1, 0] rfl)
            · replace hF := hF.trans (if_neg c_1304678)
              have tc_1423547 : (x_1186090).toInt < 5 := Int32.lt_iff_toInt_lt.mp (nle c_1304678)
              have h_1423548 : rg x_1186090 0 4 := rg_lt1 (nle c_1304678) h_1304675 (rg_k (5 : Int32) 5 rfl) (by decide +kernel)
              have uh_1423548 := h_1423548.1
              have vh_1423548 := h_1423548.2
              refine lv_aload_n hx hb dX12_order_54 rfl (lv_at hl 0 rfl) ?_
              refine pg_f (v := .ref this_rings) (C := RX12) (T := TX12) (N := 31) hx hb hts (tw_i inlX12) hown hK hP hL_this hK_this (by decide +kernel) rfl 30 (by decide +kernel) (hts _ (tw_c tw_191)) (pq_hv rfl hR_this_rings) dX12_order_55 ?_
              refine lv_iload hx hb dX12_order_58 (lv_at hl 5 rfl) ?_
              refine lv_iload hx hb dX12_order_60 (lv_at hl 5 rfl) ?_
              refine pt_i hx hb hK hP hD hS hL_this_rings hK_this_rings hN_this_rings (rg_in h_1423548 (by decide +kernel)) dX12_order_62 (fun r_1423549 H locs er_1423549 hP hD hS => ?_)
              replace hFr := fr_R hFr hO_this_rings (by decide +kernel) er_1423549
              replace hF := hF.trans (ap_n (vR_st hVT hO_this_rings (by decide +kernel) er_1423549))
              have hG := GM.wR hG hSH hT_this_rings rfl er_1423549 (rg_w h_1423548 (by decide +kernel)) (by decide +kernel)
              have tt_1423550 : (r_1423549 this_a 0).toInt = (ri_1186091 this_a 0).toInt := congrArg Int32.toInt (congrFun (ro_ne er_1423549 (tg_ne hT_this_a hT_this_rings (by decide +kernel))) 0)
              have tt_1423551 : (r_1423549 this_kept 0).toInt = (ri_1186091 this_kept 0).toInt := congrArg Int32.toInt (congrFun (ro_ne er_1423549 (tg_ne hT_this_kept hT_this_rings (by decide +kernel))) 0)
              obtain ⟨x_1423552, ex_1423552⟩ : ∃ y : Int32, y = x_1186090 + Int32.ofInt 1 := ⟨_, rfl⟩
              replace hF := hF.trans (ap_n ex_1423552)
              have h_1423553 : rg x_1423552 1 5 := rg_of_eq ex_1423552 (rg_add h_1423548 (rg_k (Int32.ofInt 1) 1 rfl) (by decide +kernel))
              have uh_1423553 := h_1423553.1
              have vh_1423553 := h_1423553.2
              have tx_1423552 : (x_1423552).toInt = (x_1186090).toInt + 1 := by rw [ex_1423552]; exact i_add_rg (a2 := (x_1186090).toInt) (b2 := 1) rfl rfl h_1423548 (rg_k (Int32.ofInt 1) 1 rfl) (by decide +kernel)
              refine lv_iinc (v := x_1423552) (lv' := [(5, .int x_1423552), (0, .ref this), (1, .int a0), (2, .int a1), (3, .int a2), (4, .int x_948873)]) hx hb dX12_order_63 hl (k := 5) rfl ex_1423552.symm (by decide +kernel) rfl (fun ls hl => ?_)
              refine lv_goto (tgt := 48) hx hb dX12_order_66 (by decide +kernel) ?_
              exact ih_1304671 x_1423552 r_1423549 _ _ _ (rg_w h_1423553 (by decide +kernel)) (by omega) (id_w hrel_1304677 er_1423549 (by omega) (by omega)) (ms_up 1 hm_1304668 ex_1423552 rfl (by decide +kernel) h_1423548 (by decide +kernel) (by decide +kernel)) hF hFr hG hP hD hS (lv_sub hl [1, 2, 3, 4, 5, 0] rfl)
        exact L_1304670 _ (0 : Int32) ri_948862 _ _ _ (rg_w (rg_k (0 : Int32) 0 rfl) (by decide +kernel)) (by have k0 : (0 : Int32).toInt = 0 := rfl; omega) (fun j hj => by have k0 : (0 : Int32).toInt = 0 := rfl; omega) (Nat.lt_succ_self _) hF hFr hG hP hD hS (lv_sub hl [2, 3, 4, 5, 1, 0] rfl)
      refine lv_icmp_eq (tgt := 26) hx hb dX12_order_13 (by decide +kernel) (fun c_1423554 => ?_) (fun c_1423554 => ?_)
      · replace hF := hF.trans (if_pos c_1423554)
        have tc_1423558 : (a2).toInt = (-1) := congrArg Int32.toInt c_1423554
        have h_1423559 : rg a2 (-1) (-1) := rg_and (rg_full _) (rg_of_eq c_1423554 (rg_k (-1 : Int32) (-1) rfl)) (by decide +kernel)
        have uh_1423559 := h_1423559.1
        have vh_1423559 := h_1423559.2
        exact K_948857 _ _ _ (rg_w h_1423559 (by decide +kernel)) hF hFr hG hP hD hS (lv_sub hl [0, 1, 2, 3] rfl)
      · replace hF := hF.trans (if_neg c_1423554)
        have tc_1423560 : (a2).toInt ≠ (-1) := fun q => c_1423554 (Int32.toInt_inj.mp q)
        refine lv_aload_n hx hb dX12_order_16 rfl (lv_at hl 0 rfl) ?_
        refine lv_iload_n hx hb dX12_order_17 rfl (lv_at hl 3 rfl) ?_
        refine pk_i (va_runV (As := [.int a2]) (rest := []) ⟨hx, hb, hml, hown, hts⟩ (s_X12_isRing l D t σ I J ri rj rq H.size tg hSH hG.1 this a2 hL_this hK_this) (cwV 1 hts (tw_V tw_231 tw_232 tw_233 tw_5 tw_234) rfl rfl rfl cv_yX12_isRing_1 ⟨Nat.le_of_ble_eq_true rfl, Nat.le_of_ble_eq_true rfl⟩) ⟨pq_blind, pq_recv hK hP hL_this hK_this (by decide +kernel) rfl, pq_pre hK hN hP hD⟩ rfl rfl hl.1 rfl (lv_room (Nat.le_of_ble_eq_true rfl)) dX12_order_18 ⟨Nat.le_of_ble_eq_true rfl, Nat.le_of_ble_eq_true rfl⟩) hD hS hA (fun x_1423561 σ1 μ1 H locs hw_1423562 hP hD hS => ?_)
        obtain ⟨hu_1423563, hfn_1423566, hr_1423565⟩ := hw_1423562
        obtain ⟨hu_1423563a, hu_1423563b⟩ := Prod.mk.inj hu_1423563
        rw [hu_1423563a, hu_1423563b] at hP hD
        replace hF := hF.trans (bn_n hfn_1423566)
        have h_1423568 : rg x_1423561 0 1 := by rcases hr_1423565 with ⟨q, -⟩ | ⟨q, -⟩ <;> rw [q] <;> exact ⟨by decide +kernel, by decide +kernel⟩
        have uh_1423568 := h_1423568.1
        have vh_1423568 := h_1423568.2
        refine lv_if_ne (tgt := 26) hx hb dX12_order_21 (by decide +kernel) (fun c_1423569 => ?_) (fun c_1423569 => ?_)
        · replace hF := hF.trans (if_neg c_1423569)
          have f_1423576 := (hr_1423565.resolve_right (fun q => c_1423569 q.1)).2
          have uf_1423576 := f_1423576.1
          have vf_1423576 := f_1423576.2
          have tc_1423577 : (x_1423561).toInt ≠ 0 := fun q => c_1423569 (Int32.toInt_inj.mp q)
          have h_1423578 : rg x_1423561 1 1 := rg_ne c_1423569 h_1423568 0 rfl (by decide +kernel)
          have uh_1423578 := h_1423578.1
          have vh_1423578 := h_1423578.2
          exact K_948857 _ _ _ (rg_w f_1423576 (by decide +kernel)) hF hFr hG hP hD hS (lv_sub hl [0, 1, 2, 3] rfl)
        · replace hF := hF.trans (if_pos c_1423569)
          have f_1423579 := (hr_1423565.resolve_left (fun q => absurd (q.1.symm.trans c_1423569) (by decide +kernel))).2
          have tc_1423580 : (x_1423561).toInt = 0 := congrArg Int32.toInt c_1423569
          have h_1423581 : rg x_1423561 0 0 := rg_and h_1423568 (rg_of_eq c_1423569 (rg_k (0 : Int32) 0 rfl)) (by decide +kernel)
          have uh_1423581 := h_1423581.1
          have vh_1423581 := h_1423581.2
          exact K_474427 _ _ _ hF hFr hG hP hD hS (lv_sub hl [] rfl)
  exact go _ _ _ hP hD hS hl
