theorem dX12_firstSo_0 : decode cX12_firstSo 0 = .ok (.aload_n 0, 1) := oc_42 (by decide +kernel)
theorem dX12_firstSo_1 : decode cX12_firstSo 1 = .ok (.iload_n 1, 1) := oc_27 (by decide +kernel)
theorem dX12_firstSo_2 : decode cX12_firstSo 2 = .ok (.iload_n 3, 1) := oc_29 (by decide +kernel)
theorem dX12_firstSo_3 : decode cX12_firstSo 3 = .ok (.invokevirtual 275, 3) := oc_182 (a := 1) (b := 19) (by decide +kernel)
theorem dX12_firstSo_6 : decode cX12_firstSo 6 = .ok (.istore 5, 2) := oc_54 (by decide +kernel)
theorem dX12_firstSo_8 : decode cX12_firstSo 8 = .ok (.iconst 0, 1) := oc_3 (by decide +kernel)
theorem dX12_firstSo_9 : decode cX12_firstSo 9 = .ok (.istore 6, 2) := oc_54 (by decide +kernel)
theorem dX12_firstSo_11 : decode cX12_firstSo 11 = .ok (.iload 5, 2) := oc_21 (by decide +kernel)
theorem dX12_firstSo_74 : decode cX12_firstSo 74 = .ok (.iconst (-1), 1) := oc_2 (by decide +kernel)
theorem dX12_firstSo_75 : decode cX12_firstSo 75 = .ok (.ireturn, 1) := oc_172 (by decide +kernel)
theorem dX12_firstSo_13 : decode cX12_firstSo 13 = .ok (.ifCond .lt 61, 3) := oc_155 (a := 0) (b := 61) (by decide +kernel)
theorem dX12_firstSo_16 : decode cX12_firstSo 16 = .ok (.iload 6, 2) := oc_21 (by decide +kernel)
theorem dX12_firstSo_18 : decode cX12_firstSo 18 = .ok (.aload_n 0, 1) := oc_42 (by decide +kernel)
theorem dX12_firstSo_19 : decode cX12_firstSo 19 = .ok (.iload 5, 2) := oc_21 (by decide +kernel)
theorem dX12_firstSo_21 : decode cX12_firstSo 21 = .ok (.invokevirtual 266, 3) := oc_182 (a := 1) (b := 10) (by decide +kernel)
theorem dX12_firstSo_24 : decode cX12_firstSo 24 = .ok (.if_icmp .ge 50, 3) := oc_162 (a := 0) (b := 50) (by decide +kernel)
theorem dX12_firstSo_27 : decode cX12_firstSo 27 = .ok (.aload_n 0, 1) := oc_42 (by decide +kernel)
theorem dX12_firstSo_28 : decode cX12_firstSo 28 = .ok (.getfield 7, 3) := oc_180 (a := 0) (b := 7) (by decide +kernel)
theorem dX12_firstSo_31 : decode cX12_firstSo 31 = .ok (.aload_n 0, 1) := oc_42 (by decide +kernel)
theorem dX12_firstSo_32 : decode cX12_firstSo 32 = .ok (.iload 5, 2) := oc_21 (by decide +kernel)
theorem dX12_firstSo_34 : decode cX12_firstSo 34 = .ok (.iload 6, 2) := oc_21 (by decide +kernel)
theorem dX12_firstSo_36 : decode cX12_firstSo 36 = .ok (.invokevirtual 269, 3) := oc_182 (a := 1) (b := 13) (by decide +kernel)
theorem dX12_firstSo_39 : decode cX12_firstSo 39 = .ok (.iaload, 1) := oc_46 (by decide +kernel)
theorem dX12_firstSo_40 : decode cX12_firstSo 40 = .ok (.iload_n 1, 1) := oc_27 (by decide +kernel)
theorem dX12_firstSo_41 : decode cX12_firstSo 41 = .ok (.if_icmp .ne 27, 3) := oc_160 (a := 0) (b := 27) (by decide +kernel)
theorem dX12_firstSo_68 : decode cX12_firstSo 68 = .ok (.iinc 6 1, 3) := oc_132 (b := 1) (by decide +kernel)
theorem dX12_firstSo_71 : decode cX12_firstSo 71 = .ok (.goto (-60), 3) := oc_167 (a := 255) (b := 196) (by decide +kernel)
theorem dX12_firstSo_44 : decode cX12_firstSo 44 = .ok (.aload_n 0, 1) := oc_42 (by decide +kernel)
theorem dX12_firstSo_45 : decode cX12_firstSo 45 = .ok (.iload 5, 2) := oc_21 (by decide +kernel)
theorem dX12_firstSo_47 : decode cX12_firstSo 47 = .ok (.aload_n 0, 1) := oc_42 (by decide +kernel)
theorem dX12_firstSo_48 : decode cX12_firstSo 48 = .ok (.iload 5, 2) := oc_21 (by decide +kernel)
theorem dX12_firstSo_50 : decode cX12_firstSo 50 = .ok (.iload 6, 2) := oc_21 (by decide +kernel)
theorem dX12_firstSo_52 : decode cX12_firstSo 52 = .ok (.invokevirtual 269, 3) := oc_182 (a := 1) (b := 13) (by decide +kernel)
theorem dX12_firstSo_55 : decode cX12_firstSo 55 = .ok (.iload_n 2, 1) := oc_28 (by decide +kernel)
theorem dX12_firstSo_56 : decode cX12_firstSo 56 = .ok (.iload_n 3, 1) := oc_29 (by decide +kernel)
theorem dX12_firstSo_57 : decode cX12_firstSo 57 = .ok (.iload 4, 2) := oc_21 (by decide +kernel)
theorem tw_601 : Cond.methodLink RX12 297 yX12_isSo ∈ wsL_law := sg_26 _ (List.mem_of_getElem? (i := 1) rfl)
theorem tw_602 : Cond.instanceMethod yX12_isSo ∈ wsL_law := sg_26 _ (List.mem_of_getElem? (i := 2) rfl)
theorem tw_603 : Cond.selects RX12 yX12_isSo yX12_isSo ∈ wsL_law := sg_26 _ (List.mem_of_getElem? (i := 3) rfl)
theorem tw_604 : Cond.code yX12_isSo cX12_isSo 11 (some .boolean) ∈ wsL_law := sg_26 _ (List.mem_of_getElem? (i := 4) rfl)
theorem dX12_firstSo_59 : decode cX12_firstSo 59 = .ok (.invokevirtual 297, 3) := oc_182 (a := 1) (b := 41) (by decide +kernel)
theorem dX12_firstSo_62 : decode cX12_firstSo 62 = .ok (.ifCond .eq 6, 3) := oc_153 (a := 0) (b := 6) (by decide +kernel)
theorem dX12_firstSo_65 : decode cX12_firstSo 65 = .ok (.iload 6, 2) := oc_21 (by decide +kernel)
theorem dX12_firstSo_67 : decode cX12_firstSo 67 = .ok (.ireturn, 1) := oc_172 (by decide +kernel)
theorem dX12_stands_0 : decode cX12_stands 0 = .ok (.aload_n 0, 1) := oc_42 (by decide +kernel)
theorem dX12_stands_1 : decode cX12_stands 1 = .ok (.iload_n 1, 1) := oc_27 (by decide +kernel)
theorem dX12_stands_2 : decode cX12_stands 2 = .ok (.bipush 14, 2) := oc_16 (a := 14) (by decide +kernel)
theorem dX12_stands_4 : decode cX12_stands 4 = .ok (.invokevirtual 91, 3) := oc_182 (a := 0) (b := 91) (by decide +kernel)
theorem dX12_stands_7 : decode cX12_stands 7 = .ok (.istore_n 2, 1) := oc_61 (by decide +kernel)
theorem dX12_stands_8 : decode cX12_stands 8 = .ok (.iload_n 2, 1) := oc_28 (by decide +kernel)
theorem dX12_stands_9 : decode cX12_stands 9 = .ok (.ifCond .ge 5, 3) := oc_156 (a := 0) (b := 5) (by decide +kernel)
theorem dX12_stands_14 : decode cX12_stands 14 = .ok (.aload_n 0, 1) := oc_42 (by decide +kernel)
theorem dX12_stands_15 : decode cX12_stands 15 = .ok (.getfield 7, 3) := oc_180 (a := 0) (b := 7) (by decide +kernel)
theorem dX12_stands_18 : decode cX12_stands 18 = .ok (.iconst 0, 1) := oc_3 (by decide +kernel)
theorem dX12_stands_19 : decode cX12_stands 19 = .ok (.iaload, 1) := oc_46 (by decide +kernel)
theorem dX12_stands_56 : decode cX12_stands 56 = .ok (.iconst 1, 1) := oc_4 (by decide +kernel)
theorem dX12_stands_57 : decode cX12_stands 57 = .ok (.goto 4, 3) := oc_167 (a := 0) (b := 4) (by decide +kernel)
theorem dX12_stands_61 : decode cX12_stands 61 = .ok (.ireturn, 1) := oc_172 (by decide +kernel)
theorem dX12_stands_20 : decode cX12_stands 20 = .ok (.ifCond .eq 36, 3) := oc_153 (a := 0) (b := 36) (by decide +kernel)
theorem dX12_stands_23 : decode cX12_stands 23 = .ok (.aload_n 0, 1) := oc_42 (by decide +kernel)
theorem dX12_stands_24 : decode cX12_stands 24 = .ok (.iload_n 1, 1) := oc_27 (by decide +kernel)
theorem dX12_stands_25 : decode cX12_stands 25 = .ok (.bipush 12, 2) := oc_16 (a := 12) (by decide +kernel)
theorem dX12_stands_27 : decode cX12_stands 27 = .ok (.invokevirtual 91, 3) := oc_182 (a := 0) (b := 91) (by decide +kernel)
theorem dX12_stands_30 : decode cX12_stands 30 = .ok (.iconst 1, 1) := oc_4 (by decide +kernel)
theorem dX12_stands_31 : decode cX12_stands 31 = .ok (.if_icmp .eq 25, 3) := oc_159 (a := 0) (b := 25) (by decide +kernel)
theorem dX12_stands_34 : decode cX12_stands 34 = .ok (.aload_n 0, 1) := oc_42 (by decide +kernel)
theorem dX12_stands_35 : decode cX12_stands 35 = .ok (.iconst 1, 1) := oc_4 (by decide +kernel)
theorem dX12_stands_36 : decode cX12_stands 36 = .ok (.iload_n 2, 1) := oc_28 (by decide +kernel)
theorem dX12_stands_37 : decode cX12_stands 37 = .ok (.aload_n 0, 1) := oc_42 (by decide +kernel)
theorem dX12_stands_38 : decode cX12_stands 38 = .ok (.getfield 7, 3) := oc_180 (a := 0) (b := 7) (by decide +kernel)
theorem dX12_stands_41 : decode cX12_stands 41 = .ok (.iconst 0, 1) := oc_3 (by decide +kernel)
theorem dX12_stands_42 : decode cX12_stands 42 = .ok (.iaload, 1) := oc_46 (by decide +kernel)
theorem dX12_stands_43 : decode cX12_stands 43 = .ok (.aload_n 0, 1) := oc_42 (by decide +kernel)
theorem dX12_stands_44 : decode cX12_stands 44 = .ok (.iload_n 1, 1) := oc_27 (by decide +kernel)
theorem dX12_stands_45 : decode cX12_stands 45 = .ok (.bipush 11, 2) := oc_16 (a := 11) (by decide +kernel)
theorem dX12_stands_47 : decode cX12_stands 47 = .ok (.invokevirtual 91, 3) := oc_182 (a := 0) (b := 91) (by decide +kernel)
theorem tw_597 : Cond.methodLink RX12 120 yX12_firstSo ∈ wsL_law := sg_25 _ (List.mem_of_getElem? (i := 21) rfl)
theorem tw_598 : Cond.instanceMethod yX12_firstSo ∈ wsL_law := sg_25 _ (List.mem_of_getElem? (i := 22) rfl)
theorem tw_599 : Cond.selects RX12 yX12_firstSo yX12_firstSo ∈ wsL_law := sg_25 _ (List.mem_of_getElem? (i := 23) rfl)
theorem tw_600 : Cond.code yX12_firstSo cX12_firstSo 7 (some .int) ∈ wsL_law := sg_26 _ (List.mem_of_getElem? (i := 0) rfl)
theorem dX12_stands_50 : decode cX12_stands 50 = .ok (.invokevirtual 120, 3) := oc_182 (a := 0) (b := 120) (by decide +kernel)
theorem dX12_stands_53 : decode cX12_stands 53 = .ok (.ifCond .lt 7, 3) := oc_155 (a := 0) (b := 7) (by decide +kernel)
theorem dX12_stands_60 : decode cX12_stands 60 = .ok (.iconst 0, 1) := oc_3 (by decide +kernel)
theorem dX12_stands_12 : decode cX12_stands 12 = .ok (.iconst 0, 1) := oc_3 (by decide +kernel)
theorem dX12_stands_13 : decode cX12_stands 13 = .ok (.ireturn, 1) := oc_172 (by decide +kernel)
theorem dX12_titleOf_0 : decode cX12_titleOf 0 = .ok (.aload_n 0, 1) := oc_42 (by decide +kernel)
theorem dX12_titleOf_1 : decode cX12_titleOf 1 = .ok (.iload_n 1, 1) := oc_27 (by decide +kernel)
theorem dX12_titleOf_2 : decode cX12_titleOf 2 = .ok (.invokevirtual 88, 3) := oc_182 (a := 0) (b := 88) (by decide +kernel)
theorem dX12_titleOf_17 : decode cX12_titleOf 17 = .ok (.iconst (-1), 1) := oc_2 (by decide +kernel)
theorem dX12_titleOf_18 : decode cX12_titleOf 18 = .ok (.ireturn, 1) := oc_172 (by decide +kernel)
theorem dX12_titleOf_5 : decode cX12_titleOf 5 = .ok (.ifCond .eq 12, 3) := oc_153 (a := 0) (b := 12) (by decide +kernel)
theorem dX12_titleOf_8 : decode cX12_titleOf 8 = .ok (.iload_n 2, 1) := oc_28 (by decide +kernel)
theorem dX12_titleOf_9 : decode cX12_titleOf 9 = .ok (.iconst 0, 1) := oc_3 (by decide +kernel)
theorem dX12_titleOf_10 : decode cX12_titleOf 10 = .ok (.iconst 1, 1) := oc_4 (by decide +kernel)
theorem dX12_titleOf_11 : decode cX12_titleOf 11 = .ok (.invokestatic 62, 3) := oc_184 (a := 0) (b := 62) (by decide +kernel)
theorem dX12_titleOf_14 : decode cX12_titleOf 14 = .ok (.ifCond .ne 5, 3) := oc_154 (a := 0) (b := 5) (by decide +kernel)
theorem dX12_titleOf_19 : decode cX12_titleOf 19 = .ok (.iload_n 2, 1) := oc_28 (by decide +kernel)
theorem dX12_titleOf_20 : decode cX12_titleOf 20 = .ok (.ifCond .ne 13, 3) := oc_154 (a := 0) (b := 13) (by decide +kernel)
theorem dX12_titleOf_33 : decode cX12_titleOf 33 = .ok (.aload_n 0, 1) := oc_42 (by decide +kernel)
theorem dX12_titleOf_34 : decode cX12_titleOf 34 = .ok (.iload_n 1, 1) := oc_27 (by decide +kernel)
theorem tw_593 : Cond.methodLink RX12 124 yX12_stands ∈ wsL_law := sg_25 _ (List.mem_of_getElem? (i := 17) rfl)
theorem tw_594 : Cond.instanceMethod yX12_stands ∈ wsL_law := sg_25 _ (List.mem_of_getElem? (i := 18) rfl)
theorem tw_595 : Cond.selects RX12 yX12_stands yX12_stands ∈ wsL_law := sg_25 _ (List.mem_of_getElem? (i := 19) rfl)
theorem tw_596 : Cond.code yX12_stands cX12_stands 3 (some .boolean) ∈ wsL_law := sg_25 _ (List.mem_of_getElem? (i := 20) rfl)
theorem dX12_titleOf_35 : decode cX12_titleOf 35 = .ok (.invokevirtual 124, 3) := oc_182 (a := 0) (b := 124) (by decide +kernel)
theorem dX12_titleOf_38 : decode cX12_titleOf 38 = .ok (.ifCond .eq 7, 3) := oc_153 (a := 0) (b := 7) (by decide +kernel)
theorem dX12_titleOf_45 : decode cX12_titleOf 45 = .ok (.iconst 0, 1) := oc_3 (by decide +kernel)
theorem dX12_titleOf_46 : decode cX12_titleOf 46 = .ok (.ireturn, 1) := oc_172 (by decide +kernel)
theorem dX12_titleOf_41 : decode cX12_titleOf 41 = .ok (.iconst 1, 1) := oc_4 (by decide +kernel)
theorem dX12_titleOf_42 : decode cX12_titleOf 42 = .ok (.goto 4, 3) := oc_167 (a := 0) (b := 4) (by decide +kernel)
theorem dX12_titleOf_23 : decode cX12_titleOf 23 = .ok (.aload_n 0, 1) := oc_42 (by decide +kernel)
theorem dX12_titleOf_24 : decode cX12_titleOf 24 = .ok (.iload_n 1, 1) := oc_27 (by decide +kernel)
theorem dX12_titleOf_25 : decode cX12_titleOf 25 = .ok (.bipush 14, 2) := oc_16 (a := 14) (by decide +kernel)
theorem dX12_titleOf_27 : decode cX12_titleOf 27 = .ok (.invokevirtual 91, 3) := oc_182 (a := 0) (b := 91) (by decide +kernel)
theorem dX12_titleOf_30 : decode cX12_titleOf 30 = .ok (.goto 16, 3) := oc_167 (a := 0) (b := 16) (by decide +kernel)
theorem dX12_four_0 : decode cX12_four 0 = .ok (.bipush 24, 2) := oc_16 (a := 24) (by decide +kernel)
theorem dX12_four_2 : decode cX12_four 2 = .ok (.istore_n 2, 1) := oc_61 (by decide +kernel)
theorem dX12_four_3 : decode cX12_four 3 = .ok (.iload_n 2, 1) := oc_28 (by decide +kernel)
theorem dX12_four_4 : decode cX12_four 4 = .ok (.ifCond .lt 35, 3) := oc_155 (a := 0) (b := 35) (by decide +kernel)
theorem dX12_four_39 : decode cX12_four 39 = .ok (.return_, 1) := oc_177 (by decide +kernel)
theorem dX12_four_7 : decode cX12_four 7 = .ok (.aload_n 0, 1) := oc_42 (by decide +kernel)
theorem dX12_four_8 : decode cX12_four 8 = .ok (.getfield 19, 3) := oc_180 (a := 0) (b := 19) (by decide +kernel)
theorem dX12_four_11 : decode cX12_four 11 = .ok (.aload_n 0, 1) := oc_42 (by decide +kernel)
theorem dX12_four_12 : decode cX12_four 12 = .ok (.getfield 127, 3) := oc_180 (a := 0) (b := 127) (by decide +kernel)
theorem dX12_four_15 : decode cX12_four 15 = .ok (.iload_n 1, 1) := oc_27 (by decide +kernel)
theorem dX12_four_16 : decode cX12_four 16 = .ok (.iload_n 2, 1) := oc_28 (by decide +kernel)
theorem dX12_four_17 : decode cX12_four 17 = .ok (.ishr, 1) := oc_122 (by decide +kernel)
theorem dX12_four_18 : decode cX12_four 18 = .ok (.sipush 255, 3) := oc_17 (a := 0) (b := 255) (by decide +kernel)
theorem dX12_four_21 : decode cX12_four 21 = .ok (.iand, 1) := oc_126 (by decide +kernel)
theorem dX12_four_22 : decode cX12_four 22 = .ok (.iastore, 1) := oc_79 (by decide +kernel)
theorem dX12_four_23 : decode cX12_four 23 = .ok (.aload_n 0, 1) := oc_42 (by decide +kernel)
theorem dX12_four_24 : decode cX12_four 24 = .ok (.dup, 1) := oc_89 (by decide +kernel)
theorem dX12_four_25 : decode cX12_four 25 = .ok (.getfield 127, 3) := oc_180 (a := 0) (b := 127) (by decide +kernel)
theorem dX12_four_28 : decode cX12_four 28 = .ok (.iconst 1, 1) := oc_4 (by decide +kernel)
theorem dX12_four_29 : decode cX12_four 29 = .ok (.iadd, 1) := oc_96 (by decide +kernel)
theorem dX12_four_30 : decode cX12_four 30 = .ok (.putfield 127, 3) := oc_181 (a := 0) (b := 127) (by decide +kernel)
theorem dX12_four_33 : decode cX12_four 33 = .ok (.iinc 2 (-8), 3) := oc_132 (b := 248) (by decide +kernel)
theorem dX12_four_36 : decode cX12_four 36 = .ok (.goto (-33), 3) := oc_167 (a := 255) (b := 223) (by decide +kernel)
theorem dX12_feed_0 : decode cX12_feed 0 = .ok (.aload_n 0, 1) := oc_42 (by decide +kernel)
theorem dX12_feed_1 : decode cX12_feed 1 = .ok (.getfield 127, 3) := oc_180 (a := 0) (b := 127) (by decide +kernel)
theorem dX12_feed_4 : decode cX12_feed 4 = .ok (.bipush 20, 2) := oc_16 (a := 20) (by decide +kernel)
theorem dX12_feed_6 : decode cX12_feed 6 = .ok (.iadd, 1) := oc_96 (by decide +kernel)
theorem dX12_feed_7 : decode cX12_feed 7 = .ok (.sipush 300, 3) := oc_17 (a := 1) (b := 44) (by decide +kernel)
theorem dX12_feed_10 : decode cX12_feed 10 = .ok (.if_icmp .le 5, 3) := oc_164 (a := 0) (b := 5) (by decide +kernel)
theorem dX12_feed_15 : decode cX12_feed 15 = .ok (.aload_n 0, 1) := oc_42 (by decide +kernel)
theorem dX12_feed_16 : decode cX12_feed 16 = .ok (.iload_n 1, 1) := oc_27 (by decide +kernel)
theorem tw_632 : Cond.methodLink RX12 130 yX12_four ∈ wsL_law := sg_27 _ (List.mem_of_getElem? (i := 8) rfl)
theorem tw_633 : Cond.instanceMethod yX12_four ∈ wsL_law := sg_27 _ (List.mem_of_getElem? (i := 9) rfl)
theorem tw_634 : Cond.selects RX12 yX12_four yX12_four ∈ wsL_law := sg_27 _ (List.mem_of_getElem? (i := 10) rfl)
theorem tw_635 : Cond.code yX12_four cX12_four 3 none ∈ wsL_law := sg_27 _ (List.mem_of_getElem? (i := 11) rfl)
theorem dX12_feed_17 : decode cX12_feed 17 = .ok (.invokevirtual 130, 3) := oc_182 (a := 0) (b := 130) (by decide +kernel)
theorem dX12_feed_20 : decode cX12_feed 20 = .ok (.aload_n 0, 1) := oc_42 (by decide +kernel)
theorem dX12_feed_21 : decode cX12_feed 21 = .ok (.iload_n 2, 1) := oc_28 (by decide +kernel)
theorem dX12_feed_22 : decode cX12_feed 22 = .ok (.invokevirtual 130, 3) := oc_182 (a := 0) (b := 130) (by decide +kernel)
theorem dX12_feed_25 : decode cX12_feed 25 = .ok (.aload_n 0, 1) := oc_42 (by decide +kernel)
theorem dX12_feed_26 : decode cX12_feed 26 = .ok (.iload_n 3, 1) := oc_29 (by decide +kernel)
theorem dX12_feed_27 : decode cX12_feed 27 = .ok (.invokevirtual 130, 3) := oc_182 (a := 0) (b := 130) (by decide +kernel)
theorem dX12_feed_30 : decode cX12_feed 30 = .ok (.aload_n 0, 1) := oc_42 (by decide +kernel)
theorem dX12_feed_31 : decode cX12_feed 31 = .ok (.iload 4, 2) := oc_21 (by decide +kernel)
theorem dX12_feed_33 : decode cX12_feed 33 = .ok (.invokevirtual 130, 3) := oc_182 (a := 0) (b := 130) (by decide +kernel)
theorem dX12_feed_36 : decode cX12_feed 36 = .ok (.aload_n 0, 1) := oc_42 (by decide +kernel)
theorem dX12_feed_37 : decode cX12_feed 37 = .ok (.iload 5, 2) := oc_21 (by decide +kernel)
theorem dX12_feed_39 : decode cX12_feed 39 = .ok (.invokevirtual 130, 3) := oc_182 (a := 0) (b := 130) (by decide +kernel)
theorem dX12_feed_42 : decode cX12_feed 42 = .ok (.aload_n 0, 1) := oc_42 (by decide +kernel)
theorem dX12_feed_43 : decode cX12_feed 43 = .ok (.getfield 127, 3) := oc_180 (a := 0) (b := 127) (by decide +kernel)
theorem dX12_feed_46 : decode cX12_feed 46 = .ok (.ireturn, 1) := oc_172 (by decide +kernel)
theorem dX12_feed_13 : decode cX12_feed 13 = .ok (.iconst (-1), 1) := oc_2 (by decide +kernel)
theorem dX12_feed_14 : decode cX12_feed 14 = .ok (.ireturn, 1) := oc_172 (by decide +kernel)
theorem dX12_end_0 : decode cX12_end 0 = .ok (.iload_n 1, 1) := oc_27 (by decide +kernel)
theorem dX12_end_1 : decode cX12_end 1 = .ok (.iconst 0, 1) := oc_3 (by decide +kernel)
theorem dX12_end_2 : decode cX12_end 2 = .ok (.aload_n 0, 1) := oc_42 (by decide +kernel)
theorem dX12_end_3 : decode cX12_end 3 = .ok (.getfield 127, 3) := oc_180 (a := 0) (b := 127) (by decide +kernel)
theorem dX12_end_6 : decode cX12_end 6 = .ok (.invokestatic 62, 3) := oc_184 (a := 0) (b := 62) (by decide +kernel)
theorem dX12_end_9 : decode cX12_end 9 = .ok (.ifCond .ne 5, 3) := oc_154 (a := 0) (b := 5) (by decide +kernel)
theorem dX12_end_14 : decode cX12_end 14 = .ok (.aload_n 0, 1) := oc_42 (by decide +kernel)
theorem dX12_end_15 : decode cX12_end 15 = .ok (.iload_n 1, 1) := oc_27 (by decide +kernel)
theorem dX12_end_16 : decode cX12_end 16 = .ok (.putfield 127, 3) := oc_181 (a := 0) (b := 127) (by decide +kernel)
theorem dX12_end_19 : decode cX12_end 19 = .ok (.iload_n 1, 1) := oc_27 (by decide +kernel)
theorem dX12_end_20 : decode cX12_end 20 = .ok (.ireturn, 1) := oc_172 (by decide +kernel)
theorem dX12_end_12 : decode cX12_end 12 = .ok (.iconst (-1), 1) := oc_2 (by decide +kernel)
theorem dX12_end_13 : decode cX12_end 13 = .ok (.ireturn, 1) := oc_172 (by decide +kernel)
set_option maxRecDepth 100000 in
def g_X12_firstSo_K74 (I : Nat → Int32) (J : Nat → Int64) (rq : Nat → Nat → Option Nat) (ri_550 : Nat → Nat → Int32) (rj_551 : Nat → Nat → Int64) : Int32 × vM := ((-1 : Int32), I, J, ri_550, rj_551, rq)
set_option maxRecDepth 100000 in
theorem g_X12_firstSo_K74_e {I : Nat → Int32} {J : Nat → Int64} {rq : Nat → Nat → Option Nat} {ri_550 : Nat → Nat → Int32} {rj_551 : Nat → Nat → Int64} : g_X12_firstSo_K74 I J rq ri_550 rj_551  = ((-1 : Int32), I, J, ri_550, rj_551, rq) := rfl
set_option maxRecDepth 100000 in
def g_X12_firstSo_L11 (a0 : Int32) (a1 : Int32) (a2 : Int32) (a3 : Int32) (I : Nat → Int32) (J : Nat → Int64) (rq : Nat → Nat → Option Nat) (x_1 : Int32) : Nat → (Int32) → (Nat → Nat → Int32) → (Nat → Nat → Int64) → Int32 × vM
  | 0, x_549, ri_550, rj_551 => ((0 : Int32), I, J, ri_550, rj_551, rq)
  | n_618 + 1, x_549, ri_550, rj_551 => (if x_1 < (0 : Int32) then (g_X12_firstSo_K74 I J rq ri_550 rj_551 ) else (bnI (g_X12_clausesOf x_1 I J ri_550 rj_551 rq) fun (x_698 : Int32) (_ : Nat → Int32) (_ : Nat → Int64) (_ : Nat → Nat → Int32) (_ : Nat → Nat → Int64) (_ : Nat → Nat → Option Nat) => (if x_698 ≤ x_549 then (g_X12_firstSo_K74 I J rq ri_550 rj_551 ) else (bnI (g_X12_clauseAt x_1 x_549 I J ri_550 rj_551 rq) fun (x_716 : Int32) (_ : Nat → Int32) (_ : Nat → Int64) (_ : Nat → Nat → Int32) (_ : Nat → Nat → Int64) (_ : Nat → Nat → Option Nat) => (ap1 (ri_550 384 (x_716).toNatClampNeg) fun (x_725 : Int32) => (if x_725 = a0 then (bnI (g_X12_clauseAt x_1 x_549 I J ri_550 rj_551 rq) fun (x_735 : Int32) (_ : Nat → Int32) (_ : Nat → Int64) (_ : Nat → Nat → Int32) (_ : Nat → Nat → Int64) (_ : Nat → Nat → Option Nat) => (bnI (g_X12_isSo x_1 x_735 a1 a2 a3 I J ri_550 rj_551 rq) fun (x_745 : Int32) (_ : Nat → Int32) (_ : Nat → Int64) (ri_747 : Nat → Nat → Int32) (rj_748 : Nat → Nat → Int64) (_ : Nat → Nat → Option Nat) => (if x_745 = (0 : Int32) then (ap1 (x_549 + Int32.ofInt 1) fun (x_763 : Int32) => ((g_X12_firstSo_L11 a0 a1 a2 a3 I J rq x_1 n_618) x_763 ri_747 rj_748)) else (x_549, I, J, ri_747, rj_748, rq)))) else (ap1 (x_549 + Int32.ofInt 1) fun (x_731 : Int32) => ((g_X12_firstSo_L11 a0 a1 a2 a3 I J rq x_1 n_618) x_731 ri_550 rj_551))))))))
set_option maxRecDepth 100000 in
theorem g_X12_firstSo_L11_e {a0 : Int32} {a1 : Int32} {a2 : Int32} {a3 : Int32} {I : Nat → Int32} {J : Nat → Int64} {rq : Nat → Nat → Option Nat} {x_1 : Int32} {n_618 : Nat} {x_549 : Int32} {ri_550 : Nat → Nat → Int32} {rj_551 : Nat → Nat → Int64} : g_X12_firstSo_L11 a0 a1 a2 a3 I J rq x_1 (n_618 + 1) x_549 ri_550 rj_551 = (if x_1 < (0 : Int32) then (g_X12_firstSo_K74 I J rq ri_550 rj_551 ) else (bnI (g_X12_clausesOf x_1 I J ri_550 rj_551 rq) fun (x_698 : Int32) (_ : Nat → Int32) (_ : Nat → Int64) (_ : Nat → Nat → Int32) (_ : Nat → Nat → Int64) (_ : Nat → Nat → Option Nat) => (if x_698 ≤ x_549 then (g_X12_firstSo_K74 I J rq ri_550 rj_551 ) else (bnI (g_X12_clauseAt x_1 x_549 I J ri_550 rj_551 rq) fun (x_716 : Int32) (_ : Nat → Int32) (_ : Nat → Int64) (_ : Nat → Nat → Int32) (_ : Nat → Nat → Int64) (_ : Nat → Nat → Option Nat) => (ap1 (ri_550 384 (x_716).toNatClampNeg) fun (x_725 : Int32) => (if x_725 = a0 then (bnI (g_X12_clauseAt x_1 x_549 I J ri_550 rj_551 rq) fun (x_735 : Int32) (_ : Nat → Int32) (_ : Nat → Int64) (_ : Nat → Nat → Int32) (_ : Nat → Nat → Int64) (_ : Nat → Nat → Option Nat) => (bnI (g_X12_isSo x_1 x_735 a1 a2 a3 I J ri_550 rj_551 rq) fun (x_745 : Int32) (_ : Nat → Int32) (_ : Nat → Int64) (ri_747 : Nat → Nat → Int32) (rj_748 : Nat → Nat → Int64) (_ : Nat → Nat → Option Nat) => (if x_745 = (0 : Int32) then (ap1 (x_549 + Int32.ofInt 1) fun (x_763 : Int32) => ((g_X12_firstSo_L11 a0 a1 a2 a3 I J rq x_1 n_618) x_763 ri_747 rj_748)) else (x_549, I, J, ri_747, rj_748, rq)))) else (ap1 (x_549 + Int32.ofInt 1) fun (x_731 : Int32) => ((g_X12_firstSo_L11 a0 a1 a2 a3 I J rq x_1 n_618) x_731 ri_550 rj_551)))))))) := rfl
set_option maxRecDepth 100000 in
def g_X12_firstSo (a0 : Int32) (a1 : Int32) (a2 : Int32) (a3 : Int32) (I : Nat → Int32) (J : Nat → Int64) (ri : Nat → Nat → Int32) (rj : Nat → Nat → Int64) (rq : Nat → Nat → Option Nat) : Int32 × vM := (bnI (g_X12_textFor a0 a2 I J ri rj rq) fun (x_1 : Int32) (_ : Nat → Int32) (_ : Nat → Int64) (_ : Nat → Nat → Int32) (_ : Nat → Nat → Int64) (_ : Nat → Nat → Option Nat) => (g_X12_firstSo_L11 a0 a1 a2 a3 I J rq x_1 ((20 - ((0 : Int32)).toInt).toNat + 1) (0 : Int32) ri rj))
set_option maxRecDepth 100000 in
theorem g_X12_firstSo_e {a0 : Int32} {a1 : Int32} {a2 : Int32} {a3 : Int32} {I : Nat → Int32} {J : Nat → Int64} {ri : Nat → Nat → Int32} {rj : Nat → Nat → Int64} {rq : Nat → Nat → Option Nat} : g_X12_firstSo a0 a1 a2 a3 I J ri rj rq = (bnI (g_X12_textFor a0 a2 I J ri rj rq) fun (x_1 : Int32) (_ : Nat → Int32) (_ : Nat → Int64) (_ : Nat → Nat → Int32) (_ : Nat → Nat → Int64) (_ : Nat → Nat → Option Nat) => (g_X12_firstSo_L11 a0 a1 a2 a3 I J rq x_1 ((20 - ((0 : Int32)).toInt).toNat + 1) (0 : Int32) ri rj)) := rfl
set_option maxHeartbeats 4000000 in
set_option maxRecDepth 100000 in
theorem s_X12_firstSo (l : Launch) (D : va_G) (t : pq_T) (σ : pq_S) (I : Nat → Nat → Int32) (J : Nat → Nat → Int64) (ri : Nat → Nat → Int32) (rj : Nat → Nat → Int64) (rq : Nat → Nat → Option Nat) (sz : Nat) (tg : Nat → Nat) (hSH : SH σ tg) (hG0 : GT tg I ri) (this : Nat) (a0 : Int32) (a1 : Int32) (a2 : Int32) (a3 : Int32) (hL_this : this ∈ σ.1) (hK_this : σ.2.1 this = 12) (h_a0 : rg a0 1 4) (h_a1 : rg a1 0 39) (this_a : Nat) (hR_this_a : σ.2.2.1 384 this = some this_a) (hL_this_a : this_a ∈ σ.1) (hK_this_a : σ.2.1 this_a = 13) (hN_this_a : σ.2.2.2 this_a = 12720) (hT_this_a : tg this_a = 384) : MetI l yX12_firstSo (wa yX12_firstSo cX12_firstSo 7 (some .int)) ({ frames := 3, cells := 0, slots := 0, locals := 76 }) [.ref this, .int a0, .int a1, .int a2, .int a3] D t σ (I, J, ri, rj, rq) sz 0 0 (fun (r : Int32) (u : pq_S × pq_M) => ∃ ri' : Nat → Nat → Int32, ∃ rj' : Nat → Nat → Int64, u = (σ, I, J, ri', rj', rq) ∧ GM [] tg σ I ri I ri' rq ∧ (∀ q, tg q ≠ 405 → ri' q = ri q) ∧ g_X12_firstSo a0 a1 a2 a3 (vI 12 σ this I) (vJ 12 σ this J) (vR 12 σ this ri) (vL 12 σ this rj) (vQ 12 σ this rq) = (r, (vI 12 σ this I), (vJ 12 σ this J), (vR 12 σ this ri'), (vL 12 σ this rj'), (vQ 12 σ this rq)) ∧ FR 12 tg σ this (I, J, ri, rj, rq) (I, J, ri', rj', rq) ∧ rg r (-1) 19) := by
  refine Met.ofW (cc := cX12_firstSo) (maxL := 7) (ret := (some .int)) (by decide) rfl ?_
  intro p e s m args below meth c s₁ B hml hv
  obtain ⟨rfl, hsz, hP, hK, hD0, hN⟩ := hv
  have hx := B.exec
  have hb := B.bytes
  have hr := B.returns
  have hts := atoms_spec (ws := (wa yX12_firstSo cX12_firstSo 7 (some .int))) B.pre
  have hown : s.vm.findClass RX12 = some m.cls := findClass_of_methodNamed B.named
  have hlocks := B.notSynchronized
  subst hsz
  have hD : va_D (pq_B t σ (I, J, ri, rj, rq) s.heap.size) (pq_P t σ (I, J, ri, rj, rq)) := hD0.self
  generalize hAe : pq_B t σ (I, J, ri, rj, rq) s.heap.size = A at hD ⊢
  have hA : ∀ q : Nat, s.heap.size ≤ q → A q := fun q h => by rw [← hAe]; exact Or.inr h
  have hS : va_S A s.heap s.heap [] := va_S.rf
  have hG : GM [] tg σ I ri I ri rq := ⟨hG0, fun _ _ _ => rfl, fun _ _ _ _ _ => rfl, fun _ _ _ _ _ _ => rfl⟩
  have hl := lv_entry ([.ref this, .int a0, .int a1, .int a2, .int a3]) (n := 7) (Nat.le_of_ble_eq_true rfl)
  rw [lg_entry_eq]
  generalize (lg_sl ([.ref this, .int a0, .int a1, .int a2, .int a3]) ++ List.replicate (7 - (lg_sl ([.ref this, .int a0, .int a1, .int a2, .int a3])).length) Slot.unset).toArray = ls at hl ⊢
  have hl : lv_has ls 7 [(0, .ref this), (1, .int a0), (2, .int a1), (3, .int a2), (4, .int a3)] := hl
  refine q_gen (fun Q hQ => ?_)
  have go : ∀ (H : Heap) (locs : List Loc) (ls : Array Slot), va_P D vwCl (pq_P t σ (I, J, ri, rj, rq)) H → va_D A (pq_P t σ (I, J, ri, rj, rq)) → va_S A s.heap H locs → lv_has ls 7 [(0, .ref this), (1, .int a0), (2, .int a1), (3, .int a2), (4, .int a3)] → W p l e ({ frames := 3, cells := 0, slots := 0, locals := 76 } : Room) s m (List.toArray ([.ref this, .int a0, .int a1, .int a2, .int a3] : List Value)) below meth c H locs 0 0 Q (F0 m 0 ls []) := by
    intro H locs ls hP hD hS hl
    have hO_this : this = vo σ 12 this := rfl
    have hVT : VT 12 σ tg this := vt_12 hSH hL_this hK_this
    have hFr : FR 12 tg σ this (I, J, ri, rj, rq) (I, J, ri, rj, rq) := fr_rf
    have hO_this_a : this_a = vrow σ 384 this := vo_k (c := 12) hO_this hR_this_a
    obtain ⟨F, hF0⟩ : ∃ F, F = g_X12_firstSo a0 a1 a2 a3 (vI 12 σ this I) (vJ 12 σ this J) (vR 12 σ this ri) (vL 12 σ this rj) (vQ 12 σ this rq) := ⟨_, rfl⟩
    have hF := hF0.trans g_X12_firstSo_e
    refine lv_aload_n hx hb dX12_firstSo_0 rfl (lv_at hl 0 rfl) ?_
    refine lv_iload_n hx hb dX12_firstSo_1 rfl (lv_at hl 1 rfl) ?_
    refine lv_iload_n hx hb dX12_firstSo_2 rfl (lv_at hl 3 rfl) ?_
    refine pk_i (va_runV (As := [.int a0, .int a2]) (rest := []) ⟨hx, hb, hml, hown, hts⟩ (s_X12_textFor l D t σ I J ri rj rq H.size tg hSH hG.1 this a0 a2 hL_this hK_this this_a hR_this_a hL_this_a hK_this_a hN_this_a hT_this_a) (cwV 2 hts (tw_V tw_508 tw_509 tw_510 tw_5 tw_511) rfl rfl rfl cv_yX12_textFor_2 ⟨Nat.le_of_ble_eq_true rfl, Nat.le_of_ble_eq_true rfl⟩) ⟨pq_blind, pq_recv hK hP hL_this hK_this (by decide) rfl, pq_pre hK hN hP hD⟩ rfl rfl hl.1 rfl (lv_room (Nat.le_of_ble_eq_true rfl)) dX12_firstSo_3 ⟨Nat.le_of_ble_eq_true rfl, Nat.le_of_ble_eq_true rfl⟩) hD hS hA (fun x_1 σ1 μ1 H locs hw_2 hP hD hS => ?_)
    obtain ⟨hu_3, hp_6, hfn_7, hr_5⟩ := hw_2
    obtain ⟨hu_3a, hu_3b⟩ := Prod.mk.inj hu_3
    rw [hu_3a, hu_3b] at hP hD
    replace hF := hF.trans (bn_n hfn_7)
    have tt_9 := hp_6
    refine lv_istore (lv' := [(5, .int x_1), (0, .ref this), (1, .int a0), (2, .int a1), (3, .int a2), (4, .int a3)]) hx hb dX12_firstSo_6 hl (by decide) rfl (fun ls hl => ?_)
    refine lv_iconst (v := 0) hx hb dX12_firstSo_8 (by decide) ?_
    refine lv_istore (lv' := [(6, .int 0), (5, .int x_1), (0, .ref this), (1, .int a0), (2, .int a1), (3, .int a2), (4, .int a3)]) hx hb dX12_firstSo_9 hl (by decide) rfl (fun ls hl => ?_)
    have L_619 : ∀ (n_618 : Nat) (x_549 : Int32) (ri_550 : Nat → Nat → Int32) (rj_551 : Nat → Nat → Int64) (H : Heap) (locs : List Loc) (ls : Array Slot), rg x_549 0 20 → (∀ q, tg q ≠ 405 → ri_550 q = ri q) → (20 - (x_549).toInt).toNat < n_618 → F = g_X12_firstSo_L11 a0 a1 a2 a3 (vI 12 σ this I) (vJ 12 σ this J) (vQ 12 σ this rq) x_1 n_618 x_549 (vR 12 σ this ri_550) (vL 12 σ this rj_551) → FR 12 tg σ this (I, J, ri, rj, rq) (I, J, ri_550, rj_551, rq) → GM [] tg σ I ri I ri_550 rq → va_P D vwCl (pq_P t σ (I, J, ri_550, rj_551, rq)) H → va_D A (pq_P t σ (I, J, ri_550, rj_551, rq)) → va_S A s.heap H locs → lv_has ls 7 [(0, .ref this), (1, .int a0), (2, .int a1), (3, .int a2), (4, .int a3), (5, .int x_1), (6, .int x_549)] → W p l e ({ frames := 3, cells := 0, slots := 0, locals := 76 } : Room) s m (List.toArray ([.ref this, .int a0, .int a1, .int a2, .int a3] : List Value)) below meth c H locs 0 0 Q (F0 m 11 ls []) := by
      intro n_618
      induction n_618 with
      | zero => intro x_549 ri_550 rj_551 H locs ls h_623 hrel_624 hm_617 hF hFr hG hP hD hS hl; exact absurd hm_617 (Nat.not_lt_zero _)
      | succ n_618 ih_620 =>
        intro x_549 ri_550 rj_551 H locs ls h_623 hrel_624 hm_617 hF hFr hG hP hD hS hl
        have uh_623 := h_623.1
        have vh_623 := h_623.2
        replace hF := hF.trans g_X12_firstSo_L11_e
        refine lv_iload hx hb dX12_firstSo_11 (lv_at hl 5 rfl) ?_
        have K_688 : ∀  (H : Heap) (locs : List Loc) (ls : Array Slot), F = g_X12_firstSo_K74 (vI 12 σ this I) (vJ 12 σ this J) (vQ 12 σ this rq) (vR 12 σ this ri_550) (vL 12 σ this rj_551)  → FR 12 tg σ this (I, J, ri, rj, rq) (I, J, ri_550, rj_551, rq) → GM [] tg σ I ri I ri_550 rq → va_P D vwCl (pq_P t σ (I, J, ri_550, rj_551, rq)) H → va_D A (pq_P t σ (I, J, ri_550, rj_551, rq)) → va_S A s.heap H locs → lv_has ls 7 [] → W p l e ({ frames := 3, cells := 0, slots := 0, locals := 76 } : Room) s m (List.toArray ([.ref this, .int a0, .int a1, .int a2, .int a3] : List Value)) below meth c H locs 0 0 Q (F0 m 74 ls []) := by
          intro H locs ls hF hFr hG hP hD hS hl
          replace hF := hF.trans g_X12_firstSo_K74_e
          refine lv_iconst (v := (-1)) hx hb dX12_firstSo_74 (by decide) ?_
          subst hQ
          exact W.iret (v := (-1)) hx hb hr (fun t1 ht hW => ⟨⟨(-1), (σ, I, J, ri_550, rj_551, rq), rfl, ⟨ri_550, rj_551, rfl, hG, hrel_624, (hF0.symm.trans hF), hFr, (rg_w (rg_k (-1 : Int32) (-1) rfl) (by decide))⟩, by rw [ht]; exact hP, va_K.moved hW.alike hK, hD⟩, hS.F ht⟩) hS.2.2 dX12_firstSo_75
        refine lv_if_lt (tgt := 74) hx hb dX12_firstSo_13 (by decide) (fun c_689 => ?_) (fun c_689 => ?_)
        · replace hF := hF.trans (if_pos c_689)
          have tc_694 : (x_1).toInt < 0 := Int32.lt_iff_toInt_lt.mp c_689
          have h_695 : rg x_1 (-1) (-1) := rg_lt1 c_689 hr_5 (rg_k (0 : Int32) 0 rfl) (by decide)
          have uh_695 := h_695.1
          have vh_695 := h_695.2
          exact K_688 _ _ _ hF hFr hG hP hD hS (lv_sub hl [] rfl)
        · replace hF := hF.trans (if_neg c_689)
          have tc_696 : 0 ≤ (x_1).toInt := Int32.le_iff_toInt_le.mp (nlt c_689)
          have h_697 : rg x_1 0 9 := rg_le2 (nlt c_689) (rg_k (0 : Int32) 0 rfl) hr_5 (by decide)
          have uh_697 := h_697.1
          have vh_697 := h_697.2
          refine lv_iload hx hb dX12_firstSo_16 (lv_at hl 6 rfl) ?_
          refine lv_aload_n hx hb dX12_firstSo_18 rfl (lv_at hl 0 rfl) ?_
          refine lv_iload hx hb dX12_firstSo_19 (lv_at hl 5 rfl) ?_
          refine pk_i (va_runV (As := [.int x_1]) (rest := [.int x_549]) ⟨hx, hb, hml, hown, hts⟩ (s_X12_clausesOf l D t σ I J ri_550 rj_551 rq H.size tg hSH hG.1 this x_1 hL_this hK_this (rg_w h_697 (by decide)) this_a hR_this_a hL_this_a hK_this_a hN_this_a hT_this_a) (cwV 1 hts (tw_V tw_516 tw_517 tw_518 tw_5 tw_519) rfl rfl rfl cv_yX12_clausesOf_1 ⟨Nat.le_of_ble_eq_true rfl, Nat.le_of_ble_eq_true rfl⟩) ⟨pq_blind, pq_recv hK hP hL_this hK_this (by decide) rfl, pq_pre hK hN hP hD⟩ rfl rfl hl.1 rfl (lv_room (Nat.le_of_ble_eq_true rfl)) dX12_firstSo_21 ⟨Nat.le_of_ble_eq_true rfl, Nat.le_of_ble_eq_true rfl⟩) hD hS hA (fun x_698 σ1 μ1 H locs hw_699 hP hD hS => ?_)
          obtain ⟨hu_700, hp_703, hfn_704, hr_702⟩ := hw_699
          obtain ⟨hu_700a, hu_700b⟩ := Prod.mk.inj hu_700
          rw [hu_700a, hu_700b] at hP hD
          replace hF := hF.trans (bn_n hfn_704)
          have tt_706 := congrArg Int32.toInt hp_703
          refine lv_icmp_ge (tgt := 74) hx hb dX12_firstSo_24 (by decide) (fun c_707 => ?_) (fun c_707 => ?_)
          · replace hF := hF.trans (if_pos c_707)
            have tc_712 : (x_698).toInt ≤ (x_549).toInt := Int32.le_iff_toInt_le.mp c_707
            exact K_688 _ _ _ hF hFr hG hP hD hS (lv_sub hl [] rfl)
          · replace hF := hF.trans (if_neg c_707)
            have tc_713 : (x_549).toInt < (x_698).toInt := Int32.lt_iff_toInt_lt.mp (nle c_707)
            have h_714 : rg x_549 0 19 := rg_lt1 (nle c_707) h_623 hr_702 (by decide)
            have uh_714 := h_714.1
            have vh_714 := h_714.2
            have h_715 : rg x_698 1 20 := rg_lt2 (nle c_707) h_623 hr_702 (by decide)
            have uh_715 := h_715.1
            have vh_715 := h_715.2
            refine lv_aload_n hx hb dX12_firstSo_27 rfl (lv_at hl 0 rfl) ?_
            refine pg_f (v := .ref this_a) (C := RX12) (T := TX12) (N := 31) hx hb hts (tw_i inlX12) hown hK hP hL_this hK_this (by decide) rfl 0 (by decide) (hts _ (tw_c tw_176)) (pq_hv rfl hR_this_a) dX12_firstSo_28 ?_
            refine lv_aload_n hx hb dX12_firstSo_31 rfl (lv_at hl 0 rfl) ?_
            refine lv_iload hx hb dX12_firstSo_32 (lv_at hl 5 rfl) ?_
            refine lv_iload hx hb dX12_firstSo_34 (lv_at hl 6 rfl) ?_
            refine pk_i (va_runV (As := [.int x_1, .int x_549]) (rest := [.ref this_a]) ⟨hx, hb, hml, hown, hts⟩ (s_X12_clauseAt l D t σ I J ri_550 rj_551 rq H.size tg hSH hG.1 this x_1 x_549 hL_this hK_this (rg_w h_697 (by decide)) (rg_w h_714 (by decide))) (cwV 2 hts (tw_V tw_520 tw_521 tw_522 tw_5 tw_523) rfl rfl rfl cv_yX12_clauseAt_2 ⟨Nat.le_of_ble_eq_true rfl, Nat.le_of_ble_eq_true rfl⟩) ⟨pq_blind, pq_recv hK hP hL_this hK_this (by decide) rfl, pq_pre hK hN hP hD⟩ rfl rfl hl.1 rfl (lv_room (Nat.le_of_ble_eq_true rfl)) dX12_firstSo_36 ⟨Nat.le_of_ble_eq_true rfl, Nat.le_of_ble_eq_true rfl⟩) hD hS hA (fun x_716 σ1 μ1 H locs hw_717 hP hD hS => ?_)
            obtain ⟨hu_718, hp_721, hfn_722, hr_720⟩ := hw_717
            obtain ⟨hu_718a, hu_718b⟩ := Prod.mk.inj hu_718
            rw [hu_718a, hu_718b] at hP hD
            replace hF := hF.trans (bn_n hfn_722)
            have tt_724 := hp_721
            refine pl_i hx hb hK hP hL_this_a hK_this_a hN_this_a (rg_in hr_720 (by decide)) dX12_firstSo_39 ?_
            refine lv_topi (fun x_725 ex_725 => ?_)
            replace hF := hF.trans (ap_n (vR_r hO_this_a (by decide) ex_725))
            refine lv_iload_n hx hb dX12_firstSo_40 rfl (lv_at hl 1 rfl) ?_
            refine lv_icmp_ne (tgt := 68) hx hb dX12_firstSo_41 (by decide) (fun c_726 => ?_) (fun c_726 => ?_)
            · replace hF := hF.trans (if_neg c_726)
              have tc_730 : (x_725).toInt ≠ (a0).toInt := fun q => c_726 (Int32.toInt_inj.mp q)
              obtain ⟨x_731, ex_731⟩ : ∃ y : Int32, y = x_549 + Int32.ofInt 1 := ⟨_, rfl⟩
              replace hF := hF.trans (ap_n ex_731)
              have h_732 : rg x_731 1 20 := rg_of_eq ex_731 (rg_add h_714 (rg_k (Int32.ofInt 1) 1 rfl) (by decide))
              have uh_732 := h_732.1
              have vh_732 := h_732.2
              have tx_731 : (x_731).toInt = (x_549).toInt + 1 := by rw [ex_731]; exact i_add_rg (a2 := (x_549).toInt) (b2 := 1) rfl rfl h_714 (rg_k (Int32.ofInt 1) 1 rfl) (by decide)
              refine lv_iinc (v := x_731) (lv' := [(6, .int x_731), (0, .ref this), (1, .int a0), (2, .int a1), (3, .int a2), (4, .int a3), (5, .int x_1)]) hx hb dX12_firstSo_68 hl (k := 6) rfl ex_731.symm (by decide) rfl (fun ls hl => ?_)
              refine lv_goto (tgt := 11) hx hb dX12_firstSo_71 (by decide) ?_
              exact ih_620 x_731 ri_550 rj_551 _ _ _ (rg_w h_732 (by decide)) hrel_624 (ms_up 1 hm_617 ex_731 rfl (by decide) h_714 (by decide) (by decide)) hF hFr hG hP hD hS (lv_sub hl [1, 2, 3, 4, 5, 6, 0] rfl)
            · replace hF := hF.trans (if_pos c_726)
              have tc_733 : (x_725).toInt = (a0).toInt := congrArg Int32.toInt c_726
              have h_734 : rg x_725 1 4 := rg_and (rg_full _) (rg_of_eq c_726 h_a0) (by decide)
              have uh_734 := h_734.1
              have vh_734 := h_734.2
              refine lv_aload_n hx hb dX12_firstSo_44 rfl (lv_at hl 0 rfl) ?_
              refine lv_iload hx hb dX12_firstSo_45 (lv_at hl 5 rfl) ?_
              refine lv_aload_n hx hb dX12_firstSo_47 rfl (lv_at hl 0 rfl) ?_
              refine lv_iload hx hb dX12_firstSo_48 (lv_at hl 5 rfl) ?_
              refine lv_iload hx hb dX12_firstSo_50 (lv_at hl 6 rfl) ?_
              refine pk_i (va_runV (As := [.int x_1, .int x_549]) (rest := [.int x_1, .ref this]) ⟨hx, hb, hml, hown, hts⟩ (s_X12_clauseAt l D t σ I J ri_550 rj_551 rq H.size tg hSH hG.1 this x_1 x_549 hL_this hK_this (rg_w h_697 (by decide)) (rg_w h_714 (by decide))) (cwV 2 hts (tw_V tw_520 tw_521 tw_522 tw_5 tw_523) rfl rfl rfl cv_yX12_clauseAt_2 ⟨Nat.le_of_ble_eq_true rfl, Nat.le_of_ble_eq_true rfl⟩) ⟨pq_blind, pq_recv hK hP hL_this hK_this (by decide) rfl, pq_pre hK hN hP hD⟩ rfl rfl hl.1 rfl (lv_room (Nat.le_of_ble_eq_true rfl)) dX12_firstSo_52 ⟨Nat.le_of_ble_eq_true rfl, Nat.le_of_ble_eq_true rfl⟩) hD hS hA (fun x_735 σ1 μ1 H locs hw_736 hP hD hS => ?_)
              obtain ⟨hu_737, hp_740, hfn_741, hr_739⟩ := hw_736
              obtain ⟨hu_737a, hu_737b⟩ := Prod.mk.inj hu_737
              rw [hu_737a, hu_737b] at hP hD
              replace hF := hF.trans (bn_n hfn_741)
              have tt_743 := hp_740
              refine lv_iload_n hx hb dX12_firstSo_55 rfl (lv_at hl 2 rfl) ?_
              refine lv_iload_n hx hb dX12_firstSo_56 rfl (lv_at hl 3 rfl) ?_
              refine lv_iload hx hb dX12_firstSo_57 (lv_at hl 4 rfl) ?_
              have hsa : ri_550 this_a = ri this_a := (hrel_624 this_a (by rw [hT_this_a]; decide))
              have hw1 : 0 ≤ (x_1).toInt ∧ (x_1).toInt < (ri_550 this_a 6).toInt := by rw [hsa]; omega
              have hw2 : ∃ c : Nat, c < 20 ∧ (c : Int) < (ri_550 this_a (3720 + 900 * (x_1).toNatClampNeg)).toInt ∧ (x_735).toInt = 3721 + 900 * (x_1).toInt + 12 * c := ⟨x_549.toNatClampNeg, by have z0 := clampE x_549; omega, by have z0 := clampE x_549; omega, by have z0 := clampE x_549; omega⟩
              have hwe : x_735 = x_716 := Int32.toInt_inj.mp (by omega)
              have hwz : ri_550 this_a (x_735).toNatClampNeg = x_725 := by rw [hwe]; exact ex_725.symm
              have hw3 : 1 ≤ (ri_550 this_a (x_735).toNatClampNeg).toInt ∧ (ri_550 this_a (x_735).toNatClampNeg).toInt ≤ 4 := by rw [hwz]; omega
              have h_744 : rg x_735 3721 12060 := ⟨by omega, by omega⟩
              have uh_744 := h_744.1
              have vh_744 := h_744.2
              refine pk_i (va_runV (As := [.int x_1, .int x_735, .int a1, .int a2, .int a3]) (rest := []) ⟨hx, hb, hml, hown, hts⟩ (s_X12_isSo l D t σ I J ri_550 rj_551 rq H.size tg hSH hG.1 this x_1 x_735 a1 a2 a3 hL_this hK_this (rg_w h_697 (by decide)) (rg_w h_744 (by decide)) (rg_w h_a1 (by decide)) this_a hR_this_a hL_this_a hK_this_a hN_this_a hT_this_a (by assumption) (by assumption) (by assumption)) (cwV 5 hts (tw_V tw_601 tw_602 tw_603 tw_5 tw_604) rfl rfl rfl cv_yX12_isSo_5 ⟨Nat.le_of_ble_eq_true rfl, Nat.le_of_ble_eq_true rfl⟩) ⟨pq_blind, pq_recv hK hP hL_this hK_this (by decide) rfl, pq_pre hK hN hP hD⟩ rfl rfl hl.1 rfl (lv_room (Nat.le_of_ble_eq_true rfl)) dX12_firstSo_59 ⟨Nat.le_of_ble_eq_true rfl, Nat.le_of_ble_eq_true rfl⟩) hD hS hA (fun x_745 σ1 μ1 H locs hw_746 hP hD hS => ?_)
              obtain ⟨ri_747, rj_748, hu_749, hg_750, hp_752, hfn_753, hfr_754, hr_751⟩ := hw_746
              obtain ⟨hu_749a, hu_749b⟩ := Prod.mk.inj hu_749
              rw [hu_749a, hu_749b] at hP hD
              replace hF := hF.trans (bn_n hfn_753)
              replace hFr := fr_tr hFr hfr_754
              have hG := GM.tr hG hg_750 (by decide)
              have h_755 : rg x_745 0 1 := by rcases hr_751 with ⟨q, -⟩ | ⟨q, -⟩ <;> rw [q] <;> exact ⟨by decide, by decide⟩
              have uh_755 := h_755.1
              have vh_755 := h_755.2
              refine lv_if_eq (tgt := 68) hx hb dX12_firstSo_62 (by decide) (fun c_756 => ?_) (fun c_756 => ?_)
              · replace hF := hF.trans (if_pos c_756)
                have tc_761 : (x_745).toInt = 0 := congrArg Int32.toInt c_756
                have h_762 : rg x_745 0 0 := rg_and h_755 (rg_of_eq c_756 (rg_k (0 : Int32) 0 rfl)) (by decide)
                have uh_762 := h_762.1
                have vh_762 := h_762.2
                obtain ⟨x_763, ex_763⟩ : ∃ y : Int32, y = x_549 + Int32.ofInt 1 := ⟨_, rfl⟩
                replace hF := hF.trans (ap_n ex_763)
                have h_764 : rg x_763 1 20 := rg_of_eq ex_763 (rg_add h_714 (rg_k (Int32.ofInt 1) 1 rfl) (by decide))
                have uh_764 := h_764.1
                have vh_764 := h_764.2
                have tx_763 : (x_763).toInt = (x_549).toInt + 1 := by rw [ex_763]; exact i_add_rg (a2 := (x_549).toInt) (b2 := 1) rfl rfl h_714 (rg_k (Int32.ofInt 1) 1 rfl) (by decide)
                refine lv_iinc (v := x_763) (lv' := [(6, .int x_763), (0, .ref this), (1, .int a0), (2, .int a1), (3, .int a2), (4, .int a3), (5, .int x_1)]) hx hb dX12_firstSo_68 hl (k := 6) rfl ex_763.symm (by decide) rfl (fun ls hl => ?_)
                refine lv_goto (tgt := 11) hx hb dX12_firstSo_71 (by decide) ?_
                exact ih_620 x_763 ri_747 rj_748 _ _ _ (rg_w h_764 (by decide)) (fr_t hrel_624 hp_752) (ms_up 1 hm_617 ex_763 rfl (by decide) h_714 (by decide) (by decide)) hF hFr hG hP hD hS (lv_sub hl [1, 2, 3, 4, 5, 6, 0] rfl)
              · replace hF := hF.trans (if_neg c_756)
                have tc_765 : (x_745).toInt ≠ 0 := fun q => c_756 (Int32.toInt_inj.mp q)
                have h_766 : rg x_745 1 1 := rg_ne c_756 h_755 0 rfl (by decide)
                have uh_766 := h_766.1
                have vh_766 := h_766.2
                refine lv_iload hx hb dX12_firstSo_65 (lv_at hl 6 rfl) ?_
                subst hQ
                exact W.iret (v := x_549) hx hb hr (fun t1 ht hW => ⟨⟨x_549, (σ, I, J, ri_747, rj_748, rq), rfl, ⟨ri_747, rj_748, rfl, hG, (fr_t hrel_624 hp_752), (hF0.symm.trans hF), hFr, (rg_w h_714 (by decide))⟩, by rw [ht]; exact hP, va_K.moved hW.alike hK, hD⟩, hS.F ht⟩) hS.2.2 dX12_firstSo_67
    exact L_619 _ (0 : Int32) ri rj _ _ _ (rg_w (rg_k (0 : Int32) 0 rfl) (by decide)) (fun _ _ => rfl) (Nat.lt_succ_self _) hF hFr hG hP hD hS (lv_sub hl [2, 3, 4, 5, 6, 1, 0] rfl)
  exact go _ _ _ hP hD hS hl

set_option maxRecDepth 100000 in
def g_X12_stands_K56 (I : Nat → Int32) (J : Nat → Int64) (rq : Nat → Nat → Option Nat) (ri_56 : Nat → Nat → Int32) (rj_57 : Nat → Nat → Int64) : Int32 × vM := ((1 : Int32), I, J, ri_56, rj_57, rq)
set_option maxRecDepth 100000 in
theorem g_X12_stands_K56_e {I : Nat → Int32} {J : Nat → Int64} {rq : Nat → Nat → Option Nat} {ri_56 : Nat → Nat → Int32} {rj_57 : Nat → Nat → Int64} : g_X12_stands_K56 I J rq ri_56 rj_57 = ((1 : Int32), I, J, ri_56, rj_57, rq) := rfl
set_option maxRecDepth 100000 in
def g_X12_stands (a0 : Int32) (I : Nat → Int32) (J : Nat → Int64) (ri : Nat → Nat → Int32) (rj : Nat → Nat → Int64) (rq : Nat → Nat → Option Nat) : Int32 × vM := (bnI (g_X12_cellAt_c14 a0 I J ri rj rq) fun (x_1 : Int32) (_ : Nat → Int32) (_ : Nat → Int64) (_ : Nat → Nat → Int32) (_ : Nat → Nat → Int64) (_ : Nat → Nat → Option Nat) => (if (0 : Int32) ≤ x_1 then (ap1 (ri 384 0) fun (y_17 : Int32) => (if (y_17) = (0 : Int32) then (g_X12_stands_K56 I J rq ri rj) else (bnI (g_X12_cellAt_c12 a0 I J ri rj rq) fun (x_68 : Int32) (_ : Nat → Int32) (_ : Nat → Int64) (_ : Nat → Nat → Int32) (_ : Nat → Nat → Int64) (_ : Nat → Nat → Option Nat) => (if x_68 = (1 : Int32) then (g_X12_stands_K56 I J rq ri rj) else (bnI (g_X12_cellAt_c11 a0 I J ri rj rq) fun (x_82 : Int32) (_ : Nat → Int32) (_ : Nat → Int64) (_ : Nat → Nat → Int32) (_ : Nat → Nat → Int64) (_ : Nat → Nat → Option Nat) => (bnI (g_X12_firstSo (1 : Int32) x_1 (y_17) x_82 I J ri rj rq) fun (x_89 : Int32) (_ : Nat → Int32) (_ : Nat → Int64) (ri_91 : Nat → Nat → Int32) (rj_92 : Nat → Nat → Int64) (_ : Nat → Nat → Option Nat) => (if x_89 < (0 : Int32) then ((0 : Int32), I, J, ri_91, rj_92, rq) else (g_X12_stands_K56 I J rq ri_91 rj_92)))))))) else ((0 : Int32), I, J, ri, rj, rq)))
set_option maxRecDepth 100000 in
theorem g_X12_stands_e {a0 : Int32} {I : Nat → Int32} {J : Nat → Int64} {ri : Nat → Nat → Int32} {rj : Nat → Nat → Int64} {rq : Nat → Nat → Option Nat} : g_X12_stands a0 I J ri rj rq = (bnI (g_X12_cellAt_c14 a0 I J ri rj rq) fun (x_1 : Int32) (_ : Nat → Int32) (_ : Nat → Int64) (_ : Nat → Nat → Int32) (_ : Nat → Nat → Int64) (_ : Nat → Nat → Option Nat) => (if (0 : Int32) ≤ x_1 then (ap1 (ri 384 0) fun (y_17 : Int32) => (if (y_17) = (0 : Int32) then (g_X12_stands_K56 I J rq ri rj) else (bnI (g_X12_cellAt_c12 a0 I J ri rj rq) fun (x_68 : Int32) (_ : Nat → Int32) (_ : Nat → Int64) (_ : Nat → Nat → Int32) (_ : Nat → Nat → Int64) (_ : Nat → Nat → Option Nat) => (if x_68 = (1 : Int32) then (g_X12_stands_K56 I J rq ri rj) else (bnI (g_X12_cellAt_c11 a0 I J ri rj rq) fun (x_82 : Int32) (_ : Nat → Int32) (_ : Nat → Int64) (_ : Nat → Nat → Int32) (_ : Nat → Nat → Int64) (_ : Nat → Nat → Option Nat) => (bnI (g_X12_firstSo (1 : Int32) x_1 (y_17) x_82 I J ri rj rq) fun (x_89 : Int32) (_ : Nat → Int32) (_ : Nat → Int64) (ri_91 : Nat → Nat → Int32) (rj_92 : Nat → Nat → Int64) (_ : Nat → Nat → Option Nat) => (if x_89 < (0 : Int32) then ((0 : Int32), I, J, ri_91, rj_92, rq) else (g_X12_stands_K56 I J rq ri_91 rj_92)))))))) else ((0 : Int32), I, J, ri, rj, rq))) := rfl
set_option maxHeartbeats 4000000 in
set_option maxRecDepth 100000 in
theorem s_X12_stands (l : Launch) (D : va_G) (t : pq_T) (σ : pq_S) (I : Nat → Nat → Int32) (J : Nat → Nat → Int64) (ri : Nat → Nat → Int32) (rj : Nat → Nat → Int64) (rq : Nat → Nat → Option Nat) (sz : Nat) (tg : Nat → Nat) (hSH : SH σ tg) (hG0 : GT tg I ri) (this : Nat) (a0 : Int32) (hL_this : this ∈ σ.1) (hK_this : σ.2.1 this = 12) (h_a0 : rg a0 0 39) : MetI l yX12_stands (wa yX12_stands cX12_stands 3 (some .boolean)) ({ frames := 4, cells := 0, slots := 0, locals := 102 }) [.ref this, .int a0] D t σ (I, J, ri, rj, rq) sz 0 0 (fun (r : Int32) (u : pq_S × pq_M) => ∃ ri' : Nat → Nat → Int32, ∃ rj' : Nat → Nat → Int64, u = (σ, I, J, ri', rj', rq) ∧ GM [] tg σ I ri I ri' rq ∧ g_X12_stands a0 (vI 12 σ this I) (vJ 12 σ this J) (vR 12 σ this ri) (vL 12 σ this rj) (vQ 12 σ this rq) = (r, (vI 12 σ this I), (vJ 12 σ this J), (vR 12 σ this ri'), (vL 12 σ this rj'), (vQ 12 σ this rq)) ∧ FR 12 tg σ this (I, J, ri, rj, rq) (I, J, ri', rj', rq) ∧ ((r = 1 ∧ True) ∨ (r = 0 ∧ True))) := by
  refine Met.ofW (cc := cX12_stands) (maxL := 3) (ret := (some .boolean)) (by decide) rfl ?_
  intro p e s m args below meth c s₁ B hml hv
  obtain ⟨rfl, hsz, hP, hK, hD0, hN⟩ := hv
  have hx := B.exec
  have hb := B.bytes
  have hr := B.returns
  have hts := atoms_spec (ws := (wa yX12_stands cX12_stands 3 (some .boolean))) B.pre
  have hown : s.vm.findClass RX12 = some m.cls := findClass_of_methodNamed B.named
  have hlocks := B.notSynchronized
  subst hsz
  have hD : va_D (pq_B t σ (I, J, ri, rj, rq) s.heap.size) (pq_P t σ (I, J, ri, rj, rq)) := hD0.self
  generalize hAe : pq_B t σ (I, J, ri, rj, rq) s.heap.size = A at hD ⊢
  have hA : ∀ q : Nat, s.heap.size ≤ q → A q := fun q h => by rw [← hAe]; exact Or.inr h
  have hS : va_S A s.heap s.heap [] := va_S.rf
  have hG : GM [] tg σ I ri I ri rq := ⟨hG0, fun _ _ _ => rfl, fun _ _ _ _ _ => rfl, fun _ _ _ _ _ _ => rfl⟩
  have hl := lv_entry ([.ref this, .int a0]) (n := 3) (Nat.le_of_ble_eq_true rfl)
  rw [lg_entry_eq]
  generalize (lg_sl ([.ref this, .int a0]) ++ List.replicate (3 - (lg_sl ([.ref this, .int a0])).length) Slot.unset).toArray = ls at hl ⊢
  have hl : lv_has ls 3 [(0, .ref this), (1, .int a0)] := hl
  refine q_gen (fun Q hQ => ?_)
  have go : ∀ (H : Heap) (locs : List Loc) (ls : Array Slot), va_P D vwCl (pq_P t σ (I, J, ri, rj, rq)) H → va_D A (pq_P t σ (I, J, ri, rj, rq)) → va_S A s.heap H locs → lv_has ls 3 [(0, .ref this), (1, .int a0)] → W p l e ({ frames := 4, cells := 0, slots := 0, locals := 102 } : Room) s m (List.toArray ([.ref this, .int a0] : List Value)) below meth c H locs 0 0 Q (F0 m 0 ls []) := by
    intro H locs ls hP hD hS hl
    have hO_this : this = vo σ 12 this := rfl
    have hVT : VT 12 σ tg this := vt_12 hSH hL_this hK_this
    have hFr : FR 12 tg σ this (I, J, ri, rj, rq) (I, J, ri, rj, rq) := fr_rf
    obtain ⟨F, hF0⟩ : ∃ F, F = g_X12_stands a0 (vI 12 σ this I) (vJ 12 σ this J) (vR 12 σ this ri) (vL 12 σ this rj) (vQ 12 σ this rq) := ⟨_, rfl⟩
    have hF := hF0.trans g_X12_stands_e
    refine lv_aload_n hx hb dX12_stands_0 rfl (lv_at hl 0 rfl) ?_
    refine lv_iload_n hx hb dX12_stands_1 rfl (lv_at hl 1 rfl) ?_
    refine lv_bipush (v := 14) hx hb dX12_stands_2 (by decide) ?_
    refine pk_i (va_runV (As := [.int a0, .int 14]) (rest := []) ⟨hx, hb, hml, hown, hts⟩ (s_X12_cellAt_c14 l D t σ I J ri rj rq H.size tg hSH hG.1 this a0 hL_this hK_this (rg_w h_a0 (by decide))) (cwV 2 hts (tw_V tw_361 tw_362 tw_363 tw_5 tw_364) rfl rfl rfl cv_yX12_cellAt_2 ⟨Nat.le_of_ble_eq_true rfl, Nat.le_of_ble_eq_true rfl⟩) ⟨pq_blind, pq_recv hK hP hL_this hK_this (by decide) rfl, pq_pre hK hN hP hD⟩ rfl rfl hl.1 rfl (lv_room (Nat.le_of_ble_eq_true rfl)) dX12_stands_4 ⟨Nat.le_of_ble_eq_true rfl, Nat.le_of_ble_eq_true rfl⟩) hD hS hA (fun x_1 σ1 μ1 H locs hw_2 hP hD hS => ?_)
    obtain ⟨hu_3, hfn_6, hr_5⟩ := hw_2
    obtain ⟨hu_3a, hu_3b⟩ := Prod.mk.inj hu_3
    rw [hu_3a, hu_3b] at hP hD
    replace hF := hF.trans (bn_n hfn_6)
    refine lv_istore_n (lv' := [(2, .int x_1), (0, .ref this), (1, .int a0)]) hx hb dX12_stands_7 rfl hl (by decide) rfl (fun ls hl => ?_)
    refine lv_iload_n hx hb dX12_stands_8 rfl (lv_at hl 0 rfl) ?_
    refine lv_if_ge (tgt := 14) hx hb dX12_stands_9 (by decide) (fun c_8 => ?_) (fun c_8 => ?_)
    · replace hF := hF.trans (if_pos c_8)
      have tc_13 : 0 ≤ (x_1).toInt := Int32.le_iff_toInt_le.mp c_8
      have h_14 : rg x_1 0 39 := rg_le2 c_8 (rg_k (0 : Int32) 0 rfl) hr_5 (by decide)
      have uh_14 := h_14.1
      have vh_14 := h_14.2
      refine lv_aload_n hx hb dX12_stands_14 rfl (lv_at hl 1 rfl) ?_
      obtain ⟨w_15, hR_w_15, hL_w_15, hK_w_15, hN_w_15, hT_w_15⟩ := sh_a hSH 384 (ci := 12) (kd := 13) (len := 12720) rfl (by decide) hL_this hK_this
      have hO_w_15 : w_15 = vrow σ 384 this := vo_k (c := 12) hO_this hR_w_15
      refine pg_f (v := .ref w_15) (C := RX12) (T := TX12) (N := 31) hx hb hts (tw_i inlX12) hown hK hP hL_this hK_this (by decide) rfl 0 (by decide) (hts _ (tw_c tw_176)) (pq_hv rfl hR_w_15) dX12_stands_15 ?_
      refine lv_iconst (v := 0) hx hb dX12_stands_18 (by decide) ?_
      refine pl_i hx hb hK hP hL_w_15 hK_w_15 hN_w_15 (vp_in_iff.mpr (by decide)) dX12_stands_19 ?_
      refine lv_tov (ri w_15 0) rfl ?_
      have h_16 : rg (ri w_15 0) 0 600 := GM.z0 hG0 (by rw [hT_w_15]; decide) (i := 0) (k := 0) (by decide) rfl
      have uh_16 := h_16.1
      have vh_16 := h_16.2
      replace hF := hF.trans (ap_n (vR_r hO_w_15 (by decide) rfl))
      have K_58 : ∀  (ri_56 : Nat → Nat → Int32) (rj_57 : Nat → Nat → Int64) (H : Heap) (locs : List Loc) (ls : Array Slot), F = g_X12_stands_K56 (vI 12 σ this I) (vJ 12 σ this J) (vQ 12 σ this rq) (vR 12 σ this ri_56) (vL 12 σ this rj_57) → FR 12 tg σ this (I, J, ri, rj, rq) (I, J, ri_56, rj_57, rq) → GM [] tg σ I ri I ri_56 rq → va_P D vwCl (pq_P t σ (I, J, ri_56, rj_57, rq)) H → va_D A (pq_P t σ (I, J, ri_56, rj_57, rq)) → va_S A s.heap H locs → lv_has ls 3 [] → W p l e ({ frames := 4, cells := 0, slots := 0, locals := 102 } : Room) s m (List.toArray ([.ref this, .int a0] : List Value)) below meth c H locs 0 0 Q (F0 m 56 ls []) := by
        intro ri_56 rj_57 H locs ls hF hFr hG hP hD hS hl
        replace hF := hF.trans g_X12_stands_K56_e
        refine lv_iconst (v := 1) hx hb dX12_stands_56 (by decide) ?_
        refine lv_goto (tgt := 61) hx hb dX12_stands_57 (by decide) ?_
        subst hQ
        exact W.zret (v := 1) hx hb hr (by decide) (fun t1 ht hW => ⟨⟨1, (σ, I, J, ri_56, rj_57, rq), rfl, ⟨ri_56, rj_57, rfl, hG, (hF0.symm.trans hF), hFr, (Or.inl ⟨rfl, trivial⟩)⟩, by rw [ht]; exact hP, va_K.moved hW.alike hK, hD⟩, hS.F ht⟩) hS.2.2 dX12_stands_61
      refine lv_if_eq (tgt := 56) hx hb dX12_stands_20 (by decide) (fun c_59 => ?_) (fun c_59 => ?_)
      · replace hF := hF.trans (if_pos c_59)
        have tc_64 : (ri w_15 0).toInt = 0 := congrArg Int32.toInt c_59
        have h_65 : rg (ri w_15 0) 0 0 := rg_and h_16 (rg_of_eq c_59 (rg_k (0 : Int32) 0 rfl)) (by decide)
        have uh_65 := h_65.1
        have vh_65 := h_65.2
        exact K_58 ri rj _ _ _ hF hFr hG hP hD hS (lv_sub hl [] rfl)
      · replace hF := hF.trans (if_neg c_59)
        have tc_66 : (ri w_15 0).toInt ≠ 0 := fun q => c_59 (Int32.toInt_inj.mp q)
        have h_67 : rg (ri w_15 0) 1 600 := rg_ne c_59 h_16 0 rfl (by decide)
        have uh_67 := h_67.1
        have vh_67 := h_67.2
        refine lv_aload_n hx hb dX12_stands_23 rfl (lv_at hl 1 rfl) ?_
        refine lv_iload_n hx hb dX12_stands_24 rfl (lv_at hl 2 rfl) ?_
        refine lv_bipush (v := 12) hx hb dX12_stands_25 (by decide) ?_
        refine pk_i (va_runV (As := [.int a0, .int 12]) (rest := []) ⟨hx, hb, hml, hown, hts⟩ (s_X12_cellAt_c12 l D t σ I J ri rj rq H.size tg hSH hG.1 this a0 hL_this hK_this (rg_w h_a0 (by decide))) (cwV 2 hts (tw_V tw_361 tw_362 tw_363 tw_5 tw_364) rfl rfl rfl cv_yX12_cellAt_2 ⟨Nat.le_of_ble_eq_true rfl, Nat.le_of_ble_eq_true rfl⟩) ⟨pq_blind, pq_recv hK hP hL_this hK_this (by decide) rfl, pq_pre hK hN hP hD⟩ rfl rfl hl.1 rfl (lv_room (Nat.le_of_ble_eq_true rfl)) dX12_stands_27 ⟨Nat.le_of_ble_eq_true rfl, Nat.le_of_ble_eq_true rfl⟩) hD hS hA (fun x_68 σ1 μ1 H locs hw_69 hP hD hS => ?_)
        obtain ⟨hu_70, hfn_73⟩ := hw_69
        obtain ⟨hu_70a, hu_70b⟩ := Prod.mk.inj hu_70
        rw [hu_70a, hu_70b] at hP hD
        replace hF := hF.trans (bn_n hfn_73)
        refine lv_iconst (v := 1) hx hb dX12_stands_30 (by decide) ?_
        refine lv_icmp_eq (tgt := 56) hx hb dX12_stands_31 (by decide) (fun c_75 => ?_) (fun c_75 => ?_)
        · replace hF := hF.trans (if_pos c_75)
          have tc_79 : (x_68).toInt = 1 := congrArg Int32.toInt c_75
          have h_80 : rg x_68 1 1 := rg_and (rg_full _) (rg_of_eq c_75 (rg_k (1 : Int32) 1 rfl)) (by decide)
          have uh_80 := h_80.1
          have vh_80 := h_80.2
          exact K_58 ri rj _ _ _ hF hFr hG hP hD hS (lv_sub hl [] rfl)
        · replace hF := hF.trans (if_neg c_75)
          have tc_81 : (x_68).toInt ≠ 1 := fun q => c_75 (Int32.toInt_inj.mp q)
          refine lv_aload_n hx hb dX12_stands_34 rfl (lv_at hl 1 rfl) ?_
          refine lv_iconst (v := 1) hx hb dX12_stands_35 (by decide) ?_
          refine lv_iload_n hx hb dX12_stands_36 rfl (lv_at hl 0 rfl) ?_
          refine lv_aload_n hx hb dX12_stands_37 rfl (lv_at hl 1 rfl) ?_
          refine pg_f (v := .ref w_15) (C := RX12) (T := TX12) (N := 31) hx hb hts (tw_i inlX12) hown hK hP hL_this hK_this (by decide) rfl 0 (by decide) (hts _ (tw_c tw_176)) (pq_hv rfl hR_w_15) dX12_stands_38 ?_
          refine lv_iconst (v := 0) hx hb dX12_stands_41 (by decide) ?_
          refine pl_i hx hb hK hP hL_w_15 hK_w_15 hN_w_15 (vp_in_iff.mpr (by decide)) dX12_stands_42 ?_
          refine lv_tov (ri w_15 0) rfl ?_
          refine lv_aload_n hx hb dX12_stands_43 rfl (lv_at hl 1 rfl) ?_
          refine lv_iload_n hx hb dX12_stands_44 rfl (lv_at hl 2 rfl) ?_
          refine lv_bipush (v := 11) hx hb dX12_stands_45 (by decide) ?_
          refine pk_i (va_runV (As := [.int a0, .int 11]) (rest := [.int (ri w_15 0), .int x_1, .int 1, .ref this]) ⟨hx, hb, hml, hown, hts⟩ (s_X12_cellAt_c11 l D t σ I J ri rj rq H.size tg hSH hG.1 this a0 hL_this hK_this (rg_w h_a0 (by decide))) (cwV 2 hts (tw_V tw_361 tw_362 tw_363 tw_5 tw_364) rfl rfl rfl cv_yX12_cellAt_2 ⟨Nat.le_of_ble_eq_true rfl, Nat.le_of_ble_eq_true rfl⟩) ⟨pq_blind, pq_recv hK hP hL_this hK_this (by decide) rfl, pq_pre hK hN hP hD⟩ rfl rfl hl.1 rfl (lv_room (Nat.le_of_ble_eq_true rfl)) dX12_stands_47 ⟨Nat.le_of_ble_eq_true rfl, Nat.le_of_ble_eq_true rfl⟩) hD hS hA (fun x_82 σ1 μ1 H locs hw_83 hP hD hS => ?_)
          obtain ⟨hu_84, hfn_87⟩ := hw_83
          obtain ⟨hu_84a, hu_84b⟩ := Prod.mk.inj hu_84
          rw [hu_84a, hu_84b] at hP hD
          replace hF := hF.trans (bn_n hfn_87)
          refine pk_i (va_runV (As := [.int 1, .int x_1, .int (ri w_15 0), .int x_82]) (rest := []) ⟨hx, hb, hml, hown, hts⟩ (s_X12_firstSo l D t σ I J ri rj rq H.size tg hSH hG.1 this (1 : Int32) x_1 (ri w_15 0) x_82 hL_this hK_this (rg_w (rg_k (1 : Int32) 1 rfl) (by decide)) (rg_w h_14 (by decide)) w_15 hR_w_15 hL_w_15 hK_w_15 hN_w_15 hT_w_15) (cwV 4 hts (tw_V tw_597 tw_598 tw_599 tw_5 tw_600) rfl rfl rfl cv_yX12_firstSo_4 ⟨Nat.le_of_ble_eq_true rfl, Nat.le_of_ble_eq_true rfl⟩) ⟨pq_blind, pq_recv hK hP hL_this hK_this (by decide) rfl, pq_pre hK hN hP hD⟩ rfl rfl hl.1 rfl (lv_room (Nat.le_of_ble_eq_true rfl)) dX12_stands_50 ⟨Nat.le_of_ble_eq_true rfl, Nat.le_of_ble_eq_true rfl⟩) hD hS hA (fun x_89 σ1 μ1 H locs hw_90 hP hD hS => ?_)
          obtain ⟨ri_91, rj_92, hu_93, hg_94, hp_96, hfn_97, hfr_98, hr_95⟩ := hw_90
          obtain ⟨hu_93a, hu_93b⟩ := Prod.mk.inj hu_93
          rw [hu_93a, hu_93b] at hP hD
          replace hF := hF.trans (bn_n hfn_97)
          replace hFr := fr_tr hFr hfr_98
          have hG := GM.tr hG hg_94 (by decide)
          refine lv_if_lt (tgt := 60) hx hb dX12_stands_53 (by decide) (fun c_99 => ?_) (fun c_99 => ?_)
          · replace hF := hF.trans (if_pos c_99)
            have tc_104 : (x_89).toInt < 0 := Int32.lt_iff_toInt_lt.mp c_99
            have h_105 : rg x_89 (-1) (-1) := rg_lt1 c_99 hr_95 (rg_k (0 : Int32) 0 rfl) (by decide)
            have uh_105 := h_105.1
            have vh_105 := h_105.2
            refine lv_iconst (v := 0) hx hb dX12_stands_60 (by decide) ?_
            subst hQ
            exact W.zret (v := 0) hx hb hr (by decide) (fun t1 ht hW => ⟨⟨0, (σ, I, J, ri_91, rj_92, rq), rfl, ⟨ri_91, rj_92, rfl, hG, (hF0.symm.trans hF), hFr, (Or.inr ⟨rfl, trivial⟩)⟩, by rw [ht]; exact hP, va_K.moved hW.alike hK, hD⟩, hS.F ht⟩) hS.2.2 dX12_stands_61
          · replace hF := hF.trans (if_neg c_99)
            have tc_106 : 0 ≤ (x_89).toInt := Int32.le_iff_toInt_le.mp (nlt c_99)
            have h_107 : rg x_89 0 19 := rg_le2 (nlt c_99) (rg_k (0 : Int32) 0 rfl) hr_95 (by decide)
            have uh_107 := h_107.1
            have vh_107 := h_107.2
            exact K_58 ri_91 rj_92 _ _ _ hF hFr hG hP hD hS (lv_sub hl [] rfl)
    · replace hF := hF.trans (if_neg c_8)
      have tc_108 : (x_1).toInt < 0 := Int32.lt_iff_toInt_lt.mp (nle c_8)
      have h_109 : rg x_1 (-1) (-1) := rg_lt1 (nle c_8) hr_5 (rg_k (0 : Int32) 0 rfl) (by decide)
      have uh_109 := h_109.1
      have vh_109 := h_109.2
      refine lv_iconst (v := 0) hx hb dX12_stands_12 (by decide) ?_
      subst hQ
      exact W.zret (v := 0) hx hb hr (by decide) (fun t1 ht hW => ⟨⟨0, (σ, I, J, ri, rj, rq), rfl, ⟨ri, rj, rfl, hG, (hF0.symm.trans hF), hFr, (Or.inr ⟨rfl, trivial⟩)⟩, by rw [ht]; exact hP, va_K.moved hW.alike hK, hD⟩, hS.F ht⟩) hS.2.2 dX12_stands_13
  exact go _ _ _ hP hD hS hl

set_option maxRecDepth 100000 in
def g_X12_titleOf_K17 (I : Nat → Int32) (J : Nat → Int64) (ri : Nat → Nat → Int32) (rj : Nat → Nat → Int64) (rq : Nat → Nat → Option Nat) : Int32 × vM := ((-1 : Int32), I, J, ri, rj, rq)
set_option maxRecDepth 100000 in
theorem g_X12_titleOf_K17_e {I : Nat → Int32} {J : Nat → Int64} {ri : Nat → Nat → Int32} {rj : Nat → Nat → Int64} {rq : Nat → Nat → Option Nat} : g_X12_titleOf_K17 I J ri rj rq  = ((-1 : Int32), I, J, ri, rj, rq) := rfl
set_option maxRecDepth 100000 in
def g_X12_titleOf (a0 : Int32) (a1 : Int32) (I : Nat → Int32) (J : Nat → Int64) (ri : Nat → Nat → Int32) (rj : Nat → Nat → Int64) (rq : Nat → Nat → Option Nat) : Int32 × vM := (bnI (g_X12_isCell a0 I J ri rj rq) fun (x_1 : Int32) (_ : Nat → Int32) (_ : Nat → Int64) (_ : Nat → Nat → Int32) (_ : Nat → Nat → Int64) (_ : Nat → Nat → Option Nat) => (if x_1 = (0 : Int32) then (g_X12_titleOf_K17 I J ri rj rq ) else (ap1 (g_X12_isIn a1 (0 : Int32) (1 : Int32)) fun (x_77 : Int32) => (if x_77 = (0 : Int32) then (g_X12_titleOf_K17 I J ri rj rq ) else (if a1 = (0 : Int32) then (bnI (g_X12_cellAt_c14 a0 I J ri rj rq) fun (x_133 : Int32) (_ : Nat → Int32) (_ : Nat → Int64) (_ : Nat → Nat → Int32) (_ : Nat → Nat → Int64) (_ : Nat → Nat → Option Nat) => (x_133, I, J, ri, rj, rq)) else (bnI (g_X12_stands a0 I J ri rj rq) fun (x_112 : Int32) (_ : Nat → Int32) (_ : Nat → Int64) (ri_114 : Nat → Nat → Int32) (rj_115 : Nat → Nat → Int64) (_ : Nat → Nat → Option Nat) => (if x_112 = (0 : Int32) then ((0 : Int32), I, J, ri_114, rj_115, rq) else ((1 : Int32), I, J, ri_114, rj_115, rq))))))))
set_option maxRecDepth 100000 in
theorem g_X12_titleOf_e {a0 : Int32} {a1 : Int32} {I : Nat → Int32} {J : Nat → Int64} {ri : Nat → Nat → Int32} {rj : Nat → Nat → Int64} {rq : Nat → Nat → Option Nat} : g_X12_titleOf a0 a1 I J ri rj rq = (bnI (g_X12_isCell a0 I J ri rj rq) fun (x_1 : Int32) (_ : Nat → Int32) (_ : Nat → Int64) (_ : Nat → Nat → Int32) (_ : Nat → Nat → Int64) (_ : Nat → Nat → Option Nat) => (if x_1 = (0 : Int32) then (g_X12_titleOf_K17 I J ri rj rq ) else (ap1 (g_X12_isIn a1 (0 : Int32) (1 : Int32)) fun (x_77 : Int32) => (if x_77 = (0 : Int32) then (g_X12_titleOf_K17 I J ri rj rq ) else (if a1 = (0 : Int32) then (bnI (g_X12_cellAt_c14 a0 I J ri rj rq) fun (x_133 : Int32) (_ : Nat → Int32) (_ : Nat → Int64) (_ : Nat → Nat → Int32) (_ : Nat → Nat → Int64) (_ : Nat → Nat → Option Nat) => (x_133, I, J, ri, rj, rq)) else (bnI (g_X12_stands a0 I J ri rj rq) fun (x_112 : Int32) (_ : Nat → Int32) (_ : Nat → Int64) (ri_114 : Nat → Nat → Int32) (rj_115 : Nat → Nat → Int64) (_ : Nat → Nat → Option Nat) => (if x_112 = (0 : Int32) then ((0 : Int32), I, J, ri_114, rj_115, rq) else ((1 : Int32), I, J, ri_114, rj_115, rq)))))))) := rfl
set_option maxHeartbeats 4000000 in
set_option maxRecDepth 100000 in
theorem s_X12_titleOf (l : Launch) (D : va_G) (t : pq_T) (σ : pq_S) (I : Nat → Nat → Int32) (J : Nat → Nat → Int64) (ri : Nat → Nat → Int32) (rj : Nat → Nat → Int64) (rq : Nat → Nat → Option Nat) (sz : Nat) (tg : Nat → Nat) (hSH : SH σ tg) (hG0 : GT tg I ri) (this : Nat) (a0 : Int32) (a1 : Int32) (hL_this : this ∈ σ.1) (hK_this : σ.2.1 this = 12) : MetI l yX12_titleOf (wa yX12_titleOf cX12_titleOf 3 (some .int)) ({ frames := 5, cells := 0, slots := 0, locals := 124 }) [.ref this, .int a0, .int a1] D t σ (I, J, ri, rj, rq) sz 0 0 (fun (r : Int32) (u : pq_S × pq_M) => ∃ ri' : Nat → Nat → Int32, ∃ rj' : Nat → Nat → Int64, u = (σ, I, J, ri', rj', rq) ∧ GM [] tg σ I ri I ri' rq ∧ g_X12_titleOf a0 a1 (vI 12 σ this I) (vJ 12 σ this J) (vR 12 σ this ri) (vL 12 σ this rj) (vQ 12 σ this rq) = (r, (vI 12 σ this I), (vJ 12 σ this J), (vR 12 σ this ri'), (vL 12 σ this rj'), (vQ 12 σ this rq)) ∧ FR 12 tg σ this (I, J, ri, rj, rq) (I, J, ri', rj', rq) ∧ rg r (-1) 39) := by
  refine Met.ofW (cc := cX12_titleOf) (maxL := 3) (ret := (some .int)) (by decide) rfl ?_
  intro p e s m args below meth c s₁ B hml hv
  obtain ⟨rfl, hsz, hP, hK, hD0, hN⟩ := hv
  have hx := B.exec
  have hb := B.bytes
  have hr := B.returns
  have hts := atoms_spec (ws := (wa yX12_titleOf cX12_titleOf 3 (some .int))) B.pre
  have hown : s.vm.findClass RX12 = some m.cls := findClass_of_methodNamed B.named
  have hlocks := B.notSynchronized
  subst hsz
  have hD : va_D (pq_B t σ (I, J, ri, rj, rq) s.heap.size) (pq_P t σ (I, J, ri, rj, rq)) := hD0.self
  generalize hAe : pq_B t σ (I, J, ri, rj, rq) s.heap.size = A at hD ⊢
  have hA : ∀ q : Nat, s.heap.size ≤ q → A q := fun q h => by rw [← hAe]; exact Or.inr h
  have hS : va_S A s.heap s.heap [] := va_S.rf
  have hG : GM [] tg σ I ri I ri rq := ⟨hG0, fun _ _ _ => rfl, fun _ _ _ _ _ => rfl, fun _ _ _ _ _ _ => rfl⟩
  have hl := lv_entry ([.ref this, .int a0, .int a1]) (n := 3) (Nat.le_of_ble_eq_true rfl)
  rw [lg_entry_eq]
  generalize (lg_sl ([.ref this, .int a0, .int a1]) ++ List.replicate (3 - (lg_sl ([.ref this, .int a0, .int a1])).length) Slot.unset).toArray = ls at hl ⊢
  have hl : lv_has ls 3 [(0, .ref this), (1, .int a0), (2, .int a1)] := hl
  refine q_gen (fun Q hQ => ?_)
  have go : ∀ (H : Heap) (locs : List Loc) (ls : Array Slot), va_P D vwCl (pq_P t σ (I, J, ri, rj, rq)) H → va_D A (pq_P t σ (I, J, ri, rj, rq)) → va_S A s.heap H locs → lv_has ls 3 [(0, .ref this), (1, .int a0), (2, .int a1)] → W p l e ({ frames := 5, cells := 0, slots := 0, locals := 124 } : Room) s m (List.toArray ([.ref this, .int a0, .int a1] : List Value)) below meth c H locs 0 0 Q (F0 m 0 ls []) := by
    intro H locs ls hP hD hS hl
    have hO_this : this = vo σ 12 this := rfl
    have hVT : VT 12 σ tg this := vt_12 hSH hL_this hK_this
    have hFr : FR 12 tg σ this (I, J, ri, rj, rq) (I, J, ri, rj, rq) := fr_rf
    obtain ⟨F, hF0⟩ : ∃ F, F = g_X12_titleOf a0 a1 (vI 12 σ this I) (vJ 12 σ this J) (vR 12 σ this ri) (vL 12 σ this rj) (vQ 12 σ this rq) := ⟨_, rfl⟩
    have hF := hF0.trans g_X12_titleOf_e
    refine lv_aload_n hx hb dX12_titleOf_0 rfl (lv_at hl 0 rfl) ?_
    refine lv_iload_n hx hb dX12_titleOf_1 rfl (lv_at hl 1 rfl) ?_
    refine pk_i (va_runV (As := [.int a0]) (rest := []) ⟨hx, hb, hml, hown, hts⟩ (s_X12_isCell l D t σ I J ri rj rq H.size tg hSH hG.1 this a0 hL_this hK_this) (cwV 1 hts (tw_V tw_340 tw_341 tw_342 tw_5 tw_343) rfl rfl rfl cv_yX12_isCell_1 ⟨Nat.le_of_ble_eq_true rfl, Nat.le_of_ble_eq_true rfl⟩) ⟨pq_blind, pq_recv hK hP hL_this hK_this (by decide) rfl, pq_pre hK hN hP hD⟩ rfl rfl hl.1 rfl (lv_room (Nat.le_of_ble_eq_true rfl)) dX12_titleOf_2 ⟨Nat.le_of_ble_eq_true rfl, Nat.le_of_ble_eq_true rfl⟩) hD hS hA (fun x_1 σ1 μ1 H locs hw_2 hP hD hS => ?_)
    obtain ⟨hu_3, hfn_6, hr_5⟩ := hw_2
    obtain ⟨hu_3a, hu_3b⟩ := Prod.mk.inj hu_3
    rw [hu_3a, hu_3b] at hP hD
    replace hF := hF.trans (bn_n hfn_6)
    have h_8 : rg x_1 0 1 := by rcases hr_5 with ⟨q, -⟩ | ⟨q, -⟩ <;> rw [q] <;> exact ⟨by decide, by decide⟩
    have uh_8 := h_8.1
    have vh_8 := h_8.2
    have K_63 : ∀  (H : Heap) (locs : List Loc) (ls : Array Slot), F = g_X12_titleOf_K17 (vI 12 σ this I) (vJ 12 σ this J) (vR 12 σ this ri) (vL 12 σ this rj) (vQ 12 σ this rq)  → FR 12 tg σ this (I, J, ri, rj, rq) (I, J, ri, rj, rq) → GM [] tg σ I ri I ri rq → va_P D vwCl (pq_P t σ (I, J, ri, rj, rq)) H → va_D A (pq_P t σ (I, J, ri, rj, rq)) → va_S A s.heap H locs → lv_has ls 3 [] → W p l e ({ frames := 5, cells := 0, slots := 0, locals := 124 } : Room) s m (List.toArray ([.ref this, .int a0, .int a1] : List Value)) below meth c H locs 0 0 Q (F0 m 17 ls []) := by
      intro H locs ls hF hFr hG hP hD hS hl
      replace hF := hF.trans g_X12_titleOf_K17_e
      refine lv_iconst (v := (-1)) hx hb dX12_titleOf_17 (by decide) ?_
      subst hQ
      exact W.iret (v := (-1)) hx hb hr (fun t1 ht hW => ⟨⟨(-1), (σ, I, J, ri, rj, rq), rfl, ⟨ri, rj, rfl, hG, (hF0.symm.trans hF), hFr, (rg_w (rg_k (-1 : Int32) (-1) rfl) (by decide))⟩, by rw [ht]; exact hP, va_K.moved hW.alike hK, hD⟩, hS.F ht⟩) hS.2.2 dX12_titleOf_18
    refine lv_if_eq (tgt := 17) hx hb dX12_titleOf_5 (by decide) (fun c_64 => ?_) (fun c_64 => ?_)
    · replace hF := hF.trans (if_pos c_64)
      have f_71 := (hr_5.resolve_left (fun q => absurd (q.1.symm.trans c_64) (by decide))).2
      have tc_72 : (x_1).toInt = 0 := congrArg Int32.toInt c_64
      have h_73 : rg x_1 0 0 := rg_and h_8 (rg_of_eq c_64 (rg_k (0 : Int32) 0 rfl)) (by decide)
      have uh_73 := h_73.1
      have vh_73 := h_73.2
      exact K_63 _ _ _ hF hFr hG hP hD hS (lv_sub hl [] rfl)
    · replace hF := hF.trans (if_neg c_64)
      have f_74 := (hr_5.resolve_right (fun q => c_64 q.1)).2
      have uf_74 := f_74.1
      have vf_74 := f_74.2
      have tc_75 : (x_1).toInt ≠ 0 := fun q => c_64 (Int32.toInt_inj.mp q)
      have h_76 : rg x_1 1 1 := rg_ne c_64 h_8 0 rfl (by decide)
      have uh_76 := h_76.1
      have vh_76 := h_76.2
      refine lv_iload_n hx hb dX12_titleOf_8 rfl (lv_at hl 2 rfl) ?_
      refine lv_iconst (v := 0) hx hb dX12_titleOf_9 (by decide) ?_
      refine lv_iconst (v := 1) hx hb dX12_titleOf_10 (by decide) ?_
      refine pk_i (va_runS (As := [.int a1, .int 0, .int 1]) (rest := []) ⟨hx, hb, hml, hown, hts⟩ (s_X12_isIn l D t σ I J ri rj rq H.size tg hSH hG.1 a1 (0 : Int32) (1 : Int32)) (va_cwS 3 hts (tw_S tw_235 tw_236 tw_5 tw_237) rfl rfl rfl cd_yX12_isIn_3 ⟨Nat.le_of_ble_eq_true rfl, Nat.le_of_ble_eq_true rfl⟩) ⟨pq_blind, pq_pre hK hN hP hD⟩ rfl rfl hl.1 rfl (lv_room (Nat.le_of_ble_eq_true rfl)) dX12_titleOf_11 ⟨Nat.le_of_ble_eq_true rfl, Nat.le_of_ble_eq_true rfl⟩) hD hS hA (fun x_77 σ1 μ1 H locs hw_78 hP hD hS => ?_)
      obtain ⟨hu_79, hfn_82, hr_81⟩ := hw_78
      obtain ⟨hu_79a, hu_79b⟩ := Prod.mk.inj hu_79
      rw [hu_79a, hu_79b] at hP hD
      replace hF := hF.trans (ap_n hfn_82.symm)
      have h_84 : rg x_77 0 1 := by rcases hr_81 with ⟨q, -⟩ | ⟨q, -⟩ <;> rw [q] <;> exact ⟨by decide, by decide⟩
      have uh_84 := h_84.1
      have vh_84 := h_84.2
      refine lv_if_ne (tgt := 19) hx hb dX12_titleOf_14 (by decide) (fun c_85 => ?_) (fun c_85 => ?_)
      · replace hF := hF.trans (if_neg c_85)
        obtain ⟨f_97, f_98⟩ := (hr_81.resolve_right (fun q => c_85 q.1)).2
        have tc_99 : 0 ≤ (a1).toInt := Int32.le_iff_toInt_le.mp f_97
        have h_100 : rg a1 0 2147483647 := rg_le2 f_97 (rg_k (0 : Int32) 0 rfl) (rg_full _) (by decide)
        have uh_100 := h_100.1
        have vh_100 := h_100.2
        have tc_101 : (a1).toInt ≤ 1 := Int32.le_iff_toInt_le.mp f_98
        have h_102 : rg a1 0 1 := rg_le1 f_98 h_100 (rg_k (1 : Int32) 1 rfl) (by decide)
        have uh_102 := h_102.1
        have vh_102 := h_102.2
        have tc_103 : (x_77).toInt ≠ 0 := fun q => c_85 (Int32.toInt_inj.mp q)
        have h_104 : rg x_77 1 1 := rg_ne c_85 h_84 0 rfl (by decide)
        have uh_104 := h_104.1
        have vh_104 := h_104.2
        refine lv_iload_n hx hb dX12_titleOf_19 rfl (lv_at hl 2 rfl) ?_
        refine lv_if_ne (tgt := 33) hx hb dX12_titleOf_20 (by decide) (fun c_105 => ?_) (fun c_105 => ?_)
        · replace hF := hF.trans (if_neg c_105)
          have tc_110 : (a1).toInt ≠ 0 := fun q => c_105 (Int32.toInt_inj.mp q)
          have h_111 : rg a1 1 1 := rg_ne c_105 h_102 0 rfl (by decide)
          have uh_111 := h_111.1
          have vh_111 := h_111.2
          refine lv_aload_n hx hb dX12_titleOf_33 rfl (lv_at hl 0 rfl) ?_
          refine lv_iload_n hx hb dX12_titleOf_34 rfl (lv_at hl 1 rfl) ?_
          refine pk_i (va_runV (As := [.int a0]) (rest := []) ⟨hx, hb, hml, hown, hts⟩ (s_X12_stands l D t σ I J ri rj rq H.size tg hSH hG.1 this a0 hL_this hK_this (rg_w f_74 (by decide))) (cwV 1 hts (tw_V tw_593 tw_594 tw_595 tw_5 tw_596) rfl rfl rfl cv_yX12_stands_1 ⟨Nat.le_of_ble_eq_true rfl, Nat.le_of_ble_eq_true rfl⟩) ⟨pq_blind, pq_recv hK hP hL_this hK_this (by decide) rfl, pq_pre hK hN hP hD⟩ rfl rfl hl.1 rfl (lv_room (Nat.le_of_ble_eq_true rfl)) dX12_titleOf_35 ⟨Nat.le_of_ble_eq_true rfl, Nat.le_of_ble_eq_true rfl⟩) hD hS hA (fun x_112 σ1 μ1 H locs hw_113 hP hD hS => ?_)
          obtain ⟨ri_114, rj_115, hu_116, hg_117, hfn_119, hfr_120, hr_118⟩ := hw_113
          obtain ⟨hu_116a, hu_116b⟩ := Prod.mk.inj hu_116
          rw [hu_116a, hu_116b] at hP hD
          replace hF := hF.trans (bn_n hfn_119)
          replace hFr := fr_tr hFr hfr_120
          have hG := GM.tr hG hg_117 (by decide)
          have h_121 : rg x_112 0 1 := by rcases hr_118 with ⟨q, -⟩ | ⟨q, -⟩ <;> rw [q] <;> exact ⟨by decide, by decide⟩
          have uh_121 := h_121.1
          have vh_121 := h_121.2
          refine lv_if_eq (tgt := 45) hx hb dX12_titleOf_38 (by decide) (fun c_122 => ?_) (fun c_122 => ?_)
          · replace hF := hF.trans (if_pos c_122)
            have tc_127 : (x_112).toInt = 0 := congrArg Int32.toInt c_122
            have h_128 : rg x_112 0 0 := rg_and h_121 (rg_of_eq c_122 (rg_k (0 : Int32) 0 rfl)) (by decide)
            have uh_128 := h_128.1
            have vh_128 := h_128.2
            refine lv_iconst (v := 0) hx hb dX12_titleOf_45 (by decide) ?_
            subst hQ
            exact W.iret (v := 0) hx hb hr (fun t1 ht hW => ⟨⟨0, (σ, I, J, ri_114, rj_115, rq), rfl, ⟨ri_114, rj_115, rfl, hG, (hF0.symm.trans hF), hFr, (rg_w (rg_k (0 : Int32) 0 rfl) (by decide))⟩, by rw [ht]; exact hP, va_K.moved hW.alike hK, hD⟩, hS.F ht⟩) hS.2.2 dX12_titleOf_46
          · replace hF := hF.trans (if_neg c_122)
            have tc_129 : (x_112).toInt ≠ 0 := fun q => c_122 (Int32.toInt_inj.mp q)
            have h_130 : rg x_112 1 1 := rg_ne c_122 h_121 0 rfl (by decide)
            have uh_130 := h_130.1
            have vh_130 := h_130.2
            refine lv_iconst (v := 1) hx hb dX12_titleOf_41 (by decide) ?_
            refine lv_goto (tgt := 46) hx hb dX12_titleOf_42 (by decide) ?_
            subst hQ
            exact W.iret (v := 1) hx hb hr (fun t1 ht hW => ⟨⟨1, (σ, I, J, ri_114, rj_115, rq), rfl, ⟨ri_114, rj_115, rfl, hG, (hF0.symm.trans hF), hFr, (rg_w (rg_k (1 : Int32) 1 rfl) (by decide))⟩, by rw [ht]; exact hP, va_K.moved hW.alike hK, hD⟩, hS.F ht⟩) hS.2.2 dX12_titleOf_46
        · replace hF := hF.trans (if_pos c_105)
          have tc_131 : (a1).toInt = 0 := congrArg Int32.toInt c_105
          have h_132 : rg a1 0 0 := rg_and h_102 (rg_of_eq c_105 (rg_k (0 : Int32) 0 rfl)) (by decide)
          have uh_132 := h_132.1
          have vh_132 := h_132.2
          refine lv_aload_n hx hb dX12_titleOf_23 rfl (lv_at hl 0 rfl) ?_
          refine lv_iload_n hx hb dX12_titleOf_24 rfl (lv_at hl 1 rfl) ?_
          refine lv_bipush (v := 14) hx hb dX12_titleOf_25 (by decide) ?_
          refine pk_i (va_runV (As := [.int a0, .int 14]) (rest := []) ⟨hx, hb, hml, hown, hts⟩ (s_X12_cellAt_c14 l D t σ I J ri rj rq H.size tg hSH hG.1 this a0 hL_this hK_this (rg_w f_74 (by decide))) (cwV 2 hts (tw_V tw_361 tw_362 tw_363 tw_5 tw_364) rfl rfl rfl cv_yX12_cellAt_2 ⟨Nat.le_of_ble_eq_true rfl, Nat.le_of_ble_eq_true rfl⟩) ⟨pq_blind, pq_recv hK hP hL_this hK_this (by decide) rfl, pq_pre hK hN hP hD⟩ rfl rfl hl.1 rfl (lv_room (Nat.le_of_ble_eq_true rfl)) dX12_titleOf_27 ⟨Nat.le_of_ble_eq_true rfl, Nat.le_of_ble_eq_true rfl⟩) hD hS hA (fun x_133 σ1 μ1 H locs hw_134 hP hD hS => ?_)
          obtain ⟨hu_135, hfn_138, hr_137⟩ := hw_134
          obtain ⟨hu_135a, hu_135b⟩ := Prod.mk.inj hu_135
          rw [hu_135a, hu_135b] at hP hD
          replace hF := hF.trans (bn_n hfn_138)
          refine lv_goto (tgt := 46) hx hb dX12_titleOf_30 (by decide) ?_
          subst hQ
          exact W.iret (v := x_133) hx hb hr (fun t1 ht hW => ⟨⟨x_133, (σ, I, J, ri, rj, rq), rfl, ⟨ri, rj, rfl, hG, (hF0.symm.trans hF), hFr, (rg_w hr_137 (by decide))⟩, by rw [ht]; exact hP, va_K.moved hW.alike hK, hD⟩, hS.F ht⟩) hS.2.2 dX12_titleOf_46
      · replace hF := hF.trans (if_pos c_85)
        have f_140 := (hr_81.resolve_left (fun q => absurd (q.1.symm.trans c_85) (by decide))).2
        have tc_141 : (x_77).toInt = 0 := congrArg Int32.toInt c_85
        have h_142 : rg x_77 0 0 := rg_and h_84 (rg_of_eq c_85 (rg_k (0 : Int32) 0 rfl)) (by decide)
        have uh_142 := h_142.1
        have vh_142 := h_142.2
        exact K_63 _ _ _ hF hFr hG hP hD hS (lv_sub hl [] rfl)
  exact go _ _ _ hP hD hS hl

set_option maxRecDepth 100000 in
def g_X12_four_L3 (a0 : Int32) (J : Nat → Int64) (rj : Nat → Nat → Int64) (rq : Nat → Nat → Option Nat) : Nat → (Int32) → (Nat → Int32) → (Nat → Nat → Int32) → vM
  | 0, x_177, I_178, ri_179 => (I_178, J, ri_179, rj, rq)
  | n_202 + 1, x_177, I_178, ri_179 => (if x_177 < (0 : Int32) then (I_178, J, ri_179, rj, rq) else (ap1 (I_178 388) fun (y_220 : Int32) => (ap1 (a0 >>> (x_177 &&& 31)) fun (x_221 : Int32) => (ap1 (x_221 &&& (255 : Int32)) fun (x_222 : Int32) => (ap1 (va_up ri_179 387 (upd (ri_179 387) ((y_220)).toNatClampNeg x_222)) fun (r_224 : Nat → Nat → Int32) => (ap1 ((y_220) + (1 : Int32)) fun (x_226 : Int32) => (ap1 (va_up I_178 388 x_226) fun (I_228 : Nat → Int32) => (ap1 (x_177 + Int32.ofInt (-8)) fun (x_230 : Int32) => ((g_X12_four_L3 a0 J rj rq n_202) x_230 I_228 r_224)))))))))
set_option maxRecDepth 100000 in
theorem g_X12_four_L3_e {a0 : Int32} {J : Nat → Int64} {rj : Nat → Nat → Int64} {rq : Nat → Nat → Option Nat} {n_202 : Nat} {x_177 : Int32} {I_178 : Nat → Int32} {ri_179 : Nat → Nat → Int32} : g_X12_four_L3 a0 J rj rq (n_202 + 1) x_177 I_178 ri_179 = (if x_177 < (0 : Int32) then (I_178, J, ri_179, rj, rq) else (ap1 (I_178 388) fun (y_220 : Int32) => (ap1 (a0 >>> (x_177 &&& 31)) fun (x_221 : Int32) => (ap1 (x_221 &&& (255 : Int32)) fun (x_222 : Int32) => (ap1 (va_up ri_179 387 (upd (ri_179 387) ((y_220)).toNatClampNeg x_222)) fun (r_224 : Nat → Nat → Int32) => (ap1 ((y_220) + (1 : Int32)) fun (x_226 : Int32) => (ap1 (va_up I_178 388 x_226) fun (I_228 : Nat → Int32) => (ap1 (x_177 + Int32.ofInt (-8)) fun (x_230 : Int32) => ((g_X12_four_L3 a0 J rj rq n_202) x_230 I_228 r_224))))))))) := rfl
set_option maxRecDepth 100000 in
def g_X12_four (a0 : Int32) (I : Nat → Int32) (J : Nat → Int64) (ri : Nat → Nat → Int32) (rj : Nat → Nat → Int64) (rq : Nat → Nat → Option Nat) : vM := (g_X12_four_L3 a0 J rj rq ((((24 : Int32)).toInt - (-8)).toNat + 1) (24 : Int32) I ri)
set_option maxRecDepth 100000 in
theorem g_X12_four_e {a0 : Int32} {I : Nat → Int32} {J : Nat → Int64} {ri : Nat → Nat → Int32} {rj : Nat → Nat → Int64} {rq : Nat → Nat → Option Nat} : g_X12_four a0 I J ri rj rq = (g_X12_four_L3 a0 J rj rq ((((24 : Int32)).toInt - (-8)).toNat + 1) (24 : Int32) I ri) := rfl
set_option maxHeartbeats 4000000 in
set_option maxRecDepth 100000 in
theorem s_X12_four (l : Launch) (D : va_G) (t : pq_T) (σ : pq_S) (I : Nat → Nat → Int32) (J : Nat → Nat → Int64) (ri : Nat → Nat → Int32) (rj : Nat → Nat → Int64) (rq : Nat → Nat → Option Nat) (sz : Nat) (tg : Nat → Nat) (hSH : SH σ tg) (hG0 : GT tg I ri) (this : Nat) (a0 : Int32) (hL_this : this ∈ σ.1) (hK_this : σ.2.1 this = 12) (hct : (I 388 this).toInt + 4 ≤ 300) : MetV l yX12_four (wa yX12_four cX12_four 3 none) ({ frames := 0, cells := 0, slots := 0, locals := 0 }) [.ref this, .int a0] D t σ (I, J, ri, rj, rq) sz 0 0 (fun (u : pq_S × pq_M) => ∃ I' : Nat → Nat → Int32, ∃ ri' : Nat → Nat → Int32, u = (σ, I', J, ri', rj, rq) ∧ GM [2003, 388] tg σ I ri I' ri' rq ∧ ((I' 388 this).toInt = (I 388 this).toInt + 4) ∧ g_X12_four a0 (vI 12 σ this I) (vJ 12 σ this J) (vR 12 σ this ri) (vL 12 σ this rj) (vQ 12 σ this rq) = ((vI 12 σ this I'), (vJ 12 σ this J), (vR 12 σ this ri'), (vL 12 σ this rj), (vQ 12 σ this rq)) ∧ FR 12 tg σ this (I, J, ri, rj, rq) (I', J, ri', rj, rq)) := by
  refine Met.ofW (cc := cX12_four) (maxL := 3) (ret := none) (by decide) rfl ?_
  intro p e s m args below meth c s₁ B hml hv
  obtain ⟨rfl, hsz, hP, hK, hD0, hN⟩ := hv
  have hx := B.exec
  have hb := B.bytes
  have hr := B.returns
  have hts := atoms_spec (ws := (wa yX12_four cX12_four 3 none)) B.pre
  have hown : s.vm.findClass RX12 = some m.cls := findClass_of_methodNamed B.named
  have hlocks := B.notSynchronized
  subst hsz
  have hD : va_D (pq_B t σ (I, J, ri, rj, rq) s.heap.size) (pq_P t σ (I, J, ri, rj, rq)) := hD0.self
  generalize hAe : pq_B t σ (I, J, ri, rj, rq) s.heap.size = A at hD ⊢
  have hA : ∀ q : Nat, s.heap.size ≤ q → A q := fun q h => by rw [← hAe]; exact Or.inr h
  have hS : va_S A s.heap s.heap [] := va_S.rf
  have hG : GM [2003, 388] tg σ I ri I ri rq := ⟨hG0, fun _ _ _ => rfl, fun _ _ _ _ _ => rfl, fun _ _ _ _ _ _ => rfl⟩
  have hl := lv_entry ([.ref this, .int a0]) (n := 3) (Nat.le_of_ble_eq_true rfl)
  rw [lg_entry_eq]
  generalize (lg_sl ([.ref this, .int a0]) ++ List.replicate (3 - (lg_sl ([.ref this, .int a0])).length) Slot.unset).toArray = ls at hl ⊢
  have hl : lv_has ls 3 [(0, .ref this), (1, .int a0)] := hl
  refine q_gen (fun Q hQ => ?_)
  have go : ∀ (H : Heap) (locs : List Loc) (ls : Array Slot), va_P D vwCl (pq_P t σ (I, J, ri, rj, rq)) H → va_D A (pq_P t σ (I, J, ri, rj, rq)) → va_S A s.heap H locs → lv_has ls 3 [(0, .ref this), (1, .int a0)] → W p l e ({ frames := 0, cells := 0, slots := 0, locals := 0 } : Room) s m (List.toArray ([.ref this, .int a0] : List Value)) below meth c H locs 0 0 Q (F0 m 0 ls []) := by
    intro H locs ls hP hD hS hl
    have hO_this : this = vo σ 12 this := rfl
    have hVT : VT 12 σ tg this := vt_12 hSH hL_this hK_this
    have hFr : FR 12 tg σ this (I, J, ri, rj, rq) (I, J, ri, rj, rq) := fr_rf
    obtain ⟨F, hF0⟩ : ∃ F, F = g_X12_four a0 (vI 12 σ this I) (vJ 12 σ this J) (vR 12 σ this ri) (vL 12 σ this rj) (vQ 12 σ this rq) := ⟨_, rfl⟩
    have hF := hF0.trans g_X12_four_e
    refine lv_bipush (v := 24) hx hb dX12_four_0 (by decide) ?_
    refine lv_istore_n (lv' := [(2, .int 24), (0, .ref this), (1, .int a0)]) hx hb dX12_four_2 rfl hl (by decide) rfl (fun ls hl => ?_)
    have L_203 : ∀ (n_202 : Nat) (x_177 : Int32) (I_178 : Nat → Nat → Int32) (ri_179 : Nat → Nat → Int32) (H : Heap) (locs : List Loc) (ls : Array Slot), rg x_177 (-8) 24 → (8 * ((I_178 388 this).toInt - (I 388 this).toInt) + (x_177).toInt = 24) → ((x_177).toInt - (-8)).toNat < n_202 → F = g_X12_four_L3 a0 (vJ 12 σ this J) (vL 12 σ this rj) (vQ 12 σ this rq) n_202 x_177 (vI 12 σ this I_178) (vR 12 σ this ri_179) → FR 12 tg σ this (I, J, ri, rj, rq) (I_178, J, ri_179, rj, rq) → GM [2003, 388] tg σ I ri I_178 ri_179 rq → va_P D vwCl (pq_P t σ (I_178, J, ri_179, rj, rq)) H → va_D A (pq_P t σ (I_178, J, ri_179, rj, rq)) → va_S A s.heap H locs → lv_has ls 3 [(0, .ref this), (1, .int a0), (2, .int x_177)] → W p l e ({ frames := 0, cells := 0, slots := 0, locals := 0 } : Room) s m (List.toArray ([.ref this, .int a0] : List Value)) below meth c H locs 0 0 Q (F0 m 3 ls []) := by
      intro n_202
      induction n_202 with
      | zero => intro x_177 I_178 ri_179 H locs ls h_207 hrel_208 hm_201 hF hFr hG hP hD hS hl; exact absurd hm_201 (Nat.not_lt_zero _)
      | succ n_202 ih_204 =>
        intro x_177 I_178 ri_179 H locs ls h_207 hrel_208 hm_201 hF hFr hG hP hD hS hl
        have uh_207 := h_207.1
        have vh_207 := h_207.2
        replace hF := hF.trans g_X12_four_L3_e
        refine lv_iload_n hx hb dX12_four_3 rfl (lv_at hl 2 rfl) ?_
        refine lv_if_lt (tgt := 39) hx hb dX12_four_4 (by decide) (fun c_209 => ?_) (fun c_209 => ?_)
        · replace hF := hF.trans (if_pos c_209)
          have tc_214 : (x_177).toInt < 0 := Int32.lt_iff_toInt_lt.mp c_209
          have h_215 : rg x_177 (-8) (-1) := rg_lt1 c_209 h_207 (rg_k (0 : Int32) 0 rfl) (by decide)
          have uh_215 := h_215.1
          have vh_215 := h_215.2
          subst hQ
          exact W.vret hx hb hr (fun t1 ht hW => ⟨⟨(σ, I_178, J, ri_179, rj, rq), rfl, ⟨I_178, ri_179, rfl, hG, (by omega), (hF0.symm.trans hF), hFr⟩, by rw [ht]; exact hP, va_K.moved hW.alike hK, hD⟩, hS.F ht⟩) hS.2.2 dX12_four_39
        · replace hF := hF.trans (if_neg c_209)
          have tc_216 : 0 ≤ (x_177).toInt := Int32.le_iff_toInt_le.mp (nlt c_209)
          have h_217 : rg x_177 0 24 := rg_le2 (nlt c_209) (rg_k (0 : Int32) 0 rfl) h_207 (by decide)
          have uh_217 := h_217.1
          have vh_217 := h_217.2
          refine lv_aload_n hx hb dX12_four_7 rfl (lv_at hl 0 rfl) ?_
          obtain ⟨w_218, hR_w_218, hL_w_218, hK_w_218, hN_w_218, hT_w_218⟩ := sh_a hSH 387 (ci := 12) (kd := 13) (len := 300) rfl (by decide) hL_this hK_this
          have hO_w_218 : w_218 = vrow σ 387 this := vo_k (c := 12) hO_this hR_w_218
          refine pg_f (v := .ref w_218) (C := RX12) (T := TX12) (N := 31) hx hb hts (tw_i inlX12) hown hK hP hL_this hK_this (by decide) rfl 3 (by decide) (hts _ (tw_c tw_179)) (pq_hv rfl hR_w_218) dX12_four_8 ?_
          refine lv_aload_n hx hb dX12_four_11 rfl (lv_at hl 0 rfl) ?_
          refine pg_f (v := .int (I_178 388 this)) (C := RX12) (T := TX12) (N := 31) hx hb hts (tw_i inlX12) hown hK hP hL_this hK_this (by decide) rfl 4 (by decide) (hts _ (tw_c tw_631)) rfl dX12_four_12 ?_
          have h_219 : rg (I_178 388 this) 0 300 := GM.rI hG 388 rfl
          have uh_219 := h_219.1
          have vh_219 := h_219.2
          replace hF := hF.trans (ap_n (vI_e (f := 388) hO_this (by decide)))
          refine lv_iload_n hx hb dX12_four_15 rfl (lv_at hl 1 rfl) ?_
          refine lv_iload_n hx hb dX12_four_16 rfl (lv_at hl 2 rfl) ?_
          refine lv_ishr hx hb dX12_four_17 ?_
          refine lv_topi (fun x_221 ex_221 => ?_)
          replace hF := hF.trans (ap_n ex_221)
          refine lv_sipush (v := 255) hx hb dX12_four_18 (by decide) ?_
          refine lv_iand hx hb dX12_four_21 ?_
          refine lv_topi (fun x_222 ex_222 => ?_)
          replace hF := hF.trans (ap_n ex_222)
          have h_223 : rg x_222 0 255 := rg_of_eq ex_222 (rg_m255 _)
          have uh_223 := h_223.1
          have vh_223 := h_223.2
          have h_225 : rg (I_178 388 this) 0 299 := ⟨by omega, by omega⟩
          have uh_225 := h_225.1
          have vh_225 := h_225.2
          refine pt_i hx hb hK hP hD hS hL_w_218 hK_w_218 hN_w_218 (rg_in h_225 (by decide)) dX12_four_22 (fun r_224 H locs er_224 hP hD hS => ?_)
          replace hFr := fr_R hFr hO_w_218 (by decide) er_224
          replace hF := hF.trans (ap_n (vR_st hVT hO_w_218 (by decide) er_224))
          have hG := GM.wR hG hSH hT_w_218 rfl er_224 (rg_w h_223 (by decide)) (by decide)
          refine lv_aload_n hx hb dX12_four_23 rfl (lv_at hl 0 rfl) ?_
          refine lv_dup hx hb dX12_four_24 rfl ?_
          refine pg_f (v := .int (I_178 388 this)) (C := RX12) (T := TX12) (N := 31) hx hb hts (tw_i inlX12) hown hK hP hL_this hK_this (by decide) rfl 4 (by decide) (hts _ (tw_c tw_631)) rfl dX12_four_25 ?_
          refine lv_iconst (v := 1) hx hb dX12_four_28 (by decide) ?_
          refine lv_iadd hx hb dX12_four_29 ?_
          refine lv_topi (fun x_226 ex_226 => ?_)
          replace hF := hF.trans (ap_n ex_226)
          have h_227 : rg x_226 1 300 := rg_of_eq ex_226 (rg_add h_225 (rg_k (1 : Int32) 1 rfl) (by decide))
          have uh_227 := h_227.1
          have vh_227 := h_227.2
          have tx_226 : (x_226).toInt = (I_178 388 this).toInt + 1 := by rw [ex_226]; exact i_add_rg (a2 := (I_178 388 this).toInt) (b2 := 1) rfl rfl h_225 (rg_k (1 : Int32) 1 rfl) (by decide)
          refine pp_i (v := x_226) (ty := .int) (C := RX12) (T := TX12) (N := 31) hx hb hts (tw_i inlX12) tyX12 tyX12_ok nmX12 hown hK hP hD hS hL_this hK_this (by decide) rfl 4 388 (by decide) (hts _ (tw_c tw_631)) rfl (tyX12_ok 4 (by decide)) rfl rfl (Nat.le_of_ble_eq_true rfl) (ps_388 _ _ _ _ _) dX12_four_30 (fun I_228 H locs eI_228 hP hD hS => ?_)
          replace hFr := fr_I (f := 388) hFr hO_this (by decide) eI_228
          replace hF := hF.trans (ap_n (vI_st (f := 388) hO_this (by decide) eI_228))
          have hG := GM.wI hG 388 rfl eI_228 (rg_w h_227 (by decide)) (by decide)
          have tt_229 : (I_228 388 this).toInt = (x_226).toInt := by rw [eI_228, pq_us]
          obtain ⟨x_230, ex_230⟩ : ∃ y : Int32, y = x_177 + Int32.ofInt (-8) := ⟨_, rfl⟩
          replace hF := hF.trans (ap_n ex_230)
          have h_231 : rg x_230 (-8) 16 := rg_of_eq ex_230 (rg_add h_217 (rg_k (Int32.ofInt (-8)) (-8) rfl) (by decide))
          have uh_231 := h_231.1
          have vh_231 := h_231.2
          have tx_230 : (x_230).toInt = (x_177).toInt + (-8) := by rw [ex_230]; exact i_add_rg (a2 := (x_177).toInt) (b2 := (-8)) rfl rfl h_217 (rg_k (Int32.ofInt (-8)) (-8) rfl) (by decide)
          refine lv_iinc (v := x_230) (lv' := [(2, .int x_230), (0, .ref this), (1, .int a0)]) hx hb dX12_four_33 hl (k := 2) rfl ex_230.symm (by decide) rfl (fun ls hl => ?_)
          refine lv_goto (tgt := 3) hx hb dX12_four_36 (by decide) ?_
          exact ih_204 x_230 I_228 r_224 _ _ _ (rg_w h_231 (by decide)) (by omega) (ms_dn 8 hm_201 ex_230 rfl (by decide) h_217 (by decide) (by decide)) hF hFr hG hP hD hS (lv_sub hl [1, 2, 0] rfl)
    exact L_203 _ (24 : Int32) I ri _ _ _ (rg_w (rg_k (24 : Int32) 24 rfl) (by decide)) (by have k0 : (24 : Int32).toInt = 24 := rfl; omega) (Nat.lt_succ_self _) hF hFr hG hP hD hS (lv_sub hl [1, 2, 0] rfl)
  exact go _ _ _ hP hD hS hl

set_option maxRecDepth 100000 in
def g_X12_feed (a0 : Int32) (a1 : Int32) (a2 : Int32) (a3 : Int32) (a4 : Int32) (I : Nat → Int32) (J : Nat → Int64) (ri : Nat → Nat → Int32) (rj : Nat → Nat → Int64) (rq : Nat → Nat → Option Nat) : Int32 × vM := (ap1 (I 388) fun (y_2 : Int32) => (ap1 ((y_2) + (20 : Int32)) fun (x_3 : Int32) => (if x_3 ≤ (300 : Int32) then (bnV (g_X12_four a0 I J ri rj rq) fun (I_14 : Nat → Int32) (_ : Nat → Int64) (ri_15 : Nat → Nat → Int32) (_ : Nat → Nat → Int64) (_ : Nat → Nat → Option Nat) => (bnV (g_X12_four a1 I_14 J ri_15 rj rq) fun (I_25 : Nat → Int32) (_ : Nat → Int64) (ri_26 : Nat → Nat → Int32) (_ : Nat → Nat → Int64) (_ : Nat → Nat → Option Nat) => (bnV (g_X12_four a2 I_25 J ri_26 rj rq) fun (I_36 : Nat → Int32) (_ : Nat → Int64) (ri_37 : Nat → Nat → Int32) (_ : Nat → Nat → Int64) (_ : Nat → Nat → Option Nat) => (bnV (g_X12_four a3 I_36 J ri_37 rj rq) fun (I_47 : Nat → Int32) (_ : Nat → Int64) (ri_48 : Nat → Nat → Int32) (_ : Nat → Nat → Int64) (_ : Nat → Nat → Option Nat) => (bnV (g_X12_four a4 I_47 J ri_48 rj rq) fun (I_58 : Nat → Int32) (_ : Nat → Int64) (ri_59 : Nat → Nat → Int32) (_ : Nat → Nat → Int64) (_ : Nat → Nat → Option Nat) => (ap1 (I_58 388) fun (y_68 : Int32) => ((y_68), I_58, J, ri_59, rj, rq))))))) else ((-1 : Int32), I, J, ri, rj, rq))))
set_option maxRecDepth 100000 in
theorem g_X12_feed_e {a0 : Int32} {a1 : Int32} {a2 : Int32} {a3 : Int32} {a4 : Int32} {I : Nat → Int32} {J : Nat → Int64} {ri : Nat → Nat → Int32} {rj : Nat → Nat → Int64} {rq : Nat → Nat → Option Nat} : g_X12_feed a0 a1 a2 a3 a4 I J ri rj rq = (ap1 (I 388) fun (y_2 : Int32) => (ap1 ((y_2) + (20 : Int32)) fun (x_3 : Int32) => (if x_3 ≤ (300 : Int32) then (bnV (g_X12_four a0 I J ri rj rq) fun (I_14 : Nat → Int32) (_ : Nat → Int64) (ri_15 : Nat → Nat → Int32) (_ : Nat → Nat → Int64) (_ : Nat → Nat → Option Nat) => (bnV (g_X12_four a1 I_14 J ri_15 rj rq) fun (I_25 : Nat → Int32) (_ : Nat → Int64) (ri_26 : Nat → Nat → Int32) (_ : Nat → Nat → Int64) (_ : Nat → Nat → Option Nat) => (bnV (g_X12_four a2 I_25 J ri_26 rj rq) fun (I_36 : Nat → Int32) (_ : Nat → Int64) (ri_37 : Nat → Nat → Int32) (_ : Nat → Nat → Int64) (_ : Nat → Nat → Option Nat) => (bnV (g_X12_four a3 I_36 J ri_37 rj rq) fun (I_47 : Nat → Int32) (_ : Nat → Int64) (ri_48 : Nat → Nat → Int32) (_ : Nat → Nat → Int64) (_ : Nat → Nat → Option Nat) => (bnV (g_X12_four a4 I_47 J ri_48 rj rq) fun (I_58 : Nat → Int32) (_ : Nat → Int64) (ri_59 : Nat → Nat → Int32) (_ : Nat → Nat → Int64) (_ : Nat → Nat → Option Nat) => (ap1 (I_58 388) fun (y_68 : Int32) => ((y_68), I_58, J, ri_59, rj, rq))))))) else ((-1 : Int32), I, J, ri, rj, rq)))) := rfl
set_option maxHeartbeats 4000000 in
set_option maxRecDepth 100000 in
theorem s_X12_feed (l : Launch) (D : va_G) (t : pq_T) (σ : pq_S) (I : Nat → Nat → Int32) (J : Nat → Nat → Int64) (ri : Nat → Nat → Int32) (rj : Nat → Nat → Int64) (rq : Nat → Nat → Option Nat) (sz : Nat) (tg : Nat → Nat) (hSH : SH σ tg) (hG0 : GT tg I ri) (this : Nat) (a0 : Int32) (a1 : Int32) (a2 : Int32) (a3 : Int32) (a4 : Int32) (hL_this : this ∈ σ.1) (hK_this : σ.2.1 this = 12) : MetI l yX12_feed (wa yX12_feed cX12_feed 6 (some .int)) ({ frames := 1, cells := 0, slots := 0, locals := 22 }) [.ref this, .int a0, .int a1, .int a2, .int a3, .int a4] D t σ (I, J, ri, rj, rq) sz 0 0 (fun (r : Int32) (u : pq_S × pq_M) => ∃ I' : Nat → Nat → Int32, ∃ ri' : Nat → Nat → Int32, u = (σ, I', J, ri', rj, rq) ∧ GM [2003, 388] tg σ I ri I' ri' rq ∧ g_X12_feed a0 a1 a2 a3 a4 (vI 12 σ this I) (vJ 12 σ this J) (vR 12 σ this ri) (vL 12 σ this rj) (vQ 12 σ this rq) = (r, (vI 12 σ this I'), (vJ 12 σ this J), (vR 12 σ this ri'), (vL 12 σ this rj), (vQ 12 σ this rq)) ∧ FR 12 tg σ this (I, J, ri, rj, rq) (I', J, ri', rj, rq) ∧ rg r (-1) 300) := by
  refine Met.ofW (cc := cX12_feed) (maxL := 6) (ret := (some .int)) (by decide) rfl ?_
  intro p e s m args below meth c s₁ B hml hv
  obtain ⟨rfl, hsz, hP, hK, hD0, hN⟩ := hv
  have hx := B.exec
  have hb := B.bytes
  have hr := B.returns
  have hts := atoms_spec (ws := (wa yX12_feed cX12_feed 6 (some .int))) B.pre
  have hown : s.vm.findClass RX12 = some m.cls := findClass_of_methodNamed B.named
  have hlocks := B.notSynchronized
  subst hsz
  have hD : va_D (pq_B t σ (I, J, ri, rj, rq) s.heap.size) (pq_P t σ (I, J, ri, rj, rq)) := hD0.self
  generalize hAe : pq_B t σ (I, J, ri, rj, rq) s.heap.size = A at hD ⊢
  have hA : ∀ q : Nat, s.heap.size ≤ q → A q := fun q h => by rw [← hAe]; exact Or.inr h
  have hS : va_S A s.heap s.heap [] := va_S.rf
  have hG : GM [2003, 388] tg σ I ri I ri rq := ⟨hG0, fun _ _ _ => rfl, fun _ _ _ _ _ => rfl, fun _ _ _ _ _ _ => rfl⟩
  have hl := lv_entry ([.ref this, .int a0, .int a1, .int a2, .int a3, .int a4]) (n := 6) (Nat.le_of_ble_eq_true rfl)
  rw [lg_entry_eq]
  generalize (lg_sl ([.ref this, .int a0, .int a1, .int a2, .int a3, .int a4]) ++ List.replicate (6 - (lg_sl ([.ref this, .int a0, .int a1, .int a2, .int a3, .int a4])).length) Slot.unset).toArray = ls at hl ⊢
  have hl : lv_has ls 6 [(0, .ref this), (1, .int a0), (2, .int a1), (3, .int a2), (4, .int a3), (5, .int a4)] := hl
  refine q_gen (fun Q hQ => ?_)
  have go : ∀ (H : Heap) (locs : List Loc) (ls : Array Slot), va_P D vwCl (pq_P t σ (I, J, ri, rj, rq)) H → va_D A (pq_P t σ (I, J, ri, rj, rq)) → va_S A s.heap H locs → lv_has ls 6 [(0, .ref this), (1, .int a0), (2, .int a1), (3, .int a2), (4, .int a3), (5, .int a4)] → W p l e ({ frames := 1, cells := 0, slots := 0, locals := 22 } : Room) s m (List.toArray ([.ref this, .int a0, .int a1, .int a2, .int a3, .int a4] : List Value)) below meth c H locs 0 0 Q (F0 m 0 ls []) := by
    intro H locs ls hP hD hS hl
    have hO_this : this = vo σ 12 this := rfl
    have hVT : VT 12 σ tg this := vt_12 hSH hL_this hK_this
    have hFr : FR 12 tg σ this (I, J, ri, rj, rq) (I, J, ri, rj, rq) := fr_rf
    obtain ⟨F, hF0⟩ : ∃ F, F = g_X12_feed a0 a1 a2 a3 a4 (vI 12 σ this I) (vJ 12 σ this J) (vR 12 σ this ri) (vL 12 σ this rj) (vQ 12 σ this rq) := ⟨_, rfl⟩
    have hF := hF0.trans g_X12_feed_e
    refine lv_aload_n hx hb dX12_feed_0 rfl (lv_at hl 0 rfl) ?_
    refine pg_f (v := .int (I 388 this)) (C := RX12) (T := TX12) (N := 31) hx hb hts (tw_i inlX12) hown hK hP hL_this hK_this (by decide) rfl 4 (by decide) (hts _ (tw_c tw_631)) rfl dX12_feed_1 ?_
    have h_1 : rg (I 388 this) 0 300 := GM.rI hG 388 rfl
    have uh_1 := h_1.1
    have vh_1 := h_1.2
    replace hF := hF.trans (ap_n (vI_e (f := 388) hO_this (by decide)))
    refine lv_bipush (v := 20) hx hb dX12_feed_4 (by decide) ?_
    refine lv_iadd hx hb dX12_feed_6 ?_
    refine lv_topi (fun x_3 ex_3 => ?_)
    replace hF := hF.trans (ap_n ex_3)
    have h_4 : rg x_3 20 320 := rg_of_eq ex_3 (rg_add h_1 (rg_k (20 : Int32) 20 rfl) (by decide))
    have uh_4 := h_4.1
    have vh_4 := h_4.2
    have tx_3 : (x_3).toInt = (I 388 this).toInt + 20 := by rw [ex_3]; exact i_add_rg (a2 := (I 388 this).toInt) (b2 := 20) rfl rfl h_1 (rg_k (20 : Int32) 20 rfl) (by decide)
    refine lv_sipush (v := 300) hx hb dX12_feed_7 (by decide) ?_
    refine lv_icmp_le (tgt := 15) hx hb dX12_feed_10 (by decide) (fun c_5 => ?_) (fun c_5 => ?_)
    · replace hF := hF.trans (if_pos c_5)
      have tc_10 : (x_3).toInt ≤ 300 := Int32.le_iff_toInt_le.mp c_5
      have h_11 : rg x_3 20 300 := rg_le1 c_5 h_4 (rg_k (300 : Int32) 300 rfl) (by decide)
      have uh_11 := h_11.1
      have vh_11 := h_11.2
      refine lv_aload_n hx hb dX12_feed_15 rfl (lv_at hl 0 rfl) ?_
      refine lv_iload_n hx hb dX12_feed_16 rfl (lv_at hl 1 rfl) ?_
      refine pk_v (va_runV (As := [.int a0]) (rest := []) ⟨hx, hb, hml, hown, hts⟩ (s_X12_four l D t σ I J ri rj rq H.size tg hSH hG.1 this a0 hL_this hK_this (by omega)) (cwV 1 hts (tw_V tw_632 tw_633 tw_634 tw_5 tw_635) rfl rfl rfl cv_yX12_four_1 ⟨Nat.le_of_ble_eq_true rfl, Nat.le_of_ble_eq_true rfl⟩) ⟨pq_blind, pq_recv hK hP hL_this hK_this (by decide) rfl, pq_pre hK hN hP hD⟩ rfl rfl hl.1 rfl (lv_room (Nat.le_of_ble_eq_true rfl)) dX12_feed_17 ⟨Nat.le_of_ble_eq_true rfl, Nat.le_of_ble_eq_true rfl⟩) hD hS hA (fun σ1 μ1 H locs hw_13 hP hD hS => ?_)
      obtain ⟨I_14, ri_15, hu_16, hg_17, hp_19, hfn_20, hfr_21⟩ := hw_13
      obtain ⟨hu_16a, hu_16b⟩ := Prod.mk.inj hu_16
      rw [hu_16a, hu_16b] at hP hD
      replace hF := hF.trans (bv_n hfn_20)
      replace hFr := fr_tr hFr hfr_21
      have tt_22 := hp_19
      have hG := GM.tr hG hg_17 (by decide)
      refine lv_aload_n hx hb dX12_feed_20 rfl (lv_at hl 0 rfl) ?_
      refine lv_iload_n hx hb dX12_feed_21 rfl (lv_at hl 2 rfl) ?_
      refine pk_v (va_runV (As := [.int a1]) (rest := []) ⟨hx, hb, hml, hown, hts⟩ (s_X12_four l D t σ I_14 J ri_15 rj rq H.size tg hSH hG.1 this a1 hL_this hK_this (by omega)) (cwV 1 hts (tw_V tw_632 tw_633 tw_634 tw_5 tw_635) rfl rfl rfl cv_yX12_four_1 ⟨Nat.le_of_ble_eq_true rfl, Nat.le_of_ble_eq_true rfl⟩) ⟨pq_blind, pq_recv hK hP hL_this hK_this (by decide) rfl, pq_pre hK hN hP hD⟩ rfl rfl hl.1 rfl (lv_room (Nat.le_of_ble_eq_true rfl)) dX12_feed_22 ⟨Nat.le_of_ble_eq_true rfl, Nat.le_of_ble_eq_true rfl⟩) hD hS hA (fun σ1 μ1 H locs hw_24 hP hD hS => ?_)
      obtain ⟨I_25, ri_26, hu_27, hg_28, hp_30, hfn_31, hfr_32⟩ := hw_24
      obtain ⟨hu_27a, hu_27b⟩ := Prod.mk.inj hu_27
      rw [hu_27a, hu_27b] at hP hD
      replace hF := hF.trans (bv_n hfn_31)
      replace hFr := fr_tr hFr hfr_32
      have tt_33 := hp_30
      have hG := GM.tr hG hg_28 (by decide)
      refine lv_aload_n hx hb dX12_feed_25 rfl (lv_at hl 0 rfl) ?_
      refine lv_iload_n hx hb dX12_feed_26 rfl (lv_at hl 3 rfl) ?_
      refine pk_v (va_runV (As := [.int a2]) (rest := []) ⟨hx, hb, hml, hown, hts⟩ (s_X12_four l D t σ I_25 J ri_26 rj rq H.size tg hSH hG.1 this a2 hL_this hK_this (by omega)) (cwV 1 hts (tw_V tw_632 tw_633 tw_634 tw_5 tw_635) rfl rfl rfl cv_yX12_four_1 ⟨Nat.le_of_ble_eq_true rfl, Nat.le_of_ble_eq_true rfl⟩) ⟨pq_blind, pq_recv hK hP hL_this hK_this (by decide) rfl, pq_pre hK hN hP hD⟩ rfl rfl hl.1 rfl (lv_room (Nat.le_of_ble_eq_true rfl)) dX12_feed_27 ⟨Nat.le_of_ble_eq_true rfl, Nat.le_of_ble_eq_true rfl⟩) hD hS hA (fun σ1 μ1 H locs hw_35 hP hD hS => ?_)
      obtain ⟨I_36, ri_37, hu_38, hg_39, hp_41, hfn_42, hfr_43⟩ := hw_35
      obtain ⟨hu_38a, hu_38b⟩ := Prod.mk.inj hu_38
      rw [hu_38a, hu_38b] at hP hD
      replace hF := hF.trans (bv_n hfn_42)
      replace hFr := fr_tr hFr hfr_43
      have tt_44 := hp_41
      have hG := GM.tr hG hg_39 (by decide)
      refine lv_aload_n hx hb dX12_feed_30 rfl (lv_at hl 0 rfl) ?_
      refine lv_iload hx hb dX12_feed_31 (lv_at hl 4 rfl) ?_
      refine pk_v (va_runV (As := [.int a3]) (rest := []) ⟨hx, hb, hml, hown, hts⟩ (s_X12_four l D t σ I_36 J ri_37 rj rq H.size tg hSH hG.1 this a3 hL_this hK_this (by omega)) (cwV 1 hts (tw_V tw_632 tw_633 tw_634 tw_5 tw_635) rfl rfl rfl cv_yX12_four_1 ⟨Nat.le_of_ble_eq_true rfl, Nat.le_of_ble_eq_true rfl⟩) ⟨pq_blind, pq_recv hK hP hL_this hK_this (by decide) rfl, pq_pre hK hN hP hD⟩ rfl rfl hl.1 rfl (lv_room (Nat.le_of_ble_eq_true rfl)) dX12_feed_33 ⟨Nat.le_of_ble_eq_true rfl, Nat.le_of_ble_eq_true rfl⟩) hD hS hA (fun σ1 μ1 H locs hw_46 hP hD hS => ?_)
      obtain ⟨I_47, ri_48, hu_49, hg_50, hp_52, hfn_53, hfr_54⟩ := hw_46
      obtain ⟨hu_49a, hu_49b⟩ := Prod.mk.inj hu_49
      rw [hu_49a, hu_49b] at hP hD
      replace hF := hF.trans (bv_n hfn_53)
      replace hFr := fr_tr hFr hfr_54
      have tt_55 := hp_52
      have hG := GM.tr hG hg_50 (by decide)
      refine lv_aload_n hx hb dX12_feed_36 rfl (lv_at hl 0 rfl) ?_
      refine lv_iload hx hb dX12_feed_37 (lv_at hl 5 rfl) ?_
      refine pk_v (va_runV (As := [.int a4]) (rest := []) ⟨hx, hb, hml, hown, hts⟩ (s_X12_four l D t σ I_47 J ri_48 rj rq H.size tg hSH hG.1 this a4 hL_this hK_this (by omega)) (cwV 1 hts (tw_V tw_632 tw_633 tw_634 tw_5 tw_635) rfl rfl rfl cv_yX12_four_1 ⟨Nat.le_of_ble_eq_true rfl, Nat.le_of_ble_eq_true rfl⟩) ⟨pq_blind, pq_recv hK hP hL_this hK_this (by decide) rfl, pq_pre hK hN hP hD⟩ rfl rfl hl.1 rfl (lv_room (Nat.le_of_ble_eq_true rfl)) dX12_feed_39 ⟨Nat.le_of_ble_eq_true rfl, Nat.le_of_ble_eq_true rfl⟩) hD hS hA (fun σ1 μ1 H locs hw_57 hP hD hS => ?_)
      obtain ⟨I_58, ri_59, hu_60, hg_61, hp_63, hfn_64, hfr_65⟩ := hw_57
      obtain ⟨hu_60a, hu_60b⟩ := Prod.mk.inj hu_60
      rw [hu_60a, hu_60b] at hP hD
      replace hF := hF.trans (bv_n hfn_64)
      replace hFr := fr_tr hFr hfr_65
      have tt_66 := hp_63
      have hG := GM.tr hG hg_61 (by decide)
      refine lv_aload_n hx hb dX12_feed_42 rfl (lv_at hl 0 rfl) ?_
      refine pg_f (v := .int (I_58 388 this)) (C := RX12) (T := TX12) (N := 31) hx hb hts (tw_i inlX12) hown hK hP hL_this hK_this (by decide) rfl 4 (by decide) (hts _ (tw_c tw_631)) rfl dX12_feed_43 ?_
      have h_67 : rg (I_58 388 this) 0 300 := GM.rI hG 388 rfl
      have uh_67 := h_67.1
      have vh_67 := h_67.2
      replace hF := hF.trans (ap_n (vI_e (f := 388) hO_this (by decide)))
      subst hQ
      exact W.iret (v := (I_58 388 this)) hx hb hr (fun t1 ht hW => ⟨⟨(I_58 388 this), (σ, I_58, J, ri_59, rj, rq), rfl, ⟨I_58, ri_59, rfl, hG, (hF0.symm.trans hF), hFr, (rg_w h_67 (by decide))⟩, by rw [ht]; exact hP, va_K.moved hW.alike hK, hD⟩, hS.F ht⟩) hS.2.2 dX12_feed_46
    · replace hF := hF.trans (if_neg c_5)
      have tc_69 : 300 < (x_3).toInt := Int32.lt_iff_toInt_lt.mp (nle c_5)
      have h_70 : rg x_3 301 320 := rg_lt2 (nle c_5) (rg_k (300 : Int32) 300 rfl) h_4 (by decide)
      have uh_70 := h_70.1
      have vh_70 := h_70.2
      refine lv_iconst (v := (-1)) hx hb dX12_feed_13 (by decide) ?_
      subst hQ
      exact W.iret (v := (-1)) hx hb hr (fun t1 ht hW => ⟨⟨(-1), (σ, I, J, ri, rj, rq), rfl, ⟨I, ri, rfl, hG, (hF0.symm.trans hF), hFr, (rg_w (rg_k (-1 : Int32) (-1) rfl) (by decide))⟩, by rw [ht]; exact hP, va_K.moved hW.alike hK, hD⟩, hS.F ht⟩) hS.2.2 dX12_feed_14
  exact go _ _ _ hP hD hS hl

set_option maxRecDepth 100000 in
def g_X12_end (a0 : Int32) (I : Nat → Int32) (J : Nat → Int64) (ri : Nat → Nat → Int32) (rj : Nat → Nat → Int64) (rq : Nat → Nat → Option Nat) : Int32 × vM := (ap1 (I 388) fun (y_2 : Int32) => (ap1 (g_X12_isIn a0 (0 : Int32) (y_2)) fun (x_3 : Int32) => (if x_3 = (0 : Int32) then ((-1 : Int32), I, J, ri, rj, rq) else (ap1 (va_up I 388 a0) fun (I_31 : Nat → Int32) => (a0, I_31, J, ri, rj, rq)))))
set_option maxRecDepth 100000 in
theorem g_X12_end_e {a0 : Int32} {I : Nat → Int32} {J : Nat → Int64} {ri : Nat → Nat → Int32} {rj : Nat → Nat → Int64} {rq : Nat → Nat → Option Nat} : g_X12_end a0 I J ri rj rq = (ap1 (I 388) fun (y_2 : Int32) => (ap1 (g_X12_isIn a0 (0 : Int32) (y_2)) fun (x_3 : Int32) => (if x_3 = (0 : Int32) then ((-1 : Int32), I, J, ri, rj, rq) else (ap1 (va_up I 388 a0) fun (I_31 : Nat → Int32) => (a0, I_31, J, ri, rj, rq))))) := rfl
set_option maxHeartbeats 4000000 in
set_option maxRecDepth 100000 in
theorem s_X12_end (l : Launch) (D : va_G) (t : pq_T) (σ : pq_S) (I : Nat → Nat → Int32) (J : Nat → Nat → Int64) (ri : Nat → Nat → Int32) (rj : Nat → Nat → Int64) (rq : Nat → Nat → Option Nat) (sz : Nat) (tg : Nat → Nat) (hSH : SH σ tg) (hG0 : GT tg I ri) (this : Nat) (a0 : Int32) (hL_this : this ∈ σ.1) (hK_this : σ.2.1 this = 12) : MetI l yX12_end (wa yX12_end cX12_end 2 (some .int)) ({ frames := 1, cells := 0, slots := 0, locals := 22 }) [.ref this, .int a0] D t σ (I, J, ri, rj, rq) sz 0 0 (fun (r : Int32) (u : pq_S × pq_M) => ∃ I' : Nat → Nat → Int32, u = (σ, I', J, ri, rj, rq) ∧ GM [388] tg σ I ri I' ri rq ∧ g_X12_end a0 (vI 12 σ this I) (vJ 12 σ this J) (vR 12 σ this ri) (vL 12 σ this rj) (vQ 12 σ this rq) = (r, (vI 12 σ this I'), (vJ 12 σ this J), (vR 12 σ this ri), (vL 12 σ this rj), (vQ 12 σ this rq)) ∧ FR 12 tg σ this (I, J, ri, rj, rq) (I', J, ri, rj, rq) ∧ rg r (-1) 300) := by
  refine Met.ofW (cc := cX12_end) (maxL := 2) (ret := (some .int)) (by decide) rfl ?_
  intro p e s m args below meth c s₁ B hml hv
  obtain ⟨rfl, hsz, hP, hK, hD0, hN⟩ := hv
  have hx := B.exec
  have hb := B.bytes
  have hr := B.returns
  have hts := atoms_spec (ws := (wa yX12_end cX12_end 2 (some .int))) B.pre
  have hown : s.vm.findClass RX12 = some m.cls := findClass_of_methodNamed B.named
  have hlocks := B.notSynchronized
  subst hsz
  have hD : va_D (pq_B t σ (I, J, ri, rj, rq) s.heap.size) (pq_P t σ (I, J, ri, rj, rq)) := hD0.self
  generalize hAe : pq_B t σ (I, J, ri, rj, rq) s.heap.size = A at hD ⊢
  have hA : ∀ q : Nat, s.heap.size ≤ q → A q := fun q h => by rw [← hAe]; exact Or.inr h
  have hS : va_S A s.heap s.heap [] := va_S.rf
  have hG : GM [388] tg σ I ri I ri rq := ⟨hG0, fun _ _ _ => rfl, fun _ _ _ _ _ => rfl, fun _ _ _ _ _ _ => rfl⟩
  have hl := lv_entry ([.ref this, .int a0]) (n := 2) (Nat.le_of_ble_eq_true rfl)
  rw [lg_entry_eq]
  generalize (lg_sl ([.ref this, .int a0]) ++ List.replicate (2 - (lg_sl ([.ref this, .int a0])).length) Slot.unset).toArray = ls at hl ⊢
  have hl : lv_has ls 2 [(0, .ref this), (1, .int a0)] := hl
  refine q_gen (fun Q hQ => ?_)
  have go : ∀ (H : Heap) (locs : List Loc) (ls : Array Slot), va_P D vwCl (pq_P t σ (I, J, ri, rj, rq)) H → va_D A (pq_P t σ (I, J, ri, rj, rq)) → va_S A s.heap H locs → lv_has ls 2 [(0, .ref this), (1, .int a0)] → W p l e ({ frames := 1, cells := 0, slots := 0, locals := 22 } : Room) s m (List.toArray ([.ref this, .int a0] : List Value)) below meth c H locs 0 0 Q (F0 m 0 ls []) := by
    intro H locs ls hP hD hS hl
    have hO_this : this = vo σ 12 this := rfl
    have hVT : VT 12 σ tg this := vt_12 hSH hL_this hK_this
    have hFr : FR 12 tg σ this (I, J, ri, rj, rq) (I, J, ri, rj, rq) := fr_rf
    obtain ⟨F, hF0⟩ : ∃ F, F = g_X12_end a0 (vI 12 σ this I) (vJ 12 σ this J) (vR 12 σ this ri) (vL 12 σ this rj) (vQ 12 σ this rq) := ⟨_, rfl⟩
    have hF := hF0.trans g_X12_end_e
    refine lv_iload_n hx hb dX12_end_0 rfl (lv_at hl 1 rfl) ?_
    refine lv_iconst (v := 0) hx hb dX12_end_1 (by decide) ?_
    refine lv_aload_n hx hb dX12_end_2 rfl (lv_at hl 0 rfl) ?_
    refine pg_f (v := .int (I 388 this)) (C := RX12) (T := TX12) (N := 31) hx hb hts (tw_i inlX12) hown hK hP hL_this hK_this (by decide) rfl 4 (by decide) (hts _ (tw_c tw_631)) rfl dX12_end_3 ?_
    have h_1 : rg (I 388 this) 0 300 := GM.rI hG 388 rfl
    have uh_1 := h_1.1
    have vh_1 := h_1.2
    replace hF := hF.trans (ap_n (vI_e (f := 388) hO_this (by decide)))
    refine pk_i (va_runS (As := [.int a0, .int 0, .int (I 388 this)]) (rest := []) ⟨hx, hb, hml, hown, hts⟩ (s_X12_isIn l D t σ I J ri rj rq H.size tg hSH hG.1 a0 (0 : Int32) (I 388 this)) (va_cwS 3 hts (tw_S tw_235 tw_236 tw_5 tw_237) rfl rfl rfl cd_yX12_isIn_3 ⟨Nat.le_of_ble_eq_true rfl, Nat.le_of_ble_eq_true rfl⟩) ⟨pq_blind, pq_pre hK hN hP hD⟩ rfl rfl hl.1 rfl (lv_room (Nat.le_of_ble_eq_true rfl)) dX12_end_6 ⟨Nat.le_of_ble_eq_true rfl, Nat.le_of_ble_eq_true rfl⟩) hD hS hA (fun x_3 σ1 μ1 H locs hw_4 hP hD hS => ?_)
    obtain ⟨hu_5, hfn_8, hr_7⟩ := hw_4
    obtain ⟨hu_5a, hu_5b⟩ := Prod.mk.inj hu_5
    rw [hu_5a, hu_5b] at hP hD
    replace hF := hF.trans (ap_n hfn_8.symm)
    have h_10 : rg x_3 0 1 := by rcases hr_7 with ⟨q, -⟩ | ⟨q, -⟩ <;> rw [q] <;> exact ⟨by decide, by decide⟩
    have uh_10 := h_10.1
    have vh_10 := h_10.2
    refine lv_if_ne (tgt := 14) hx hb dX12_end_9 (by decide) (fun c_11 => ?_) (fun c_11 => ?_)
    · replace hF := hF.trans (if_neg c_11)
      obtain ⟨f_23, f_24⟩ := (hr_7.resolve_right (fun q => c_11 q.1)).2
      have tc_25 : 0 ≤ (a0).toInt := Int32.le_iff_toInt_le.mp f_23
      have h_26 : rg a0 0 2147483647 := rg_le2 f_23 (rg_k (0 : Int32) 0 rfl) (rg_full _) (by decide)
      have uh_26 := h_26.1
      have vh_26 := h_26.2
      have tc_27 : (a0).toInt ≤ (I 388 this).toInt := Int32.le_iff_toInt_le.mp f_24
      have h_28 : rg a0 0 300 := rg_le1 f_24 h_26 h_1 (by decide)
      have uh_28 := h_28.1
      have vh_28 := h_28.2
      have tc_29 : (x_3).toInt ≠ 0 := fun q => c_11 (Int32.toInt_inj.mp q)
      have h_30 : rg x_3 1 1 := rg_ne c_11 h_10 0 rfl (by decide)
      have uh_30 := h_30.1
      have vh_30 := h_30.2
      refine lv_aload_n hx hb dX12_end_14 rfl (lv_at hl 0 rfl) ?_
      refine lv_iload_n hx hb dX12_end_15 rfl (lv_at hl 1 rfl) ?_
      refine pp_i (v := a0) (ty := .int) (C := RX12) (T := TX12) (N := 31) hx hb hts (tw_i inlX12) tyX12 tyX12_ok nmX12 hown hK hP hD hS hL_this hK_this (by decide) rfl 4 388 (by decide) (hts _ (tw_c tw_631)) rfl (tyX12_ok 4 (by decide)) rfl rfl (Nat.le_of_ble_eq_true rfl) (ps_388 _ _ _ _ _) dX12_end_16 (fun I_31 H locs eI_31 hP hD hS => ?_)
      replace hFr := fr_I (f := 388) hFr hO_this (by decide) eI_31
      replace hF := hF.trans (ap_n (vI_st (f := 388) hO_this (by decide) eI_31))
      have hG := GM.wI hG 388 rfl eI_31 (rg_w h_28 (by decide)) (by decide)
      refine lv_iload_n hx hb dX12_end_19 rfl (lv_at hl 1 rfl) ?_
      subst hQ
      exact W.iret (v := a0) hx hb hr (fun t1 ht hW => ⟨⟨a0, (σ, I_31, J, ri, rj, rq), rfl, ⟨I_31, rfl, hG, (hF0.symm.trans hF), hFr, (rg_w h_28 (by decide))⟩, by rw [ht]; exact hP, va_K.moved hW.alike hK, hD⟩, hS.F ht⟩) hS.2.2 dX12_end_20
    · replace hF := hF.trans (if_pos c_11)
      have f_32 := (hr_7.resolve_left (fun q => absurd (q.1.symm.trans c_11) (by decide))).2
      have tc_33 : (x_3).toInt = 0 := congrArg Int32.toInt c_11
      have h_34 : rg x_3 0 0 := rg_and h_10 (rg_of_eq c_11 (rg_k (0 : Int32) 0 rfl)) (by decide)
      have uh_34 := h_34.1
      have vh_34 := h_34.2
      refine lv_iconst (v := (-1)) hx hb dX12_end_12 (by decide) ?_
      subst hQ
      exact W.iret (v := (-1)) hx hb hr (fun t1 ht hW => ⟨⟨(-1), (σ, I, J, ri, rj, rq), rfl, ⟨I, rfl, hG, (hF0.symm.trans hF), hFr, (rg_w (rg_k (-1 : Int32) (-1) rfl) (by decide))⟩, by rw [ht]; exact hP, va_K.moved hW.alike hK, hD⟩, hS.F ht⟩) hS.2.2 dX12_end_13
  exact go _ _ _ hP hD hS hl
