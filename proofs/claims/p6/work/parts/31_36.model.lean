theorem dX12_title_0 : decode cX12_title 0 = .ok (.aload_n 0, 1) := oc_42 (by decide +kernel)
theorem dX12_title_1 : decode cX12_title 1 = .ok (.iload_n 1, 1) := oc_27 (by decide +kernel)
theorem dX12_title_2 : decode cX12_title 2 = .ok (.invokevirtual 88, 3) := oc_182 (a := 0) (b := 88) (by decide +kernel)
theorem dX12_title_33 : decode cX12_title 33 = .ok (.iconst 0, 1) := oc_3 (by decide +kernel)
theorem dX12_title_34 : decode cX12_title 34 = .ok (.ireturn, 1) := oc_172 (by decide +kernel)
theorem dX12_title_5 : decode cX12_title 5 = .ok (.ifCond .eq 28, 3) := oc_153 (a := 0) (b := 28) (by decide +kernel)
theorem dX12_title_8 : decode cX12_title 8 = .ok (.iload_n 2, 1) := oc_28 (by decide +kernel)
theorem dX12_title_9 : decode cX12_title 9 = .ok (.iconst (-1), 1) := oc_2 (by decide +kernel)
theorem dX12_title_35 : decode cX12_title 35 = .ok (.aload_n 0, 1) := oc_42 (by decide +kernel)
theorem dX12_title_36 : decode cX12_title 36 = .ok (.getfield 7, 3) := oc_180 (a := 0) (b := 7) (by decide +kernel)
theorem dX12_title_39 : decode cX12_title 39 = .ok (.bipush 100, 2) := oc_16 (a := 100) (by decide +kernel)
theorem dX12_title_41 : decode cX12_title 41 = .ok (.bipush 16, 2) := oc_16 (a := 16) (by decide +kernel)
theorem dX12_title_43 : decode cX12_title 43 = .ok (.iload_n 1, 1) := oc_27 (by decide +kernel)
theorem dX12_title_44 : decode cX12_title 44 = .ok (.imul, 1) := oc_104 (by decide +kernel)
theorem dX12_title_45 : decode cX12_title 45 = .ok (.iadd, 1) := oc_96 (by decide +kernel)
theorem dX12_title_46 : decode cX12_title 46 = .ok (.bipush 14, 2) := oc_16 (a := 14) (by decide +kernel)
theorem dX12_title_48 : decode cX12_title 48 = .ok (.iadd, 1) := oc_96 (by decide +kernel)
theorem dX12_title_49 : decode cX12_title 49 = .ok (.iload_n 2, 1) := oc_28 (by decide +kernel)
theorem dX12_title_50 : decode cX12_title 50 = .ok (.iastore, 1) := oc_79 (by decide +kernel)
theorem dX12_title_51 : decode cX12_title 51 = .ok (.iconst 1, 1) := oc_4 (by decide +kernel)
theorem dX12_title_52 : decode cX12_title 52 = .ok (.ireturn, 1) := oc_172 (by decide +kernel)
theorem dX12_title_10 : decode cX12_title 10 = .ok (.if_icmp .eq 25, 3) := oc_159 (a := 0) (b := 25) (by decide +kernel)
theorem dX12_title_13 : decode cX12_title 13 = .ok (.aload_n 0, 1) := oc_42 (by decide +kernel)
theorem dX12_title_14 : decode cX12_title 14 = .ok (.iload_n 2, 1) := oc_28 (by decide +kernel)
theorem dX12_title_15 : decode cX12_title 15 = .ok (.invokevirtual 104, 3) := oc_182 (a := 0) (b := 104) (by decide +kernel)
theorem dX12_title_18 : decode cX12_title 18 = .ok (.ifCond .eq 15, 3) := oc_153 (a := 0) (b := 15) (by decide +kernel)
theorem dX12_title_21 : decode cX12_title 21 = .ok (.aload_n 0, 1) := oc_42 (by decide +kernel)
theorem dX12_title_22 : decode cX12_title 22 = .ok (.iload_n 2, 1) := oc_28 (by decide +kernel)
theorem dX12_title_23 : decode cX12_title 23 = .ok (.iconst 3, 1) := oc_6 (by decide +kernel)
theorem dX12_title_24 : decode cX12_title 24 = .ok (.invokevirtual 94, 3) := oc_182 (a := 0) (b := 94) (by decide +kernel)
theorem dX12_title_27 : decode cX12_title 27 = .ok (.sipush 300, 3) := oc_17 (a := 1) (b := 44) (by decide +kernel)
theorem dX12_title_30 : decode cX12_title 30 = .ok (.if_icmp .ne 5, 3) := oc_160 (a := 0) (b := 5) (by decide +kernel)
theorem dX12_isAsked_0 : decode cX12_isAsked 0 = .ok (.iload_n 0, 1) := oc_26 (by decide +kernel)
theorem dX12_isAsked_1 : decode cX12_isAsked 1 = .ok (.bipush 10, 2) := oc_16 (a := 10) (by decide +kernel)
theorem dX12_isAsked_3 : decode cX12_isAsked 3 = .ok (.if_icmp .ne 17, 3) := oc_160 (a := 0) (b := 17) (by decide +kernel)
theorem dX12_isAsked_20 : decode cX12_isAsked 20 = .ok (.iload_n 0, 1) := oc_26 (by decide +kernel)
theorem dX12_isAsked_21 : decode cX12_isAsked 21 = .ok (.bipush 11, 2) := oc_16 (a := 11) (by decide +kernel)
theorem dX12_isAsked_23 : decode cX12_isAsked 23 = .ok (.if_icmp .ne 17, 3) := oc_160 (a := 0) (b := 17) (by decide +kernel)
theorem dX12_isAsked_40 : decode cX12_isAsked 40 = .ok (.iload_n 0, 1) := oc_26 (by decide +kernel)
theorem dX12_isAsked_41 : decode cX12_isAsked 41 = .ok (.bipush 12, 2) := oc_16 (a := 12) (by decide +kernel)
theorem dX12_isAsked_43 : decode cX12_isAsked 43 = .ok (.if_icmp .ne 17, 3) := oc_160 (a := 0) (b := 17) (by decide +kernel)
theorem dX12_isAsked_60 : decode cX12_isAsked 60 = .ok (.iload_n 0, 1) := oc_26 (by decide +kernel)
theorem dX12_isAsked_61 : decode cX12_isAsked 61 = .ok (.bipush 13, 2) := oc_16 (a := 13) (by decide +kernel)
theorem dX12_isAsked_63 : decode cX12_isAsked 63 = .ok (.if_icmp .ne 17, 3) := oc_160 (a := 0) (b := 17) (by decide +kernel)
theorem dX12_isAsked_80 : decode cX12_isAsked 80 = .ok (.iload_n 0, 1) := oc_26 (by decide +kernel)
theorem dX12_isAsked_81 : decode cX12_isAsked 81 = .ok (.bipush 14, 2) := oc_16 (a := 14) (by decide +kernel)
theorem dX12_isAsked_83 : decode cX12_isAsked 83 = .ok (.if_icmp .ne 17, 3) := oc_160 (a := 0) (b := 17) (by decide +kernel)
theorem dX12_isAsked_100 : decode cX12_isAsked 100 = .ok (.lload_n 1, 1) := oc_31 (by decide +kernel)
theorem dX12_isAsked_101 : decode cX12_isAsked 101 = .ok (.lload_n 3, 1) := oc_33 (by decide +kernel)
theorem dX12_isAsked_102 : decode cX12_isAsked 102 = .ok (.lcmp, 1) := oc_148 (by decide +kernel)
theorem dX12_isAsked_103 : decode cX12_isAsked 103 = .ok (.ifCond .eq 7, 3) := oc_153 (a := 0) (b := 7) (by decide +kernel)
theorem dX12_isAsked_110 : decode cX12_isAsked 110 = .ok (.iconst 0, 1) := oc_3 (by decide +kernel)
theorem dX12_isAsked_111 : decode cX12_isAsked 111 = .ok (.ireturn, 1) := oc_172 (by decide +kernel)
theorem dX12_isAsked_106 : decode cX12_isAsked 106 = .ok (.iconst 1, 1) := oc_4 (by decide +kernel)
theorem dX12_isAsked_107 : decode cX12_isAsked 107 = .ok (.goto 4, 3) := oc_167 (a := 0) (b := 4) (by decide +kernel)
theorem dX12_isAsked_86 : decode cX12_isAsked 86 = .ok (.lload_n 1, 1) := oc_31 (by decide +kernel)
theorem dX12_isAsked_87 : decode cX12_isAsked 87 = .ok (.lload_n 3, 1) := oc_33 (by decide +kernel)
theorem dX12_isAsked_88 : decode cX12_isAsked 88 = .ok (.lcmp, 1) := oc_148 (by decide +kernel)
theorem dX12_isAsked_89 : decode cX12_isAsked 89 = .ok (.ifCond .ne 7, 3) := oc_154 (a := 0) (b := 7) (by decide +kernel)
theorem dX12_isAsked_96 : decode cX12_isAsked 96 = .ok (.iconst 0, 1) := oc_3 (by decide +kernel)
theorem dX12_isAsked_97 : decode cX12_isAsked 97 = .ok (.goto 14, 3) := oc_167 (a := 0) (b := 14) (by decide +kernel)
theorem dX12_isAsked_92 : decode cX12_isAsked 92 = .ok (.iconst 1, 1) := oc_4 (by decide +kernel)
theorem dX12_isAsked_93 : decode cX12_isAsked 93 = .ok (.goto 18, 3) := oc_167 (a := 0) (b := 18) (by decide +kernel)
theorem dX12_isAsked_66 : decode cX12_isAsked 66 = .ok (.lload_n 1, 1) := oc_31 (by decide +kernel)
theorem dX12_isAsked_67 : decode cX12_isAsked 67 = .ok (.lload_n 3, 1) := oc_33 (by decide +kernel)
theorem dX12_isAsked_68 : decode cX12_isAsked 68 = .ok (.lcmp, 1) := oc_148 (by decide +kernel)
theorem dX12_isAsked_69 : decode cX12_isAsked 69 = .ok (.ifCond .lt 7, 3) := oc_155 (a := 0) (b := 7) (by decide +kernel)
theorem dX12_isAsked_76 : decode cX12_isAsked 76 = .ok (.iconst 0, 1) := oc_3 (by decide +kernel)
theorem dX12_isAsked_77 : decode cX12_isAsked 77 = .ok (.goto 34, 3) := oc_167 (a := 0) (b := 34) (by decide +kernel)
theorem dX12_isAsked_72 : decode cX12_isAsked 72 = .ok (.iconst 1, 1) := oc_4 (by decide +kernel)
theorem dX12_isAsked_73 : decode cX12_isAsked 73 = .ok (.goto 38, 3) := oc_167 (a := 0) (b := 38) (by decide +kernel)
theorem dX12_isAsked_46 : decode cX12_isAsked 46 = .ok (.lload_n 1, 1) := oc_31 (by decide +kernel)
theorem dX12_isAsked_47 : decode cX12_isAsked 47 = .ok (.lload_n 3, 1) := oc_33 (by decide +kernel)
theorem dX12_isAsked_48 : decode cX12_isAsked 48 = .ok (.lcmp, 1) := oc_148 (by decide +kernel)
theorem dX12_isAsked_49 : decode cX12_isAsked 49 = .ok (.ifCond .le 7, 3) := oc_158 (a := 0) (b := 7) (by decide +kernel)
theorem dX12_isAsked_56 : decode cX12_isAsked 56 = .ok (.iconst 0, 1) := oc_3 (by decide +kernel)
theorem dX12_isAsked_57 : decode cX12_isAsked 57 = .ok (.goto 54, 3) := oc_167 (a := 0) (b := 54) (by decide +kernel)
theorem dX12_isAsked_52 : decode cX12_isAsked 52 = .ok (.iconst 1, 1) := oc_4 (by decide +kernel)
theorem dX12_isAsked_53 : decode cX12_isAsked 53 = .ok (.goto 58, 3) := oc_167 (a := 0) (b := 58) (by decide +kernel)
theorem dX12_isAsked_26 : decode cX12_isAsked 26 = .ok (.lload_n 1, 1) := oc_31 (by decide +kernel)
theorem dX12_isAsked_27 : decode cX12_isAsked 27 = .ok (.lload_n 3, 1) := oc_33 (by decide +kernel)
theorem dX12_isAsked_28 : decode cX12_isAsked 28 = .ok (.lcmp, 1) := oc_148 (by decide +kernel)
theorem dX12_isAsked_29 : decode cX12_isAsked 29 = .ok (.ifCond .gt 7, 3) := oc_157 (a := 0) (b := 7) (by decide +kernel)
theorem dX12_isAsked_36 : decode cX12_isAsked 36 = .ok (.iconst 0, 1) := oc_3 (by decide +kernel)
theorem dX12_isAsked_37 : decode cX12_isAsked 37 = .ok (.goto 74, 3) := oc_167 (a := 0) (b := 74) (by decide +kernel)
theorem dX12_isAsked_32 : decode cX12_isAsked 32 = .ok (.iconst 1, 1) := oc_4 (by decide +kernel)
theorem dX12_isAsked_33 : decode cX12_isAsked 33 = .ok (.goto 78, 3) := oc_167 (a := 0) (b := 78) (by decide +kernel)
theorem dX12_isAsked_6 : decode cX12_isAsked 6 = .ok (.lload_n 1, 1) := oc_31 (by decide +kernel)
theorem dX12_isAsked_7 : decode cX12_isAsked 7 = .ok (.lload_n 3, 1) := oc_33 (by decide +kernel)
theorem dX12_isAsked_8 : decode cX12_isAsked 8 = .ok (.lcmp, 1) := oc_148 (by decide +kernel)
theorem dX12_isAsked_9 : decode cX12_isAsked 9 = .ok (.ifCond .ge 7, 3) := oc_156 (a := 0) (b := 7) (by decide +kernel)
theorem dX12_isAsked_16 : decode cX12_isAsked 16 = .ok (.iconst 0, 1) := oc_3 (by decide +kernel)
theorem dX12_isAsked_17 : decode cX12_isAsked 17 = .ok (.goto 94, 3) := oc_167 (a := 0) (b := 94) (by decide +kernel)
theorem dX12_isAsked_12 : decode cX12_isAsked 12 = .ok (.iconst 1, 1) := oc_4 (by decide +kernel)
theorem dX12_isAsked_13 : decode cX12_isAsked 13 = .ok (.goto 98, 3) := oc_167 (a := 0) (b := 98) (by decide +kernel)
theorem dX12_clip_0 : decode cX12_clip 0 = .ok (.lload_n 0, 1) := oc_30 (by decide +kernel)
theorem tw_611 : Cond.constantLong RX12 278 (1000000000) ∈ wsL_law := sg_26 _ (List.mem_of_getElem? (i := 11) rfl)
theorem dX12_clip_1 : decode cX12_clip 1 = .ok (.ldc2_w 278, 3) := oc_20 (a := 1) (b := 22) (by decide +kernel)
theorem dX12_clip_4 : decode cX12_clip 4 = .ok (.lcmp, 1) := oc_148 (by decide +kernel)
theorem dX12_clip_5 : decode cX12_clip 5 = .ok (.ifCond .le 9, 3) := oc_158 (a := 0) (b := 9) (by decide +kernel)
theorem dX12_clip_14 : decode cX12_clip 14 = .ok (.lload_n 0, 1) := oc_30 (by decide +kernel)
theorem tw_612 : Cond.constantLong RX12 280 (-1000000000) ∈ wsL_law := sg_26 _ (List.mem_of_getElem? (i := 12) rfl)
theorem dX12_clip_15 : decode cX12_clip 15 = .ok (.ldc2_w 280, 3) := oc_20 (a := 1) (b := 24) (by decide +kernel)
theorem dX12_clip_18 : decode cX12_clip 18 = .ok (.lcmp, 1) := oc_148 (by decide +kernel)
theorem dX12_clip_19 : decode cX12_clip 19 = .ok (.ifCond .ge 9, 3) := oc_156 (a := 0) (b := 9) (by decide +kernel)
theorem dX12_clip_28 : decode cX12_clip 28 = .ok (.lload_n 0, 1) := oc_30 (by decide +kernel)
theorem dX12_clip_29 : decode cX12_clip 29 = .ok (.lreturn, 1) := oc_173 (by decide +kernel)
theorem dX12_clip_22 : decode cX12_clip 22 = .ok (.ldc2_w 280, 3) := oc_20 (a := 1) (b := 24) (by decide +kernel)
theorem dX12_clip_25 : decode cX12_clip 25 = .ok (.goto 4, 3) := oc_167 (a := 0) (b := 4) (by decide +kernel)
theorem dX12_clip_8 : decode cX12_clip 8 = .ok (.ldc2_w 278, 3) := oc_20 (a := 1) (b := 22) (by decide +kernel)
theorem dX12_clip_11 : decode cX12_clip 11 = .ok (.goto 18, 3) := oc_167 (a := 0) (b := 18) (by decide +kernel)
theorem dX12_two_0 : decode cX12_two 0 = .ok (.iload_n 0, 1) := oc_26 (by decide +kernel)
theorem dX12_two_1 : decode cX12_two 1 = .ok (.iconst 3, 1) := oc_6 (by decide +kernel)
theorem dX12_two_2 : decode cX12_two 2 = .ok (.if_icmp .ne 12, 3) := oc_160 (a := 0) (b := 12) (by decide +kernel)
theorem dX12_two_14 : decode cX12_two 14 = .ok (.iload_n 0, 1) := oc_26 (by decide +kernel)
theorem dX12_two_15 : decode cX12_two 15 = .ok (.iconst 4, 1) := oc_7 (by decide +kernel)
theorem dX12_two_16 : decode cX12_two 16 = .ok (.if_icmp .ne 12, 3) := oc_160 (a := 0) (b := 12) (by decide +kernel)
theorem dX12_two_28 : decode cX12_two 28 = .ok (.iload_n 0, 1) := oc_26 (by decide +kernel)
theorem dX12_two_29 : decode cX12_two 29 = .ok (.iconst 5, 1) := oc_8 (by decide +kernel)
theorem dX12_two_30 : decode cX12_two 30 = .ok (.if_icmp .ne 12, 3) := oc_160 (a := 0) (b := 12) (by decide +kernel)
theorem dX12_two_42 : decode cX12_two 42 = .ok (.lload_n 3, 1) := oc_33 (by decide +kernel)
theorem dX12_two_43 : decode cX12_two 43 = .ok (.lconst 0, 1) := oc_9 (by decide +kernel)
theorem dX12_two_44 : decode cX12_two 44 = .ok (.lcmp, 1) := oc_148 (by decide +kernel)
theorem dX12_two_45 : decode cX12_two 45 = .ok (.ifCond .ne 7, 3) := oc_154 (a := 0) (b := 7) (by decide +kernel)
theorem dX12_two_52 : decode cX12_two 52 = .ok (.lload_n 1, 1) := oc_31 (by decide +kernel)
theorem dX12_two_53 : decode cX12_two 53 = .ok (.lload_n 3, 1) := oc_33 (by decide +kernel)
theorem dX12_two_54 : decode cX12_two 54 = .ok (.ldiv, 1) := oc_109 (by decide +kernel)
theorem tw_608 : Cond.methodLink RX12 282 yX12_clip ∈ wsL_law := sg_26 _ (List.mem_of_getElem? (i := 8) rfl)
theorem tw_609 : Cond.static yX12_clip ∈ wsL_law := sg_26 _ (List.mem_of_getElem? (i := 9) rfl)
theorem tw_610 : Cond.code yX12_clip cX12_clip 2 (some .long) ∈ wsL_law := sg_26 _ (List.mem_of_getElem? (i := 10) rfl)
theorem dX12_two_55 : decode cX12_two 55 = .ok (.invokestatic 282, 3) := oc_184 (a := 1) (b := 26) (by decide +kernel)
theorem dX12_two_58 : decode cX12_two 58 = .ok (.lreturn, 1) := oc_173 (by decide +kernel)
theorem dX12_two_48 : decode cX12_two 48 = .ok (.lconst 0, 1) := oc_9 (by decide +kernel)
theorem dX12_two_49 : decode cX12_two 49 = .ok (.goto 9, 3) := oc_167 (a := 0) (b := 9) (by decide +kernel)
theorem dX12_two_33 : decode cX12_two 33 = .ok (.lload_n 1, 1) := oc_31 (by decide +kernel)
theorem dX12_two_34 : decode cX12_two 34 = .ok (.lload_n 3, 1) := oc_33 (by decide +kernel)
theorem dX12_two_35 : decode cX12_two 35 = .ok (.lmul, 1) := oc_105 (by decide +kernel)
theorem dX12_two_36 : decode cX12_two 36 = .ok (.invokestatic 282, 3) := oc_184 (a := 1) (b := 26) (by decide +kernel)
theorem dX12_two_39 : decode cX12_two 39 = .ok (.goto 19, 3) := oc_167 (a := 0) (b := 19) (by decide +kernel)
theorem dX12_two_19 : decode cX12_two 19 = .ok (.lload_n 1, 1) := oc_31 (by decide +kernel)
theorem dX12_two_20 : decode cX12_two 20 = .ok (.lload_n 3, 1) := oc_33 (by decide +kernel)
theorem dX12_two_21 : decode cX12_two 21 = .ok (.lsub, 1) := oc_101 (by decide +kernel)
theorem dX12_two_22 : decode cX12_two 22 = .ok (.invokestatic 282, 3) := oc_184 (a := 1) (b := 26) (by decide +kernel)
theorem dX12_two_25 : decode cX12_two 25 = .ok (.goto 33, 3) := oc_167 (a := 0) (b := 33) (by decide +kernel)
theorem dX12_two_5 : decode cX12_two 5 = .ok (.lload_n 1, 1) := oc_31 (by decide +kernel)
theorem dX12_two_6 : decode cX12_two 6 = .ok (.lload_n 3, 1) := oc_33 (by decide +kernel)
theorem dX12_two_7 : decode cX12_two 7 = .ok (.ladd, 1) := oc_97 (by decide +kernel)
theorem dX12_two_8 : decode cX12_two 8 = .ok (.invokestatic 282, 3) := oc_184 (a := 1) (b := 26) (by decide +kernel)
theorem dX12_two_11 : decode cX12_two 11 = .ok (.goto 47, 3) := oc_167 (a := 0) (b := 47) (by decide +kernel)
theorem dX12_isSo_0 : decode cX12_isSo 0 = .ok (.iconst 0, 1) := oc_3 (by decide +kernel)
theorem dX12_isSo_1 : decode cX12_isSo 1 = .ok (.istore 6, 2) := oc_54 (by decide +kernel)
theorem dX12_isSo_3 : decode cX12_isSo 3 = .ok (.iconst 0, 1) := oc_3 (by decide +kernel)
theorem dX12_isSo_4 : decode cX12_isSo 4 = .ok (.istore 7, 2) := oc_54 (by decide +kernel)
theorem dX12_isSo_6 : decode cX12_isSo 6 = .ok (.aload_n 0, 1) := oc_42 (by decide +kernel)
theorem dX12_isSo_7 : decode cX12_isSo 7 = .ok (.getfield 7, 3) := oc_180 (a := 0) (b := 7) (by decide +kernel)
theorem dX12_isSo_10 : decode cX12_isSo 10 = .ok (.iload_n 2, 1) := oc_28 (by decide +kernel)
theorem dX12_isSo_11 : decode cX12_isSo 11 = .ok (.iconst 2, 1) := oc_5 (by decide +kernel)
theorem dX12_isSo_12 : decode cX12_isSo 12 = .ok (.iadd, 1) := oc_96 (by decide +kernel)
theorem dX12_isSo_13 : decode cX12_isSo 13 = .ok (.iaload, 1) := oc_46 (by decide +kernel)
theorem dX12_isSo_14 : decode cX12_isSo 14 = .ok (.istore 8, 2) := oc_54 (by decide +kernel)
theorem dX12_isSo_16 : decode cX12_isSo 16 = .ok (.iload 8, 2) := oc_21 (by decide +kernel)
theorem dX12_isSo_18 : decode cX12_isSo 18 = .ok (.aload_n 0, 1) := oc_42 (by decide +kernel)
theorem dX12_isSo_19 : decode cX12_isSo 19 = .ok (.getfield 7, 3) := oc_180 (a := 0) (b := 7) (by decide +kernel)
theorem dX12_isSo_22 : decode cX12_isSo 22 = .ok (.iload_n 2, 1) := oc_28 (by decide +kernel)
theorem dX12_isSo_23 : decode cX12_isSo 23 = .ok (.iconst 3, 1) := oc_6 (by decide +kernel)
theorem dX12_isSo_24 : decode cX12_isSo 24 = .ok (.iadd, 1) := oc_96 (by decide +kernel)
theorem dX12_isSo_25 : decode cX12_isSo 25 = .ok (.iaload, 1) := oc_46 (by decide +kernel)
theorem dX12_isSo_26 : decode cX12_isSo 26 = .ok (.if_icmp .ge 330, 3) := oc_162 (a := 1) (b := 74) (by decide +kernel)
theorem dX12_isSo_356 : decode cX12_isSo 356 = .ok (.aload_n 0, 1) := oc_42 (by decide +kernel)
theorem tw_185 : Cond.fieldLink RX12 36 "RingsUnderModel" "truth" "[Z" ∈ wsL_law := sg_8 _ (List.mem_of_getElem? (i := 17) rfl)
theorem dX12_isSo_357 : decode cX12_isSo 357 = .ok (.getfield 36, 3) := oc_180 (a := 0) (b := 36) (by decide +kernel)
theorem dX12_isSo_360 : decode cX12_isSo 360 = .ok (.iconst 0, 1) := oc_3 (by decide +kernel)
theorem dX12_isSo_361 : decode cX12_isSo 361 = .ok (.baload, 1) := oc_51 (by decide +kernel)
theorem dX12_isSo_362 : decode cX12_isSo 362 = .ok (.ireturn, 1) := oc_172 (by decide +kernel)
theorem dX12_isSo_29 : decode cX12_isSo 29 = .ok (.aload_n 0, 1) := oc_42 (by decide +kernel)
theorem dX12_isSo_30 : decode cX12_isSo 30 = .ok (.getfield 7, 3) := oc_180 (a := 0) (b := 7) (by decide +kernel)
theorem dX12_isSo_33 : decode cX12_isSo 33 = .ok (.sipush 3720, 3) := oc_17 (a := 14) (b := 136) (by decide +kernel)
theorem dX12_isSo_36 : decode cX12_isSo 36 = .ok (.sipush 900, 3) := oc_17 (a := 3) (b := 132) (by decide +kernel)
theorem dX12_isSo_39 : decode cX12_isSo 39 = .ok (.iload_n 1, 1) := oc_27 (by decide +kernel)
theorem dX12_isSo_40 : decode cX12_isSo 40 = .ok (.imul, 1) := oc_104 (by decide +kernel)
theorem dX12_isSo_41 : decode cX12_isSo 41 = .ok (.iadd, 1) := oc_96 (by decide +kernel)
theorem dX12_isSo_42 : decode cX12_isSo 42 = .ok (.sipush 250, 3) := oc_17 (a := 0) (b := 250) (by decide +kernel)
theorem dX12_isSo_45 : decode cX12_isSo 45 = .ok (.iadd, 1) := oc_96 (by decide +kernel)
theorem dX12_isSo_46 : decode cX12_isSo 46 = .ok (.iconst 2, 1) := oc_5 (by decide +kernel)
theorem dX12_isSo_47 : decode cX12_isSo 47 = .ok (.iload 8, 2) := oc_21 (by decide +kernel)
theorem dX12_isSo_49 : decode cX12_isSo 49 = .ok (.imul, 1) := oc_104 (by decide +kernel)
theorem dX12_isSo_50 : decode cX12_isSo 50 = .ok (.iadd, 1) := oc_96 (by decide +kernel)
theorem dX12_isSo_51 : decode cX12_isSo 51 = .ok (.iaload, 1) := oc_46 (by decide +kernel)
theorem dX12_isSo_52 : decode cX12_isSo 52 = .ok (.istore 9, 2) := oc_54 (by decide +kernel)
theorem dX12_isSo_54 : decode cX12_isSo 54 = .ok (.aload_n 0, 1) := oc_42 (by decide +kernel)
theorem dX12_isSo_55 : decode cX12_isSo 55 = .ok (.getfield 7, 3) := oc_180 (a := 0) (b := 7) (by decide +kernel)
theorem dX12_isSo_58 : decode cX12_isSo 58 = .ok (.sipush 3720, 3) := oc_17 (a := 14) (b := 136) (by decide +kernel)
theorem dX12_isSo_61 : decode cX12_isSo 61 = .ok (.sipush 900, 3) := oc_17 (a := 3) (b := 132) (by decide +kernel)
theorem dX12_isSo_64 : decode cX12_isSo 64 = .ok (.iload_n 1, 1) := oc_27 (by decide +kernel)
theorem dX12_isSo_65 : decode cX12_isSo 65 = .ok (.imul, 1) := oc_104 (by decide +kernel)
theorem dX12_isSo_66 : decode cX12_isSo 66 = .ok (.iadd, 1) := oc_96 (by decide +kernel)
theorem dX12_isSo_67 : decode cX12_isSo 67 = .ok (.sipush 250, 3) := oc_17 (a := 0) (b := 250) (by decide +kernel)
theorem dX12_isSo_70 : decode cX12_isSo 70 = .ok (.iadd, 1) := oc_96 (by decide +kernel)
theorem dX12_isSo_71 : decode cX12_isSo 71 = .ok (.iconst 2, 1) := oc_5 (by decide +kernel)
theorem dX12_isSo_72 : decode cX12_isSo 72 = .ok (.iload 8, 2) := oc_21 (by decide +kernel)
theorem dX12_isSo_74 : decode cX12_isSo 74 = .ok (.imul, 1) := oc_104 (by decide +kernel)
theorem dX12_isSo_75 : decode cX12_isSo 75 = .ok (.iadd, 1) := oc_96 (by decide +kernel)
theorem dX12_isSo_76 : decode cX12_isSo 76 = .ok (.iconst 1, 1) := oc_4 (by decide +kernel)
theorem dX12_isSo_77 : decode cX12_isSo 77 = .ok (.iadd, 1) := oc_96 (by decide +kernel)
theorem dX12_isSo_78 : decode cX12_isSo 78 = .ok (.iaload, 1) := oc_46 (by decide +kernel)
theorem dX12_isSo_79 : decode cX12_isSo 79 = .ok (.istore 10, 2) := oc_54 (by decide +kernel)
theorem dX12_isSo_81 : decode cX12_isSo 81 = .ok (.iload 9, 2) := oc_21 (by decide +kernel)
theorem dX12_isSo_83 : decode cX12_isSo 83 = .ok (.iconst 1, 1) := oc_4 (by decide +kernel)
theorem dX12_isSo_84 : decode cX12_isSo 84 = .ok (.if_icmp .gt 39, 3) := oc_163 (a := 0) (b := 39) (by decide +kernel)
theorem dX12_isSo_123 : decode cX12_isSo 123 = .ok (.iload 9, 2) := oc_21 (by decide +kernel)
theorem dX12_isSo_125 : decode cX12_isSo 125 = .ok (.iconst 2, 1) := oc_5 (by decide +kernel)
theorem dX12_isSo_126 : decode cX12_isSo 126 = .ok (.if_icmp .ne 25, 3) := oc_160 (a := 0) (b := 25) (by decide +kernel)
theorem dX12_isSo_151 : decode cX12_isSo 151 = .ok (.iload 9, 2) := oc_21 (by decide +kernel)
theorem dX12_isSo_153 : decode cX12_isSo 153 = .ok (.bipush 10, 2) := oc_16 (a := 10) (by decide +kernel)
theorem dX12_isSo_155 : decode cX12_isSo 155 = .ok (.if_icmp .ge 39, 3) := oc_162 (a := 0) (b := 39) (by decide +kernel)
theorem dX12_isSo_194 : decode cX12_isSo 194 = .ok (.iload 9, 2) := oc_21 (by decide +kernel)
theorem dX12_isSo_196 : decode cX12_isSo 196 = .ok (.bipush 20, 2) := oc_16 (a := 20) (by decide +kernel)
theorem dX12_isSo_198 : decode cX12_isSo 198 = .ok (.if_icmp .ge 40, 3) := oc_162 (a := 0) (b := 40) (by decide +kernel)
theorem dX12_isSo_238 : decode cX12_isSo 238 = .ok (.iload 9, 2) := oc_21 (by decide +kernel)
theorem dX12_isSo_240 : decode cX12_isSo 240 = .ok (.bipush 20, 2) := oc_16 (a := 20) (by decide +kernel)
theorem dX12_isSo_242 : decode cX12_isSo 242 = .ok (.if_icmp .ne 32, 3) := oc_160 (a := 0) (b := 32) (by decide +kernel)
theorem dX12_isSo_274 : decode cX12_isSo 274 = .ok (.iinc 7 (-1), 3) := oc_132 (b := 255) (by decide +kernel)
theorem dX12_isSo_277 : decode cX12_isSo 277 = .ok (.aload_n 0, 1) := oc_42 (by decide +kernel)
theorem dX12_isSo_278 : decode cX12_isSo 278 = .ok (.getfield 36, 3) := oc_180 (a := 0) (b := 36) (by decide +kernel)
theorem dX12_isSo_281 : decode cX12_isSo 281 = .ok (.iload 7, 2) := oc_21 (by decide +kernel)
theorem dX12_isSo_283 : decode cX12_isSo 283 = .ok (.iconst 1, 1) := oc_4 (by decide +kernel)
theorem dX12_isSo_284 : decode cX12_isSo 284 = .ok (.isub, 1) := oc_100 (by decide +kernel)
theorem dX12_isSo_285 : decode cX12_isSo 285 = .ok (.iload 9, 2) := oc_21 (by decide +kernel)
theorem dX12_isSo_287 : decode cX12_isSo 287 = .ok (.bipush 21, 2) := oc_16 (a := 21) (by decide +kernel)
theorem dX12_isSo_349 : decode cX12_isSo 349 = .ok (.bastore, 1) := oc_84 (by decide +kernel)
theorem dX12_isSo_350 : decode cX12_isSo 350 = .ok (.iinc 8 1, 3) := oc_132 (b := 1) (by decide +kernel)
theorem dX12_isSo_353 : decode cX12_isSo 353 = .ok (.goto (-337), 3) := oc_167 (a := 254) (b := 175) (by decide +kernel)
theorem dX12_isSo_289 : decode cX12_isSo 289 = .ok (.if_icmp .ne 33, 3) := oc_160 (a := 0) (b := 33) (by decide +kernel)
theorem dX12_isSo_322 : decode cX12_isSo 322 = .ok (.aload_n 0, 1) := oc_42 (by decide +kernel)
theorem dX12_isSo_323 : decode cX12_isSo 323 = .ok (.getfield 36, 3) := oc_180 (a := 0) (b := 36) (by decide +kernel)
theorem dX12_isSo_326 : decode cX12_isSo 326 = .ok (.iload 7, 2) := oc_21 (by decide +kernel)
theorem dX12_isSo_328 : decode cX12_isSo 328 = .ok (.iconst 1, 1) := oc_4 (by decide +kernel)
theorem dX12_isSo_329 : decode cX12_isSo 329 = .ok (.isub, 1) := oc_100 (by decide +kernel)
theorem dX12_isSo_330 : decode cX12_isSo 330 = .ok (.baload, 1) := oc_51 (by decide +kernel)
theorem dX12_isSo_344 : decode cX12_isSo 344 = .ok (.iconst 1, 1) := oc_4 (by decide +kernel)
theorem dX12_isSo_345 : decode cX12_isSo 345 = .ok (.goto 4, 3) := oc_167 (a := 0) (b := 4) (by decide +kernel)
theorem dX12_isSo_331 : decode cX12_isSo 331 = .ok (.ifCond .ne 13, 3) := oc_154 (a := 0) (b := 13) (by decide +kernel)
theorem dX12_isSo_334 : decode cX12_isSo 334 = .ok (.aload_n 0, 1) := oc_42 (by decide +kernel)
theorem dX12_isSo_335 : decode cX12_isSo 335 = .ok (.getfield 36, 3) := oc_180 (a := 0) (b := 36) (by decide +kernel)
theorem dX12_isSo_338 : decode cX12_isSo 338 = .ok (.iload 7, 2) := oc_21 (by decide +kernel)
theorem dX12_isSo_340 : decode cX12_isSo 340 = .ok (.baload, 1) := oc_51 (by decide +kernel)
theorem dX12_isSo_341 : decode cX12_isSo 341 = .ok (.ifCond .eq 7, 3) := oc_153 (a := 0) (b := 7) (by decide +kernel)
theorem dX12_isSo_348 : decode cX12_isSo 348 = .ok (.iconst 0, 1) := oc_3 (by decide +kernel)
theorem dX12_isSo_292 : decode cX12_isSo 292 = .ok (.aload_n 0, 1) := oc_42 (by decide +kernel)
theorem dX12_isSo_293 : decode cX12_isSo 293 = .ok (.getfield 36, 3) := oc_180 (a := 0) (b := 36) (by decide +kernel)
theorem dX12_isSo_296 : decode cX12_isSo 296 = .ok (.iload 7, 2) := oc_21 (by decide +kernel)
theorem dX12_isSo_298 : decode cX12_isSo 298 = .ok (.iconst 1, 1) := oc_4 (by decide +kernel)
theorem dX12_isSo_299 : decode cX12_isSo 299 = .ok (.isub, 1) := oc_100 (by decide +kernel)
theorem dX12_isSo_300 : decode cX12_isSo 300 = .ok (.baload, 1) := oc_51 (by decide +kernel)
theorem dX12_isSo_318 : decode cX12_isSo 318 = .ok (.iconst 0, 1) := oc_3 (by decide +kernel)
theorem dX12_isSo_319 : decode cX12_isSo 319 = .ok (.goto 30, 3) := oc_167 (a := 0) (b := 30) (by decide +kernel)
theorem dX12_isSo_301 : decode cX12_isSo 301 = .ok (.ifCond .eq 17, 3) := oc_153 (a := 0) (b := 17) (by decide +kernel)
theorem dX12_isSo_304 : decode cX12_isSo 304 = .ok (.aload_n 0, 1) := oc_42 (by decide +kernel)
theorem dX12_isSo_305 : decode cX12_isSo 305 = .ok (.getfield 36, 3) := oc_180 (a := 0) (b := 36) (by decide +kernel)
theorem dX12_isSo_308 : decode cX12_isSo 308 = .ok (.iload 7, 2) := oc_21 (by decide +kernel)
theorem dX12_isSo_310 : decode cX12_isSo 310 = .ok (.baload, 1) := oc_51 (by decide +kernel)
theorem dX12_isSo_311 : decode cX12_isSo 311 = .ok (.ifCond .eq 7, 3) := oc_153 (a := 0) (b := 7) (by decide +kernel)
theorem dX12_isSo_314 : decode cX12_isSo 314 = .ok (.iconst 1, 1) := oc_4 (by decide +kernel)
theorem dX12_isSo_315 : decode cX12_isSo 315 = .ok (.goto 34, 3) := oc_167 (a := 0) (b := 34) (by decide +kernel)
theorem dX12_isSo_245 : decode cX12_isSo 245 = .ok (.aload_n 0, 1) := oc_42 (by decide +kernel)
theorem dX12_isSo_246 : decode cX12_isSo 246 = .ok (.getfield 36, 3) := oc_180 (a := 0) (b := 36) (by decide +kernel)
theorem dX12_isSo_249 : decode cX12_isSo 249 = .ok (.iload 7, 2) := oc_21 (by decide +kernel)
theorem dX12_isSo_251 : decode cX12_isSo 251 = .ok (.iconst 1, 1) := oc_4 (by decide +kernel)
theorem dX12_isSo_252 : decode cX12_isSo 252 = .ok (.isub, 1) := oc_100 (by decide +kernel)
theorem dX12_isSo_253 : decode cX12_isSo 253 = .ok (.aload_n 0, 1) := oc_42 (by decide +kernel)
theorem dX12_isSo_254 : decode cX12_isSo 254 = .ok (.getfield 36, 3) := oc_180 (a := 0) (b := 36) (by decide +kernel)
theorem dX12_isSo_257 : decode cX12_isSo 257 = .ok (.iload 7, 2) := oc_21 (by decide +kernel)
theorem dX12_isSo_259 : decode cX12_isSo 259 = .ok (.iconst 1, 1) := oc_4 (by decide +kernel)
theorem dX12_isSo_260 : decode cX12_isSo 260 = .ok (.isub, 1) := oc_100 (by decide +kernel)
theorem dX12_isSo_261 : decode cX12_isSo 261 = .ok (.baload, 1) := oc_51 (by decide +kernel)
theorem dX12_isSo_270 : decode cX12_isSo 270 = .ok (.bastore, 1) := oc_84 (by decide +kernel)
theorem dX12_isSo_271 : decode cX12_isSo 271 = .ok (.goto 79, 3) := oc_167 (a := 0) (b := 79) (by decide +kernel)
theorem dX12_isSo_262 : decode cX12_isSo 262 = .ok (.ifCond .ne 7, 3) := oc_154 (a := 0) (b := 7) (by decide +kernel)
theorem dX12_isSo_269 : decode cX12_isSo 269 = .ok (.iconst 0, 1) := oc_3 (by decide +kernel)
theorem dX12_isSo_265 : decode cX12_isSo 265 = .ok (.iconst 1, 1) := oc_4 (by decide +kernel)
theorem dX12_isSo_266 : decode cX12_isSo 266 = .ok (.goto 4, 3) := oc_167 (a := 0) (b := 4) (by decide +kernel)
theorem dX12_isSo_201 : decode cX12_isSo 201 = .ok (.iinc 6 (-2), 3) := oc_132 (b := 254) (by decide +kernel)
theorem dX12_isSo_204 : decode cX12_isSo 204 = .ok (.aload_n 0, 1) := oc_42 (by decide +kernel)
theorem dX12_isSo_205 : decode cX12_isSo 205 = .ok (.getfield 36, 3) := oc_180 (a := 0) (b := 36) (by decide +kernel)
theorem dX12_isSo_208 : decode cX12_isSo 208 = .ok (.iload 7, 2) := oc_21 (by decide +kernel)
theorem dX12_isSo_210 : decode cX12_isSo 210 = .ok (.iload 9, 2) := oc_21 (by decide +kernel)
theorem dX12_isSo_212 : decode cX12_isSo 212 = .ok (.aload_n 0, 1) := oc_42 (by decide +kernel)
theorem tw_183 : Cond.fieldLink RX12 32 "RingsUnderModel" "values" "[J" ∈ wsL_law := sg_8 _ (List.mem_of_getElem? (i := 15) rfl)
theorem dX12_isSo_213 : decode cX12_isSo 213 = .ok (.getfield 32, 3) := oc_180 (a := 0) (b := 32) (by decide +kernel)
theorem dX12_isSo_216 : decode cX12_isSo 216 = .ok (.iload 6, 2) := oc_21 (by decide +kernel)
theorem dX12_isSo_218 : decode cX12_isSo 218 = .ok (.laload, 1) := oc_47 (by decide +kernel)
theorem dX12_isSo_219 : decode cX12_isSo 219 = .ok (.aload_n 0, 1) := oc_42 (by decide +kernel)
theorem dX12_isSo_220 : decode cX12_isSo 220 = .ok (.getfield 32, 3) := oc_180 (a := 0) (b := 32) (by decide +kernel)
theorem dX12_isSo_223 : decode cX12_isSo 223 = .ok (.iload 6, 2) := oc_21 (by decide +kernel)
theorem dX12_isSo_225 : decode cX12_isSo 225 = .ok (.iconst 1, 1) := oc_4 (by decide +kernel)
theorem dX12_isSo_226 : decode cX12_isSo 226 = .ok (.iadd, 1) := oc_96 (by decide +kernel)
theorem dX12_isSo_227 : decode cX12_isSo 227 = .ok (.laload, 1) := oc_47 (by decide +kernel)
theorem tw_613 : Cond.methodLink RX12 293 yX12_isAsked ∈ wsL_law := sg_26 _ (List.mem_of_getElem? (i := 13) rfl)
theorem tw_614 : Cond.static yX12_isAsked ∈ wsL_law := sg_26 _ (List.mem_of_getElem? (i := 14) rfl)
theorem tw_615 : Cond.code yX12_isAsked cX12_isAsked 5 (some .boolean) ∈ wsL_law := sg_26 _ (List.mem_of_getElem? (i := 15) rfl)
theorem dX12_isSo_228 : decode cX12_isSo 228 = .ok (.invokestatic 293, 3) := oc_184 (a := 1) (b := 37) (by decide +kernel)
theorem dX12_isSo_231 : decode cX12_isSo 231 = .ok (.bastore, 1) := oc_84 (by decide +kernel)
theorem dX12_isSo_232 : decode cX12_isSo 232 = .ok (.iinc 7 1, 3) := oc_132 (b := 1) (by decide +kernel)
theorem dX12_isSo_235 : decode cX12_isSo 235 = .ok (.goto 115, 3) := oc_167 (a := 0) (b := 115) (by decide +kernel)
theorem dX12_isSo_158 : decode cX12_isSo 158 = .ok (.iinc 6 (-1), 3) := oc_132 (b := 255) (by decide +kernel)
theorem dX12_isSo_161 : decode cX12_isSo 161 = .ok (.aload_n 0, 1) := oc_42 (by decide +kernel)
theorem dX12_isSo_162 : decode cX12_isSo 162 = .ok (.getfield 32, 3) := oc_180 (a := 0) (b := 32) (by decide +kernel)
theorem dX12_isSo_165 : decode cX12_isSo 165 = .ok (.iload 6, 2) := oc_21 (by decide +kernel)
theorem dX12_isSo_167 : decode cX12_isSo 167 = .ok (.iconst 1, 1) := oc_4 (by decide +kernel)
theorem dX12_isSo_168 : decode cX12_isSo 168 = .ok (.isub, 1) := oc_100 (by decide +kernel)
theorem dX12_isSo_169 : decode cX12_isSo 169 = .ok (.iload 9, 2) := oc_21 (by decide +kernel)
theorem dX12_isSo_171 : decode cX12_isSo 171 = .ok (.aload_n 0, 1) := oc_42 (by decide +kernel)
theorem dX12_isSo_172 : decode cX12_isSo 172 = .ok (.getfield 32, 3) := oc_180 (a := 0) (b := 32) (by decide +kernel)
theorem dX12_isSo_175 : decode cX12_isSo 175 = .ok (.iload 6, 2) := oc_21 (by decide +kernel)
theorem dX12_isSo_177 : decode cX12_isSo 177 = .ok (.iconst 1, 1) := oc_4 (by decide +kernel)
theorem dX12_isSo_178 : decode cX12_isSo 178 = .ok (.isub, 1) := oc_100 (by decide +kernel)
theorem dX12_isSo_179 : decode cX12_isSo 179 = .ok (.laload, 1) := oc_47 (by decide +kernel)
theorem dX12_isSo_180 : decode cX12_isSo 180 = .ok (.aload_n 0, 1) := oc_42 (by decide +kernel)
theorem dX12_isSo_181 : decode cX12_isSo 181 = .ok (.getfield 32, 3) := oc_180 (a := 0) (b := 32) (by decide +kernel)
theorem dX12_isSo_184 : decode cX12_isSo 184 = .ok (.iload 6, 2) := oc_21 (by decide +kernel)
theorem dX12_isSo_186 : decode cX12_isSo 186 = .ok (.laload, 1) := oc_47 (by decide +kernel)
theorem tw_605 : Cond.methodLink RX12 289 yX12_two ∈ wsL_law := sg_26 _ (List.mem_of_getElem? (i := 5) rfl)
theorem tw_606 : Cond.static yX12_two ∈ wsL_law := sg_26 _ (List.mem_of_getElem? (i := 6) rfl)
theorem tw_607 : Cond.code yX12_two cX12_two 5 (some .long) ∈ wsL_law := sg_26 _ (List.mem_of_getElem? (i := 7) rfl)
theorem dX12_isSo_187 : decode cX12_isSo 187 = .ok (.invokestatic 289, 3) := oc_184 (a := 1) (b := 33) (by decide +kernel)
theorem dX12_isSo_190 : decode cX12_isSo 190 = .ok (.lastore, 1) := oc_80 (by decide +kernel)
theorem dX12_isSo_191 : decode cX12_isSo 191 = .ok (.goto 159, 3) := oc_167 (a := 0) (b := 159) (by decide +kernel)
theorem dX12_isSo_129 : decode cX12_isSo 129 = .ok (.aload_n 0, 1) := oc_42 (by decide +kernel)
theorem dX12_isSo_130 : decode cX12_isSo 130 = .ok (.getfield 32, 3) := oc_180 (a := 0) (b := 32) (by decide +kernel)
theorem dX12_isSo_133 : decode cX12_isSo 133 = .ok (.iload 6, 2) := oc_21 (by decide +kernel)
theorem dX12_isSo_135 : decode cX12_isSo 135 = .ok (.iconst 1, 1) := oc_4 (by decide +kernel)
theorem dX12_isSo_136 : decode cX12_isSo 136 = .ok (.isub, 1) := oc_100 (by decide +kernel)
theorem dX12_isSo_137 : decode cX12_isSo 137 = .ok (.aload_n 0, 1) := oc_42 (by decide +kernel)
theorem dX12_isSo_138 : decode cX12_isSo 138 = .ok (.getfield 32, 3) := oc_180 (a := 0) (b := 32) (by decide +kernel)
theorem dX12_isSo_141 : decode cX12_isSo 141 = .ok (.iload 6, 2) := oc_21 (by decide +kernel)
theorem dX12_isSo_143 : decode cX12_isSo 143 = .ok (.iconst 1, 1) := oc_4 (by decide +kernel)
theorem dX12_isSo_144 : decode cX12_isSo 144 = .ok (.isub, 1) := oc_100 (by decide +kernel)
theorem dX12_isSo_145 : decode cX12_isSo 145 = .ok (.laload, 1) := oc_47 (by decide +kernel)
theorem dX12_isSo_146 : decode cX12_isSo 146 = .ok (.lneg, 1) := oc_117 (by decide +kernel)
theorem dX12_isSo_147 : decode cX12_isSo 147 = .ok (.lastore, 1) := oc_80 (by decide +kernel)
theorem dX12_isSo_148 : decode cX12_isSo 148 = .ok (.goto 202, 3) := oc_167 (a := 0) (b := 202) (by decide +kernel)
theorem dX12_isSo_87 : decode cX12_isSo 87 = .ok (.aload_n 0, 1) := oc_42 (by decide +kernel)
theorem dX12_isSo_88 : decode cX12_isSo 88 = .ok (.getfield 32, 3) := oc_180 (a := 0) (b := 32) (by decide +kernel)
theorem dX12_isSo_91 : decode cX12_isSo 91 = .ok (.iload 6, 2) := oc_21 (by decide +kernel)
theorem dX12_isSo_93 : decode cX12_isSo 93 = .ok (.iload 9, 2) := oc_21 (by decide +kernel)
theorem dX12_isSo_116 : decode cX12_isSo 116 = .ok (.lastore, 1) := oc_80 (by decide +kernel)
theorem dX12_isSo_117 : decode cX12_isSo 117 = .ok (.iinc 6 1, 3) := oc_132 (b := 1) (by decide +kernel)
theorem dX12_isSo_120 : decode cX12_isSo 120 = .ok (.goto 230, 3) := oc_167 (a := 0) (b := 230) (by decide +kernel)
theorem dX12_isSo_95 : decode cX12_isSo 95 = .ok (.ifCond .ne 9, 3) := oc_154 (a := 0) (b := 9) (by decide +kernel)
theorem dX12_isSo_104 : decode cX12_isSo 104 = .ok (.aload_n 0, 1) := oc_42 (by decide +kernel)
theorem dX12_isSo_105 : decode cX12_isSo 105 = .ok (.iload_n 3, 1) := oc_29 (by decide +kernel)
theorem dX12_isSo_106 : decode cX12_isSo 106 = .ok (.iload 10, 2) := oc_21 (by decide +kernel)
theorem dX12_isSo_108 : decode cX12_isSo 108 = .ok (.iload 4, 2) := oc_21 (by decide +kernel)
theorem dX12_isSo_110 : decode cX12_isSo 110 = .ok (.iload 5, 2) := oc_21 (by decide +kernel)
theorem dX12_isSo_112 : decode cX12_isSo 112 = .ok (.invokevirtual 286, 3) := oc_182 (a := 1) (b := 30) (by decide +kernel)
theorem dX12_isSo_115 : decode cX12_isSo 115 = .ok (.i2l, 1) := oc_133 (by decide +kernel)
theorem dX12_isSo_98 : decode cX12_isSo 98 = .ok (.iload 10, 2) := oc_21 (by decide +kernel)
theorem dX12_isSo_100 : decode cX12_isSo 100 = .ok (.i2l, 1) := oc_133 (by decide +kernel)
theorem dX12_isSo_101 : decode cX12_isSo 101 = .ok (.goto 15, 3) := oc_167 (a := 0) (b := 15) (by decide +kernel)
set_option maxRecDepth 100000 in
def g_X12_title_K33 (I : Nat → Int32) (J : Nat → Int64) (ri : Nat → Nat → Int32) (rj : Nat → Nat → Int64) (rq : Nat → Nat → Option Nat) : Int32 × vM := ((0 : Int32), I, J, ri, rj, rq)
set_option maxRecDepth 100000 in
theorem g_X12_title_K33_e {I : Nat → Int32} {J : Nat → Int64} {ri : Nat → Nat → Int32} {rj : Nat → Nat → Int64} {rq : Nat → Nat → Option Nat} : g_X12_title_K33 I J ri rj rq  = ((0 : Int32), I, J, ri, rj, rq) := rfl
set_option maxRecDepth 100000 in
def g_X12_title_K35 (a0 : Int32) (a1 : Int32) (I : Nat → Int32) (J : Nat → Int64) (ri : Nat → Nat → Int32) (rj : Nat → Nat → Int64) (rq : Nat → Nat → Option Nat) : Int32 × vM := (ap1 ((16 : Int32) * a0) fun (x_122 : Int32) => (ap1 ((100 : Int32) + x_122) fun (x_124 : Int32) => (ap1 (x_124 + (14 : Int32)) fun (x_126 : Int32) => (ap1 (va_up ri 384 (upd (ri 384) (x_126).toNatClampNeg a1)) fun (r_128 : Nat → Nat → Int32) => ((1 : Int32), I, J, r_128, rj, rq)))))
set_option maxRecDepth 100000 in
theorem g_X12_title_K35_e {a0 : Int32} {a1 : Int32} {I : Nat → Int32} {J : Nat → Int64} {ri : Nat → Nat → Int32} {rj : Nat → Nat → Int64} {rq : Nat → Nat → Option Nat} : g_X12_title_K35 a0 a1 I J ri rj rq  = (ap1 ((16 : Int32) * a0) fun (x_122 : Int32) => (ap1 ((100 : Int32) + x_122) fun (x_124 : Int32) => (ap1 (x_124 + (14 : Int32)) fun (x_126 : Int32) => (ap1 (va_up ri 384 (upd (ri 384) (x_126).toNatClampNeg a1)) fun (r_128 : Nat → Nat → Int32) => ((1 : Int32), I, J, r_128, rj, rq))))) := rfl
set_option maxRecDepth 100000 in
def g_X12_title (a0 : Int32) (a1 : Int32) (I : Nat → Int32) (J : Nat → Int64) (ri : Nat → Nat → Int32) (rj : Nat → Nat → Int64) (rq : Nat → Nat → Option Nat) : Int32 × vM := (bnI (g_X12_isCell a0 I J ri rj rq) fun (x_1 : Int32) (_ : Nat → Int32) (_ : Nat → Int64) (_ : Nat → Nat → Int32) (_ : Nat → Nat → Int64) (_ : Nat → Nat → Option Nat) => (if x_1 = (0 : Int32) then (g_X12_title_K33 I J ri rj rq ) else (if a1 = (-1 : Int32) then (g_X12_title_K35 a0 a1 I J ri rj rq ) else (bnI (g_X12_isPerson a1 I J ri rj rq) fun (x_136 : Int32) (_ : Nat → Int32) (_ : Nat → Int64) (_ : Nat → Nat → Int32) (_ : Nat → Nat → Int64) (_ : Nat → Nat → Option Nat) => (if x_136 = (0 : Int32) then (g_X12_title_K33 I J ri rj rq ) else (bnI (g_X12_personAt_c3 a1 I J ri rj rq) fun (x_158 : Int32) (_ : Nat → Int32) (_ : Nat → Int64) (_ : Nat → Nat → Int32) (_ : Nat → Nat → Int64) (_ : Nat → Nat → Option Nat) => (if x_158 = (300 : Int32) then (g_X12_title_K33 I J ri rj rq ) else (g_X12_title_K35 a0 a1 I J ri rj rq ))))))))
set_option maxRecDepth 100000 in
theorem g_X12_title_e {a0 : Int32} {a1 : Int32} {I : Nat → Int32} {J : Nat → Int64} {ri : Nat → Nat → Int32} {rj : Nat → Nat → Int64} {rq : Nat → Nat → Option Nat} : g_X12_title a0 a1 I J ri rj rq = (bnI (g_X12_isCell a0 I J ri rj rq) fun (x_1 : Int32) (_ : Nat → Int32) (_ : Nat → Int64) (_ : Nat → Nat → Int32) (_ : Nat → Nat → Int64) (_ : Nat → Nat → Option Nat) => (if x_1 = (0 : Int32) then (g_X12_title_K33 I J ri rj rq ) else (if a1 = (-1 : Int32) then (g_X12_title_K35 a0 a1 I J ri rj rq ) else (bnI (g_X12_isPerson a1 I J ri rj rq) fun (x_136 : Int32) (_ : Nat → Int32) (_ : Nat → Int64) (_ : Nat → Nat → Int32) (_ : Nat → Nat → Int64) (_ : Nat → Nat → Option Nat) => (if x_136 = (0 : Int32) then (g_X12_title_K33 I J ri rj rq ) else (bnI (g_X12_personAt_c3 a1 I J ri rj rq) fun (x_158 : Int32) (_ : Nat → Int32) (_ : Nat → Int64) (_ : Nat → Nat → Int32) (_ : Nat → Nat → Int64) (_ : Nat → Nat → Option Nat) => (if x_158 = (300 : Int32) then (g_X12_title_K33 I J ri rj rq ) else (g_X12_title_K35 a0 a1 I J ri rj rq )))))))) := rfl
set_option maxHeartbeats 4000000 in
set_option maxRecDepth 100000 in
theorem s_X12_title (l : Launch) (D : va_G) (t : pq_T) (σ : pq_S) (I : Nat → Nat → Int32) (J : Nat → Nat → Int64) (ri : Nat → Nat → Int32) (rj : Nat → Nat → Int64) (rq : Nat → Nat → Option Nat) (sz : Nat) (tg : Nat → Nat) (hSH : SH σ tg) (hG0 : GT tg I ri) (this : Nat) (a0 : Int32) (a1 : Int32) (hL_this : this ∈ σ.1) (hK_this : σ.2.1 this = 12) : MetI l yX12_title (wa yX12_title cX12_title 3 (some .boolean)) ({ frames := 2, cells := 0, slots := 0, locals := 43 }) [.ref this, .int a0, .int a1] D t σ (I, J, ri, rj, rq) sz 0 0 (fun (r : Int32) (u : pq_S × pq_M) => ∃ ri' : Nat → Nat → Int32, u = (σ, I, J, ri', rj, rq) ∧ GM [] tg σ I ri I ri' rq ∧ g_X12_title a0 a1 (vI 12 σ this I) (vJ 12 σ this J) (vR 12 σ this ri) (vL 12 σ this rj) (vQ 12 σ this rq) = (r, (vI 12 σ this I), (vJ 12 σ this J), (vR 12 σ this ri'), (vL 12 σ this rj), (vQ 12 σ this rq)) ∧ FR 12 tg σ this (I, J, ri, rj, rq) (I, J, ri', rj, rq) ∧ ((r = 1 ∧ rg a0 0 39 ∧ rg a1 (-1) 39) ∨ (r = 0 ∧ True))) := by
  refine Met.ofW (cc := cX12_title) (maxL := 3) (ret := (some .boolean)) (by decide +kernel) rfl ?_
  intro p e s m args below meth c s₁ B hml hv
  obtain ⟨rfl, hsz, hP, hK, hD0, hN⟩ := hv
  have hx := B.exec
  have hb := B.bytes
  have hr := B.returns
  have hts := atoms_spec (ws := (wa yX12_title cX12_title 3 (some .boolean))) B.pre
  have hown : s.vm.findClass RX12 = some m.cls := findClass_of_methodNamed B.named
  have hlocks := B.notSynchronized
  subst hsz
  have hD : va_D (pq_B t σ (I, J, ri, rj, rq) s.heap.size) (pq_P t σ (I, J, ri, rj, rq)) := hD0.self
  generalize hAe : pq_B t σ (I, J, ri, rj, rq) s.heap.size = A at hD ⊢
  have hA : ∀ q : Nat, s.heap.size ≤ q → A q := fun q h => by rw [← hAe]; exact Or.inr h
  have hS : va_S A s.heap s.heap [] := va_S.rf
  have hG : GM [] tg σ I ri I ri rq := ⟨hG0, fun _ _ _ => rfl, fun _ _ _ _ _ => rfl, fun _ _ _ _ _ _ => rfl⟩
  have hl := lv_entry ([.ref this, .int a0, .int a1]) (n := 3) (Nat.le_of_ble_eq_true rfl)
  rw [lg_entry_eq]
  generalize (lg_sl ([.ref this, .int a0, .int a1]) ++ List.replicate (3 - (lg_sl ([.ref this, .int a0, .int a1])).length) Slot.unset).toArray = ls at hl ⊢
  have hl : lv_has ls 3 [(0, .ref this), (1, .int a0), (2, .int a1)] := hl
  refine q_gen (fun Q hQ => ?_)
  have go : ∀ (H : Heap) (locs : List Loc) (ls : Array Slot), va_P D vwCl (pq_P t σ (I, J, ri, rj, rq)) H → va_D A (pq_P t σ (I, J, ri, rj, rq)) → va_S A s.heap H locs → lv_has ls 3 [(0, .ref this), (1, .int a0), (2, .int a1)] → W p l e ({ frames := 2, cells := 0, slots := 0, locals := 43 } : Room) s m (List.toArray ([.ref this, .int a0, .int a1] : List Value)) below meth c H locs 0 0 Q (F0 m 0 ls []) := by
    intro H locs ls hP hD hS hl
    have hO_this : this = vo σ 12 this := rfl
    have hVT : VT 12 σ tg this := vt_12 hSH hL_this hK_this
    have hFr : FR 12 tg σ this (I, J, ri, rj, rq) (I, J, ri, rj, rq) := fr_rf
    obtain ⟨F, hF0⟩ : ∃ F, F = g_X12_title a0 a1 (vI 12 σ this I) (vJ 12 σ this J) (vR 12 σ this ri) (vL 12 σ this rj) (vQ 12 σ this rq) := ⟨_, rfl⟩
    have hF := hF0.trans g_X12_title_e
    refine lv_aload_n hx hb dX12_title_0 rfl (lv_at hl 0 rfl) ?_
    refine lv_iload_n hx hb dX12_title_1 rfl (lv_at hl 1 rfl) ?_
    refine pk_i (va_runV (As := [.int a0]) (rest := []) ⟨hx, hb, hml, hown, hts⟩ (s_X12_isCell l D t σ I J ri rj rq H.size tg hSH hG.1 this a0 hL_this hK_this) (cwV 1 hts (tw_V tw_340 tw_341 tw_342 tw_5 tw_343) rfl rfl rfl cv_yX12_isCell_1 ⟨Nat.le_of_ble_eq_true rfl, Nat.le_of_ble_eq_true rfl⟩) ⟨pq_blind, pq_recv hK hP hL_this hK_this (by decide +kernel) rfl, pq_pre hK hN hP hD⟩ rfl rfl hl.1 rfl (lv_room (Nat.le_of_ble_eq_true rfl)) dX12_title_2 ⟨Nat.le_of_ble_eq_true rfl, Nat.le_of_ble_eq_true rfl⟩) hD hS hA (fun x_1 σ1 μ1 H locs hw_2 hP hD hS => ?_)
    obtain ⟨hu_3, hfn_6, hr_5⟩ := hw_2
    obtain ⟨hu_3a, hu_3b⟩ := Prod.mk.inj hu_3
    rw [hu_3a, hu_3b] at hP hD
    replace hF := hF.trans (bn_n hfn_6)
    have h_8 : rg x_1 0 1 := by rcases hr_5 with ⟨q, -⟩ | ⟨q, -⟩ <;> rw [q] <;> exact ⟨by decide +kernel, by decide +kernel⟩
    have uh_8 := h_8.1
    have vh_8 := h_8.2
    have K_60 : ∀  (H : Heap) (locs : List Loc) (ls : Array Slot), F = g_X12_title_K33 (vI 12 σ this I) (vJ 12 σ this J) (vR 12 σ this ri) (vL 12 σ this rj) (vQ 12 σ this rq)  → FR 12 tg σ this (I, J, ri, rj, rq) (I, J, ri, rj, rq) → GM [] tg σ I ri I ri rq → va_P D vwCl (pq_P t σ (I, J, ri, rj, rq)) H → va_D A (pq_P t σ (I, J, ri, rj, rq)) → va_S A s.heap H locs → lv_has ls 3 [] → W p l e ({ frames := 2, cells := 0, slots := 0, locals := 43 } : Room) s m (List.toArray ([.ref this, .int a0, .int a1] : List Value)) below meth c H locs 0 0 Q (F0 m 33 ls []) := by
      intro H locs ls hF hFr hG hP hD hS hl
      replace hF := hF.trans g_X12_title_K33_e
      refine lv_iconst (v := 0) hx hb dX12_title_33 (by decide +kernel) ?_
      subst hQ
      exact W.zret (v := 0) hx hb hr (by decide +kernel) (fun t1 ht hW => ⟨⟨0, (σ, I, J, ri, rj, rq), rfl, ⟨ri, rfl, hG, (hF0.symm.trans hF), hFr, (Or.inr ⟨rfl, trivial⟩)⟩, by rw [ht]; exact hP, va_K.moved hW.alike hK, hD⟩, hS.F ht⟩) hS.2.2 dX12_title_34
    refine lv_if_eq (tgt := 33) hx hb dX12_title_5 (by decide +kernel) (fun c_61 => ?_) (fun c_61 => ?_)
    · replace hF := hF.trans (if_pos c_61)
      have f_68 := (hr_5.resolve_left (fun q => absurd (q.1.symm.trans c_61) (by decide +kernel))).2
      have tc_69 : (x_1).toInt = 0 := congrArg Int32.toInt c_61
      have h_70 : rg x_1 0 0 := rg_and h_8 (rg_of_eq c_61 (rg_k (0 : Int32) 0 rfl)) (by decide +kernel)
      have uh_70 := h_70.1
      have vh_70 := h_70.2
      exact K_60 _ _ _ hF hFr hG hP hD hS (lv_sub hl [] rfl)
    · replace hF := hF.trans (if_neg c_61)
      have f_71 := (hr_5.resolve_right (fun q => c_61 q.1)).2
      have uf_71 := f_71.1
      have vf_71 := f_71.2
      have tc_72 : (x_1).toInt ≠ 0 := fun q => c_61 (Int32.toInt_inj.mp q)
      have h_73 : rg x_1 1 1 := rg_ne c_61 h_8 0 rfl (by decide +kernel)
      have uh_73 := h_73.1
      have vh_73 := h_73.2
      refine lv_iload_n hx hb dX12_title_8 rfl (lv_at hl 2 rfl) ?_
      refine lv_iconst (v := (-1)) hx hb dX12_title_9 (by decide +kernel) ?_
      have K_118 : ∀  (H : Heap) (locs : List Loc) (ls : Array Slot), rg (a1) (-1) 39 → F = g_X12_title_K35 a0 a1 (vI 12 σ this I) (vJ 12 σ this J) (vR 12 σ this ri) (vL 12 σ this rj) (vQ 12 σ this rq)  → FR 12 tg σ this (I, J, ri, rj, rq) (I, J, ri, rj, rq) → GM [] tg σ I ri I ri rq → va_P D vwCl (pq_P t σ (I, J, ri, rj, rq)) H → va_D A (pq_P t σ (I, J, ri, rj, rq)) → va_S A s.heap H locs → lv_has ls 3 [(0, .ref this), (1, .int a0), (2, .int a1)] → W p l e ({ frames := 2, cells := 0, slots := 0, locals := 43 } : Room) s m (List.toArray ([.ref this, .int a0, .int a1] : List Value)) below meth c H locs 0 0 Q (F0 m 35 ls []) := by
        intro H locs ls h_120 hF hFr hG hP hD hS hl
        have uh_120 := h_120.1
        have vh_120 := h_120.2
        replace hF := hF.trans g_X12_title_K35_e
        refine lv_aload_n hx hb dX12_title_35 rfl (lv_at hl 0 rfl) ?_
        obtain ⟨w_121, hR_w_121, hL_w_121, hK_w_121, hN_w_121, hT_w_121⟩ := sh_a hSH 384 (ci := 12) (kd := 13) (len := 12720) rfl (by decide +kernel) hL_this hK_this
        have hO_w_121 : w_121 = vrow σ 384 this := vo_k (c := 12) hO_this hR_w_121
        refine pg_f (v := .ref w_121) (C := RX12) (T := TX12) (N := 31) hx hb hts (tw_i inlX12) hown hK hP hL_this hK_this (by decide +kernel) rfl 0 (by decide +kernel) (hts _ (tw_c tw_176)) (pq_hv rfl hR_w_121) dX12_title_36 ?_
        refine lv_bipush (v := 100) hx hb dX12_title_39 (by decide +kernel) ?_
        refine lv_bipush (v := 16) hx hb dX12_title_41 (by decide +kernel) ?_
        refine lv_iload_n hx hb dX12_title_43 rfl (lv_at hl 1 rfl) ?_
        refine lv_imul hx hb dX12_title_44 ?_
        refine lv_topi (fun x_122 ex_122 => ?_)
        replace hF := hF.trans (ap_n ex_122)
        have h_123 : rg x_122 0 624 := rg_of_eq ex_122 (rg_mul (rg_k (16 : Int32) 16 rfl) f_71 (by decide +kernel))
        have uh_123 := h_123.1
        have vh_123 := h_123.2
        have tx_122 : (x_122).toInt = 16 * (a0).toInt := by rw [ex_122]; exact i_mul_rg (a2 := 16) (b2 := (a0).toInt) rfl rfl (rg_k (16 : Int32) 16 rfl) f_71 (by decide +kernel)
        refine lv_iadd hx hb dX12_title_45 ?_
        refine lv_topi (fun x_124 ex_124 => ?_)
        replace hF := hF.trans (ap_n ex_124)
        have h_125 : rg x_124 100 724 := rg_of_eq ex_124 (rg_add (rg_k (100 : Int32) 100 rfl) h_123 (by decide +kernel))
        have uh_125 := h_125.1
        have vh_125 := h_125.2
        have tx_124 : (x_124).toInt = 100 + (x_122).toInt := by rw [ex_124]; exact i_add_rg (a2 := 100) (b2 := (x_122).toInt) rfl rfl (rg_k (100 : Int32) 100 rfl) h_123 (by decide +kernel)
        refine lv_bipush (v := 14) hx hb dX12_title_46 (by decide +kernel) ?_
        refine lv_iadd hx hb dX12_title_48 ?_
        refine lv_topi (fun x_126 ex_126 => ?_)
        replace hF := hF.trans (ap_n ex_126)
        have h_127 : rg x_126 114 738 := rg_of_eq ex_126 (rg_add h_125 (rg_k (14 : Int32) 14 rfl) (by decide +kernel))
        have uh_127 := h_127.1
        have vh_127 := h_127.2
        have tx_126 : (x_126).toInt = (x_124).toInt + 14 := by rw [ex_126]; exact i_add_rg (a2 := (x_124).toInt) (b2 := 14) rfl rfl h_125 (rg_k (14 : Int32) 14 rfl) (by decide +kernel)
        refine lv_iload_n hx hb dX12_title_49 rfl (lv_at hl 2 rfl) ?_
        refine pt_i hx hb hK hP hD hS hL_w_121 hK_w_121 hN_w_121 (rg_in h_127 (by decide +kernel)) dX12_title_50 (fun r_128 H locs er_128 hP hD hS => ?_)
        replace hFr := fr_R hFr hO_w_121 (by decide +kernel) er_128
        replace hF := hF.trans (ap_n (vR_st hVT hO_w_121 (by decide +kernel) er_128))
        have hG := GM.wz hG hT_w_121 (by decide +kernel) er_128 (zn_CELL (c := a0.toNatClampNeg) (k := 14) (by have z_i := clampE x_126; have z_0 := clampE a0; omega) (rg_cl1 f_71 (by decide +kernel)) (by decide +kernel)) rfl (rg_w h_120 (by decide +kernel)) (by decide +kernel)
        refine lv_iconst (v := 1) hx hb dX12_title_51 (by decide +kernel) ?_
        subst hQ
        exact W.zret (v := 1) hx hb hr (by decide +kernel) (fun t1 ht hW => ⟨⟨1, (σ, I, J, r_128, rj, rq), rfl, ⟨r_128, rfl, hG, (hF0.symm.trans hF), hFr, (Or.inl ⟨rfl, (rg_w f_71 (by decide +kernel)), (rg_w h_120 (by decide +kernel))⟩)⟩, by rw [ht]; exact hP, va_K.moved hW.alike hK, hD⟩, hS.F ht⟩) hS.2.2 dX12_title_52
      refine lv_icmp_eq (tgt := 35) hx hb dX12_title_10 (by decide +kernel) (fun c_129 => ?_) (fun c_129 => ?_)
      · replace hF := hF.trans (if_pos c_129)
        have tc_133 : (a1).toInt = (-1) := congrArg Int32.toInt c_129
        have h_134 : rg a1 (-1) (-1) := rg_and (rg_full _) (rg_of_eq c_129 (rg_k (-1 : Int32) (-1) rfl)) (by decide +kernel)
        have uh_134 := h_134.1
        have vh_134 := h_134.2
        exact K_118 _ _ _ (rg_w h_134 (by decide +kernel)) hF hFr hG hP hD hS (lv_sub hl [0, 1, 2] rfl)
      · replace hF := hF.trans (if_neg c_129)
        have tc_135 : (a1).toInt ≠ (-1) := fun q => c_129 (Int32.toInt_inj.mp q)
        refine lv_aload_n hx hb dX12_title_13 rfl (lv_at hl 0 rfl) ?_
        refine lv_iload_n hx hb dX12_title_14 rfl (lv_at hl 2 rfl) ?_
        refine pk_i (va_runV (As := [.int a1]) (rest := []) ⟨hx, hb, hml, hown, hts⟩ (s_X12_isPerson l D t σ I J ri rj rq H.size tg hSH hG.1 this a1 hL_this hK_this) (cwV 1 hts (tw_V tw_425 tw_426 tw_427 tw_5 tw_428) rfl rfl rfl cv_yX12_isPerson_1 ⟨Nat.le_of_ble_eq_true rfl, Nat.le_of_ble_eq_true rfl⟩) ⟨pq_blind, pq_recv hK hP hL_this hK_this (by decide +kernel) rfl, pq_pre hK hN hP hD⟩ rfl rfl hl.1 rfl (lv_room (Nat.le_of_ble_eq_true rfl)) dX12_title_15 ⟨Nat.le_of_ble_eq_true rfl, Nat.le_of_ble_eq_true rfl⟩) hD hS hA (fun x_136 σ1 μ1 H locs hw_137 hP hD hS => ?_)
        obtain ⟨hu_138, hfn_141, hr_140⟩ := hw_137
        obtain ⟨hu_138a, hu_138b⟩ := Prod.mk.inj hu_138
        rw [hu_138a, hu_138b] at hP hD
        replace hF := hF.trans (bn_n hfn_141)
        have h_143 : rg x_136 0 1 := by rcases hr_140 with ⟨q, -⟩ | ⟨q, -⟩ <;> rw [q] <;> exact ⟨by decide +kernel, by decide +kernel⟩
        have uh_143 := h_143.1
        have vh_143 := h_143.2
        refine lv_if_eq (tgt := 33) hx hb dX12_title_18 (by decide +kernel) (fun c_144 => ?_) (fun c_144 => ?_)
        · replace hF := hF.trans (if_pos c_144)
          have f_151 := (hr_140.resolve_left (fun q => absurd (q.1.symm.trans c_144) (by decide +kernel))).2
          have tc_152 : (x_136).toInt = 0 := congrArg Int32.toInt c_144
          have h_153 : rg x_136 0 0 := rg_and h_143 (rg_of_eq c_144 (rg_k (0 : Int32) 0 rfl)) (by decide +kernel)
          have uh_153 := h_153.1
          have vh_153 := h_153.2
          exact K_60 _ _ _ hF hFr hG hP hD hS (lv_sub hl [] rfl)
        · replace hF := hF.trans (if_neg c_144)
          have f_154 := (hr_140.resolve_right (fun q => c_144 q.1)).2
          have uf_154 := f_154.1
          have vf_154 := f_154.2
          have tc_155 : (x_136).toInt ≠ 0 := fun q => c_144 (Int32.toInt_inj.mp q)
          have h_156 : rg x_136 1 1 := rg_ne c_144 h_143 0 rfl (by decide +kernel)
          have uh_156 := h_156.1
          have vh_156 := h_156.2
          refine lv_aload_n hx hb dX12_title_21 rfl (lv_at hl 0 rfl) ?_
          refine lv_iload_n hx hb dX12_title_22 rfl (lv_at hl 2 rfl) ?_
          refine lv_iconst (v := 3) hx hb dX12_title_23 (by decide +kernel) ?_
          obtain ⟨w_157, hR_w_157, hL_w_157, hK_w_157, hN_w_157, hT_w_157⟩ := sh_a hSH 384 (ci := 12) (kd := 13) (len := 12720) rfl (by decide +kernel) hL_this hK_this
          have hO_w_157 : w_157 = vrow σ 384 this := vo_k (c := 12) hO_this hR_w_157
          refine pk_i (va_runV (As := [.int a1, .int 3]) (rest := []) ⟨hx, hb, hml, hown, hts⟩ (s_X12_personAt_c3 l D t σ I J ri rj rq H.size tg hSH hG.1 this a1 hL_this hK_this (rg_w f_154 (by decide +kernel)) w_157 hR_w_157 hL_w_157 hK_w_157 hN_w_157 hT_w_157) (cwV 2 hts (tw_V tw_437 tw_438 tw_439 tw_5 tw_440) rfl rfl rfl cv_yX12_personAt_2 ⟨Nat.le_of_ble_eq_true rfl, Nat.le_of_ble_eq_true rfl⟩) ⟨pq_blind, pq_recv hK hP hL_this hK_this (by decide +kernel) rfl, pq_pre hK hN hP hD⟩ rfl rfl hl.1 rfl (lv_room (Nat.le_of_ble_eq_true rfl)) dX12_title_24 ⟨Nat.le_of_ble_eq_true rfl, Nat.le_of_ble_eq_true rfl⟩) hD hS hA (fun x_158 σ1 μ1 H locs hw_159 hP hD hS => ?_)
          obtain ⟨hu_160, hp_163, hp_164, hfn_165, hr_162⟩ := hw_159
          obtain ⟨hu_160a, hu_160b⟩ := Prod.mk.inj hu_160
          rw [hu_160a, hu_160b] at hP hD
          replace hF := hF.trans (bn_n hfn_165)
          have tt_167 := hp_164
          refine lv_sipush (v := 300) hx hb dX12_title_27 (by decide +kernel) ?_
          refine lv_icmp_ne (tgt := 35) hx hb dX12_title_30 (by decide +kernel) (fun c_168 => ?_) (fun c_168 => ?_)
          · replace hF := hF.trans (if_neg c_168)
            have tc_173 : (x_158).toInt ≠ 300 := fun q => c_168 (Int32.toInt_inj.mp q)
            have h_174 : rg x_158 0 299 := rg_ne c_168 hr_162 300 rfl (by decide +kernel)
            have uh_174 := h_174.1
            have vh_174 := h_174.2
            exact K_118 _ _ _ (rg_w f_154 (by decide +kernel)) hF hFr hG hP hD hS (lv_sub hl [0, 1, 2] rfl)
          · replace hF := hF.trans (if_pos c_168)
            have tc_175 : (x_158).toInt = 300 := congrArg Int32.toInt c_168
            have h_176 : rg x_158 300 300 := rg_and hr_162 (rg_of_eq c_168 (rg_k (300 : Int32) 300 rfl)) (by decide +kernel)
            have uh_176 := h_176.1
            have vh_176 := h_176.2
            exact K_60 _ _ _ hF hFr hG hP hD hS (lv_sub hl [] rfl)
  exact go _ _ _ hP hD hS hl

set_option maxRecDepth 100000 in
def g_X12_cellAt_c12 (a0 : Int32) (I : Nat → Int32) (J : Nat → Int64) (ri : Nat → Nat → Int32) (rj : Nat → Nat → Int64) (rq : Nat → Nat → Option Nat) : Int32 × vM := (ap1 ((16 : Int32) * a0) fun (x_2 : Int32) => (ap1 ((100 : Int32) + x_2) fun (x_4 : Int32) => (ap1 (x_4 + (12 : Int32)) fun (x_6 : Int32) => (ap1 (ri 384 (x_6).toNatClampNeg) fun (x_8 : Int32) => (x_8, I, J, ri, rj, rq)))))
set_option maxRecDepth 100000 in
theorem g_X12_cellAt_c12_e {a0 : Int32} {I : Nat → Int32} {J : Nat → Int64} {ri : Nat → Nat → Int32} {rj : Nat → Nat → Int64} {rq : Nat → Nat → Option Nat} : g_X12_cellAt_c12 a0 I J ri rj rq = (ap1 ((16 : Int32) * a0) fun (x_2 : Int32) => (ap1 ((100 : Int32) + x_2) fun (x_4 : Int32) => (ap1 (x_4 + (12 : Int32)) fun (x_6 : Int32) => (ap1 (ri 384 (x_6).toNatClampNeg) fun (x_8 : Int32) => (x_8, I, J, ri, rj, rq))))) := rfl
set_option maxHeartbeats 4000000 in
set_option maxRecDepth 100000 in
theorem s_X12_cellAt_c12 (l : Launch) (D : va_G) (t : pq_T) (σ : pq_S) (I : Nat → Nat → Int32) (J : Nat → Nat → Int64) (ri : Nat → Nat → Int32) (rj : Nat → Nat → Int64) (rq : Nat → Nat → Option Nat) (sz : Nat) (tg : Nat → Nat) (hSH : SH σ tg) (hG0 : GT tg I ri) (this : Nat) (a0 : Int32) (hL_this : this ∈ σ.1) (hK_this : σ.2.1 this = 12) (h_a0 : rg a0 0 39) : MetI l yX12_cellAt (wa yX12_cellAt cX12_cellAt 3 (some .int)) ({ frames := 0, cells := 0, slots := 0, locals := 0 }) [.ref this, .int a0, .int 12] D t σ (I, J, ri, rj, rq) sz 0 0 (fun (r : Int32) (u : pq_S × pq_M) => u = (σ, I, J, ri, rj, rq) ∧ g_X12_cellAt_c12 a0 (vI 12 σ this I) (vJ 12 σ this J) (vR 12 σ this ri) (vL 12 σ this rj) (vQ 12 σ this rq) = (r, (vI 12 σ this I), (vJ 12 σ this J), (vR 12 σ this ri), (vL 12 σ this rj), (vQ 12 σ this rq))) := by
  refine Met.ofW (cc := cX12_cellAt) (maxL := 3) (ret := (some .int)) (by decide +kernel) rfl ?_
  intro p e s m args below meth c s₁ B hml hv
  obtain ⟨rfl, hsz, hP, hK, hD0, hN⟩ := hv
  have hx := B.exec
  have hb := B.bytes
  have hr := B.returns
  have hts := atoms_spec (ws := (wa yX12_cellAt cX12_cellAt 3 (some .int))) B.pre
  have hown : s.vm.findClass RX12 = some m.cls := findClass_of_methodNamed B.named
  have hlocks := B.notSynchronized
  subst hsz
  have hD : va_D (pq_B t σ (I, J, ri, rj, rq) s.heap.size) (pq_P t σ (I, J, ri, rj, rq)) := hD0.self
  generalize hAe : pq_B t σ (I, J, ri, rj, rq) s.heap.size = A at hD ⊢
  have hA : ∀ q : Nat, s.heap.size ≤ q → A q := fun q h => by rw [← hAe]; exact Or.inr h
  have hS : va_S A s.heap s.heap [] := va_S.rf
  have hG : GM [] tg σ I ri I ri rq := ⟨hG0, fun _ _ _ => rfl, fun _ _ _ _ _ => rfl, fun _ _ _ _ _ _ => rfl⟩
  have hl := lv_entry ([.ref this, .int a0, .int 12]) (n := 3) (Nat.le_of_ble_eq_true rfl)
  rw [lg_entry_eq]
  generalize (lg_sl ([.ref this, .int a0, .int 12]) ++ List.replicate (3 - (lg_sl ([.ref this, .int a0, .int 12])).length) Slot.unset).toArray = ls at hl ⊢
  have hl : lv_has ls 3 [(0, .ref this), (1, .int a0), (2, .int 12)] := hl
  refine q_gen (fun Q hQ => ?_)
  have go : ∀ (H : Heap) (locs : List Loc) (ls : Array Slot), va_P D vwCl (pq_P t σ (I, J, ri, rj, rq)) H → va_D A (pq_P t σ (I, J, ri, rj, rq)) → va_S A s.heap H locs → lv_has ls 3 [(0, .ref this), (1, .int a0), (2, .int 12)] → W p l e ({ frames := 0, cells := 0, slots := 0, locals := 0 } : Room) s m (List.toArray ([.ref this, .int a0, .int 12] : List Value)) below meth c H locs 0 0 Q (F0 m 0 ls []) := by
    intro H locs ls hP hD hS hl
    have hO_this : this = vo σ 12 this := rfl
    have hVT : VT 12 σ tg this := vt_12 hSH hL_this hK_this
    have hFr : FR 12 tg σ this (I, J, ri, rj, rq) (I, J, ri, rj, rq) := fr_rf
    obtain ⟨F, hF0⟩ : ∃ F, F = g_X12_cellAt_c12 a0 (vI 12 σ this I) (vJ 12 σ this J) (vR 12 σ this ri) (vL 12 σ this rj) (vQ 12 σ this rq) := ⟨_, rfl⟩
    have hF := hF0.trans g_X12_cellAt_c12_e
    refine lv_aload_n hx hb dX12_cellAt_0 rfl (lv_at hl 0 rfl) ?_
    obtain ⟨w_1, hR_w_1, hL_w_1, hK_w_1, hN_w_1, hT_w_1⟩ := sh_a hSH 384 (ci := 12) (kd := 13) (len := 12720) rfl (by decide +kernel) hL_this hK_this
    have hO_w_1 : w_1 = vrow σ 384 this := vo_k (c := 12) hO_this hR_w_1
    refine pg_f (v := .ref w_1) (C := RX12) (T := TX12) (N := 31) hx hb hts (tw_i inlX12) hown hK hP hL_this hK_this (by decide +kernel) rfl 0 (by decide +kernel) (hts _ (tw_c tw_176)) (pq_hv rfl hR_w_1) dX12_cellAt_1 ?_
    refine lv_bipush (v := 100) hx hb dX12_cellAt_4 (by decide +kernel) ?_
    refine lv_bipush (v := 16) hx hb dX12_cellAt_6 (by decide +kernel) ?_
    refine lv_iload_n hx hb dX12_cellAt_8 rfl (lv_at hl 1 rfl) ?_
    refine lv_imul hx hb dX12_cellAt_9 ?_
    refine lv_topi (fun x_2 ex_2 => ?_)
    replace hF := hF.trans (ap_n ex_2)
    have h_3 : rg x_2 0 624 := rg_of_eq ex_2 (rg_mul (rg_k (16 : Int32) 16 rfl) h_a0 (by decide +kernel))
    have uh_3 := h_3.1
    have vh_3 := h_3.2
    have tx_2 : (x_2).toInt = 16 * (a0).toInt := by rw [ex_2]; exact i_mul_rg (a2 := 16) (b2 := (a0).toInt) rfl rfl (rg_k (16 : Int32) 16 rfl) h_a0 (by decide +kernel)
    refine lv_iadd hx hb dX12_cellAt_10 ?_
    refine lv_topi (fun x_4 ex_4 => ?_)
    replace hF := hF.trans (ap_n ex_4)
    have h_5 : rg x_4 100 724 := rg_of_eq ex_4 (rg_add (rg_k (100 : Int32) 100 rfl) h_3 (by decide +kernel))
    have uh_5 := h_5.1
    have vh_5 := h_5.2
    have tx_4 : (x_4).toInt = 100 + (x_2).toInt := by rw [ex_4]; exact i_add_rg (a2 := 100) (b2 := (x_2).toInt) rfl rfl (rg_k (100 : Int32) 100 rfl) h_3 (by decide +kernel)
    refine lv_iload_n hx hb dX12_cellAt_11 rfl (lv_at hl 2 rfl) ?_
    refine lv_iadd hx hb dX12_cellAt_12 ?_
    refine lv_topi (fun x_6 ex_6 => ?_)
    replace hF := hF.trans (ap_n ex_6)
    have h_7 : rg x_6 112 736 := rg_of_eq ex_6 (rg_add h_5 (rg_k (12 : Int32) 12 rfl) (by decide +kernel))
    have uh_7 := h_7.1
    have vh_7 := h_7.2
    have tx_6 : (x_6).toInt = (x_4).toInt + 12 := by rw [ex_6]; exact i_add_rg (a2 := (x_4).toInt) (b2 := 12) rfl rfl h_5 (rg_k (12 : Int32) 12 rfl) (by decide +kernel)
    refine pl_i hx hb hK hP hL_w_1 hK_w_1 hN_w_1 (rg_in h_7 (by decide +kernel)) dX12_cellAt_13 ?_
    refine lv_topi (fun x_8 ex_8 => ?_)
    replace hF := hF.trans (ap_n (vR_r hO_w_1 (by decide +kernel) ex_8))
    subst hQ
    exact W.iret (v := x_8) hx hb hr (fun t1 ht hW => ⟨⟨x_8, (σ, I, J, ri, rj, rq), rfl, ⟨rfl, (hF0.symm.trans hF)⟩, by rw [ht]; exact hP, va_K.moved hW.alike hK, hD⟩, hS.F ht⟩) hS.2.2 dX12_cellAt_14
  exact go _ _ _ hP hD hS hl

set_option maxRecDepth 100000 in
def g_X12_cellAt_c11 (a0 : Int32) (I : Nat → Int32) (J : Nat → Int64) (ri : Nat → Nat → Int32) (rj : Nat → Nat → Int64) (rq : Nat → Nat → Option Nat) : Int32 × vM := (ap1 ((16 : Int32) * a0) fun (x_2 : Int32) => (ap1 ((100 : Int32) + x_2) fun (x_4 : Int32) => (ap1 (x_4 + (11 : Int32)) fun (x_6 : Int32) => (ap1 (ri 384 (x_6).toNatClampNeg) fun (x_8 : Int32) => (x_8, I, J, ri, rj, rq)))))
set_option maxRecDepth 100000 in
theorem g_X12_cellAt_c11_e {a0 : Int32} {I : Nat → Int32} {J : Nat → Int64} {ri : Nat → Nat → Int32} {rj : Nat → Nat → Int64} {rq : Nat → Nat → Option Nat} : g_X12_cellAt_c11 a0 I J ri rj rq = (ap1 ((16 : Int32) * a0) fun (x_2 : Int32) => (ap1 ((100 : Int32) + x_2) fun (x_4 : Int32) => (ap1 (x_4 + (11 : Int32)) fun (x_6 : Int32) => (ap1 (ri 384 (x_6).toNatClampNeg) fun (x_8 : Int32) => (x_8, I, J, ri, rj, rq))))) := rfl
set_option maxHeartbeats 4000000 in
set_option maxRecDepth 100000 in
theorem s_X12_cellAt_c11 (l : Launch) (D : va_G) (t : pq_T) (σ : pq_S) (I : Nat → Nat → Int32) (J : Nat → Nat → Int64) (ri : Nat → Nat → Int32) (rj : Nat → Nat → Int64) (rq : Nat → Nat → Option Nat) (sz : Nat) (tg : Nat → Nat) (hSH : SH σ tg) (hG0 : GT tg I ri) (this : Nat) (a0 : Int32) (hL_this : this ∈ σ.1) (hK_this : σ.2.1 this = 12) (h_a0 : rg a0 0 39) : MetI l yX12_cellAt (wa yX12_cellAt cX12_cellAt 3 (some .int)) ({ frames := 0, cells := 0, slots := 0, locals := 0 }) [.ref this, .int a0, .int 11] D t σ (I, J, ri, rj, rq) sz 0 0 (fun (r : Int32) (u : pq_S × pq_M) => u = (σ, I, J, ri, rj, rq) ∧ g_X12_cellAt_c11 a0 (vI 12 σ this I) (vJ 12 σ this J) (vR 12 σ this ri) (vL 12 σ this rj) (vQ 12 σ this rq) = (r, (vI 12 σ this I), (vJ 12 σ this J), (vR 12 σ this ri), (vL 12 σ this rj), (vQ 12 σ this rq))) := by
  refine Met.ofW (cc := cX12_cellAt) (maxL := 3) (ret := (some .int)) (by decide +kernel) rfl ?_
  intro p e s m args below meth c s₁ B hml hv
  obtain ⟨rfl, hsz, hP, hK, hD0, hN⟩ := hv
  have hx := B.exec
  have hb := B.bytes
  have hr := B.returns
  have hts := atoms_spec (ws := (wa yX12_cellAt cX12_cellAt 3 (some .int))) B.pre
  have hown : s.vm.findClass RX12 = some m.cls := findClass_of_methodNamed B.named
  have hlocks := B.notSynchronized
  subst hsz
  have hD : va_D (pq_B t σ (I, J, ri, rj, rq) s.heap.size) (pq_P t σ (I, J, ri, rj, rq)) := hD0.self
  generalize hAe : pq_B t σ (I, J, ri, rj, rq) s.heap.size = A at hD ⊢
  have hA : ∀ q : Nat, s.heap.size ≤ q → A q := fun q h => by rw [← hAe]; exact Or.inr h
  have hS : va_S A s.heap s.heap [] := va_S.rf
  have hG : GM [] tg σ I ri I ri rq := ⟨hG0, fun _ _ _ => rfl, fun _ _ _ _ _ => rfl, fun _ _ _ _ _ _ => rfl⟩
  have hl := lv_entry ([.ref this, .int a0, .int 11]) (n := 3) (Nat.le_of_ble_eq_true rfl)
  rw [lg_entry_eq]
  generalize (lg_sl ([.ref this, .int a0, .int 11]) ++ List.replicate (3 - (lg_sl ([.ref this, .int a0, .int 11])).length) Slot.unset).toArray = ls at hl ⊢
  have hl : lv_has ls 3 [(0, .ref this), (1, .int a0), (2, .int 11)] := hl
  refine q_gen (fun Q hQ => ?_)
  have go : ∀ (H : Heap) (locs : List Loc) (ls : Array Slot), va_P D vwCl (pq_P t σ (I, J, ri, rj, rq)) H → va_D A (pq_P t σ (I, J, ri, rj, rq)) → va_S A s.heap H locs → lv_has ls 3 [(0, .ref this), (1, .int a0), (2, .int 11)] → W p l e ({ frames := 0, cells := 0, slots := 0, locals := 0 } : Room) s m (List.toArray ([.ref this, .int a0, .int 11] : List Value)) below meth c H locs 0 0 Q (F0 m 0 ls []) := by
    intro H locs ls hP hD hS hl
    have hO_this : this = vo σ 12 this := rfl
    have hVT : VT 12 σ tg this := vt_12 hSH hL_this hK_this
    have hFr : FR 12 tg σ this (I, J, ri, rj, rq) (I, J, ri, rj, rq) := fr_rf
    obtain ⟨F, hF0⟩ : ∃ F, F = g_X12_cellAt_c11 a0 (vI 12 σ this I) (vJ 12 σ this J) (vR 12 σ this ri) (vL 12 σ this rj) (vQ 12 σ this rq) := ⟨_, rfl⟩
    have hF := hF0.trans g_X12_cellAt_c11_e
    refine lv_aload_n hx hb dX12_cellAt_0 rfl (lv_at hl 0 rfl) ?_
    obtain ⟨w_1, hR_w_1, hL_w_1, hK_w_1, hN_w_1, hT_w_1⟩ := sh_a hSH 384 (ci := 12) (kd := 13) (len := 12720) rfl (by decide +kernel) hL_this hK_this
    have hO_w_1 : w_1 = vrow σ 384 this := vo_k (c := 12) hO_this hR_w_1
    refine pg_f (v := .ref w_1) (C := RX12) (T := TX12) (N := 31) hx hb hts (tw_i inlX12) hown hK hP hL_this hK_this (by decide +kernel) rfl 0 (by decide +kernel) (hts _ (tw_c tw_176)) (pq_hv rfl hR_w_1) dX12_cellAt_1 ?_
    refine lv_bipush (v := 100) hx hb dX12_cellAt_4 (by decide +kernel) ?_
    refine lv_bipush (v := 16) hx hb dX12_cellAt_6 (by decide +kernel) ?_
    refine lv_iload_n hx hb dX12_cellAt_8 rfl (lv_at hl 1 rfl) ?_
    refine lv_imul hx hb dX12_cellAt_9 ?_
    refine lv_topi (fun x_2 ex_2 => ?_)
    replace hF := hF.trans (ap_n ex_2)
    have h_3 : rg x_2 0 624 := rg_of_eq ex_2 (rg_mul (rg_k (16 : Int32) 16 rfl) h_a0 (by decide +kernel))
    have uh_3 := h_3.1
    have vh_3 := h_3.2
    have tx_2 : (x_2).toInt = 16 * (a0).toInt := by rw [ex_2]; exact i_mul_rg (a2 := 16) (b2 := (a0).toInt) rfl rfl (rg_k (16 : Int32) 16 rfl) h_a0 (by decide +kernel)
    refine lv_iadd hx hb dX12_cellAt_10 ?_
    refine lv_topi (fun x_4 ex_4 => ?_)
    replace hF := hF.trans (ap_n ex_4)
    have h_5 : rg x_4 100 724 := rg_of_eq ex_4 (rg_add (rg_k (100 : Int32) 100 rfl) h_3 (by decide +kernel))
    have uh_5 := h_5.1
    have vh_5 := h_5.2
    have tx_4 : (x_4).toInt = 100 + (x_2).toInt := by rw [ex_4]; exact i_add_rg (a2 := 100) (b2 := (x_2).toInt) rfl rfl (rg_k (100 : Int32) 100 rfl) h_3 (by decide +kernel)
    refine lv_iload_n hx hb dX12_cellAt_11 rfl (lv_at hl 2 rfl) ?_
    refine lv_iadd hx hb dX12_cellAt_12 ?_
    refine lv_topi (fun x_6 ex_6 => ?_)
    replace hF := hF.trans (ap_n ex_6)
    have h_7 : rg x_6 111 735 := rg_of_eq ex_6 (rg_add h_5 (rg_k (11 : Int32) 11 rfl) (by decide +kernel))
    have uh_7 := h_7.1
    have vh_7 := h_7.2
    have tx_6 : (x_6).toInt = (x_4).toInt + 11 := by rw [ex_6]; exact i_add_rg (a2 := (x_4).toInt) (b2 := 11) rfl rfl h_5 (rg_k (11 : Int32) 11 rfl) (by decide +kernel)
    refine pl_i hx hb hK hP hL_w_1 hK_w_1 hN_w_1 (rg_in h_7 (by decide +kernel)) dX12_cellAt_13 ?_
    refine lv_topi (fun x_8 ex_8 => ?_)
    replace hF := hF.trans (ap_n (vR_r hO_w_1 (by decide +kernel) ex_8))
    subst hQ
    exact W.iret (v := x_8) hx hb hr (fun t1 ht hW => ⟨⟨x_8, (σ, I, J, ri, rj, rq), rfl, ⟨rfl, (hF0.symm.trans hF)⟩, by rw [ht]; exact hP, va_K.moved hW.alike hK, hD⟩, hS.F ht⟩) hS.2.2 dX12_cellAt_14
  exact go _ _ _ hP hD hS hl

set_option maxRecDepth 100000 in
def g_X12_isAsked (a0 : Int32) (a1 : Int64) (a2 : Int64) : Int32 := (if a0 = (10 : Int32) then (ap1 (lg_cmp a1 a2) fun (x_82 : Int32) => (if (0 : Int32) ≤ x_82 then (0 : Int32) else (1 : Int32))) else (if a0 = (11 : Int32) then (ap1 (lg_cmp a1 a2) fun (x_70 : Int32) => (if (0 : Int32) < x_70 then (0 : Int32) else (1 : Int32))) else (if a0 = (12 : Int32) then (ap1 (lg_cmp a1 a2) fun (x_58 : Int32) => (if x_58 ≤ (0 : Int32) then (0 : Int32) else (1 : Int32))) else (if a0 = (13 : Int32) then (ap1 (lg_cmp a1 a2) fun (x_46 : Int32) => (if x_46 < (0 : Int32) then (0 : Int32) else (1 : Int32))) else (if a0 = (14 : Int32) then (ap1 (lg_cmp a1 a2) fun (x_36 : Int32) => (if x_36 = (0 : Int32) then (1 : Int32) else (0 : Int32))) else (ap1 (lg_cmp a1 a2) fun (x_26 : Int32) => (if x_26 = (0 : Int32) then (0 : Int32) else (1 : Int32))))))))
set_option maxRecDepth 100000 in
theorem g_X12_isAsked_e {a0 : Int32} {a1 : Int64} {a2 : Int64} : g_X12_isAsked a0 a1 a2 = (if a0 = (10 : Int32) then (ap1 (lg_cmp a1 a2) fun (x_82 : Int32) => (if (0 : Int32) ≤ x_82 then (0 : Int32) else (1 : Int32))) else (if a0 = (11 : Int32) then (ap1 (lg_cmp a1 a2) fun (x_70 : Int32) => (if (0 : Int32) < x_70 then (0 : Int32) else (1 : Int32))) else (if a0 = (12 : Int32) then (ap1 (lg_cmp a1 a2) fun (x_58 : Int32) => (if x_58 ≤ (0 : Int32) then (0 : Int32) else (1 : Int32))) else (if a0 = (13 : Int32) then (ap1 (lg_cmp a1 a2) fun (x_46 : Int32) => (if x_46 < (0 : Int32) then (0 : Int32) else (1 : Int32))) else (if a0 = (14 : Int32) then (ap1 (lg_cmp a1 a2) fun (x_36 : Int32) => (if x_36 = (0 : Int32) then (1 : Int32) else (0 : Int32))) else (ap1 (lg_cmp a1 a2) fun (x_26 : Int32) => (if x_26 = (0 : Int32) then (0 : Int32) else (1 : Int32)))))))) := rfl
set_option maxHeartbeats 4000000 in
set_option maxRecDepth 100000 in
theorem s_X12_isAsked (l : Launch) (D : va_G) (t : pq_T) (σ : pq_S) (I : Nat → Nat → Int32) (J : Nat → Nat → Int64) (ri : Nat → Nat → Int32) (rj : Nat → Nat → Int64) (rq : Nat → Nat → Option Nat) (sz : Nat) (tg : Nat → Nat) (hSH : SH σ tg) (hG0 : GT tg I ri) (a0 : Int32) (a1 : Int64) (a2 : Int64) : MetI l yX12_isAsked (wa yX12_isAsked cX12_isAsked 5 (some .boolean)) ({ frames := 0, cells := 0, slots := 0, locals := 0 }) [.int a0, .long a1, .long a2] D t σ (I, J, ri, rj, rq) sz 0 0 (fun (r : Int32) (u : pq_S × pq_M) => u = (σ, I, J, ri, rj, rq) ∧ g_X12_isAsked a0 a1 a2 = r ∧ ((r = 1 ∧ True) ∨ (r = 0 ∧ True))) := by
  refine Met.ofW (cc := cX12_isAsked) (maxL := 5) (ret := (some .boolean)) (by decide +kernel) rfl ?_
  intro p e s m args below meth c s₁ B hml hv
  obtain ⟨rfl, hsz, hP, hK, hD0, hN⟩ := hv
  have hx := B.exec
  have hb := B.bytes
  have hr := B.returns
  have hts := atoms_spec (ws := (wa yX12_isAsked cX12_isAsked 5 (some .boolean))) B.pre
  have hown : s.vm.findClass RX12 = some m.cls := findClass_of_methodNamed B.named
  have hlocks := B.notSynchronized
  subst hsz
  have hD : va_D (pq_B t σ (I, J, ri, rj, rq) s.heap.size) (pq_P t σ (I, J, ri, rj, rq)) := hD0.self
  generalize hAe : pq_B t σ (I, J, ri, rj, rq) s.heap.size = A at hD ⊢
  have hA : ∀ q : Nat, s.heap.size ≤ q → A q := fun q h => by rw [← hAe]; exact Or.inr h
  have hS : va_S A s.heap s.heap [] := va_S.rf
  have hG : GM [] tg σ I ri I ri rq := ⟨hG0, fun _ _ _ => rfl, fun _ _ _ _ _ => rfl, fun _ _ _ _ _ _ => rfl⟩
  have hl := lv_entry ([.int a0, .long a1, .long a2]) (n := 5) (Nat.le_of_ble_eq_true rfl)
  rw [lg_entry_eq]
  generalize (lg_sl ([.int a0, .long a1, .long a2]) ++ List.replicate (5 - (lg_sl ([.int a0, .long a1, .long a2])).length) Slot.unset).toArray = ls at hl ⊢
  have hl : lv_has ls 5 [(0, .int a0), (1, .long a1), (3, .long a2)] := hl
  refine q_gen (fun Q hQ => ?_)
  have go : ∀ (H : Heap) (locs : List Loc) (ls : Array Slot), va_P D vwCl (pq_P t σ (I, J, ri, rj, rq)) H → va_D A (pq_P t σ (I, J, ri, rj, rq)) → va_S A s.heap H locs → lv_has ls 5 [(0, .int a0), (1, .long a1), (3, .long a2)] → W p l e ({ frames := 0, cells := 0, slots := 0, locals := 0 } : Room) s m (List.toArray ([.int a0, .long a1, .long a2] : List Value)) below meth c H locs 0 0 Q (F0 m 0 ls []) := by
    intro H locs ls hP hD hS hl
    obtain ⟨F, hF0⟩ : ∃ F, F = g_X12_isAsked a0 a1 a2 := ⟨_, rfl⟩
    have hF := hF0.trans g_X12_isAsked_e
    refine lv_iload_n hx hb dX12_isAsked_0 rfl (lv_at hl 0 rfl) ?_
    refine lv_bipush (v := 10) hx hb dX12_isAsked_1 (by decide +kernel) ?_
    refine lv_icmp_ne (tgt := 20) hx hb dX12_isAsked_3 (by decide +kernel) (fun c_1 => ?_) (fun c_1 => ?_)
    · replace hF := hF.trans (if_neg c_1)
      have tc_5 : (a0).toInt ≠ 10 := fun q => c_1 (Int32.toInt_inj.mp q)
      refine lv_iload_n hx hb dX12_isAsked_20 rfl (lv_at hl 0 rfl) ?_
      refine lv_bipush (v := 11) hx hb dX12_isAsked_21 (by decide +kernel) ?_
      refine lv_icmp_ne (tgt := 40) hx hb dX12_isAsked_23 (by decide +kernel) (fun c_6 => ?_) (fun c_6 => ?_)
      · replace hF := hF.trans (if_neg c_6)
        have tc_10 : (a0).toInt ≠ 11 := fun q => c_6 (Int32.toInt_inj.mp q)
        refine lv_iload_n hx hb dX12_isAsked_40 rfl (lv_at hl 0 rfl) ?_
        refine lv_bipush (v := 12) hx hb dX12_isAsked_41 (by decide +kernel) ?_
        refine lv_icmp_ne (tgt := 60) hx hb dX12_isAsked_43 (by decide +kernel) (fun c_11 => ?_) (fun c_11 => ?_)
        · replace hF := hF.trans (if_neg c_11)
          have tc_15 : (a0).toInt ≠ 12 := fun q => c_11 (Int32.toInt_inj.mp q)
          refine lv_iload_n hx hb dX12_isAsked_60 rfl (lv_at hl 0 rfl) ?_
          refine lv_bipush (v := 13) hx hb dX12_isAsked_61 (by decide +kernel) ?_
          refine lv_icmp_ne (tgt := 80) hx hb dX12_isAsked_63 (by decide +kernel) (fun c_16 => ?_) (fun c_16 => ?_)
          · replace hF := hF.trans (if_neg c_16)
            have tc_20 : (a0).toInt ≠ 13 := fun q => c_16 (Int32.toInt_inj.mp q)
            refine lv_iload_n hx hb dX12_isAsked_80 rfl (lv_at hl 0 rfl) ?_
            refine lv_bipush (v := 14) hx hb dX12_isAsked_81 (by decide +kernel) ?_
            refine lv_icmp_ne (tgt := 100) hx hb dX12_isAsked_83 (by decide +kernel) (fun c_21 => ?_) (fun c_21 => ?_)
            · replace hF := hF.trans (if_neg c_21)
              have tc_25 : (a0).toInt ≠ 14 := fun q => c_21 (Int32.toInt_inj.mp q)
              refine lv_lload_n hx hb dX12_isAsked_100 rfl (lv_at hl 1 rfl) ?_
              refine lv_lload_n hx hb dX12_isAsked_101 rfl (lv_at hl 2 rfl) ?_
              refine W.lcmp hx hb dX12_isAsked_102 ?_
              refine lv_topi (fun x_26 ex_26 => ?_)
              replace hF := hF.trans (ap_n ex_26)
              refine lv_if_eq (tgt := 110) hx hb dX12_isAsked_103 (by decide +kernel) (fun c_27 => ?_) (fun c_27 => ?_)
              · replace hF := hF.trans (if_pos c_27)
                have tc_31 : (x_26).toInt = 0 := congrArg Int32.toInt c_27
                have h_32 : rg x_26 0 0 := rg_and (rg_full _) (rg_of_eq c_27 (rg_k (0 : Int32) 0 rfl)) (by decide +kernel)
                have uh_32 := h_32.1
                have vh_32 := h_32.2
                refine lv_iconst (v := 0) hx hb dX12_isAsked_110 (by decide +kernel) ?_
                subst hQ
                exact W.zret (v := 0) hx hb hr (by decide +kernel) (fun t1 ht hW => ⟨⟨0, (σ, I, J, ri, rj, rq), rfl, ⟨rfl, (hF0.symm.trans hF), (Or.inr ⟨rfl, trivial⟩)⟩, by rw [ht]; exact hP, va_K.moved hW.alike hK, hD⟩, hS.F ht⟩) hS.2.2 dX12_isAsked_111
              · replace hF := hF.trans (if_neg c_27)
                have tc_33 : (x_26).toInt ≠ 0 := fun q => c_27 (Int32.toInt_inj.mp q)
                refine lv_iconst (v := 1) hx hb dX12_isAsked_106 (by decide +kernel) ?_
                refine lv_goto (tgt := 111) hx hb dX12_isAsked_107 (by decide +kernel) ?_
                subst hQ
                exact W.zret (v := 1) hx hb hr (by decide +kernel) (fun t1 ht hW => ⟨⟨1, (σ, I, J, ri, rj, rq), rfl, ⟨rfl, (hF0.symm.trans hF), (Or.inl ⟨rfl, trivial⟩)⟩, by rw [ht]; exact hP, va_K.moved hW.alike hK, hD⟩, hS.F ht⟩) hS.2.2 dX12_isAsked_111
            · replace hF := hF.trans (if_pos c_21)
              have tc_34 : (a0).toInt = 14 := congrArg Int32.toInt c_21
              have h_35 : rg a0 14 14 := rg_and (rg_full _) (rg_of_eq c_21 (rg_k (14 : Int32) 14 rfl)) (by decide +kernel)
              have uh_35 := h_35.1
              have vh_35 := h_35.2
              refine lv_lload_n hx hb dX12_isAsked_86 rfl (lv_at hl 1 rfl) ?_
              refine lv_lload_n hx hb dX12_isAsked_87 rfl (lv_at hl 2 rfl) ?_
              refine W.lcmp hx hb dX12_isAsked_88 ?_
              refine lv_topi (fun x_36 ex_36 => ?_)
              replace hF := hF.trans (ap_n ex_36)
              refine lv_if_ne (tgt := 96) hx hb dX12_isAsked_89 (by decide +kernel) (fun c_37 => ?_) (fun c_37 => ?_)
              · replace hF := hF.trans (if_neg c_37)
                have tc_41 : (x_36).toInt ≠ 0 := fun q => c_37 (Int32.toInt_inj.mp q)
                refine lv_iconst (v := 0) hx hb dX12_isAsked_96 (by decide +kernel) ?_
                refine lv_goto (tgt := 111) hx hb dX12_isAsked_97 (by decide +kernel) ?_
                subst hQ
                exact W.zret (v := 0) hx hb hr (by decide +kernel) (fun t1 ht hW => ⟨⟨0, (σ, I, J, ri, rj, rq), rfl, ⟨rfl, (hF0.symm.trans hF), (Or.inr ⟨rfl, trivial⟩)⟩, by rw [ht]; exact hP, va_K.moved hW.alike hK, hD⟩, hS.F ht⟩) hS.2.2 dX12_isAsked_111
              · replace hF := hF.trans (if_pos c_37)
                have tc_42 : (x_36).toInt = 0 := congrArg Int32.toInt c_37
                have h_43 : rg x_36 0 0 := rg_and (rg_full _) (rg_of_eq c_37 (rg_k (0 : Int32) 0 rfl)) (by decide +kernel)
                have uh_43 := h_43.1
                have vh_43 := h_43.2
                refine lv_iconst (v := 1) hx hb dX12_isAsked_92 (by decide +kernel) ?_
                refine lv_goto (tgt := 111) hx hb dX12_isAsked_93 (by decide +kernel) ?_
                subst hQ
                exact W.zret (v := 1) hx hb hr (by decide +kernel) (fun t1 ht hW => ⟨⟨1, (σ, I, J, ri, rj, rq), rfl, ⟨rfl, (hF0.symm.trans hF), (Or.inl ⟨rfl, trivial⟩)⟩, by rw [ht]; exact hP, va_K.moved hW.alike hK, hD⟩, hS.F ht⟩) hS.2.2 dX12_isAsked_111
          · replace hF := hF.trans (if_pos c_16)
            have tc_44 : (a0).toInt = 13 := congrArg Int32.toInt c_16
            have h_45 : rg a0 13 13 := rg_and (rg_full _) (rg_of_eq c_16 (rg_k (13 : Int32) 13 rfl)) (by decide +kernel)
            have uh_45 := h_45.1
            have vh_45 := h_45.2
            refine lv_lload_n hx hb dX12_isAsked_66 rfl (lv_at hl 1 rfl) ?_
            refine lv_lload_n hx hb dX12_isAsked_67 rfl (lv_at hl 2 rfl) ?_
            refine W.lcmp hx hb dX12_isAsked_68 ?_
            refine lv_topi (fun x_46 ex_46 => ?_)
            replace hF := hF.trans (ap_n ex_46)
            refine lv_if_lt (tgt := 76) hx hb dX12_isAsked_69 (by decide +kernel) (fun c_47 => ?_) (fun c_47 => ?_)
            · replace hF := hF.trans (if_pos c_47)
              have tc_52 : (x_46).toInt < 0 := Int32.lt_iff_toInt_lt.mp c_47
              have h_53 : rg x_46 (-2147483648) (-1) := rg_lt1 c_47 (rg_full _) (rg_k (0 : Int32) 0 rfl) (by decide +kernel)
              have uh_53 := h_53.1
              have vh_53 := h_53.2
              refine lv_iconst (v := 0) hx hb dX12_isAsked_76 (by decide +kernel) ?_
              refine lv_goto (tgt := 111) hx hb dX12_isAsked_77 (by decide +kernel) ?_
              subst hQ
              exact W.zret (v := 0) hx hb hr (by decide +kernel) (fun t1 ht hW => ⟨⟨0, (σ, I, J, ri, rj, rq), rfl, ⟨rfl, (hF0.symm.trans hF), (Or.inr ⟨rfl, trivial⟩)⟩, by rw [ht]; exact hP, va_K.moved hW.alike hK, hD⟩, hS.F ht⟩) hS.2.2 dX12_isAsked_111
            · replace hF := hF.trans (if_neg c_47)
              have tc_54 : 0 ≤ (x_46).toInt := Int32.le_iff_toInt_le.mp (nlt c_47)
              have h_55 : rg x_46 0 2147483647 := rg_le2 (nlt c_47) (rg_k (0 : Int32) 0 rfl) (rg_full _) (by decide +kernel)
              have uh_55 := h_55.1
              have vh_55 := h_55.2
              refine lv_iconst (v := 1) hx hb dX12_isAsked_72 (by decide +kernel) ?_
              refine lv_goto (tgt := 111) hx hb dX12_isAsked_73 (by decide +kernel) ?_
              subst hQ
              exact W.zret (v := 1) hx hb hr (by decide +kernel) (fun t1 ht hW => ⟨⟨1, (σ, I, J, ri, rj, rq), rfl, ⟨rfl, (hF0.symm.trans hF), (Or.inl ⟨rfl, trivial⟩)⟩, by rw [ht]; exact hP, va_K.moved hW.alike hK, hD⟩, hS.F ht⟩) hS.2.2 dX12_isAsked_111
        · replace hF := hF.trans (if_pos c_11)
          have tc_56 : (a0).toInt = 12 := congrArg Int32.toInt c_11
          have h_57 : rg a0 12 12 := rg_and (rg_full _) (rg_of_eq c_11 (rg_k (12 : Int32) 12 rfl)) (by decide +kernel)
          have uh_57 := h_57.1
          have vh_57 := h_57.2
          refine lv_lload_n hx hb dX12_isAsked_46 rfl (lv_at hl 1 rfl) ?_
          refine lv_lload_n hx hb dX12_isAsked_47 rfl (lv_at hl 2 rfl) ?_
          refine W.lcmp hx hb dX12_isAsked_48 ?_
          refine lv_topi (fun x_58 ex_58 => ?_)
          replace hF := hF.trans (ap_n ex_58)
          refine lv_if_le (tgt := 56) hx hb dX12_isAsked_49 (by decide +kernel) (fun c_59 => ?_) (fun c_59 => ?_)
          · replace hF := hF.trans (if_pos c_59)
            have tc_64 : (x_58).toInt ≤ 0 := Int32.le_iff_toInt_le.mp c_59
            have h_65 : rg x_58 (-2147483648) 0 := rg_le1 c_59 (rg_full _) (rg_k (0 : Int32) 0 rfl) (by decide +kernel)
            have uh_65 := h_65.1
            have vh_65 := h_65.2
            refine lv_iconst (v := 0) hx hb dX12_isAsked_56 (by decide +kernel) ?_
            refine lv_goto (tgt := 111) hx hb dX12_isAsked_57 (by decide +kernel) ?_
            subst hQ
            exact W.zret (v := 0) hx hb hr (by decide +kernel) (fun t1 ht hW => ⟨⟨0, (σ, I, J, ri, rj, rq), rfl, ⟨rfl, (hF0.symm.trans hF), (Or.inr ⟨rfl, trivial⟩)⟩, by rw [ht]; exact hP, va_K.moved hW.alike hK, hD⟩, hS.F ht⟩) hS.2.2 dX12_isAsked_111
          · replace hF := hF.trans (if_neg c_59)
            have tc_66 : 0 < (x_58).toInt := Int32.lt_iff_toInt_lt.mp (nle c_59)
            have h_67 : rg x_58 1 2147483647 := rg_lt2 (nle c_59) (rg_k (0 : Int32) 0 rfl) (rg_full _) (by decide +kernel)
            have uh_67 := h_67.1
            have vh_67 := h_67.2
            refine lv_iconst (v := 1) hx hb dX12_isAsked_52 (by decide +kernel) ?_
            refine lv_goto (tgt := 111) hx hb dX12_isAsked_53 (by decide +kernel) ?_
            subst hQ
            exact W.zret (v := 1) hx hb hr (by decide +kernel) (fun t1 ht hW => ⟨⟨1, (σ, I, J, ri, rj, rq), rfl, ⟨rfl, (hF0.symm.trans hF), (Or.inl ⟨rfl, trivial⟩)⟩, by rw [ht]; exact hP, va_K.moved hW.alike hK, hD⟩, hS.F ht⟩) hS.2.2 dX12_isAsked_111
      · replace hF := hF.trans (if_pos c_6)
        have tc_68 : (a0).toInt = 11 := congrArg Int32.toInt c_6
        have h_69 : rg a0 11 11 := rg_and (rg_full _) (rg_of_eq c_6 (rg_k (11 : Int32) 11 rfl)) (by decide +kernel)
        have uh_69 := h_69.1
        have vh_69 := h_69.2
        refine lv_lload_n hx hb dX12_isAsked_26 rfl (lv_at hl 1 rfl) ?_
        refine lv_lload_n hx hb dX12_isAsked_27 rfl (lv_at hl 2 rfl) ?_
        refine W.lcmp hx hb dX12_isAsked_28 ?_
        refine lv_topi (fun x_70 ex_70 => ?_)
        replace hF := hF.trans (ap_n ex_70)
        refine lv_if_gt (tgt := 36) hx hb dX12_isAsked_29 (by decide +kernel) (fun c_71 => ?_) (fun c_71 => ?_)
        · replace hF := hF.trans (if_pos c_71)
          have tc_76 : 0 < (x_70).toInt := Int32.lt_iff_toInt_lt.mp c_71
          have h_77 : rg x_70 1 2147483647 := rg_lt2 c_71 (rg_k (0 : Int32) 0 rfl) (rg_full _) (by decide +kernel)
          have uh_77 := h_77.1
          have vh_77 := h_77.2
          refine lv_iconst (v := 0) hx hb dX12_isAsked_36 (by decide +kernel) ?_
          refine lv_goto (tgt := 111) hx hb dX12_isAsked_37 (by decide +kernel) ?_
          subst hQ
          exact W.zret (v := 0) hx hb hr (by decide +kernel) (fun t1 ht hW => ⟨⟨0, (σ, I, J, ri, rj, rq), rfl, ⟨rfl, (hF0.symm.trans hF), (Or.inr ⟨rfl, trivial⟩)⟩, by rw [ht]; exact hP, va_K.moved hW.alike hK, hD⟩, hS.F ht⟩) hS.2.2 dX12_isAsked_111
        · replace hF := hF.trans (if_neg c_71)
          have tc_78 : (x_70).toInt ≤ 0 := Int32.le_iff_toInt_le.mp (nlt c_71)
          have h_79 : rg x_70 (-2147483648) 0 := rg_le1 (nlt c_71) (rg_full _) (rg_k (0 : Int32) 0 rfl) (by decide +kernel)
          have uh_79 := h_79.1
          have vh_79 := h_79.2
          refine lv_iconst (v := 1) hx hb dX12_isAsked_32 (by decide +kernel) ?_
          refine lv_goto (tgt := 111) hx hb dX12_isAsked_33 (by decide +kernel) ?_
          subst hQ
          exact W.zret (v := 1) hx hb hr (by decide +kernel) (fun t1 ht hW => ⟨⟨1, (σ, I, J, ri, rj, rq), rfl, ⟨rfl, (hF0.symm.trans hF), (Or.inl ⟨rfl, trivial⟩)⟩, by rw [ht]; exact hP, va_K.moved hW.alike hK, hD⟩, hS.F ht⟩) hS.2.2 dX12_isAsked_111
    · replace hF := hF.trans (if_pos c_1)
      have tc_80 : (a0).toInt = 10 := congrArg Int32.toInt c_1
      have h_81 : rg a0 10 10 := rg_and (rg_full _) (rg_of_eq c_1 (rg_k (10 : Int32) 10 rfl)) (by decide +kernel)
      have uh_81 := h_81.1
      have vh_81 := h_81.2
      refine lv_lload_n hx hb dX12_isAsked_6 rfl (lv_at hl 1 rfl) ?_
      refine lv_lload_n hx hb dX12_isAsked_7 rfl (lv_at hl 2 rfl) ?_
      refine W.lcmp hx hb dX12_isAsked_8 ?_
      refine lv_topi (fun x_82 ex_82 => ?_)
      replace hF := hF.trans (ap_n ex_82)
      refine lv_if_ge (tgt := 16) hx hb dX12_isAsked_9 (by decide +kernel) (fun c_83 => ?_) (fun c_83 => ?_)
      · replace hF := hF.trans (if_pos c_83)
        have tc_88 : 0 ≤ (x_82).toInt := Int32.le_iff_toInt_le.mp c_83
        have h_89 : rg x_82 0 2147483647 := rg_le2 c_83 (rg_k (0 : Int32) 0 rfl) (rg_full _) (by decide +kernel)
        have uh_89 := h_89.1
        have vh_89 := h_89.2
        refine lv_iconst (v := 0) hx hb dX12_isAsked_16 (by decide +kernel) ?_
        refine lv_goto (tgt := 111) hx hb dX12_isAsked_17 (by decide +kernel) ?_
        subst hQ
        exact W.zret (v := 0) hx hb hr (by decide +kernel) (fun t1 ht hW => ⟨⟨0, (σ, I, J, ri, rj, rq), rfl, ⟨rfl, (hF0.symm.trans hF), (Or.inr ⟨rfl, trivial⟩)⟩, by rw [ht]; exact hP, va_K.moved hW.alike hK, hD⟩, hS.F ht⟩) hS.2.2 dX12_isAsked_111
      · replace hF := hF.trans (if_neg c_83)
        have tc_90 : (x_82).toInt < 0 := Int32.lt_iff_toInt_lt.mp (nle c_83)
        have h_91 : rg x_82 (-2147483648) (-1) := rg_lt1 (nle c_83) (rg_full _) (rg_k (0 : Int32) 0 rfl) (by decide +kernel)
        have uh_91 := h_91.1
        have vh_91 := h_91.2
        refine lv_iconst (v := 1) hx hb dX12_isAsked_12 (by decide +kernel) ?_
        refine lv_goto (tgt := 111) hx hb dX12_isAsked_13 (by decide +kernel) ?_
        subst hQ
        exact W.zret (v := 1) hx hb hr (by decide +kernel) (fun t1 ht hW => ⟨⟨1, (σ, I, J, ri, rj, rq), rfl, ⟨rfl, (hF0.symm.trans hF), (Or.inl ⟨rfl, trivial⟩)⟩, by rw [ht]; exact hP, va_K.moved hW.alike hK, hD⟩, hS.F ht⟩) hS.2.2 dX12_isAsked_111
  exact go _ _ _ hP hD hS hl

set_option maxRecDepth 100000 in
def g_X12_clip (a0 : Int64) : Int64 := (ap1 (lg_cmp a0 (1000000000 : Int64)) fun (x_1 : Int32) => (if x_1 ≤ (0 : Int32) then (ap1 (lg_cmp a0 (-1000000000 : Int64)) fun (x_9 : Int32) => (if (0 : Int32) ≤ x_9 then a0 else (-1000000000 : Int64))) else (1000000000 : Int64)))
set_option maxRecDepth 100000 in
theorem g_X12_clip_e {a0 : Int64} : g_X12_clip a0 = (ap1 (lg_cmp a0 (1000000000 : Int64)) fun (x_1 : Int32) => (if x_1 ≤ (0 : Int32) then (ap1 (lg_cmp a0 (-1000000000 : Int64)) fun (x_9 : Int32) => (if (0 : Int32) ≤ x_9 then a0 else (-1000000000 : Int64))) else (1000000000 : Int64))) := rfl
set_option maxHeartbeats 4000000 in
set_option maxRecDepth 100000 in
theorem s_X12_clip (l : Launch) (D : va_G) (t : pq_T) (σ : pq_S) (I : Nat → Nat → Int32) (J : Nat → Nat → Int64) (ri : Nat → Nat → Int32) (rj : Nat → Nat → Int64) (rq : Nat → Nat → Option Nat) (sz : Nat) (tg : Nat → Nat) (hSH : SH σ tg) (hG0 : GT tg I ri) (a0 : Int64) : MetL l yX12_clip (wa yX12_clip cX12_clip 2 (some .long)) ({ frames := 0, cells := 0, slots := 0, locals := 0 }) [.long a0] D t σ (I, J, ri, rj, rq) sz 0 0 (fun (r : Int64) (u : pq_S × pq_M) => u = (σ, I, J, ri, rj, rq) ∧ g_X12_clip a0 = r) := by
  refine Met.ofW (cc := cX12_clip) (maxL := 2) (ret := (some .long)) (by decide +kernel) rfl ?_
  intro p e s m args below meth c s₁ B hml hv
  obtain ⟨rfl, hsz, hP, hK, hD0, hN⟩ := hv
  have hx := B.exec
  have hb := B.bytes
  have hr := B.returns
  have hts := atoms_spec (ws := (wa yX12_clip cX12_clip 2 (some .long))) B.pre
  have hown : s.vm.findClass RX12 = some m.cls := findClass_of_methodNamed B.named
  have hlocks := B.notSynchronized
  subst hsz
  have hD : va_D (pq_B t σ (I, J, ri, rj, rq) s.heap.size) (pq_P t σ (I, J, ri, rj, rq)) := hD0.self
  generalize hAe : pq_B t σ (I, J, ri, rj, rq) s.heap.size = A at hD ⊢
  have hA : ∀ q : Nat, s.heap.size ≤ q → A q := fun q h => by rw [← hAe]; exact Or.inr h
  have hS : va_S A s.heap s.heap [] := va_S.rf
  have hG : GM [] tg σ I ri I ri rq := ⟨hG0, fun _ _ _ => rfl, fun _ _ _ _ _ => rfl, fun _ _ _ _ _ _ => rfl⟩
  have hl := lv_entry ([.long a0]) (n := 2) (Nat.le_of_ble_eq_true rfl)
  rw [lg_entry_eq]
  generalize (lg_sl ([.long a0]) ++ List.replicate (2 - (lg_sl ([.long a0])).length) Slot.unset).toArray = ls at hl ⊢
  have hl : lv_has ls 2 [(0, .long a0)] := hl
  refine q_gen (fun Q hQ => ?_)
  have go : ∀ (H : Heap) (locs : List Loc) (ls : Array Slot), va_P D vwCl (pq_P t σ (I, J, ri, rj, rq)) H → va_D A (pq_P t σ (I, J, ri, rj, rq)) → va_S A s.heap H locs → lv_has ls 2 [(0, .long a0)] → W p l e ({ frames := 0, cells := 0, slots := 0, locals := 0 } : Room) s m (List.toArray ([.long a0] : List Value)) below meth c H locs 0 0 Q (F0 m 0 ls []) := by
    intro H locs ls hP hD hS hl
    obtain ⟨F, hF0⟩ : ∃ F, F = g_X12_clip a0 := ⟨_, rfl⟩
    have hF := hF0.trans g_X12_clip_e
    refine lv_lload_n hx hb dX12_clip_0 rfl (lv_at hl 0 rfl) ?_
    refine lv_ldc2 hx hb hown (hts _ (tw_c tw_611)) dX12_clip_1 ?_
    refine W.lcmp hx hb dX12_clip_4 ?_
    refine lv_topi (fun x_1 ex_1 => ?_)
    replace hF := hF.trans (ap_n ex_1)
    refine lv_if_le (tgt := 14) hx hb dX12_clip_5 (by decide +kernel) (fun c_2 => ?_) (fun c_2 => ?_)
    · replace hF := hF.trans (if_pos c_2)
      have tc_7 : (x_1).toInt ≤ 0 := Int32.le_iff_toInt_le.mp c_2
      have h_8 : rg x_1 (-2147483648) 0 := rg_le1 c_2 (rg_full _) (rg_k (0 : Int32) 0 rfl) (by decide +kernel)
      have uh_8 := h_8.1
      have vh_8 := h_8.2
      refine lv_lload_n hx hb dX12_clip_14 rfl (lv_at hl 0 rfl) ?_
      refine lv_ldc2 hx hb hown (hts _ (tw_c tw_612)) dX12_clip_15 ?_
      refine W.lcmp hx hb dX12_clip_18 ?_
      refine lv_topi (fun x_9 ex_9 => ?_)
      replace hF := hF.trans (ap_n ex_9)
      refine lv_if_ge (tgt := 28) hx hb dX12_clip_19 (by decide +kernel) (fun c_10 => ?_) (fun c_10 => ?_)
      · replace hF := hF.trans (if_pos c_10)
        have tc_15 : 0 ≤ (x_9).toInt := Int32.le_iff_toInt_le.mp c_10
        have h_16 : rg x_9 0 2147483647 := rg_le2 c_10 (rg_k (0 : Int32) 0 rfl) (rg_full _) (by decide +kernel)
        have uh_16 := h_16.1
        have vh_16 := h_16.2
        refine lv_lload_n hx hb dX12_clip_28 rfl (lv_at hl 0 rfl) ?_
        subst hQ
        exact W.lret (v := a0) hx hb hr (fun t1 ht hW => ⟨⟨a0, (σ, I, J, ri, rj, rq), rfl, ⟨rfl, (hF0.symm.trans hF)⟩, by rw [ht]; exact hP, va_K.moved hW.alike hK, hD⟩, hS.F ht⟩) hS.2.2 dX12_clip_29
      · replace hF := hF.trans (if_neg c_10)
        have tc_17 : (x_9).toInt < 0 := Int32.lt_iff_toInt_lt.mp (nle c_10)
        have h_18 : rg x_9 (-2147483648) (-1) := rg_lt1 (nle c_10) (rg_full _) (rg_k (0 : Int32) 0 rfl) (by decide +kernel)
        have uh_18 := h_18.1
        have vh_18 := h_18.2
        refine lv_ldc2 hx hb hown (hts _ (tw_c tw_612)) dX12_clip_22 ?_
        refine lv_goto (tgt := 29) hx hb dX12_clip_25 (by decide +kernel) ?_
        subst hQ
        exact W.lret (v := (-1000000000)) hx hb hr (fun t1 ht hW => ⟨⟨(-1000000000), (σ, I, J, ri, rj, rq), rfl, ⟨rfl, (hF0.symm.trans hF)⟩, by rw [ht]; exact hP, va_K.moved hW.alike hK, hD⟩, hS.F ht⟩) hS.2.2 dX12_clip_29
    · replace hF := hF.trans (if_neg c_2)
      have tc_19 : 0 < (x_1).toInt := Int32.lt_iff_toInt_lt.mp (nle c_2)
      have h_20 : rg x_1 1 2147483647 := rg_lt2 (nle c_2) (rg_k (0 : Int32) 0 rfl) (rg_full _) (by decide +kernel)
      have uh_20 := h_20.1
      have vh_20 := h_20.2
      refine lv_ldc2 hx hb hown (hts _ (tw_c tw_611)) dX12_clip_8 ?_
      refine lv_goto (tgt := 29) hx hb dX12_clip_11 (by decide +kernel) ?_
      subst hQ
      exact W.lret (v := 1000000000) hx hb hr (fun t1 ht hW => ⟨⟨1000000000, (σ, I, J, ri, rj, rq), rfl, ⟨rfl, (hF0.symm.trans hF)⟩, by rw [ht]; exact hP, va_K.moved hW.alike hK, hD⟩, hS.F ht⟩) hS.2.2 dX12_clip_29
  exact go _ _ _ hP hD hS hl

set_option maxRecDepth 100000 in
def g_X12_two (a0 : Int32) (a1 : Int64) (a2 : Int64) : Int64 := (if a0 = (3 : Int32) then (ap1 (a1 + a2) fun (x_54 : Int64) => (ap1 (g_X12_clip x_54) fun (x_55 : Int64) => x_55)) else (if a0 = (4 : Int32) then (ap1 (a1 - a2) fun (x_44 : Int64) => (ap1 (g_X12_clip x_44) fun (x_45 : Int64) => x_45)) else (if a0 = (5 : Int32) then (ap1 (a1 * a2) fun (x_34 : Int64) => (ap1 (g_X12_clip x_34) fun (x_35 : Int64) => x_35)) else (ap1 (lg_cmp a2 (0 : Int64)) fun (x_16 : Int32) => (if x_16 = (0 : Int32) then (0 : Int64) else (ap1 (a1 / a2) fun (x_22 : Int64) => (ap1 (g_X12_clip x_22) fun (x_23 : Int64) => x_23)))))))
set_option maxRecDepth 100000 in
theorem g_X12_two_e {a0 : Int32} {a1 : Int64} {a2 : Int64} : g_X12_two a0 a1 a2 = (if a0 = (3 : Int32) then (ap1 (a1 + a2) fun (x_54 : Int64) => (ap1 (g_X12_clip x_54) fun (x_55 : Int64) => x_55)) else (if a0 = (4 : Int32) then (ap1 (a1 - a2) fun (x_44 : Int64) => (ap1 (g_X12_clip x_44) fun (x_45 : Int64) => x_45)) else (if a0 = (5 : Int32) then (ap1 (a1 * a2) fun (x_34 : Int64) => (ap1 (g_X12_clip x_34) fun (x_35 : Int64) => x_35)) else (ap1 (lg_cmp a2 (0 : Int64)) fun (x_16 : Int32) => (if x_16 = (0 : Int32) then (0 : Int64) else (ap1 (a1 / a2) fun (x_22 : Int64) => (ap1 (g_X12_clip x_22) fun (x_23 : Int64) => x_23))))))) := rfl
set_option maxHeartbeats 4000000 in
set_option maxRecDepth 100000 in
theorem s_X12_two (l : Launch) (D : va_G) (t : pq_T) (σ : pq_S) (I : Nat → Nat → Int32) (J : Nat → Nat → Int64) (ri : Nat → Nat → Int32) (rj : Nat → Nat → Int64) (rq : Nat → Nat → Option Nat) (sz : Nat) (tg : Nat → Nat) (hSH : SH σ tg) (hG0 : GT tg I ri) (a0 : Int32) (a1 : Int64) (a2 : Int64) : MetL l yX12_two (wa yX12_two cX12_two 5 (some .long)) ({ frames := 1, cells := 0, slots := 0, locals := 21 }) [.int a0, .long a1, .long a2] D t σ (I, J, ri, rj, rq) sz 0 0 (fun (r : Int64) (u : pq_S × pq_M) => u = (σ, I, J, ri, rj, rq) ∧ g_X12_two a0 a1 a2 = r) := by
  refine Met.ofW (cc := cX12_two) (maxL := 5) (ret := (some .long)) (by decide +kernel) rfl ?_
  intro p e s m args below meth c s₁ B hml hv
  obtain ⟨rfl, hsz, hP, hK, hD0, hN⟩ := hv
  have hx := B.exec
  have hb := B.bytes
  have hr := B.returns
  have hts := atoms_spec (ws := (wa yX12_two cX12_two 5 (some .long))) B.pre
  have hown : s.vm.findClass RX12 = some m.cls := findClass_of_methodNamed B.named
  have hlocks := B.notSynchronized
  subst hsz
  have hD : va_D (pq_B t σ (I, J, ri, rj, rq) s.heap.size) (pq_P t σ (I, J, ri, rj, rq)) := hD0.self
  generalize hAe : pq_B t σ (I, J, ri, rj, rq) s.heap.size = A at hD ⊢
  have hA : ∀ q : Nat, s.heap.size ≤ q → A q := fun q h => by rw [← hAe]; exact Or.inr h
  have hS : va_S A s.heap s.heap [] := va_S.rf
  have hG : GM [] tg σ I ri I ri rq := ⟨hG0, fun _ _ _ => rfl, fun _ _ _ _ _ => rfl, fun _ _ _ _ _ _ => rfl⟩
  have hl := lv_entry ([.int a0, .long a1, .long a2]) (n := 5) (Nat.le_of_ble_eq_true rfl)
  rw [lg_entry_eq]
  generalize (lg_sl ([.int a0, .long a1, .long a2]) ++ List.replicate (5 - (lg_sl ([.int a0, .long a1, .long a2])).length) Slot.unset).toArray = ls at hl ⊢
  have hl : lv_has ls 5 [(0, .int a0), (1, .long a1), (3, .long a2)] := hl
  refine q_gen (fun Q hQ => ?_)
  have go : ∀ (H : Heap) (locs : List Loc) (ls : Array Slot), va_P D vwCl (pq_P t σ (I, J, ri, rj, rq)) H → va_D A (pq_P t σ (I, J, ri, rj, rq)) → va_S A s.heap H locs → lv_has ls 5 [(0, .int a0), (1, .long a1), (3, .long a2)] → W p l e ({ frames := 1, cells := 0, slots := 0, locals := 21 } : Room) s m (List.toArray ([.int a0, .long a1, .long a2] : List Value)) below meth c H locs 0 0 Q (F0 m 0 ls []) := by
    intro H locs ls hP hD hS hl
    obtain ⟨F, hF0⟩ : ∃ F, F = g_X12_two a0 a1 a2 := ⟨_, rfl⟩
    have hF := hF0.trans g_X12_two_e
    refine lv_iload_n hx hb dX12_two_0 rfl (lv_at hl 0 rfl) ?_
    refine lv_iconst (v := 3) hx hb dX12_two_1 (by decide +kernel) ?_
    refine lv_icmp_ne (tgt := 14) hx hb dX12_two_2 (by decide +kernel) (fun c_1 => ?_) (fun c_1 => ?_)
    · replace hF := hF.trans (if_neg c_1)
      have tc_5 : (a0).toInt ≠ 3 := fun q => c_1 (Int32.toInt_inj.mp q)
      refine lv_iload_n hx hb dX12_two_14 rfl (lv_at hl 0 rfl) ?_
      refine lv_iconst (v := 4) hx hb dX12_two_15 (by decide +kernel) ?_
      refine lv_icmp_ne (tgt := 28) hx hb dX12_two_16 (by decide +kernel) (fun c_6 => ?_) (fun c_6 => ?_)
      · replace hF := hF.trans (if_neg c_6)
        have tc_10 : (a0).toInt ≠ 4 := fun q => c_6 (Int32.toInt_inj.mp q)
        refine lv_iload_n hx hb dX12_two_28 rfl (lv_at hl 0 rfl) ?_
        refine lv_iconst (v := 5) hx hb dX12_two_29 (by decide +kernel) ?_
        refine lv_icmp_ne (tgt := 42) hx hb dX12_two_30 (by decide +kernel) (fun c_11 => ?_) (fun c_11 => ?_)
        · replace hF := hF.trans (if_neg c_11)
          have tc_15 : (a0).toInt ≠ 5 := fun q => c_11 (Int32.toInt_inj.mp q)
          refine lv_lload_n hx hb dX12_two_42 rfl (lv_at hl 2 rfl) ?_
          refine lv_lconst (v := 0) hx hb dX12_two_43 (by decide +kernel) ?_
          refine W.lcmp hx hb dX12_two_44 ?_
          refine lv_topi (fun x_16 ex_16 => ?_)
          replace hF := hF.trans (ap_n ex_16)
          refine lv_if_ne (tgt := 52) hx hb dX12_two_45 (by decide +kernel) (fun c_17 => ?_) (fun c_17 => ?_)
          · replace hF := hF.trans (if_neg c_17)
            have tc_21 : (x_16).toInt ≠ 0 := fun q => c_17 (Int32.toInt_inj.mp q)
            refine lv_lload_n hx hb dX12_two_52 rfl (lv_at hl 1 rfl) ?_
            refine lv_lload_n hx hb dX12_two_53 rfl (lv_at hl 2 rfl) ?_
            refine lv_ldiv hx hb dX12_two_54 (fun q => c_17 (by rw [ex_16, q]; rfl)) ?_
            refine lv_topl (fun x_22 ex_22 => ?_)
            replace hF := hF.trans (ap_n ex_22)
            refine pk_l (va_runS (As := [.long x_22]) (rest := []) ⟨hx, hb, hml, hown, hts⟩ (s_X12_clip l D t σ I J ri rj rq H.size tg hSH hG.1 x_22) (va_cwS 1 hts (tw_S tw_608 tw_609 tw_5 tw_610) rfl rfl rfl cd_yX12_clip_1 ⟨Nat.le_of_ble_eq_true rfl, Nat.le_of_ble_eq_true rfl⟩) ⟨pq_blind, pq_pre hK hN hP hD⟩ rfl rfl hl.1 rfl (lv_room (Nat.le_of_ble_eq_true rfl)) dX12_two_55 ⟨Nat.le_of_ble_eq_true rfl, Nat.le_of_ble_eq_true rfl⟩) hD hS hA (fun x_23 σ1 μ1 H locs hw_24 hP hD hS => ?_)
            obtain ⟨hu_25, hfn_28⟩ := hw_24
            obtain ⟨hu_25a, hu_25b⟩ := Prod.mk.inj hu_25
            rw [hu_25a, hu_25b] at hP hD
            replace hF := hF.trans (ap_n hfn_28.symm)
            subst hQ
            exact W.lret (v := x_23) hx hb hr (fun t1 ht hW => ⟨⟨x_23, (σ, I, J, ri, rj, rq), rfl, ⟨rfl, (hF0.symm.trans hF)⟩, by rw [ht]; exact hP, va_K.moved hW.alike hK, hD⟩, hS.F ht⟩) hS.2.2 dX12_two_58
          · replace hF := hF.trans (if_pos c_17)
            have tc_30 : (x_16).toInt = 0 := congrArg Int32.toInt c_17
            have h_31 : rg x_16 0 0 := rg_and (rg_full _) (rg_of_eq c_17 (rg_k (0 : Int32) 0 rfl)) (by decide +kernel)
            have uh_31 := h_31.1
            have vh_31 := h_31.2
            refine lv_lconst (v := 0) hx hb dX12_two_48 (by decide +kernel) ?_
            refine lv_goto (tgt := 58) hx hb dX12_two_49 (by decide +kernel) ?_
            subst hQ
            exact W.lret (v := 0) hx hb hr (fun t1 ht hW => ⟨⟨0, (σ, I, J, ri, rj, rq), rfl, ⟨rfl, (hF0.symm.trans hF)⟩, by rw [ht]; exact hP, va_K.moved hW.alike hK, hD⟩, hS.F ht⟩) hS.2.2 dX12_two_58
        · replace hF := hF.trans (if_pos c_11)
          have tc_32 : (a0).toInt = 5 := congrArg Int32.toInt c_11
          have h_33 : rg a0 5 5 := rg_and (rg_full _) (rg_of_eq c_11 (rg_k (5 : Int32) 5 rfl)) (by decide +kernel)
          have uh_33 := h_33.1
          have vh_33 := h_33.2
          refine lv_lload_n hx hb dX12_two_33 rfl (lv_at hl 1 rfl) ?_
          refine lv_lload_n hx hb dX12_two_34 rfl (lv_at hl 2 rfl) ?_
          refine lv_lmul hx hb dX12_two_35 ?_
          refine lv_topl (fun x_34 ex_34 => ?_)
          replace hF := hF.trans (ap_n ex_34)
          refine pk_l (va_runS (As := [.long x_34]) (rest := []) ⟨hx, hb, hml, hown, hts⟩ (s_X12_clip l D t σ I J ri rj rq H.size tg hSH hG.1 x_34) (va_cwS 1 hts (tw_S tw_608 tw_609 tw_5 tw_610) rfl rfl rfl cd_yX12_clip_1 ⟨Nat.le_of_ble_eq_true rfl, Nat.le_of_ble_eq_true rfl⟩) ⟨pq_blind, pq_pre hK hN hP hD⟩ rfl rfl hl.1 rfl (lv_room (Nat.le_of_ble_eq_true rfl)) dX12_two_36 ⟨Nat.le_of_ble_eq_true rfl, Nat.le_of_ble_eq_true rfl⟩) hD hS hA (fun x_35 σ1 μ1 H locs hw_36 hP hD hS => ?_)
          obtain ⟨hu_37, hfn_40⟩ := hw_36
          obtain ⟨hu_37a, hu_37b⟩ := Prod.mk.inj hu_37
          rw [hu_37a, hu_37b] at hP hD
          replace hF := hF.trans (ap_n hfn_40.symm)
          refine lv_goto (tgt := 58) hx hb dX12_two_39 (by decide +kernel) ?_
          subst hQ
          exact W.lret (v := x_35) hx hb hr (fun t1 ht hW => ⟨⟨x_35, (σ, I, J, ri, rj, rq), rfl, ⟨rfl, (hF0.symm.trans hF)⟩, by rw [ht]; exact hP, va_K.moved hW.alike hK, hD⟩, hS.F ht⟩) hS.2.2 dX12_two_58
      · replace hF := hF.trans (if_pos c_6)
        have tc_42 : (a0).toInt = 4 := congrArg Int32.toInt c_6
        have h_43 : rg a0 4 4 := rg_and (rg_full _) (rg_of_eq c_6 (rg_k (4 : Int32) 4 rfl)) (by decide +kernel)
        have uh_43 := h_43.1
        have vh_43 := h_43.2
        refine lv_lload_n hx hb dX12_two_19 rfl (lv_at hl 1 rfl) ?_
        refine lv_lload_n hx hb dX12_two_20 rfl (lv_at hl 2 rfl) ?_
        refine lv_lsub hx hb dX12_two_21 ?_
        refine lv_topl (fun x_44 ex_44 => ?_)
        replace hF := hF.trans (ap_n ex_44)
        refine pk_l (va_runS (As := [.long x_44]) (rest := []) ⟨hx, hb, hml, hown, hts⟩ (s_X12_clip l D t σ I J ri rj rq H.size tg hSH hG.1 x_44) (va_cwS 1 hts (tw_S tw_608 tw_609 tw_5 tw_610) rfl rfl rfl cd_yX12_clip_1 ⟨Nat.le_of_ble_eq_true rfl, Nat.le_of_ble_eq_true rfl⟩) ⟨pq_blind, pq_pre hK hN hP hD⟩ rfl rfl hl.1 rfl (lv_room (Nat.le_of_ble_eq_true rfl)) dX12_two_22 ⟨Nat.le_of_ble_eq_true rfl, Nat.le_of_ble_eq_true rfl⟩) hD hS hA (fun x_45 σ1 μ1 H locs hw_46 hP hD hS => ?_)
        obtain ⟨hu_47, hfn_50⟩ := hw_46
        obtain ⟨hu_47a, hu_47b⟩ := Prod.mk.inj hu_47
        rw [hu_47a, hu_47b] at hP hD
        replace hF := hF.trans (ap_n hfn_50.symm)
        refine lv_goto (tgt := 58) hx hb dX12_two_25 (by decide +kernel) ?_
        subst hQ
        exact W.lret (v := x_45) hx hb hr (fun t1 ht hW => ⟨⟨x_45, (σ, I, J, ri, rj, rq), rfl, ⟨rfl, (hF0.symm.trans hF)⟩, by rw [ht]; exact hP, va_K.moved hW.alike hK, hD⟩, hS.F ht⟩) hS.2.2 dX12_two_58
    · replace hF := hF.trans (if_pos c_1)
      have tc_52 : (a0).toInt = 3 := congrArg Int32.toInt c_1
      have h_53 : rg a0 3 3 := rg_and (rg_full _) (rg_of_eq c_1 (rg_k (3 : Int32) 3 rfl)) (by decide +kernel)
      have uh_53 := h_53.1
      have vh_53 := h_53.2
      refine lv_lload_n hx hb dX12_two_5 rfl (lv_at hl 1 rfl) ?_
      refine lv_lload_n hx hb dX12_two_6 rfl (lv_at hl 2 rfl) ?_
      refine lv_ladd hx hb dX12_two_7 ?_
      refine lv_topl (fun x_54 ex_54 => ?_)
      replace hF := hF.trans (ap_n ex_54)
      refine pk_l (va_runS (As := [.long x_54]) (rest := []) ⟨hx, hb, hml, hown, hts⟩ (s_X12_clip l D t σ I J ri rj rq H.size tg hSH hG.1 x_54) (va_cwS 1 hts (tw_S tw_608 tw_609 tw_5 tw_610) rfl rfl rfl cd_yX12_clip_1 ⟨Nat.le_of_ble_eq_true rfl, Nat.le_of_ble_eq_true rfl⟩) ⟨pq_blind, pq_pre hK hN hP hD⟩ rfl rfl hl.1 rfl (lv_room (Nat.le_of_ble_eq_true rfl)) dX12_two_8 ⟨Nat.le_of_ble_eq_true rfl, Nat.le_of_ble_eq_true rfl⟩) hD hS hA (fun x_55 σ1 μ1 H locs hw_56 hP hD hS => ?_)
      obtain ⟨hu_57, hfn_60⟩ := hw_56
      obtain ⟨hu_57a, hu_57b⟩ := Prod.mk.inj hu_57
      rw [hu_57a, hu_57b] at hP hD
      replace hF := hF.trans (ap_n hfn_60.symm)
      refine lv_goto (tgt := 58) hx hb dX12_two_11 (by decide +kernel) ?_
      subst hQ
      exact W.lret (v := x_55) hx hb hr (fun t1 ht hW => ⟨⟨x_55, (σ, I, J, ri, rj, rq), rfl, ⟨rfl, (hF0.symm.trans hF)⟩, by rw [ht]; exact hP, va_K.moved hW.alike hK, hD⟩, hS.F ht⟩) hS.2.2 dX12_two_58
  exact go _ _ _ hP hD hS hl

set_option maxRecDepth 100000 in
def g_X12_isSo_K349 (x_957 : Int32) (x_959 : Int32) (ri_960 : Nat → Nat → Int32) (rj_961 : Nat → Nat → Int64) (x_1281 : Int32) (k_g_X12_isSo_L16 : (Int32) → (Int32) → (Int32) → (Nat → Nat → Int32) → (Nat → Nat → Int64) → Int32 × vM) (x_1278 : Int32) : Int32 × vM := (ap1 (va_up ri_960 405 (upd (ri_960 405) (x_1281).toNatClampNeg (0 : Int32))) fun (r_1327 : Nat → Nat → Int32) => (ap1 (x_959 + Int32.ofInt 1) fun (x_1328 : Int32) => (k_g_X12_isSo_L16 x_957 x_1278 x_1328 r_1327 rj_961)))
set_option maxRecDepth 100000 in
theorem g_X12_isSo_K349_e {x_957 : Int32} {x_959 : Int32} {ri_960 : Nat → Nat → Int32} {rj_961 : Nat → Nat → Int64} {x_1281 : Int32} {k_g_X12_isSo_L16 : (Int32) → (Int32) → (Int32) → (Nat → Nat → Int32) → (Nat → Nat → Int64) → Int32 × vM} {x_1278 : Int32} : g_X12_isSo_K349 x_957 x_959 ri_960 rj_961 x_1281 k_g_X12_isSo_L16 x_1278  = (ap1 (va_up ri_960 405 (upd (ri_960 405) (x_1281).toNatClampNeg (0 : Int32))) fun (r_1327 : Nat → Nat → Int32) => (ap1 (x_959 + Int32.ofInt 1) fun (x_1328 : Int32) => (k_g_X12_isSo_L16 x_957 x_1278 x_1328 r_1327 rj_961))) := rfl
set_option maxRecDepth 100000 in
def g_X12_isSo_K349_2 (x_957 : Int32) (x_959 : Int32) (ri_960 : Nat → Nat → Int32) (rj_961 : Nat → Nat → Int64) (x_1281 : Int32) (k_g_X12_isSo_L16 : (Int32) → (Int32) → (Int32) → (Nat → Nat → Int32) → (Nat → Nat → Int64) → Int32 × vM) (x_1278 : Int32) : Int32 × vM := (ap1 (va_up ri_960 405 (upd (ri_960 405) (x_1281).toNatClampNeg (1 : Int32))) fun (r_1331 : Nat → Nat → Int32) => (ap1 (x_959 + Int32.ofInt 1) fun (x_1332 : Int32) => (k_g_X12_isSo_L16 x_957 x_1278 x_1332 r_1331 rj_961)))
set_option maxRecDepth 100000 in
theorem g_X12_isSo_K349_2_e {x_957 : Int32} {x_959 : Int32} {ri_960 : Nat → Nat → Int32} {rj_961 : Nat → Nat → Int64} {x_1281 : Int32} {k_g_X12_isSo_L16 : (Int32) → (Int32) → (Int32) → (Nat → Nat → Int32) → (Nat → Nat → Int64) → Int32 × vM} {x_1278 : Int32} : g_X12_isSo_K349_2 x_957 x_959 ri_960 rj_961 x_1281 k_g_X12_isSo_L16 x_1278  = (ap1 (va_up ri_960 405 (upd (ri_960 405) (x_1281).toNatClampNeg (1 : Int32))) fun (r_1331 : Nat → Nat → Int32) => (ap1 (x_959 + Int32.ofInt 1) fun (x_1332 : Int32) => (k_g_X12_isSo_L16 x_957 x_1278 x_1332 r_1331 rj_961))) := rfl
set_option maxRecDepth 100000 in
def g_X12_isSo_K344 (x_957 : Int32) (x_959 : Int32) (ri_960 : Nat → Nat → Int32) (rj_961 : Nat → Nat → Int64) (x_1281 : Int32) (k_g_X12_isSo_L16 : (Int32) → (Int32) → (Int32) → (Nat → Nat → Int32) → (Nat → Nat → Int64) → Int32 × vM) (x_1278 : Int32) : Int32 × vM := (g_X12_isSo_K349_2 x_957 x_959 ri_960 rj_961 x_1281 k_g_X12_isSo_L16 x_1278 )
set_option maxRecDepth 100000 in
theorem g_X12_isSo_K344_e {x_957 : Int32} {x_959 : Int32} {ri_960 : Nat → Nat → Int32} {rj_961 : Nat → Nat → Int64} {x_1281 : Int32} {k_g_X12_isSo_L16 : (Int32) → (Int32) → (Int32) → (Nat → Nat → Int32) → (Nat → Nat → Int64) → Int32 × vM} {x_1278 : Int32} : g_X12_isSo_K344 x_957 x_959 ri_960 rj_961 x_1281 k_g_X12_isSo_L16 x_1278  = (g_X12_isSo_K349_2 x_957 x_959 ri_960 rj_961 x_1281 k_g_X12_isSo_L16 x_1278 ) := rfl
set_option maxRecDepth 100000 in
def g_X12_isSo_K318 (x_957 : Int32) (x_959 : Int32) (ri_960 : Nat → Nat → Int32) (rj_961 : Nat → Nat → Int64) (x_1281 : Int32) (k_g_X12_isSo_L16 : (Int32) → (Int32) → (Int32) → (Nat → Nat → Int32) → (Nat → Nat → Int64) → Int32 × vM) (x_1278 : Int32) : Int32 × vM := (g_X12_isSo_K349 x_957 x_959 ri_960 rj_961 x_1281 k_g_X12_isSo_L16 x_1278 )
set_option maxRecDepth 100000 in
theorem g_X12_isSo_K318_e {x_957 : Int32} {x_959 : Int32} {ri_960 : Nat → Nat → Int32} {rj_961 : Nat → Nat → Int64} {x_1281 : Int32} {k_g_X12_isSo_L16 : (Int32) → (Int32) → (Int32) → (Nat → Nat → Int32) → (Nat → Nat → Int64) → Int32 × vM} {x_1278 : Int32} : g_X12_isSo_K318 x_957 x_959 ri_960 rj_961 x_1281 k_g_X12_isSo_L16 x_1278  = (g_X12_isSo_K349 x_957 x_959 ri_960 rj_961 x_1281 k_g_X12_isSo_L16 x_1278 ) := rfl
set_option maxRecDepth 100000 in
def g_X12_isSo_K270 (x_957 : Int32) (x_958 : Int32) (x_959 : Int32) (ri_960 : Nat → Nat → Int32) (rj_961 : Nat → Nat → Int64) (k_g_X12_isSo_L16 : (Int32) → (Int32) → (Int32) → (Nat → Nat → Int32) → (Nat → Nat → Int64) → Int32 × vM) (x_1422 : Int32) : Int32 × vM := (ap1 (va_up ri_960 405 (upd (ri_960 405) (x_1422).toNatClampNeg (0 : Int32))) fun (r_1444 : Nat → Nat → Int32) => (ap1 (x_959 + Int32.ofInt 1) fun (x_1445 : Int32) => (k_g_X12_isSo_L16 x_957 x_958 x_1445 r_1444 rj_961)))
set_option maxRecDepth 100000 in
theorem g_X12_isSo_K270_e {x_957 : Int32} {x_958 : Int32} {x_959 : Int32} {ri_960 : Nat → Nat → Int32} {rj_961 : Nat → Nat → Int64} {k_g_X12_isSo_L16 : (Int32) → (Int32) → (Int32) → (Nat → Nat → Int32) → (Nat → Nat → Int64) → Int32 × vM} {x_1422 : Int32} : g_X12_isSo_K270 x_957 x_958 x_959 ri_960 rj_961 k_g_X12_isSo_L16 x_1422  = (ap1 (va_up ri_960 405 (upd (ri_960 405) (x_1422).toNatClampNeg (0 : Int32))) fun (r_1444 : Nat → Nat → Int32) => (ap1 (x_959 + Int32.ofInt 1) fun (x_1445 : Int32) => (k_g_X12_isSo_L16 x_957 x_958 x_1445 r_1444 rj_961))) := rfl
set_option maxRecDepth 100000 in
def g_X12_isSo_K270_2 (x_957 : Int32) (x_958 : Int32) (x_959 : Int32) (ri_960 : Nat → Nat → Int32) (rj_961 : Nat → Nat → Int64) (k_g_X12_isSo_L16 : (Int32) → (Int32) → (Int32) → (Nat → Nat → Int32) → (Nat → Nat → Int64) → Int32 × vM) (x_1422 : Int32) : Int32 × vM := (ap1 (va_up ri_960 405 (upd (ri_960 405) (x_1422).toNatClampNeg (1 : Int32))) fun (r_1450 : Nat → Nat → Int32) => (ap1 (x_959 + Int32.ofInt 1) fun (x_1451 : Int32) => (k_g_X12_isSo_L16 x_957 x_958 x_1451 r_1450 rj_961)))
set_option maxRecDepth 100000 in
theorem g_X12_isSo_K270_2_e {x_957 : Int32} {x_958 : Int32} {x_959 : Int32} {ri_960 : Nat → Nat → Int32} {rj_961 : Nat → Nat → Int64} {k_g_X12_isSo_L16 : (Int32) → (Int32) → (Int32) → (Nat → Nat → Int32) → (Nat → Nat → Int64) → Int32 × vM} {x_1422 : Int32} : g_X12_isSo_K270_2 x_957 x_958 x_959 ri_960 rj_961 k_g_X12_isSo_L16 x_1422  = (ap1 (va_up ri_960 405 (upd (ri_960 405) (x_1422).toNatClampNeg (1 : Int32))) fun (r_1450 : Nat → Nat → Int32) => (ap1 (x_959 + Int32.ofInt 1) fun (x_1451 : Int32) => (k_g_X12_isSo_L16 x_957 x_958 x_1451 r_1450 rj_961))) := rfl
set_option maxRecDepth 100000 in
def g_X12_isSo_K116 (x_957 : Int32) (x_958 : Int32) (x_959 : Int32) (ri_960 : Nat → Nat → Int32) (rj_961 : Nat → Nat → Int64) (k_g_X12_isSo_L16 : (Int32) → (Int32) → (Int32) → (Nat → Nat → Int32) → (Nat → Nat → Int64) → Int32 × vM) (x_1542 : Int64) : Int32 × vM := (ap1 (va_up rj_961 404 (vp_updL (rj_961 404) (x_957).toNatClampNeg x_1542)) fun (r_1549 : Nat → Nat → Int64) => (ap1 (x_957 + Int32.ofInt 1) fun (x_1550 : Int32) => (ap1 (x_959 + Int32.ofInt 1) fun (x_1552 : Int32) => (k_g_X12_isSo_L16 x_1550 x_958 x_1552 ri_960 r_1549))))
set_option maxRecDepth 100000 in
theorem g_X12_isSo_K116_e {x_957 : Int32} {x_958 : Int32} {x_959 : Int32} {ri_960 : Nat → Nat → Int32} {rj_961 : Nat → Nat → Int64} {k_g_X12_isSo_L16 : (Int32) → (Int32) → (Int32) → (Nat → Nat → Int32) → (Nat → Nat → Int64) → Int32 × vM} {x_1542 : Int64} : g_X12_isSo_K116 x_957 x_958 x_959 ri_960 rj_961 k_g_X12_isSo_L16 x_1542 = (ap1 (va_up rj_961 404 (vp_updL (rj_961 404) (x_957).toNatClampNeg x_1542)) fun (r_1549 : Nat → Nat → Int64) => (ap1 (x_957 + Int32.ofInt 1) fun (x_1550 : Int32) => (ap1 (x_959 + Int32.ofInt 1) fun (x_1552 : Int32) => (k_g_X12_isSo_L16 x_1550 x_958 x_1552 ri_960 r_1549)))) := rfl
set_option maxRecDepth 100000 in
def g_X12_isSo_L16 (a0 : Int32) (a1 : Int32) (a2 : Int32) (a3 : Int32) (a4 : Int32) (I : Nat → Int32) (J : Nat → Int64) (rq : Nat → Nat → Option Nat) : Nat → (Int32) → (Int32) → (Int32) → (Nat → Nat → Int32) → (Nat → Nat → Int64) → Int32 × vM
  | 0, x_957, x_958, x_959, ri_960, rj_961 => ((0 : Int32), I, J, ri_960, rj_961, rq)
  | n_1183 + 1, x_957, x_958, x_959, ri_960, rj_961 => (ap1 (a1 + (3 : Int32)) fun (x_1198 : Int32) => (ap1 (ri_960 384 (x_1198).toNatClampNeg) fun (x_1200 : Int32) => (if x_1200 ≤ x_959 then (ap1 (ri_960 405 ((0 : Int32)).toNatClampNeg) fun (x_1211 : Int32) => (x_1211, I, J, ri_960, rj_961, rq)) else (ap1 ((900 : Int32) * a0) fun (x_1217 : Int32) => (ap1 ((3720 : Int32) + x_1217) fun (x_1219 : Int32) => (ap1 (x_1219 + (250 : Int32)) fun (x_1221 : Int32) => (ap1 ((2 : Int32) * x_959) fun (x_1223 : Int32) => (ap1 (x_1221 + x_1223) fun (x_1225 : Int32) => (ap1 (ri_960 384 (x_1225).toNatClampNeg) fun (x_1227 : Int32) => (ap1 ((900 : Int32) * a0) fun (x_1228 : Int32) => (ap1 ((3720 : Int32) + x_1228) fun (x_1230 : Int32) => (ap1 (x_1230 + (250 : Int32)) fun (x_1232 : Int32) => (ap1 ((2 : Int32) * x_959) fun (x_1234 : Int32) => (ap1 (x_1232 + x_1234) fun (x_1236 : Int32) => (ap1 (x_1236 + (1 : Int32)) fun (x_1238 : Int32) => (ap1 (ri_960 384 (x_1238).toNatClampNeg) fun (x_1240 : Int32) => (if (1 : Int32) < x_1227 then (if x_1227 = (2 : Int32) then (ap1 (x_957 - (1 : Int32)) fun (x_1515 : Int32) => (ap1 (x_957 - (1 : Int32)) fun (x_1517 : Int32) => (ap1 (rj_961 404 (x_1517).toNatClampNeg) fun (x_1519 : Int64) => (ap1 (-x_1519) fun (x_1520 : Int64) => (ap1 (va_up rj_961 404 (vp_updL (rj_961 404) (x_1515).toNatClampNeg x_1520)) fun (r_1521 : Nat → Nat → Int64) => (ap1 (x_959 + Int32.ofInt 1) fun (x_1522 : Int32) => ((g_X12_isSo_L16 a0 a1 a2 a3 a4 I J rq n_1183) x_957 x_958 x_1522 ri_960 r_1521))))))) else (if (10 : Int32) ≤ x_1227 then (if (20 : Int32) ≤ x_1227 then (if x_1227 = (20 : Int32) then (ap1 (x_958 - (1 : Int32)) fun (x_1422 : Int32) => (ap1 (x_958 - (1 : Int32)) fun (x_1424 : Int32) => (ap1 (ri_960 405 (x_1424).toNatClampNeg) fun (x_1426 : Int32) => (if x_1426 = (0 : Int32) then (g_X12_isSo_K270_2 x_957 x_958 x_959 ri_960 rj_961 (g_X12_isSo_L16 a0 a1 a2 a3 a4 I J rq n_1183) x_1422 ) else (g_X12_isSo_K270 x_957 x_958 x_959 ri_960 rj_961 (g_X12_isSo_L16 a0 a1 a2 a3 a4 I J rq n_1183) x_1422 ))))) else (ap1 (x_958 + Int32.ofInt (-1)) fun (x_1278 : Int32) => (ap1 (x_1278 - (1 : Int32)) fun (x_1281 : Int32) => (if x_1227 = (21 : Int32) then (ap1 (x_1278 - (1 : Int32)) fun (x_1380 : Int32) => (ap1 (ri_960 405 (x_1380).toNatClampNeg) fun (x_1382 : Int32) => (if x_1382 = (0 : Int32) then (g_X12_isSo_K318 x_957 x_959 ri_960 rj_961 x_1281 (g_X12_isSo_L16 a0 a1 a2 a3 a4 I J rq n_1183) x_1278 ) else (ap1 (ri_960 405 (x_1278).toNatClampNeg) fun (x_1406 : Int32) => (if x_1406 = (0 : Int32) then (g_X12_isSo_K318 x_957 x_959 ri_960 rj_961 x_1281 (g_X12_isSo_L16 a0 a1 a2 a3 a4 I J rq n_1183) x_1278 ) else (g_X12_isSo_K349_2 x_957 x_959 ri_960 rj_961 x_1281 (g_X12_isSo_L16 a0 a1 a2 a3 a4 I J rq n_1183) x_1278 )))))) else (ap1 (x_1278 - (1 : Int32)) fun (x_1341 : Int32) => (ap1 (ri_960 405 (x_1341).toNatClampNeg) fun (x_1343 : Int32) => (if x_1343 = (0 : Int32) then (ap1 (ri_960 405 (x_1278).toNatClampNeg) fun (x_1367 : Int32) => (if x_1367 = (0 : Int32) then (g_X12_isSo_K349 x_957 x_959 ri_960 rj_961 x_1281 (g_X12_isSo_L16 a0 a1 a2 a3 a4 I J rq n_1183) x_1278 ) else (g_X12_isSo_K344 x_957 x_959 ri_960 rj_961 x_1281 (g_X12_isSo_L16 a0 a1 a2 a3 a4 I J rq n_1183) x_1278 ))) else (g_X12_isSo_K344 x_957 x_959 ri_960 rj_961 x_1281 (g_X12_isSo_L16 a0 a1 a2 a3 a4 I J rq n_1183) x_1278 )))))))) else (ap1 (x_957 + Int32.ofInt (-2)) fun (x_1466 : Int32) => (ap1 (rj_961 404 (x_1466).toNatClampNeg) fun (x_1470 : Int64) => (ap1 (x_1466 + (1 : Int32)) fun (x_1471 : Int32) => (ap1 (rj_961 404 (x_1471).toNatClampNeg) fun (x_1473 : Int64) => (ap1 (g_X12_isAsked x_1227 x_1470 x_1473) fun (x_1474 : Int32) => (ap1 (va_up ri_960 405 (upd (ri_960 405) (x_958).toNatClampNeg x_1474)) fun (r_1482 : Nat → Nat → Int32) => (ap1 (x_958 + Int32.ofInt 1) fun (x_1483 : Int32) => (ap1 (x_959 + Int32.ofInt 1) fun (x_1485 : Int32) => ((g_X12_isSo_L16 a0 a1 a2 a3 a4 I J rq n_1183) x_1466 x_1483 x_1485 r_1482 rj_961)))))))))) else (ap1 (x_957 + Int32.ofInt (-1)) fun (x_1491 : Int32) => (ap1 (x_1491 - (1 : Int32)) fun (x_1494 : Int32) => (ap1 (x_1491 - (1 : Int32)) fun (x_1496 : Int32) => (ap1 (rj_961 404 (x_1496).toNatClampNeg) fun (x_1498 : Int64) => (ap1 (rj_961 404 (x_1491).toNatClampNeg) fun (x_1499 : Int64) => (ap1 (g_X12_two x_1227 x_1498 x_1499) fun (x_1500 : Int64) => (ap1 (va_up rj_961 404 (vp_updL (rj_961 404) (x_1494).toNatClampNeg x_1500)) fun (r_1507 : Nat → Nat → Int64) => (ap1 (x_959 + Int32.ofInt 1) fun (x_1508 : Int32) => ((g_X12_isSo_L16 a0 a1 a2 a3 a4 I J rq n_1183) x_1491 x_958 x_1508 ri_960 r_1507))))))))))) else (if x_1227 = (0 : Int32) then (ap1 (x_1240.toInt64) fun (x_1569 : Int64) => (g_X12_isSo_K116 x_957 x_958 x_959 ri_960 rj_961 (g_X12_isSo_L16 a0 a1 a2 a3 a4 I J rq n_1183) x_1569)) else (bnI (g_X12_named a2 x_1240 a3 a4 I J ri_960 rj_961 rq) fun (x_1559 : Int32) (_ : Nat → Int32) (_ : Nat → Int64) (_ : Nat → Nat → Int32) (_ : Nat → Nat → Int64) (_ : Nat → Nat → Option Nat) => (ap1 (x_1559.toInt64) fun (x_1566 : Int64) => (g_X12_isSo_K116 x_957 x_958 x_959 ri_960 rj_961 (g_X12_isSo_L16 a0 a1 a2 a3 a4 I J rq n_1183) x_1566)))))))))))))))))))))
set_option maxRecDepth 100000 in
theorem g_X12_isSo_L16_e {a0 : Int32} {a1 : Int32} {a2 : Int32} {a3 : Int32} {a4 : Int32} {I : Nat → Int32} {J : Nat → Int64} {rq : Nat → Nat → Option Nat} {n_1183 : Nat} {x_957 : Int32} {x_958 : Int32} {x_959 : Int32} {ri_960 : Nat → Nat → Int32} {rj_961 : Nat → Nat → Int64} : g_X12_isSo_L16 a0 a1 a2 a3 a4 I J rq (n_1183 + 1) x_957 x_958 x_959 ri_960 rj_961 = (ap1 (a1 + (3 : Int32)) fun (x_1198 : Int32) => (ap1 (ri_960 384 (x_1198).toNatClampNeg) fun (x_1200 : Int32) => (if x_1200 ≤ x_959 then (ap1 (ri_960 405 ((0 : Int32)).toNatClampNeg) fun (x_1211 : Int32) => (x_1211, I, J, ri_960, rj_961, rq)) else (ap1 ((900 : Int32) * a0) fun (x_1217 : Int32) => (ap1 ((3720 : Int32) + x_1217) fun (x_1219 : Int32) => (ap1 (x_1219 + (250 : Int32)) fun (x_1221 : Int32) => (ap1 ((2 : Int32) * x_959) fun (x_1223 : Int32) => (ap1 (x_1221 + x_1223) fun (x_1225 : Int32) => (ap1 (ri_960 384 (x_1225).toNatClampNeg) fun (x_1227 : Int32) => (ap1 ((900 : Int32) * a0) fun (x_1228 : Int32) => (ap1 ((3720 : Int32) + x_1228) fun (x_1230 : Int32) => (ap1 (x_1230 + (250 : Int32)) fun (x_1232 : Int32) => (ap1 ((2 : Int32) * x_959) fun (x_1234 : Int32) => (ap1 (x_1232 + x_1234) fun (x_1236 : Int32) => (ap1 (x_1236 + (1 : Int32)) fun (x_1238 : Int32) => (ap1 (ri_960 384 (x_1238).toNatClampNeg) fun (x_1240 : Int32) => (if (1 : Int32) < x_1227 then (if x_1227 = (2 : Int32) then (ap1 (x_957 - (1 : Int32)) fun (x_1515 : Int32) => (ap1 (x_957 - (1 : Int32)) fun (x_1517 : Int32) => (ap1 (rj_961 404 (x_1517).toNatClampNeg) fun (x_1519 : Int64) => (ap1 (-x_1519) fun (x_1520 : Int64) => (ap1 (va_up rj_961 404 (vp_updL (rj_961 404) (x_1515).toNatClampNeg x_1520)) fun (r_1521 : Nat → Nat → Int64) => (ap1 (x_959 + Int32.ofInt 1) fun (x_1522 : Int32) => ((g_X12_isSo_L16 a0 a1 a2 a3 a4 I J rq n_1183) x_957 x_958 x_1522 ri_960 r_1521))))))) else (if (10 : Int32) ≤ x_1227 then (if (20 : Int32) ≤ x_1227 then (if x_1227 = (20 : Int32) then (ap1 (x_958 - (1 : Int32)) fun (x_1422 : Int32) => (ap1 (x_958 - (1 : Int32)) fun (x_1424 : Int32) => (ap1 (ri_960 405 (x_1424).toNatClampNeg) fun (x_1426 : Int32) => (if x_1426 = (0 : Int32) then (g_X12_isSo_K270_2 x_957 x_958 x_959 ri_960 rj_961 (g_X12_isSo_L16 a0 a1 a2 a3 a4 I J rq n_1183) x_1422 ) else (g_X12_isSo_K270 x_957 x_958 x_959 ri_960 rj_961 (g_X12_isSo_L16 a0 a1 a2 a3 a4 I J rq n_1183) x_1422 ))))) else (ap1 (x_958 + Int32.ofInt (-1)) fun (x_1278 : Int32) => (ap1 (x_1278 - (1 : Int32)) fun (x_1281 : Int32) => (if x_1227 = (21 : Int32) then (ap1 (x_1278 - (1 : Int32)) fun (x_1380 : Int32) => (ap1 (ri_960 405 (x_1380).toNatClampNeg) fun (x_1382 : Int32) => (if x_1382 = (0 : Int32) then (g_X12_isSo_K318 x_957 x_959 ri_960 rj_961 x_1281 (g_X12_isSo_L16 a0 a1 a2 a3 a4 I J rq n_1183) x_1278 ) else (ap1 (ri_960 405 (x_1278).toNatClampNeg) fun (x_1406 : Int32) => (if x_1406 = (0 : Int32) then (g_X12_isSo_K318 x_957 x_959 ri_960 rj_961 x_1281 (g_X12_isSo_L16 a0 a1 a2 a3 a4 I J rq n_1183) x_1278 ) else (g_X12_isSo_K349_2 x_957 x_959 ri_960 rj_961 x_1281 (g_X12_isSo_L16 a0 a1 a2 a3 a4 I J rq n_1183) x_1278 )))))) else (ap1 (x_1278 - (1 : Int32)) fun (x_1341 : Int32) => (ap1 (ri_960 405 (x_1341).toNatClampNeg) fun (x_1343 : Int32) => (if x_1343 = (0 : Int32) then (ap1 (ri_960 405 (x_1278).toNatClampNeg) fun (x_1367 : Int32) => (if x_1367 = (0 : Int32) then (g_X12_isSo_K349 x_957 x_959 ri_960 rj_961 x_1281 (g_X12_isSo_L16 a0 a1 a2 a3 a4 I J rq n_1183) x_1278 ) else (g_X12_isSo_K344 x_957 x_959 ri_960 rj_961 x_1281 (g_X12_isSo_L16 a0 a1 a2 a3 a4 I J rq n_1183) x_1278 ))) else (g_X12_isSo_K344 x_957 x_959 ri_960 rj_961 x_1281 (g_X12_isSo_L16 a0 a1 a2 a3 a4 I J rq n_1183) x_1278 )))))))) else (ap1 (x_957 + Int32.ofInt (-2)) fun (x_1466 : Int32) => (ap1 (rj_961 404 (x_1466).toNatClampNeg) fun (x_1470 : Int64) => (ap1 (x_1466 + (1 : Int32)) fun (x_1471 : Int32) => (ap1 (rj_961 404 (x_1471).toNatClampNeg) fun (x_1473 : Int64) => (ap1 (g_X12_isAsked x_1227 x_1470 x_1473) fun (x_1474 : Int32) => (ap1 (va_up ri_960 405 (upd (ri_960 405) (x_958).toNatClampNeg x_1474)) fun (r_1482 : Nat → Nat → Int32) => (ap1 (x_958 + Int32.ofInt 1) fun (x_1483 : Int32) => (ap1 (x_959 + Int32.ofInt 1) fun (x_1485 : Int32) => ((g_X12_isSo_L16 a0 a1 a2 a3 a4 I J rq n_1183) x_1466 x_1483 x_1485 r_1482 rj_961)))))))))) else (ap1 (x_957 + Int32.ofInt (-1)) fun (x_1491 : Int32) => (ap1 (x_1491 - (1 : Int32)) fun (x_1494 : Int32) => (ap1 (x_1491 - (1 : Int32)) fun (x_1496 : Int32) => (ap1 (rj_961 404 (x_1496).toNatClampNeg) fun (x_1498 : Int64) => (ap1 (rj_961 404 (x_1491).toNatClampNeg) fun (x_1499 : Int64) => (ap1 (g_X12_two x_1227 x_1498 x_1499) fun (x_1500 : Int64) => (ap1 (va_up rj_961 404 (vp_updL (rj_961 404) (x_1494).toNatClampNeg x_1500)) fun (r_1507 : Nat → Nat → Int64) => (ap1 (x_959 + Int32.ofInt 1) fun (x_1508 : Int32) => ((g_X12_isSo_L16 a0 a1 a2 a3 a4 I J rq n_1183) x_1491 x_958 x_1508 ri_960 r_1507))))))))))) else (if x_1227 = (0 : Int32) then (ap1 (x_1240.toInt64) fun (x_1569 : Int64) => (g_X12_isSo_K116 x_957 x_958 x_959 ri_960 rj_961 (g_X12_isSo_L16 a0 a1 a2 a3 a4 I J rq n_1183) x_1569)) else (bnI (g_X12_named a2 x_1240 a3 a4 I J ri_960 rj_961 rq) fun (x_1559 : Int32) (_ : Nat → Int32) (_ : Nat → Int64) (_ : Nat → Nat → Int32) (_ : Nat → Nat → Int64) (_ : Nat → Nat → Option Nat) => (ap1 (x_1559.toInt64) fun (x_1566 : Int64) => (g_X12_isSo_K116 x_957 x_958 x_959 ri_960 rj_961 (g_X12_isSo_L16 a0 a1 a2 a3 a4 I J rq n_1183) x_1566))))))))))))))))))))) := rfl
set_option maxRecDepth 100000 in
def g_X12_isSo (a0 : Int32) (a1 : Int32) (a2 : Int32) (a3 : Int32) (a4 : Int32) (I : Nat → Int32) (J : Nat → Int64) (ri : Nat → Nat → Int32) (rj : Nat → Nat → Int64) (rq : Nat → Nat → Option Nat) : Int32 × vM := (ap1 (a1 + (2 : Int32)) fun (x_1 : Int32) => (ap1 (ri 384 (x_1).toNatClampNeg) fun (x_3 : Int32) => (g_X12_isSo_L16 a0 a1 a2 a3 a4 I J rq ((300 - (x_3).toInt).toNat + 1) (0 : Int32) (0 : Int32) x_3 ri rj)))
set_option maxRecDepth 100000 in
theorem g_X12_isSo_e {a0 : Int32} {a1 : Int32} {a2 : Int32} {a3 : Int32} {a4 : Int32} {I : Nat → Int32} {J : Nat → Int64} {ri : Nat → Nat → Int32} {rj : Nat → Nat → Int64} {rq : Nat → Nat → Option Nat} : g_X12_isSo a0 a1 a2 a3 a4 I J ri rj rq = (ap1 (a1 + (2 : Int32)) fun (x_1 : Int32) => (ap1 (ri 384 (x_1).toNatClampNeg) fun (x_3 : Int32) => (g_X12_isSo_L16 a0 a1 a2 a3 a4 I J rq ((300 - (x_3).toInt).toNat + 1) (0 : Int32) (0 : Int32) x_3 ri rj))) := rfl
set_option maxHeartbeats 4000000 in
set_option maxRecDepth 100000 in
theorem s_X12_isSo (l : Launch) (D : va_G) (t : pq_T) (σ : pq_S) (I : Nat → Nat → Int32) (J : Nat → Nat → Int64) (ri : Nat → Nat → Int32) (rj : Nat → Nat → Int64) (rq : Nat → Nat → Option Nat) (sz : Nat) (tg : Nat → Nat) (hSH : SH σ tg) (hG0 : GT tg I ri) (this : Nat) (a0 : Int32) (a1 : Int32) (a2 : Int32) (a3 : Int32) (a4 : Int32) (hL_this : this ∈ σ.1) (hK_this : σ.2.1 this = 12) (h_a0 : rg a0 0 9) (h_a1 : rg a1 3721 12060) (h_a2 : rg a2 0 39) (this_a : Nat) (hR_this_a : σ.2.2.1 384 this = some this_a) (hL_this_a : this_a ∈ σ.1) (hK_this_a : σ.2.1 this_a = 13) (hN_this_a : σ.2.2.2 this_a = 12720) (hT_this_a : tg this_a = 384) (hwt : 0 ≤ a0.toInt ∧ a0.toInt < (ri this_a 6).toInt) (hwc : ∃ c : Nat, c < 20 ∧ (c : Int) < (ri this_a (3720 + 900 * a0.toNatClampNeg)).toInt ∧ a1.toInt = 3721 + 900 * a0.toInt + 12 * c) (hws : 1 ≤ (ri this_a a1.toNatClampNeg).toInt ∧ (ri this_a a1.toNatClampNeg).toInt ≤ 4) : MetI l yX12_isSo (wa yX12_isSo cX12_isSo 11 (some .boolean)) ({ frames := 2, cells := 0, slots := 0, locals := 46 }) [.ref this, .int a0, .int a1, .int a2, .int a3, .int a4] D t σ (I, J, ri, rj, rq) sz 0 0 (fun (r : Int32) (u : pq_S × pq_M) => ∃ ri' : Nat → Nat → Int32, ∃ rj' : Nat → Nat → Int64, u = (σ, I, J, ri', rj', rq) ∧ GM [] tg σ I ri I ri' rq ∧ (∀ q, tg q ≠ 405 → ri' q = ri q) ∧ g_X12_isSo a0 a1 a2 a3 a4 (vI 12 σ this I) (vJ 12 σ this J) (vR 12 σ this ri) (vL 12 σ this rj) (vQ 12 σ this rq) = (r, (vI 12 σ this I), (vJ 12 σ this J), (vR 12 σ this ri'), (vL 12 σ this rj'), (vQ 12 σ this rq)) ∧ FR 12 tg σ this (I, J, ri, rj, rq) (I, J, ri', rj', rq) ∧ ((r = 1 ∧ True) ∨ (r = 0 ∧ True))) := by
  refine Met.ofW (cc := cX12_isSo) (maxL := 11) (ret := (some .boolean)) (by decide +kernel) rfl ?_
  intro p e s m args below meth c s₁ B hml hv
  obtain ⟨rfl, hsz, hP, hK, hD0, hN⟩ := hv
  have hx := B.exec
  have hb := B.bytes
  have hr := B.returns
  have hts := atoms_spec (ws := (wa yX12_isSo cX12_isSo 11 (some .boolean))) B.pre
  have hown : s.vm.findClass RX12 = some m.cls := findClass_of_methodNamed B.named
  have hlocks := B.notSynchronized
  subst hsz
  have hD : va_D (pq_B t σ (I, J, ri, rj, rq) s.heap.size) (pq_P t σ (I, J, ri, rj, rq)) := hD0.self
  generalize hAe : pq_B t σ (I, J, ri, rj, rq) s.heap.size = A at hD ⊢
  have hA : ∀ q : Nat, s.heap.size ≤ q → A q := fun q h => by rw [← hAe]; exact Or.inr h
  have hS : va_S A s.heap s.heap [] := va_S.rf
  have hG : GM [] tg σ I ri I ri rq := ⟨hG0, fun _ _ _ => rfl, fun _ _ _ _ _ => rfl, fun _ _ _ _ _ _ => rfl⟩
  have hl := lv_entry ([.ref this, .int a0, .int a1, .int a2, .int a3, .int a4]) (n := 11) (Nat.le_of_ble_eq_true rfl)
  rw [lg_entry_eq]
  generalize (lg_sl ([.ref this, .int a0, .int a1, .int a2, .int a3, .int a4]) ++ List.replicate (11 - (lg_sl ([.ref this, .int a0, .int a1, .int a2, .int a3, .int a4])).length) Slot.unset).toArray = ls at hl ⊢
  have hl : lv_has ls 11 [(0, .ref this), (1, .int a0), (2, .int a1), (3, .int a2), (4, .int a3), (5, .int a4)] := hl
  refine q_gen (fun Q hQ => ?_)
  have go : ∀ (H : Heap) (locs : List Loc) (ls : Array Slot), va_P D vwCl (pq_P t σ (I, J, ri, rj, rq)) H → va_D A (pq_P t σ (I, J, ri, rj, rq)) → va_S A s.heap H locs → lv_has ls 11 [(0, .ref this), (1, .int a0), (2, .int a1), (3, .int a2), (4, .int a3), (5, .int a4)] → W p l e ({ frames := 2, cells := 0, slots := 0, locals := 46 } : Room) s m (List.toArray ([.ref this, .int a0, .int a1, .int a2, .int a3, .int a4] : List Value)) below meth c H locs 0 0 Q (F0 m 0 ls []) := by
    intro H locs ls hP hD hS hl
    have hO_this : this = vo σ 12 this := rfl
    have hVT : VT 12 σ tg this := vt_12 hSH hL_this hK_this
    have hFr : FR 12 tg σ this (I, J, ri, rj, rq) (I, J, ri, rj, rq) := fr_rf
    have hO_this_a : this_a = vrow σ 384 this := vo_k (c := 12) hO_this hR_this_a
    obtain ⟨F, hF0⟩ : ∃ F, F = g_X12_isSo a0 a1 a2 a3 a4 (vI 12 σ this I) (vJ 12 σ this J) (vR 12 σ this ri) (vL 12 σ this rj) (vQ 12 σ this rq) := ⟨_, rfl⟩
    have hF := hF0.trans g_X12_isSo_e
    obtain ⟨kc, kc1, kc2, kc3⟩ := hwc
    have hid : a1.toNatClampNeg = 3721 + 900 * a0.toNatClampNeg + 12 * kc := by have z0 := clampE a0; have z1 := clampE a1; omega
    rw [hid] at hws
    obtain ⟨q1, q2, q3, q4⟩ := (hG0.2.2.1 this_a (by rw [hT_this_a]; decide)).2.1 a0.toNatClampNeg (by have z0 := clampE a0; omega) kc kc2 hws.1 hws.2
    generalize hvf0 : (ri this_a (3721 + 900 * a0.toNatClampNeg + 12 * kc + 2)) = vf at q1 q2 q4
    generalize hTo : (ri this_a (3721 + 900 * a0.toNatClampNeg + 12 * kc + 3)) = vt at q2 q3 q4
    generalize hBB : 3970 + 900 * a0.toNatClampNeg + 2 * vf.toNatClampNeg = bb at q4
    have hok : oN (ri this_a) bb vf.toInt vt.toInt := by unfold oN; rw [show (vt.toInt - vf.toInt).toNat = vt.toNatClampNeg - vf.toNatClampNeg from by have z0 := clampE vf; have z1 := clampE vt; omega]; exact q4
    have hN0 : vN (ri this_a) bb vf.toInt vf.toInt = 0 ∧ tN (ri this_a) bb vf.toInt vf.toInt = 0 := by unfold vN tN; rw [Int.sub_self]; exact ⟨rfl, rfl⟩
    refine lv_iconst (v := 0) hx hb dX12_isSo_0 (by decide +kernel) ?_
    refine lv_istore (lv' := [(6, .int 0), (0, .ref this), (1, .int a0), (2, .int a1), (3, .int a2), (4, .int a3), (5, .int a4)]) hx hb dX12_isSo_1 hl (by decide +kernel) rfl (fun ls hl => ?_)
    refine lv_iconst (v := 0) hx hb dX12_isSo_3 (by decide +kernel) ?_
    refine lv_istore (lv' := [(7, .int 0), (6, .int 0), (0, .ref this), (1, .int a0), (2, .int a1), (3, .int a2), (4, .int a3), (5, .int a4)]) hx hb dX12_isSo_4 hl (by decide +kernel) rfl (fun ls hl => ?_)
    refine lv_aload_n hx hb dX12_isSo_6 rfl (lv_at hl 2 rfl) ?_
    refine pg_f (v := .ref this_a) (C := RX12) (T := TX12) (N := 31) hx hb hts (tw_i inlX12) hown hK hP hL_this hK_this (by decide +kernel) rfl 0 (by decide +kernel) (hts _ (tw_c tw_176)) (pq_hv rfl hR_this_a) dX12_isSo_7 ?_
    refine lv_iload_n hx hb dX12_isSo_10 rfl (lv_at hl 4 rfl) ?_
    refine lv_iconst (v := 2) hx hb dX12_isSo_11 (by decide +kernel) ?_
    refine lv_iadd hx hb dX12_isSo_12 ?_
    refine lv_topi (fun x_1 ex_1 => ?_)
    replace hF := hF.trans (ap_n ex_1)
    have h_2 : rg x_1 3723 12062 := rg_of_eq ex_1 (rg_add h_a1 (rg_k (2 : Int32) 2 rfl) (by decide +kernel))
    have uh_2 := h_2.1
    have vh_2 := h_2.2
    have tx_1 : (x_1).toInt = (a1).toInt + 2 := by rw [ex_1]; exact i_add_rg (a2 := (a1).toInt) (b2 := 2) rfl rfl h_a1 (rg_k (2 : Int32) 2 rfl) (by decide +kernel)
    refine pl_i hx hb hK hP hL_this_a hK_this_a hN_this_a (rg_in h_2 (by decide +kernel)) dX12_isSo_13 ?_
    refine lv_topi (fun x_3 ex_3 => ?_)
    replace hF := hF.trans (ap_n (vR_r hO_this_a (by decide +kernel) ex_3))
    have tt_4 : x_3 = vf := (ex_3.trans ((congrFun rfl _).trans (congrArg (ri this_a) (by have z0 := clampE a0; have z1 := clampE a1; have z2 := clampE x_1; omega)))).trans hvf0
    have tt_5 : (x_3).toInt = vf.toInt := congrArg Int32.toInt tt_4
    have tN0 : vN (ri this_a) bb vf.toInt (x_3).toInt = 0 ∧ tN (ri this_a) bb vf.toInt (x_3).toInt = 0 := by rw [tt_4]; exact hN0
    have h_6 : rg x_3 0 300 := ⟨by omega, by omega⟩
    have uh_6 := h_6.1
    have vh_6 := h_6.2
    refine lv_istore (lv' := [(8, .int x_3), (7, .int 0), (6, .int 0), (0, .ref this), (1, .int a0), (2, .int a1), (3, .int a2), (4, .int a3), (5, .int a4)]) hx hb dX12_isSo_14 hl (by decide +kernel) rfl (fun ls hl => ?_)
    have L_1184 : ∀ (n_1183 : Nat) (x_957 : Int32) (x_958 : Int32) (x_959 : Int32) (ri_960 : Nat → Nat → Int32) (rj_961 : Nat → Nat → Int64) (H : Heap) (locs : List Loc) (ls : Array Slot), rg x_957 0 301 → rg x_958 0 301 → rg x_959 0 300 → (vf.toInt ≤ (x_959).toInt ∧ (x_959).toInt ≤ vt.toInt) → ((x_957).toInt = vN (ri this_a) bb vf.toInt (x_959).toInt ∧ (x_958).toInt = tN (ri this_a) bb vf.toInt (x_959).toInt) → (∀ q, tg q ≠ 405 → ri_960 q = ri q) → (300 - (x_959).toInt).toNat < n_1183 → F = g_X12_isSo_L16 a0 a1 a2 a3 a4 (vI 12 σ this I) (vJ 12 σ this J) (vQ 12 σ this rq) n_1183 x_957 x_958 x_959 (vR 12 σ this ri_960) (vL 12 σ this rj_961) → FR 12 tg σ this (I, J, ri, rj, rq) (I, J, ri_960, rj_961, rq) → GM [] tg σ I ri I ri_960 rq → va_P D vwCl (pq_P t σ (I, J, ri_960, rj_961, rq)) H → va_D A (pq_P t σ (I, J, ri_960, rj_961, rq)) → va_S A s.heap H locs → lv_has ls 11 [(0, .ref this), (1, .int a0), (2, .int a1), (3, .int a2), (4, .int a3), (5, .int a4), (6, .int x_957), (7, .int x_958), (8, .int x_959)] → W p l e ({ frames := 2, cells := 0, slots := 0, locals := 46 } : Room) s m (List.toArray ([.ref this, .int a0, .int a1, .int a2, .int a3, .int a4] : List Value)) below meth c H locs 0 0 Q (F0 m 16 ls []) := by
      intro n_1183
      induction n_1183 with
      | zero => intro x_957 x_958 x_959 ri_960 rj_961 H locs ls h_1192 h_1193 h_1194 hrel_1195 hrel_1196 hrel_1197 hm_1182 hF hFr hG hP hD hS hl; exact absurd hm_1182 (Nat.not_lt_zero _)
      | succ n_1183 ih_1185 =>
        intro x_957 x_958 x_959 ri_960 rj_961 H locs ls h_1192 h_1193 h_1194 hrel_1195 hrel_1196 hrel_1197 hm_1182 hF hFr hG hP hD hS hl
        have uh_1192 := h_1192.1
        have vh_1192 := h_1192.2
        have uh_1193 := h_1193.1
        have vh_1193 := h_1193.2
        have uh_1194 := h_1194.1
        have vh_1194 := h_1194.2
        replace hF := hF.trans g_X12_isSo_L16_e
        refine lv_iload hx hb dX12_isSo_16 (lv_at hl 8 rfl) ?_
        refine lv_aload_n hx hb dX12_isSo_18 rfl (lv_at hl 0 rfl) ?_
        refine pg_f (v := .ref this_a) (C := RX12) (T := TX12) (N := 31) hx hb hts (tw_i inlX12) hown hK hP hL_this hK_this (by decide +kernel) rfl 0 (by decide +kernel) (hts _ (tw_c tw_176)) (pq_hv rfl hR_this_a) dX12_isSo_19 ?_
        refine lv_iload_n hx hb dX12_isSo_22 rfl (lv_at hl 2 rfl) ?_
        refine lv_iconst (v := 3) hx hb dX12_isSo_23 (by decide +kernel) ?_
        refine lv_iadd hx hb dX12_isSo_24 ?_
        refine lv_topi (fun x_1198 ex_1198 => ?_)
        replace hF := hF.trans (ap_n ex_1198)
        have h_1199 : rg x_1198 3724 12063 := rg_of_eq ex_1198 (rg_add h_a1 (rg_k (3 : Int32) 3 rfl) (by decide +kernel))
        have uh_1199 := h_1199.1
        have vh_1199 := h_1199.2
        have tx_1198 : (x_1198).toInt = (a1).toInt + 3 := by rw [ex_1198]; exact i_add_rg (a2 := (a1).toInt) (b2 := 3) rfl rfl h_a1 (rg_k (3 : Int32) 3 rfl) (by decide +kernel)
        refine pl_i hx hb hK hP hL_this_a hK_this_a hN_this_a (rg_in h_1199 (by decide +kernel)) dX12_isSo_25 ?_
        refine lv_topi (fun x_1200 ex_1200 => ?_)
        replace hF := hF.trans (ap_n (vR_r hO_this_a (by decide +kernel) ex_1200))
        have tt_1201 : x_1200 = vt := (ex_1200.trans ((congrFun (hrel_1197 this_a (by rw [hT_this_a]; decide)) _).trans (congrArg (ri this_a) (by have z0 := clampE a0; have z1 := clampE a1; have z2 := clampE x_1198; omega)))).trans hTo
        have tt_1202 : (x_1200).toInt = vt.toInt := congrArg Int32.toInt tt_1201
        refine lv_icmp_ge (tgt := 356) hx hb dX12_isSo_26 (by decide +kernel) (fun c_1203 => ?_) (fun c_1203 => ?_)
        · replace hF := hF.trans (if_pos c_1203)
          have tc_1208 : (x_1200).toInt ≤ (x_959).toInt := Int32.le_iff_toInt_le.mp c_1203
          have h_1209 : rg x_1200 (-2147483648) 300 := rg_le1 c_1203 (rg_full _) h_1194 (by decide +kernel)
          have uh_1209 := h_1209.1
          have vh_1209 := h_1209.2
          refine lv_aload_n hx hb dX12_isSo_356 rfl (lv_at hl 0 rfl) ?_
          obtain ⟨w_1210, hR_w_1210, hL_w_1210, hK_w_1210, hN_w_1210, hT_w_1210⟩ := sh_a hSH 405 (ci := 12) (kd := 15) (len := 330) rfl (by decide +kernel) hL_this hK_this
          have hO_w_1210 : w_1210 = vrow σ 405 this := vo_k (c := 12) hO_this hR_w_1210
          refine pg_f (v := .ref w_1210) (C := RX12) (T := TX12) (N := 31) hx hb hts (tw_i inlX12) hown hK hP hL_this hK_this (by decide +kernel) rfl 21 (by decide +kernel) (hts _ (tw_c tw_185)) (pq_hv rfl hR_w_1210) dX12_isSo_357 ?_
          refine lv_iconst (v := 0) hx hb dX12_isSo_360 (by decide +kernel) ?_
          refine pl_z hx hb hK hP hL_w_1210 hK_w_1210 hN_w_1210 (vp_in_iff.mpr (by decide +kernel)) dX12_isSo_361 ?_
          refine lv_topi (fun x_1211 ex_1211 => ?_)
          replace hF := hF.trans (ap_n (vR_r hO_w_1210 (by decide +kernel) ex_1211))
          have h_1212 : rg x_1211 0 1 := rg_of_eq ex_1211 (GM.rR hG hT_w_1210 rfl)
          have uh_1212 := h_1212.1
          have vh_1212 := h_1212.2
          rcases bool01 (rg_w h_1212 (by decide +kernel)) with e_1213 | e_1213
          · refine lv_tov 0 e_1213 ?_
            subst hQ
            exact W.zret (v := 0) hx hb hr (by decide +kernel) (fun t1 ht hW => ⟨⟨0, (σ, I, J, ri_960, rj_961, rq), rfl, ⟨ri_960, rj_961, rfl, hG, hrel_1197, (hF0.symm.trans (hF.trans (by rw [e_1213]))), hFr, (Or.inr ⟨rfl, trivial⟩)⟩, by rw [ht]; exact hP, va_K.moved hW.alike hK, hD⟩, hS.F ht⟩) hS.2.2 dX12_isSo_362
          · refine lv_tov 1 e_1213 ?_
            subst hQ
            exact W.zret (v := 1) hx hb hr (by decide +kernel) (fun t1 ht hW => ⟨⟨1, (σ, I, J, ri_960, rj_961, rq), rfl, ⟨ri_960, rj_961, rfl, hG, hrel_1197, (hF0.symm.trans (hF.trans (by rw [e_1213]))), hFr, (Or.inl ⟨rfl, trivial⟩)⟩, by rw [ht]; exact hP, va_K.moved hW.alike hK, hD⟩, hS.F ht⟩) hS.2.2 dX12_isSo_362
        · replace hF := hF.trans (if_neg c_1203)
          have tc_1214 : (x_959).toInt < (x_1200).toInt := Int32.lt_iff_toInt_lt.mp (nle c_1203)
          have h_1215 : rg x_1200 1 2147483647 := rg_lt2 (nle c_1203) h_1194 (rg_full _) (by decide +kernel)
          have uh_1215 := h_1215.1
          have vh_1215 := h_1215.2
          have h_1216 : rg x_959 0 299 := ⟨by omega, by omega⟩
          have uh_1216 := h_1216.1
          have vh_1216 := h_1216.2
          refine lv_aload_n hx hb dX12_isSo_29 rfl (lv_at hl 0 rfl) ?_
          refine pg_f (v := .ref this_a) (C := RX12) (T := TX12) (N := 31) hx hb hts (tw_i inlX12) hown hK hP hL_this hK_this (by decide +kernel) rfl 0 (by decide +kernel) (hts _ (tw_c tw_176)) (pq_hv rfl hR_this_a) dX12_isSo_30 ?_
          refine lv_sipush (v := 3720) hx hb dX12_isSo_33 (by decide +kernel) ?_
          refine lv_sipush (v := 900) hx hb dX12_isSo_36 (by decide +kernel) ?_
          refine lv_iload_n hx hb dX12_isSo_39 rfl (lv_at hl 1 rfl) ?_
          refine lv_imul hx hb dX12_isSo_40 ?_
          refine lv_topi (fun x_1217 ex_1217 => ?_)
          replace hF := hF.trans (ap_n ex_1217)
          have h_1218 : rg x_1217 0 8100 := rg_of_eq ex_1217 (rg_mul (rg_k (900 : Int32) 900 rfl) h_a0 (by decide +kernel))
          have uh_1218 := h_1218.1
          have vh_1218 := h_1218.2
          have tx_1217 : (x_1217).toInt = 900 * (a0).toInt := by rw [ex_1217]; exact i_mul_rg (a2 := 900) (b2 := (a0).toInt) rfl rfl (rg_k (900 : Int32) 900 rfl) h_a0 (by decide +kernel)
          refine lv_iadd hx hb dX12_isSo_41 ?_
          refine lv_topi (fun x_1219 ex_1219 => ?_)
          replace hF := hF.trans (ap_n ex_1219)
          have h_1220 : rg x_1219 3720 11820 := rg_of_eq ex_1219 (rg_add (rg_k (3720 : Int32) 3720 rfl) h_1218 (by decide +kernel))
          have uh_1220 := h_1220.1
          have vh_1220 := h_1220.2
          have tx_1219 : (x_1219).toInt = 3720 + (x_1217).toInt := by rw [ex_1219]; exact i_add_rg (a2 := 3720) (b2 := (x_1217).toInt) rfl rfl (rg_k (3720 : Int32) 3720 rfl) h_1218 (by decide +kernel)
          refine lv_sipush (v := 250) hx hb dX12_isSo_42 (by decide +kernel) ?_
          refine lv_iadd hx hb dX12_isSo_45 ?_
          refine lv_topi (fun x_1221 ex_1221 => ?_)
          replace hF := hF.trans (ap_n ex_1221)
          have h_1222 : rg x_1221 3970 12070 := rg_of_eq ex_1221 (rg_add h_1220 (rg_k (250 : Int32) 250 rfl) (by decide +kernel))
          have uh_1222 := h_1222.1
          have vh_1222 := h_1222.2
          have tx_1221 : (x_1221).toInt = (x_1219).toInt + 250 := by rw [ex_1221]; exact i_add_rg (a2 := (x_1219).toInt) (b2 := 250) rfl rfl h_1220 (rg_k (250 : Int32) 250 rfl) (by decide +kernel)
          refine lv_iconst (v := 2) hx hb dX12_isSo_46 (by decide +kernel) ?_
          refine lv_iload hx hb dX12_isSo_47 (lv_at hl 8 rfl) ?_
          refine lv_imul hx hb dX12_isSo_49 ?_
          refine lv_topi (fun x_1223 ex_1223 => ?_)
          replace hF := hF.trans (ap_n ex_1223)
          have h_1224 : rg x_1223 0 598 := rg_of_eq ex_1223 (rg_mul (rg_k (2 : Int32) 2 rfl) h_1216 (by decide +kernel))
          have uh_1224 := h_1224.1
          have vh_1224 := h_1224.2
          have tx_1223 : (x_1223).toInt = 2 * (x_959).toInt := by rw [ex_1223]; exact i_mul_rg (a2 := 2) (b2 := (x_959).toInt) rfl rfl (rg_k (2 : Int32) 2 rfl) h_1216 (by decide +kernel)
          refine lv_iadd hx hb dX12_isSo_50 ?_
          refine lv_topi (fun x_1225 ex_1225 => ?_)
          replace hF := hF.trans (ap_n ex_1225)
          have h_1226 : rg x_1225 3970 12668 := rg_of_eq ex_1225 (rg_add h_1222 h_1224 (by decide +kernel))
          have uh_1226 := h_1226.1
          have vh_1226 := h_1226.2
          have tx_1225 : (x_1225).toInt = (x_1221).toInt + (x_1223).toInt := by rw [ex_1225]; exact i_add_rg (a2 := (x_1221).toInt) (b2 := (x_1223).toInt) rfl rfl h_1222 h_1224 (by decide +kernel)
          refine pl_i hx hb hK hP hL_this_a hK_this_a hN_this_a (rg_in h_1226 (by decide +kernel)) dX12_isSo_51 ?_
          refine lv_topi (fun x_1227 ex_1227 => ?_)
          replace hF := hF.trans (ap_n (vR_r hO_this_a (by decide +kernel) ex_1227))
          have ho : ri this_a (bb + 2 * ((x_959).toInt - vf.toInt).toNat) = x_1227 := ((congrArg (ri this_a) (by have z0 := clampE a0; have z1 := clampE vf; have z2 := clampE x_959; have z3 := clampE x_1225; omega)).trans ((congrFun (hrel_1197 this_a (by rw [hT_this_a]; decide)) _).symm.trans ex_1227.symm))
          have hoi := oN_b (oN_le hok (i := (x_959).toInt) (by omega)) (by omega)
          have hoj := oN_le hok (i := (x_959).toInt + 1) (by omega)
          refine lv_istore (lv' := [(9, .int x_1227), (0, .ref this), (1, .int a0), (2, .int a1), (3, .int a2), (4, .int a3), (5, .int a4), (6, .int x_957), (7, .int x_958), (8, .int x_959)]) hx hb dX12_isSo_52 hl (by decide +kernel) rfl (fun ls hl => ?_)
          refine lv_aload_n hx hb dX12_isSo_54 rfl (lv_at hl 1 rfl) ?_
          refine pg_f (v := .ref this_a) (C := RX12) (T := TX12) (N := 31) hx hb hts (tw_i inlX12) hown hK hP hL_this hK_this (by decide +kernel) rfl 0 (by decide +kernel) (hts _ (tw_c tw_176)) (pq_hv rfl hR_this_a) dX12_isSo_55 ?_
          refine lv_sipush (v := 3720) hx hb dX12_isSo_58 (by decide +kernel) ?_
          refine lv_sipush (v := 900) hx hb dX12_isSo_61 (by decide +kernel) ?_
          refine lv_iload_n hx hb dX12_isSo_64 rfl (lv_at hl 2 rfl) ?_
          refine lv_imul hx hb dX12_isSo_65 ?_
          refine lv_topi (fun x_1228 ex_1228 => ?_)
          replace hF := hF.trans (ap_n ex_1228)
          have h_1229 : rg x_1228 0 8100 := rg_of_eq ex_1228 (rg_mul (rg_k (900 : Int32) 900 rfl) h_a0 (by decide +kernel))
          have uh_1229 := h_1229.1
          have vh_1229 := h_1229.2
          have tx_1228 : (x_1228).toInt = 900 * (a0).toInt := by rw [ex_1228]; exact i_mul_rg (a2 := 900) (b2 := (a0).toInt) rfl rfl (rg_k (900 : Int32) 900 rfl) h_a0 (by decide +kernel)
          refine lv_iadd hx hb dX12_isSo_66 ?_
          refine lv_topi (fun x_1230 ex_1230 => ?_)
          replace hF := hF.trans (ap_n ex_1230)
          have h_1231 : rg x_1230 3720 11820 := rg_of_eq ex_1230 (rg_add (rg_k (3720 : Int32) 3720 rfl) h_1229 (by decide +kernel))
          have uh_1231 := h_1231.1
          have vh_1231 := h_1231.2
          have tx_1230 : (x_1230).toInt = 3720 + (x_1228).toInt := by rw [ex_1230]; exact i_add_rg (a2 := 3720) (b2 := (x_1228).toInt) rfl rfl (rg_k (3720 : Int32) 3720 rfl) h_1229 (by decide +kernel)
          refine lv_sipush (v := 250) hx hb dX12_isSo_67 (by decide +kernel) ?_
          refine lv_iadd hx hb dX12_isSo_70 ?_
          refine lv_topi (fun x_1232 ex_1232 => ?_)
          replace hF := hF.trans (ap_n ex_1232)
          have h_1233 : rg x_1232 3970 12070 := rg_of_eq ex_1232 (rg_add h_1231 (rg_k (250 : Int32) 250 rfl) (by decide +kernel))
          have uh_1233 := h_1233.1
          have vh_1233 := h_1233.2
          have tx_1232 : (x_1232).toInt = (x_1230).toInt + 250 := by rw [ex_1232]; exact i_add_rg (a2 := (x_1230).toInt) (b2 := 250) rfl rfl h_1231 (rg_k (250 : Int32) 250 rfl) (by decide +kernel)
          refine lv_iconst (v := 2) hx hb dX12_isSo_71 (by decide +kernel) ?_
          refine lv_iload hx hb dX12_isSo_72 (lv_at hl 9 rfl) ?_
          refine lv_imul hx hb dX12_isSo_74 ?_
          refine lv_topi (fun x_1234 ex_1234 => ?_)
          replace hF := hF.trans (ap_n ex_1234)
          have h_1235 : rg x_1234 0 598 := rg_of_eq ex_1234 (rg_mul (rg_k (2 : Int32) 2 rfl) h_1216 (by decide +kernel))
          have uh_1235 := h_1235.1
          have vh_1235 := h_1235.2
          have tx_1234 : (x_1234).toInt = 2 * (x_959).toInt := by rw [ex_1234]; exact i_mul_rg (a2 := 2) (b2 := (x_959).toInt) rfl rfl (rg_k (2 : Int32) 2 rfl) h_1216 (by decide +kernel)
          refine lv_iadd hx hb dX12_isSo_75 ?_
          refine lv_topi (fun x_1236 ex_1236 => ?_)
          replace hF := hF.trans (ap_n ex_1236)
          have h_1237 : rg x_1236 3970 12668 := rg_of_eq ex_1236 (rg_add h_1233 h_1235 (by decide +kernel))
          have uh_1237 := h_1237.1
          have vh_1237 := h_1237.2
          have tx_1236 : (x_1236).toInt = (x_1232).toInt + (x_1234).toInt := by rw [ex_1236]; exact i_add_rg (a2 := (x_1232).toInt) (b2 := (x_1234).toInt) rfl rfl h_1233 h_1235 (by decide +kernel)
          refine lv_iconst (v := 1) hx hb dX12_isSo_76 (by decide +kernel) ?_
          refine lv_iadd hx hb dX12_isSo_77 ?_
          refine lv_topi (fun x_1238 ex_1238 => ?_)
          replace hF := hF.trans (ap_n ex_1238)
          have h_1239 : rg x_1238 3971 12669 := rg_of_eq ex_1238 (rg_add h_1237 (rg_k (1 : Int32) 1 rfl) (by decide +kernel))
          have uh_1239 := h_1239.1
          have vh_1239 := h_1239.2
          have tx_1238 : (x_1238).toInt = (x_1236).toInt + 1 := by rw [ex_1238]; exact i_add_rg (a2 := (x_1236).toInt) (b2 := 1) rfl rfl h_1237 (rg_k (1 : Int32) 1 rfl) (by decide +kernel)
          refine pl_i hx hb hK hP hL_this_a hK_this_a hN_this_a (rg_in h_1239 (by decide +kernel)) dX12_isSo_78 ?_
          refine lv_topi (fun x_1240 ex_1240 => ?_)
          replace hF := hF.trans (ap_n (vR_r hO_this_a (by decide +kernel) ex_1240))
          refine lv_istore (lv' := [(10, .int x_1240), (9, .int x_1227), (0, .ref this), (1, .int a0), (2, .int a1), (3, .int a2), (4, .int a3), (5, .int a4), (6, .int x_957), (7, .int x_958), (8, .int x_959)]) hx hb dX12_isSo_79 hl (by decide +kernel) rfl (fun ls hl => ?_)
          refine lv_iload hx hb dX12_isSo_81 (lv_at hl 1 rfl) ?_
          refine lv_iconst (v := 1) hx hb dX12_isSo_83 (by decide +kernel) ?_
          refine lv_icmp_gt (tgt := 123) hx hb dX12_isSo_84 (by decide +kernel) (fun c_1241 => ?_) (fun c_1241 => ?_)
          · replace hF := hF.trans (if_pos c_1241)
            have tc_1246 : 1 < (x_1227).toInt := Int32.lt_iff_toInt_lt.mp c_1241
            have h_1247 : rg x_1227 2 2147483647 := rg_lt2 c_1241 (rg_k (1 : Int32) 1 rfl) (rg_full _) (by decide +kernel)
            have uh_1247 := h_1247.1
            have vh_1247 := h_1247.2
            refine lv_iload hx hb dX12_isSo_123 (lv_at hl 1 rfl) ?_
            refine lv_iconst (v := 2) hx hb dX12_isSo_125 (by decide +kernel) ?_
            refine lv_icmp_ne (tgt := 151) hx hb dX12_isSo_126 (by decide +kernel) (fun c_1248 => ?_) (fun c_1248 => ?_)
            · replace hF := hF.trans (if_neg c_1248)
              have tc_1253 : (x_1227).toInt ≠ 2 := fun q => c_1248 (Int32.toInt_inj.mp q)
              have h_1254 : rg x_1227 3 2147483647 := rg_ne c_1248 h_1247 2 rfl (by decide +kernel)
              have uh_1254 := h_1254.1
              have vh_1254 := h_1254.2
              refine lv_iload hx hb dX12_isSo_151 (lv_at hl 1 rfl) ?_
              refine lv_bipush (v := 10) hx hb dX12_isSo_153 (by decide +kernel) ?_
              refine lv_icmp_ge (tgt := 194) hx hb dX12_isSo_155 (by decide +kernel) (fun c_1255 => ?_) (fun c_1255 => ?_)
              · replace hF := hF.trans (if_pos c_1255)
                have tc_1260 : 10 ≤ (x_1227).toInt := Int32.le_iff_toInt_le.mp c_1255
                have h_1261 : rg x_1227 10 2147483647 := rg_le2 c_1255 (rg_k (10 : Int32) 10 rfl) h_1254 (by decide +kernel)
                have uh_1261 := h_1261.1
                have vh_1261 := h_1261.2
                refine lv_iload hx hb dX12_isSo_194 (lv_at hl 1 rfl) ?_
                refine lv_bipush (v := 20) hx hb dX12_isSo_196 (by decide +kernel) ?_
                refine lv_icmp_ge (tgt := 238) hx hb dX12_isSo_198 (by decide +kernel) (fun c_1262 => ?_) (fun c_1262 => ?_)
                · replace hF := hF.trans (if_pos c_1262)
                  have tc_1267 : 20 ≤ (x_1227).toInt := Int32.le_iff_toInt_le.mp c_1262
                  have h_1268 : rg x_1227 20 2147483647 := rg_le2 c_1262 (rg_k (20 : Int32) 20 rfl) h_1261 (by decide +kernel)
                  have uh_1268 := h_1268.1
                  have vh_1268 := h_1268.2
                  refine lv_iload hx hb dX12_isSo_238 (lv_at hl 1 rfl) ?_
                  refine lv_bipush (v := 20) hx hb dX12_isSo_240 (by decide +kernel) ?_
                  refine lv_icmp_ne (tgt := 274) hx hb dX12_isSo_242 (by decide +kernel) (fun c_1269 => ?_) (fun c_1269 => ?_)
                  · replace hF := hF.trans (if_neg c_1269)
                    have tc_1274 : (x_1227).toInt ≠ 20 := fun q => c_1269 (Int32.toInt_inj.mp q)
                    have h_1275 : rg x_1227 21 2147483647 := rg_ne c_1269 h_1268 20 rfl (by decide +kernel)
                    have uh_1275 := h_1275.1
                    have vh_1275 := h_1275.2
                    have his := is_6 (f := ri this_a) (b := bb) (fr := vf.toInt) (i := (x_959).toInt) (by omega) ho (by omega) hoj
                    have h_1276 : rg x_957 0 300 := ⟨by omega, by omega⟩
                    have uh_1276 := h_1276.1
                    have vh_1276 := h_1276.2
                    have h_1277 : rg x_958 2 300 := ⟨by omega, by omega⟩
                    have uh_1277 := h_1277.1
                    have vh_1277 := h_1277.2
                    obtain ⟨x_1278, ex_1278⟩ : ∃ y : Int32, y = x_958 + Int32.ofInt (-1) := ⟨_, rfl⟩
                    replace hF := hF.trans (ap_n ex_1278)
                    have h_1279 : rg x_1278 1 299 := rg_of_eq ex_1278 (rg_add h_1277 (rg_k (Int32.ofInt (-1)) (-1) rfl) (by decide +kernel))
                    have uh_1279 := h_1279.1
                    have vh_1279 := h_1279.2
                    have tx_1278 : (x_1278).toInt = (x_958).toInt + (-1) := by rw [ex_1278]; exact i_add_rg (a2 := (x_958).toInt) (b2 := (-1)) rfl rfl h_1277 (rg_k (Int32.ofInt (-1)) (-1) rfl) (by decide +kernel)
                    refine lv_iinc (v := x_1278) (lv' := [(7, .int x_1278), (10, .int x_1240), (9, .int x_1227), (0, .ref this), (1, .int a0), (2, .int a1), (3, .int a2), (4, .int a3), (5, .int a4), (6, .int x_957), (8, .int x_959)]) hx hb dX12_isSo_274 hl (k := 9) rfl ex_1278.symm (by decide +kernel) rfl (fun ls hl => ?_)
                    refine lv_aload_n hx hb dX12_isSo_277 rfl (lv_at hl 3 rfl) ?_
                    obtain ⟨w_1280, hR_w_1280, hL_w_1280, hK_w_1280, hN_w_1280, hT_w_1280⟩ := sh_a hSH 405 (ci := 12) (kd := 15) (len := 330) rfl (by decide +kernel) hL_this hK_this
                    have hO_w_1280 : w_1280 = vrow σ 405 this := vo_k (c := 12) hO_this hR_w_1280
                    refine pg_f (v := .ref w_1280) (C := RX12) (T := TX12) (N := 31) hx hb hts (tw_i inlX12) hown hK hP hL_this hK_this (by decide +kernel) rfl 21 (by decide +kernel) (hts _ (tw_c tw_185)) (pq_hv rfl hR_w_1280) dX12_isSo_278 ?_
                    refine lv_iload hx hb dX12_isSo_281 (lv_at hl 0 rfl) ?_
                    refine lv_iconst (v := 1) hx hb dX12_isSo_283 (by decide +kernel) ?_
                    refine lv_isub hx hb dX12_isSo_284 ?_
                    refine lv_topi (fun x_1281 ex_1281 => ?_)
                    replace hF := hF.trans (ap_n ex_1281)
                    have h_1282 : rg x_1281 0 298 := rg_of_eq ex_1281 (rg_sub h_1279 (rg_k (1 : Int32) 1 rfl) (by decide +kernel))
                    have uh_1282 := h_1282.1
                    have vh_1282 := h_1282.2
                    have tx_1281 : (x_1281).toInt = (x_1278).toInt - 1 := by rw [ex_1281]; exact i_sub_rg (a2 := (x_1278).toInt) (b2 := 1) rfl rfl h_1279 (rg_k (1 : Int32) 1 rfl) (by decide +kernel)
                    refine lv_iload hx hb dX12_isSo_285 (lv_at hl 2 rfl) ?_
                    refine lv_bipush (v := 21) hx hb dX12_isSo_287 (by decide +kernel) ?_
                    have K_1326 : ∀  (H : Heap) (locs : List Loc) (ls : Array Slot), F = g_X12_isSo_K349 x_957 x_959 (vR 12 σ this ri_960) (vL 12 σ this rj_961) x_1281 (g_X12_isSo_L16 a0 a1 a2 a3 a4 (vI 12 σ this I) (vJ 12 σ this J) (vQ 12 σ this rq) n_1183) x_1278  → FR 12 tg σ this (I, J, ri, rj, rq) (I, J, ri_960, rj_961, rq) → GM [] tg σ I ri I ri_960 rq → va_P D vwCl (pq_P t σ (I, J, ri_960, rj_961, rq)) H → va_D A (pq_P t σ (I, J, ri_960, rj_961, rq)) → va_S A s.heap H locs → lv_has ls 11 [(0, .ref this), (1, .int a0), (2, .int a1), (3, .int a2), (4, .int a3), (5, .int a4), (6, .int x_957), (7, .int x_1278), (8, .int x_959)] → W p l e ({ frames := 2, cells := 0, slots := 0, locals := 46 } : Room) s m (List.toArray ([.ref this, .int a0, .int a1, .int a2, .int a3, .int a4] : List Value)) below meth c H locs 0 0 Q (F0 m 349 ls [.int 0, .int x_1281, .ref w_1280]) := by
                      intro H locs ls hF hFr hG hP hD hS hl
                      replace hF := hF.trans g_X12_isSo_K349_e
                      refine pt_z hx hb hK hP hD hS hL_w_1280 hK_w_1280 hN_w_1280 (rg_in h_1282 (by decide +kernel)) (rg_w (rg_k (0 : Int32) 0 rfl) (by decide +kernel)) dX12_isSo_349 (fun r_1327 H locs er_1327 hP hD hS => ?_)
                      replace hFr := fr_R hFr hO_w_1280 (by decide +kernel) er_1327
                      replace hF := hF.trans (ap_n (vR_st hVT hO_w_1280 (by decide +kernel) er_1327))
                      have hG := GM.wR hG hSH hT_w_1280 rfl er_1327 (rg_w (rg_k (0 : Int32) 0 rfl) (by decide +kernel)) (by decide +kernel)
                      obtain ⟨x_1328, ex_1328⟩ : ∃ y : Int32, y = x_959 + Int32.ofInt 1 := ⟨_, rfl⟩
                      replace hF := hF.trans (ap_n ex_1328)
                      have h_1329 : rg x_1328 1 300 := rg_of_eq ex_1328 (rg_add h_1216 (rg_k (Int32.ofInt 1) 1 rfl) (by decide +kernel))
                      have uh_1329 := h_1329.1
                      have vh_1329 := h_1329.2
                      have tx_1328 : (x_1328).toInt = (x_959).toInt + 1 := by rw [ex_1328]; exact i_add_rg (a2 := (x_959).toInt) (b2 := 1) rfl rfl h_1216 (rg_k (Int32.ofInt 1) 1 rfl) (by decide +kernel)
                      refine lv_iinc (v := x_1328) (lv' := [(8, .int x_1328), (0, .ref this), (1, .int a0), (2, .int a1), (3, .int a2), (4, .int a3), (5, .int a4), (6, .int x_957), (7, .int x_1278)]) hx hb dX12_isSo_350 hl (k := 8) rfl ex_1328.symm (by decide +kernel) rfl (fun ls hl => ?_)
                      have tv1 : vN (ri this_a) bb vf.toInt ((x_1328).toInt) = vN (ri this_a) bb vf.toInt ((x_959).toInt + 1) := by rw [tx_1328]
                      have tv2 : tN (ri this_a) bb vf.toInt ((x_1328).toInt) = tN (ri this_a) bb vf.toInt ((x_959).toInt + 1) := by rw [tx_1328]
                      refine lv_goto (tgt := 16) hx hb dX12_isSo_353 (by decide +kernel) ?_
                      exact ih_1185 x_957 x_1278 x_1328 r_1327 rj_961 _ _ _ (rg_w h_1276 (by decide +kernel)) (rg_w h_1279 (by decide +kernel)) (rg_w h_1329 (by decide +kernel)) (by omega) (by omega) (fr_w hrel_1197 er_1327 hT_w_1280) (ms_up 1 hm_1182 ex_1328 rfl (by decide +kernel) h_1216 (by decide +kernel) (by decide +kernel)) hF hFr hG hP hD hS (lv_sub hl [1, 2, 3, 4, 5, 6, 7, 8, 0] rfl)
                    have K_1330 : ∀  (H : Heap) (locs : List Loc) (ls : Array Slot), F = g_X12_isSo_K349_2 x_957 x_959 (vR 12 σ this ri_960) (vL 12 σ this rj_961) x_1281 (g_X12_isSo_L16 a0 a1 a2 a3 a4 (vI 12 σ this I) (vJ 12 σ this J) (vQ 12 σ this rq) n_1183) x_1278  → FR 12 tg σ this (I, J, ri, rj, rq) (I, J, ri_960, rj_961, rq) → GM [] tg σ I ri I ri_960 rq → va_P D vwCl (pq_P t σ (I, J, ri_960, rj_961, rq)) H → va_D A (pq_P t σ (I, J, ri_960, rj_961, rq)) → va_S A s.heap H locs → lv_has ls 11 [(0, .ref this), (1, .int a0), (2, .int a1), (3, .int a2), (4, .int a3), (5, .int a4), (6, .int x_957), (7, .int x_1278), (8, .int x_959)] → W p l e ({ frames := 2, cells := 0, slots := 0, locals := 46 } : Room) s m (List.toArray ([.ref this, .int a0, .int a1, .int a2, .int a3, .int a4] : List Value)) below meth c H locs 0 0 Q (F0 m 349 ls [.int 1, .int x_1281, .ref w_1280]) := by
                      intro H locs ls hF hFr hG hP hD hS hl
                      replace hF := hF.trans g_X12_isSo_K349_2_e
                      refine pt_z hx hb hK hP hD hS hL_w_1280 hK_w_1280 hN_w_1280 (rg_in h_1282 (by decide +kernel)) (rg_w (rg_k (1 : Int32) 1 rfl) (by decide +kernel)) dX12_isSo_349 (fun r_1331 H locs er_1331 hP hD hS => ?_)
                      replace hFr := fr_R hFr hO_w_1280 (by decide +kernel) er_1331
                      replace hF := hF.trans (ap_n (vR_st hVT hO_w_1280 (by decide +kernel) er_1331))
                      have hG := GM.wR hG hSH hT_w_1280 rfl er_1331 (rg_w (rg_k (1 : Int32) 1 rfl) (by decide +kernel)) (by decide +kernel)
                      obtain ⟨x_1332, ex_1332⟩ : ∃ y : Int32, y = x_959 + Int32.ofInt 1 := ⟨_, rfl⟩
                      replace hF := hF.trans (ap_n ex_1332)
                      have h_1333 : rg x_1332 1 300 := rg_of_eq ex_1332 (rg_add h_1216 (rg_k (Int32.ofInt 1) 1 rfl) (by decide +kernel))
                      have uh_1333 := h_1333.1
                      have vh_1333 := h_1333.2
                      have tx_1332 : (x_1332).toInt = (x_959).toInt + 1 := by rw [ex_1332]; exact i_add_rg (a2 := (x_959).toInt) (b2 := 1) rfl rfl h_1216 (rg_k (Int32.ofInt 1) 1 rfl) (by decide +kernel)
                      refine lv_iinc (v := x_1332) (lv' := [(8, .int x_1332), (0, .ref this), (1, .int a0), (2, .int a1), (3, .int a2), (4, .int a3), (5, .int a4), (6, .int x_957), (7, .int x_1278)]) hx hb dX12_isSo_350 hl (k := 8) rfl ex_1332.symm (by decide +kernel) rfl (fun ls hl => ?_)
                      have tv1 : vN (ri this_a) bb vf.toInt ((x_1332).toInt) = vN (ri this_a) bb vf.toInt ((x_959).toInt + 1) := by rw [tx_1332]
                      have tv2 : tN (ri this_a) bb vf.toInt ((x_1332).toInt) = tN (ri this_a) bb vf.toInt ((x_959).toInt + 1) := by rw [tx_1332]
                      refine lv_goto (tgt := 16) hx hb dX12_isSo_353 (by decide +kernel) ?_
                      exact ih_1185 x_957 x_1278 x_1332 r_1331 rj_961 _ _ _ (rg_w h_1276 (by decide +kernel)) (rg_w h_1279 (by decide +kernel)) (rg_w h_1333 (by decide +kernel)) (by omega) (by omega) (fr_w hrel_1197 er_1331 hT_w_1280) (ms_up 1 hm_1182 ex_1332 rfl (by decide +kernel) h_1216 (by decide +kernel) (by decide +kernel)) hF hFr hG hP hD hS (lv_sub hl [1, 2, 3, 4, 5, 6, 7, 8, 0] rfl)
                    refine lv_icmp_ne (tgt := 322) hx hb dX12_isSo_289 (by decide +kernel) (fun c_1334 => ?_) (fun c_1334 => ?_)
                    · replace hF := hF.trans (if_neg c_1334)
                      have tc_1339 : (x_1227).toInt ≠ 21 := fun q => c_1334 (Int32.toInt_inj.mp q)
                      have h_1340 : rg x_1227 22 2147483647 := rg_ne c_1334 h_1275 21 rfl (by decide +kernel)
                      have uh_1340 := h_1340.1
                      have vh_1340 := h_1340.2
                      refine lv_aload_n hx hb dX12_isSo_322 rfl (lv_at hl 3 rfl) ?_
                      refine pg_f (v := .ref w_1280) (C := RX12) (T := TX12) (N := 31) hx hb hts (tw_i inlX12) hown hK hP hL_this hK_this (by decide +kernel) rfl 21 (by decide +kernel) (hts _ (tw_c tw_185)) (pq_hv rfl hR_w_1280) dX12_isSo_323 ?_
                      refine lv_iload hx hb dX12_isSo_326 (lv_at hl 0 rfl) ?_
                      refine lv_iconst (v := 1) hx hb dX12_isSo_328 (by decide +kernel) ?_
                      refine lv_isub hx hb dX12_isSo_329 ?_
                      refine lv_topi (fun x_1341 ex_1341 => ?_)
                      replace hF := hF.trans (ap_n ex_1341)
                      have h_1342 : rg x_1341 0 298 := rg_of_eq ex_1341 (rg_sub h_1279 (rg_k (1 : Int32) 1 rfl) (by decide +kernel))
                      have uh_1342 := h_1342.1
                      have vh_1342 := h_1342.2
                      have tx_1341 : (x_1341).toInt = (x_1278).toInt - 1 := by rw [ex_1341]; exact i_sub_rg (a2 := (x_1278).toInt) (b2 := 1) rfl rfl h_1279 (rg_k (1 : Int32) 1 rfl) (by decide +kernel)
                      refine pl_z hx hb hK hP hL_w_1280 hK_w_1280 hN_w_1280 (rg_in h_1342 (by decide +kernel)) dX12_isSo_330 ?_
                      refine lv_topi (fun x_1343 ex_1343 => ?_)
                      replace hF := hF.trans (ap_n (vR_r hO_w_1280 (by decide +kernel) ex_1343))
                      have h_1344 : rg x_1343 0 1 := rg_of_eq ex_1343 (GM.rR hG hT_w_1280 rfl)
                      have uh_1344 := h_1344.1
                      have vh_1344 := h_1344.2
                      have K_1357 : ∀  (H : Heap) (locs : List Loc) (ls : Array Slot), F = g_X12_isSo_K344 x_957 x_959 (vR 12 σ this ri_960) (vL 12 σ this rj_961) x_1281 (g_X12_isSo_L16 a0 a1 a2 a3 a4 (vI 12 σ this I) (vJ 12 σ this J) (vQ 12 σ this rq) n_1183) x_1278  → FR 12 tg σ this (I, J, ri, rj, rq) (I, J, ri_960, rj_961, rq) → GM [] tg σ I ri I ri_960 rq → va_P D vwCl (pq_P t σ (I, J, ri_960, rj_961, rq)) H → va_D A (pq_P t σ (I, J, ri_960, rj_961, rq)) → va_S A s.heap H locs → lv_has ls 11 [(0, .ref this), (1, .int a0), (2, .int a1), (3, .int a2), (4, .int a3), (5, .int a4), (6, .int x_957), (7, .int x_1278), (8, .int x_959)] → W p l e ({ frames := 2, cells := 0, slots := 0, locals := 46 } : Room) s m (List.toArray ([.ref this, .int a0, .int a1, .int a2, .int a3, .int a4] : List Value)) below meth c H locs 0 0 Q (F0 m 344 ls [.int x_1281, .ref w_1280]) := by
                        intro H locs ls hF hFr hG hP hD hS hl
                        replace hF := hF.trans g_X12_isSo_K344_e
                        refine lv_iconst (v := 1) hx hb dX12_isSo_344 (by decide +kernel) ?_
                        refine lv_goto (tgt := 349) hx hb dX12_isSo_345 (by decide +kernel) ?_
                        exact K_1330 _ _ _ hF hFr hG hP hD hS (lv_sub hl [0, 1, 2, 3, 4, 5, 6, 7, 8] rfl)
                      refine lv_if_ne (tgt := 344) hx hb dX12_isSo_331 (by decide +kernel) (fun c_1358 => ?_) (fun c_1358 => ?_)
                      · replace hF := hF.trans (if_neg c_1358)
                        have tc_1363 : (x_1343).toInt ≠ 0 := fun q => c_1358 (Int32.toInt_inj.mp q)
                        have h_1364 : rg x_1343 1 1 := rg_ne c_1358 h_1344 0 rfl (by decide +kernel)
                        have uh_1364 := h_1364.1
                        have vh_1364 := h_1364.2
                        exact K_1357 _ _ _ hF hFr hG hP hD hS (lv_sub hl [3, 4, 5, 6, 7, 8, 9, 0, 10] rfl)
                      · replace hF := hF.trans (if_pos c_1358)
                        have tc_1365 : (x_1343).toInt = 0 := congrArg Int32.toInt c_1358
                        have h_1366 : rg x_1343 0 0 := rg_and h_1344 (rg_of_eq c_1358 (rg_k (0 : Int32) 0 rfl)) (by decide +kernel)
                        have uh_1366 := h_1366.1
                        have vh_1366 := h_1366.2
                        refine lv_aload_n hx hb dX12_isSo_334 rfl (lv_at hl 3 rfl) ?_
                        refine pg_f (v := .ref w_1280) (C := RX12) (T := TX12) (N := 31) hx hb hts (tw_i inlX12) hown hK hP hL_this hK_this (by decide +kernel) rfl 21 (by decide +kernel) (hts _ (tw_c tw_185)) (pq_hv rfl hR_w_1280) dX12_isSo_335 ?_
                        refine lv_iload hx hb dX12_isSo_338 (lv_at hl 0 rfl) ?_
                        refine pl_z hx hb hK hP hL_w_1280 hK_w_1280 hN_w_1280 (rg_in h_1279 (by decide +kernel)) dX12_isSo_340 ?_
                        refine lv_topi (fun x_1367 ex_1367 => ?_)
                        replace hF := hF.trans (ap_n (vR_r hO_w_1280 (by decide +kernel) ex_1367))
                        have h_1368 : rg x_1367 0 1 := rg_of_eq ex_1367 (GM.rR hG hT_w_1280 rfl)
                        have uh_1368 := h_1368.1
                        have vh_1368 := h_1368.2
                        refine lv_if_eq (tgt := 348) hx hb dX12_isSo_341 (by decide +kernel) (fun c_1369 => ?_) (fun c_1369 => ?_)
                        · replace hF := hF.trans (if_pos c_1369)
                          have tc_1374 : (x_1367).toInt = 0 := congrArg Int32.toInt c_1369
                          have h_1375 : rg x_1367 0 0 := rg_and h_1368 (rg_of_eq c_1369 (rg_k (0 : Int32) 0 rfl)) (by decide +kernel)
                          have uh_1375 := h_1375.1
                          have vh_1375 := h_1375.2
                          refine lv_iconst (v := 0) hx hb dX12_isSo_348 (by decide +kernel) ?_
                          exact K_1326 _ _ _ hF hFr hG hP hD hS (lv_sub hl [3, 4, 5, 6, 7, 8, 9, 0, 10] rfl)
                        · replace hF := hF.trans (if_neg c_1369)
                          have tc_1376 : (x_1367).toInt ≠ 0 := fun q => c_1369 (Int32.toInt_inj.mp q)
                          have h_1377 : rg x_1367 1 1 := rg_ne c_1369 h_1368 0 rfl (by decide +kernel)
                          have uh_1377 := h_1377.1
                          have vh_1377 := h_1377.2
                          exact K_1357 _ _ _ hF hFr hG hP hD hS (lv_sub hl [3, 4, 5, 6, 7, 8, 9, 0, 10] rfl)
                    · replace hF := hF.trans (if_pos c_1334)
                      have tc_1378 : (x_1227).toInt = 21 := congrArg Int32.toInt c_1334
                      have h_1379 : rg x_1227 21 21 := rg_and h_1275 (rg_of_eq c_1334 (rg_k (21 : Int32) 21 rfl)) (by decide +kernel)
                      have uh_1379 := h_1379.1
                      have vh_1379 := h_1379.2
                      refine lv_aload_n hx hb dX12_isSo_292 rfl (lv_at hl 3 rfl) ?_
                      refine pg_f (v := .ref w_1280) (C := RX12) (T := TX12) (N := 31) hx hb hts (tw_i inlX12) hown hK hP hL_this hK_this (by decide +kernel) rfl 21 (by decide +kernel) (hts _ (tw_c tw_185)) (pq_hv rfl hR_w_1280) dX12_isSo_293 ?_
                      refine lv_iload hx hb dX12_isSo_296 (lv_at hl 0 rfl) ?_
                      refine lv_iconst (v := 1) hx hb dX12_isSo_298 (by decide +kernel) ?_
                      refine lv_isub hx hb dX12_isSo_299 ?_
                      refine lv_topi (fun x_1380 ex_1380 => ?_)
                      replace hF := hF.trans (ap_n ex_1380)
                      have h_1381 : rg x_1380 0 298 := rg_of_eq ex_1380 (rg_sub h_1279 (rg_k (1 : Int32) 1 rfl) (by decide +kernel))
                      have uh_1381 := h_1381.1
                      have vh_1381 := h_1381.2
                      have tx_1380 : (x_1380).toInt = (x_1278).toInt - 1 := by rw [ex_1380]; exact i_sub_rg (a2 := (x_1278).toInt) (b2 := 1) rfl rfl h_1279 (rg_k (1 : Int32) 1 rfl) (by decide +kernel)
                      refine pl_z hx hb hK hP hL_w_1280 hK_w_1280 hN_w_1280 (rg_in h_1381 (by decide +kernel)) dX12_isSo_300 ?_
                      refine lv_topi (fun x_1382 ex_1382 => ?_)
                      replace hF := hF.trans (ap_n (vR_r hO_w_1280 (by decide +kernel) ex_1382))
                      have h_1383 : rg x_1382 0 1 := rg_of_eq ex_1382 (GM.rR hG hT_w_1280 rfl)
                      have uh_1383 := h_1383.1
                      have vh_1383 := h_1383.2
                      have K_1396 : ∀  (H : Heap) (locs : List Loc) (ls : Array Slot), F = g_X12_isSo_K318 x_957 x_959 (vR 12 σ this ri_960) (vL 12 σ this rj_961) x_1281 (g_X12_isSo_L16 a0 a1 a2 a3 a4 (vI 12 σ this I) (vJ 12 σ this J) (vQ 12 σ this rq) n_1183) x_1278  → FR 12 tg σ this (I, J, ri, rj, rq) (I, J, ri_960, rj_961, rq) → GM [] tg σ I ri I ri_960 rq → va_P D vwCl (pq_P t σ (I, J, ri_960, rj_961, rq)) H → va_D A (pq_P t σ (I, J, ri_960, rj_961, rq)) → va_S A s.heap H locs → lv_has ls 11 [(0, .ref this), (1, .int a0), (2, .int a1), (3, .int a2), (4, .int a3), (5, .int a4), (6, .int x_957), (7, .int x_1278), (8, .int x_959)] → W p l e ({ frames := 2, cells := 0, slots := 0, locals := 46 } : Room) s m (List.toArray ([.ref this, .int a0, .int a1, .int a2, .int a3, .int a4] : List Value)) below meth c H locs 0 0 Q (F0 m 318 ls [.int x_1281, .ref w_1280]) := by
                        intro H locs ls hF hFr hG hP hD hS hl
                        replace hF := hF.trans g_X12_isSo_K318_e
                        refine lv_iconst (v := 0) hx hb dX12_isSo_318 (by decide +kernel) ?_
                        refine lv_goto (tgt := 349) hx hb dX12_isSo_319 (by decide +kernel) ?_
                        exact K_1326 _ _ _ hF hFr hG hP hD hS (lv_sub hl [0, 1, 2, 3, 4, 5, 6, 7, 8] rfl)
                      refine lv_if_eq (tgt := 318) hx hb dX12_isSo_301 (by decide +kernel) (fun c_1397 => ?_) (fun c_1397 => ?_)
                      · replace hF := hF.trans (if_pos c_1397)
                        have tc_1402 : (x_1382).toInt = 0 := congrArg Int32.toInt c_1397
                        have h_1403 : rg x_1382 0 0 := rg_and h_1383 (rg_of_eq c_1397 (rg_k (0 : Int32) 0 rfl)) (by decide +kernel)
                        have uh_1403 := h_1403.1
                        have vh_1403 := h_1403.2
                        exact K_1396 _ _ _ hF hFr hG hP hD hS (lv_sub hl [3, 4, 5, 6, 7, 8, 9, 0, 10] rfl)
                      · replace hF := hF.trans (if_neg c_1397)
                        have tc_1404 : (x_1382).toInt ≠ 0 := fun q => c_1397 (Int32.toInt_inj.mp q)
                        have h_1405 : rg x_1382 1 1 := rg_ne c_1397 h_1383 0 rfl (by decide +kernel)
                        have uh_1405 := h_1405.1
                        have vh_1405 := h_1405.2
                        refine lv_aload_n hx hb dX12_isSo_304 rfl (lv_at hl 3 rfl) ?_
                        refine pg_f (v := .ref w_1280) (C := RX12) (T := TX12) (N := 31) hx hb hts (tw_i inlX12) hown hK hP hL_this hK_this (by decide +kernel) rfl 21 (by decide +kernel) (hts _ (tw_c tw_185)) (pq_hv rfl hR_w_1280) dX12_isSo_305 ?_
                        refine lv_iload hx hb dX12_isSo_308 (lv_at hl 0 rfl) ?_
                        refine pl_z hx hb hK hP hL_w_1280 hK_w_1280 hN_w_1280 (rg_in h_1279 (by decide +kernel)) dX12_isSo_310 ?_
                        refine lv_topi (fun x_1406 ex_1406 => ?_)
                        replace hF := hF.trans (ap_n (vR_r hO_w_1280 (by decide +kernel) ex_1406))
                        have h_1407 : rg x_1406 0 1 := rg_of_eq ex_1406 (GM.rR hG hT_w_1280 rfl)
                        have uh_1407 := h_1407.1
                        have vh_1407 := h_1407.2
                        refine lv_if_eq (tgt := 318) hx hb dX12_isSo_311 (by decide +kernel) (fun c_1408 => ?_) (fun c_1408 => ?_)
                        · replace hF := hF.trans (if_pos c_1408)
                          have tc_1413 : (x_1406).toInt = 0 := congrArg Int32.toInt c_1408
                          have h_1414 : rg x_1406 0 0 := rg_and h_1407 (rg_of_eq c_1408 (rg_k (0 : Int32) 0 rfl)) (by decide +kernel)
                          have uh_1414 := h_1414.1
                          have vh_1414 := h_1414.2
                          exact K_1396 _ _ _ hF hFr hG hP hD hS (lv_sub hl [3, 4, 5, 6, 7, 8, 9, 0, 10] rfl)
                        · replace hF := hF.trans (if_neg c_1408)
                          have tc_1415 : (x_1406).toInt ≠ 0 := fun q => c_1408 (Int32.toInt_inj.mp q)
                          have h_1416 : rg x_1406 1 1 := rg_ne c_1408 h_1407 0 rfl (by decide +kernel)
                          have uh_1416 := h_1416.1
                          have vh_1416 := h_1416.2
                          refine lv_iconst (v := 1) hx hb dX12_isSo_314 (by decide +kernel) ?_
                          refine lv_goto (tgt := 349) hx hb dX12_isSo_315 (by decide +kernel) ?_
                          exact K_1330 _ _ _ hF hFr hG hP hD hS (lv_sub hl [3, 4, 5, 6, 7, 8, 9, 0, 10] rfl)
                  · replace hF := hF.trans (if_pos c_1269)
                    have tc_1417 : (x_1227).toInt = 20 := congrArg Int32.toInt c_1269
                    have h_1418 : rg x_1227 20 20 := rg_and h_1268 (rg_of_eq c_1269 (rg_k (20 : Int32) 20 rfl)) (by decide +kernel)
                    have uh_1418 := h_1418.1
                    have vh_1418 := h_1418.2
                    have his := is_5 (f := ri this_a) (b := bb) (fr := vf.toInt) (i := (x_959).toInt) (by omega) ho (by omega) hoj
                    have h_1419 : rg x_957 0 300 := ⟨by omega, by omega⟩
                    have uh_1419 := h_1419.1
                    have vh_1419 := h_1419.2
                    have h_1420 : rg x_958 1 300 := ⟨by omega, by omega⟩
                    have uh_1420 := h_1420.1
                    have vh_1420 := h_1420.2
                    refine lv_aload_n hx hb dX12_isSo_245 rfl (lv_at hl 2 rfl) ?_
                    obtain ⟨w_1421, hR_w_1421, hL_w_1421, hK_w_1421, hN_w_1421, hT_w_1421⟩ := sh_a hSH 405 (ci := 12) (kd := 15) (len := 330) rfl (by decide +kernel) hL_this hK_this
                    have hO_w_1421 : w_1421 = vrow σ 405 this := vo_k (c := 12) hO_this hR_w_1421
                    refine pg_f (v := .ref w_1421) (C := RX12) (T := TX12) (N := 31) hx hb hts (tw_i inlX12) hown hK hP hL_this hK_this (by decide +kernel) rfl 21 (by decide +kernel) (hts _ (tw_c tw_185)) (pq_hv rfl hR_w_1421) dX12_isSo_246 ?_
                    refine lv_iload hx hb dX12_isSo_249 (lv_at hl 9 rfl) ?_
                    refine lv_iconst (v := 1) hx hb dX12_isSo_251 (by decide +kernel) ?_
                    refine lv_isub hx hb dX12_isSo_252 ?_
                    refine lv_topi (fun x_1422 ex_1422 => ?_)
                    replace hF := hF.trans (ap_n ex_1422)
                    have h_1423 : rg x_1422 0 299 := rg_of_eq ex_1422 (rg_sub h_1420 (rg_k (1 : Int32) 1 rfl) (by decide +kernel))
                    have uh_1423 := h_1423.1
                    have vh_1423 := h_1423.2
                    have tx_1422 : (x_1422).toInt = (x_958).toInt - 1 := by rw [ex_1422]; exact i_sub_rg (a2 := (x_958).toInt) (b2 := 1) rfl rfl h_1420 (rg_k (1 : Int32) 1 rfl) (by decide +kernel)
                    refine lv_aload_n hx hb dX12_isSo_253 rfl (lv_at hl 2 rfl) ?_
                    refine pg_f (v := .ref w_1421) (C := RX12) (T := TX12) (N := 31) hx hb hts (tw_i inlX12) hown hK hP hL_this hK_this (by decide +kernel) rfl 21 (by decide +kernel) (hts _ (tw_c tw_185)) (pq_hv rfl hR_w_1421) dX12_isSo_254 ?_
                    refine lv_iload hx hb dX12_isSo_257 (lv_at hl 9 rfl) ?_
                    refine lv_iconst (v := 1) hx hb dX12_isSo_259 (by decide +kernel) ?_
                    refine lv_isub hx hb dX12_isSo_260 ?_
                    refine lv_topi (fun x_1424 ex_1424 => ?_)
                    replace hF := hF.trans (ap_n ex_1424)
                    have h_1425 : rg x_1424 0 299 := rg_of_eq ex_1424 (rg_sub h_1420 (rg_k (1 : Int32) 1 rfl) (by decide +kernel))
                    have uh_1425 := h_1425.1
                    have vh_1425 := h_1425.2
                    have tx_1424 : (x_1424).toInt = (x_958).toInt - 1 := by rw [ex_1424]; exact i_sub_rg (a2 := (x_958).toInt) (b2 := 1) rfl rfl h_1420 (rg_k (1 : Int32) 1 rfl) (by decide +kernel)
                    refine pl_z hx hb hK hP hL_w_1421 hK_w_1421 hN_w_1421 (rg_in h_1425 (by decide +kernel)) dX12_isSo_261 ?_
                    refine lv_topi (fun x_1426 ex_1426 => ?_)
                    replace hF := hF.trans (ap_n (vR_r hO_w_1421 (by decide +kernel) ex_1426))
                    have h_1427 : rg x_1426 0 1 := rg_of_eq ex_1426 (GM.rR hG hT_w_1421 rfl)
                    have uh_1427 := h_1427.1
                    have vh_1427 := h_1427.2
                    have K_1441 : ∀  (H : Heap) (locs : List Loc) (ls : Array Slot), rg (x_1426) 1 1 → F = g_X12_isSo_K270 x_957 x_958 x_959 (vR 12 σ this ri_960) (vL 12 σ this rj_961) (g_X12_isSo_L16 a0 a1 a2 a3 a4 (vI 12 σ this I) (vJ 12 σ this J) (vQ 12 σ this rq) n_1183) x_1422  → FR 12 tg σ this (I, J, ri, rj, rq) (I, J, ri_960, rj_961, rq) → GM [] tg σ I ri I ri_960 rq → va_P D vwCl (pq_P t σ (I, J, ri_960, rj_961, rq)) H → va_D A (pq_P t σ (I, J, ri_960, rj_961, rq)) → va_S A s.heap H locs → lv_has ls 11 [(0, .ref this), (1, .int a0), (2, .int a1), (3, .int a2), (4, .int a3), (5, .int a4), (6, .int x_957), (7, .int x_958), (8, .int x_959)] → W p l e ({ frames := 2, cells := 0, slots := 0, locals := 46 } : Room) s m (List.toArray ([.ref this, .int a0, .int a1, .int a2, .int a3, .int a4] : List Value)) below meth c H locs 0 0 Q (F0 m 270 ls [.int 0, .int x_1422, .ref w_1421]) := by
                      intro H locs ls h_1443 hF hFr hG hP hD hS hl
                      have uh_1443 := h_1443.1
                      have vh_1443 := h_1443.2
                      replace hF := hF.trans g_X12_isSo_K270_e
                      refine pt_z hx hb hK hP hD hS hL_w_1421 hK_w_1421 hN_w_1421 (rg_in h_1423 (by decide +kernel)) (rg_w (rg_k (0 : Int32) 0 rfl) (by decide +kernel)) dX12_isSo_270 (fun r_1444 H locs er_1444 hP hD hS => ?_)
                      replace hFr := fr_R hFr hO_w_1421 (by decide +kernel) er_1444
                      replace hF := hF.trans (ap_n (vR_st hVT hO_w_1421 (by decide +kernel) er_1444))
                      have hG := GM.wR hG hSH hT_w_1421 rfl er_1444 (rg_w (rg_k (0 : Int32) 0 rfl) (by decide +kernel)) (by decide +kernel)
                      refine lv_goto (tgt := 350) hx hb dX12_isSo_271 (by decide +kernel) ?_
                      obtain ⟨x_1445, ex_1445⟩ : ∃ y : Int32, y = x_959 + Int32.ofInt 1 := ⟨_, rfl⟩
                      replace hF := hF.trans (ap_n ex_1445)
                      have h_1446 : rg x_1445 1 300 := rg_of_eq ex_1445 (rg_add h_1216 (rg_k (Int32.ofInt 1) 1 rfl) (by decide +kernel))
                      have uh_1446 := h_1446.1
                      have vh_1446 := h_1446.2
                      have tx_1445 : (x_1445).toInt = (x_959).toInt + 1 := by rw [ex_1445]; exact i_add_rg (a2 := (x_959).toInt) (b2 := 1) rfl rfl h_1216 (rg_k (Int32.ofInt 1) 1 rfl) (by decide +kernel)
                      refine lv_iinc (v := x_1445) (lv' := [(8, .int x_1445), (0, .ref this), (1, .int a0), (2, .int a1), (3, .int a2), (4, .int a3), (5, .int a4), (6, .int x_957), (7, .int x_958)]) hx hb dX12_isSo_350 hl (k := 8) rfl ex_1445.symm (by decide +kernel) rfl (fun ls hl => ?_)
                      have tv1 : vN (ri this_a) bb vf.toInt ((x_1445).toInt) = vN (ri this_a) bb vf.toInt ((x_959).toInt + 1) := by rw [tx_1445]
                      have tv2 : tN (ri this_a) bb vf.toInt ((x_1445).toInt) = tN (ri this_a) bb vf.toInt ((x_959).toInt + 1) := by rw [tx_1445]
                      refine lv_goto (tgt := 16) hx hb dX12_isSo_353 (by decide +kernel) ?_
                      exact ih_1185 x_957 x_958 x_1445 r_1444 rj_961 _ _ _ (rg_w h_1419 (by decide +kernel)) (rg_w h_1420 (by decide +kernel)) (rg_w h_1446 (by decide +kernel)) (by omega) (by omega) (fr_w hrel_1197 er_1444 hT_w_1421) (ms_up 1 hm_1182 ex_1445 rfl (by decide +kernel) h_1216 (by decide +kernel) (by decide +kernel)) hF hFr hG hP hD hS (lv_sub hl [1, 2, 3, 4, 5, 6, 7, 8, 0] rfl)
                    have K_1447 : ∀  (H : Heap) (locs : List Loc) (ls : Array Slot), rg (x_1426) 0 0 → F = g_X12_isSo_K270_2 x_957 x_958 x_959 (vR 12 σ this ri_960) (vL 12 σ this rj_961) (g_X12_isSo_L16 a0 a1 a2 a3 a4 (vI 12 σ this I) (vJ 12 σ this J) (vQ 12 σ this rq) n_1183) x_1422  → FR 12 tg σ this (I, J, ri, rj, rq) (I, J, ri_960, rj_961, rq) → GM [] tg σ I ri I ri_960 rq → va_P D vwCl (pq_P t σ (I, J, ri_960, rj_961, rq)) H → va_D A (pq_P t σ (I, J, ri_960, rj_961, rq)) → va_S A s.heap H locs → lv_has ls 11 [(0, .ref this), (1, .int a0), (2, .int a1), (3, .int a2), (4, .int a3), (5, .int a4), (6, .int x_957), (7, .int x_958), (8, .int x_959)] → W p l e ({ frames := 2, cells := 0, slots := 0, locals := 46 } : Room) s m (List.toArray ([.ref this, .int a0, .int a1, .int a2, .int a3, .int a4] : List Value)) below meth c H locs 0 0 Q (F0 m 270 ls [.int 1, .int x_1422, .ref w_1421]) := by
                      intro H locs ls h_1449 hF hFr hG hP hD hS hl
                      have uh_1449 := h_1449.1
                      have vh_1449 := h_1449.2
                      replace hF := hF.trans g_X12_isSo_K270_2_e
                      refine pt_z hx hb hK hP hD hS hL_w_1421 hK_w_1421 hN_w_1421 (rg_in h_1423 (by decide +kernel)) (rg_w (rg_k (1 : Int32) 1 rfl) (by decide +kernel)) dX12_isSo_270 (fun r_1450 H locs er_1450 hP hD hS => ?_)
                      replace hFr := fr_R hFr hO_w_1421 (by decide +kernel) er_1450
                      replace hF := hF.trans (ap_n (vR_st hVT hO_w_1421 (by decide +kernel) er_1450))
                      have hG := GM.wR hG hSH hT_w_1421 rfl er_1450 (rg_w (rg_k (1 : Int32) 1 rfl) (by decide +kernel)) (by decide +kernel)
                      refine lv_goto (tgt := 350) hx hb dX12_isSo_271 (by decide +kernel) ?_
                      obtain ⟨x_1451, ex_1451⟩ : ∃ y : Int32, y = x_959 + Int32.ofInt 1 := ⟨_, rfl⟩
                      replace hF := hF.trans (ap_n ex_1451)
                      have h_1452 : rg x_1451 1 300 := rg_of_eq ex_1451 (rg_add h_1216 (rg_k (Int32.ofInt 1) 1 rfl) (by decide +kernel))
                      have uh_1452 := h_1452.1
                      have vh_1452 := h_1452.2
                      have tx_1451 : (x_1451).toInt = (x_959).toInt + 1 := by rw [ex_1451]; exact i_add_rg (a2 := (x_959).toInt) (b2 := 1) rfl rfl h_1216 (rg_k (Int32.ofInt 1) 1 rfl) (by decide +kernel)
                      refine lv_iinc (v := x_1451) (lv' := [(8, .int x_1451), (0, .ref this), (1, .int a0), (2, .int a1), (3, .int a2), (4, .int a3), (5, .int a4), (6, .int x_957), (7, .int x_958)]) hx hb dX12_isSo_350 hl (k := 8) rfl ex_1451.symm (by decide +kernel) rfl (fun ls hl => ?_)
                      have tv1 : vN (ri this_a) bb vf.toInt ((x_1451).toInt) = vN (ri this_a) bb vf.toInt ((x_959).toInt + 1) := by rw [tx_1451]
                      have tv2 : tN (ri this_a) bb vf.toInt ((x_1451).toInt) = tN (ri this_a) bb vf.toInt ((x_959).toInt + 1) := by rw [tx_1451]
                      refine lv_goto (tgt := 16) hx hb dX12_isSo_353 (by decide +kernel) ?_
                      exact ih_1185 x_957 x_958 x_1451 r_1450 rj_961 _ _ _ (rg_w h_1419 (by decide +kernel)) (rg_w h_1420 (by decide +kernel)) (rg_w h_1452 (by decide +kernel)) (by omega) (by omega) (fr_w hrel_1197 er_1450 hT_w_1421) (ms_up 1 hm_1182 ex_1451 rfl (by decide +kernel) h_1216 (by decide +kernel) (by decide +kernel)) hF hFr hG hP hD hS (lv_sub hl [1, 2, 3, 4, 5, 6, 7, 8, 0] rfl)
                    refine lv_if_ne (tgt := 269) hx hb dX12_isSo_262 (by decide +kernel) (fun c_1453 => ?_) (fun c_1453 => ?_)
                    · replace hF := hF.trans (if_neg c_1453)
                      have tc_1458 : (x_1426).toInt ≠ 0 := fun q => c_1453 (Int32.toInt_inj.mp q)
                      have h_1459 : rg x_1426 1 1 := rg_ne c_1453 h_1427 0 rfl (by decide +kernel)
                      have uh_1459 := h_1459.1
                      have vh_1459 := h_1459.2
                      refine lv_iconst (v := 0) hx hb dX12_isSo_269 (by decide +kernel) ?_
                      exact K_1441 _ _ _ (rg_w h_1459 (by decide +kernel)) hF hFr hG hP hD hS (lv_sub hl [2, 3, 4, 5, 6, 7, 8, 9, 10] rfl)
                    · replace hF := hF.trans (if_pos c_1453)
                      have tc_1460 : (x_1426).toInt = 0 := congrArg Int32.toInt c_1453
                      have h_1461 : rg x_1426 0 0 := rg_and h_1427 (rg_of_eq c_1453 (rg_k (0 : Int32) 0 rfl)) (by decide +kernel)
                      have uh_1461 := h_1461.1
                      have vh_1461 := h_1461.2
                      refine lv_iconst (v := 1) hx hb dX12_isSo_265 (by decide +kernel) ?_
                      refine lv_goto (tgt := 270) hx hb dX12_isSo_266 (by decide +kernel) ?_
                      exact K_1447 _ _ _ (rg_w h_1461 (by decide +kernel)) hF hFr hG hP hD hS (lv_sub hl [2, 3, 4, 5, 6, 7, 8, 9, 10] rfl)
                · replace hF := hF.trans (if_neg c_1262)
                  have tc_1462 : (x_1227).toInt < 20 := Int32.lt_iff_toInt_lt.mp (nle c_1262)
                  have h_1463 : rg x_1227 10 19 := rg_lt1 (nle c_1262) h_1261 (rg_k (20 : Int32) 20 rfl) (by decide +kernel)
                  have uh_1463 := h_1463.1
                  have vh_1463 := h_1463.2
                  have his := is_4 (f := ri this_a) (b := bb) (fr := vf.toInt) (i := (x_959).toInt) (by omega) ho (by omega) hoj
                  have h_1464 : rg x_957 2 300 := ⟨by omega, by omega⟩
                  have uh_1464 := h_1464.1
                  have vh_1464 := h_1464.2
                  have h_1465 : rg x_958 0 300 := ⟨by omega, by omega⟩
                  have uh_1465 := h_1465.1
                  have vh_1465 := h_1465.2
                  obtain ⟨x_1466, ex_1466⟩ : ∃ y : Int32, y = x_957 + Int32.ofInt (-2) := ⟨_, rfl⟩
                  replace hF := hF.trans (ap_n ex_1466)
                  have h_1467 : rg x_1466 0 298 := rg_of_eq ex_1466 (rg_add h_1464 (rg_k (Int32.ofInt (-2)) (-2) rfl) (by decide +kernel))
                  have uh_1467 := h_1467.1
                  have vh_1467 := h_1467.2
                  have tx_1466 : (x_1466).toInt = (x_957).toInt + (-2) := by rw [ex_1466]; exact i_add_rg (a2 := (x_957).toInt) (b2 := (-2)) rfl rfl h_1464 (rg_k (Int32.ofInt (-2)) (-2) rfl) (by decide +kernel)
                  refine lv_iinc (v := x_1466) (lv' := [(6, .int x_1466), (10, .int x_1240), (9, .int x_1227), (0, .ref this), (1, .int a0), (2, .int a1), (3, .int a2), (4, .int a3), (5, .int a4), (7, .int x_958), (8, .int x_959)]) hx hb dX12_isSo_201 hl (k := 8) rfl ex_1466.symm (by decide +kernel) rfl (fun ls hl => ?_)
                  refine lv_aload_n hx hb dX12_isSo_204 rfl (lv_at hl 3 rfl) ?_
                  obtain ⟨w_1468, hR_w_1468, hL_w_1468, hK_w_1468, hN_w_1468, hT_w_1468⟩ := sh_a hSH 405 (ci := 12) (kd := 15) (len := 330) rfl (by decide +kernel) hL_this hK_this
                  have hO_w_1468 : w_1468 = vrow σ 405 this := vo_k (c := 12) hO_this hR_w_1468
                  refine pg_f (v := .ref w_1468) (C := RX12) (T := TX12) (N := 31) hx hb hts (tw_i inlX12) hown hK hP hL_this hK_this (by decide +kernel) rfl 21 (by decide +kernel) (hts _ (tw_c tw_185)) (pq_hv rfl hR_w_1468) dX12_isSo_205 ?_
                  refine lv_iload hx hb dX12_isSo_208 (lv_at hl 9 rfl) ?_
                  refine lv_iload hx hb dX12_isSo_210 (lv_at hl 2 rfl) ?_
                  refine lv_aload_n hx hb dX12_isSo_212 rfl (lv_at hl 3 rfl) ?_
                  obtain ⟨w_1469, hR_w_1469, hL_w_1469, hK_w_1469, hN_w_1469, hT_w_1469⟩ := sh_a hSH 404 (ci := 12) (kd := 14) (len := 330) rfl (by decide +kernel) hL_this hK_this
                  have hO_w_1469 : w_1469 = vrow σ 404 this := vo_k (c := 12) hO_this hR_w_1469
                  refine pg_f (v := .ref w_1469) (C := RX12) (T := TX12) (N := 31) hx hb hts (tw_i inlX12) hown hK hP hL_this hK_this (by decide +kernel) rfl 20 (by decide +kernel) (hts _ (tw_c tw_183)) (pq_hv rfl hR_w_1469) dX12_isSo_213 ?_
                  refine lv_iload hx hb dX12_isSo_216 (lv_at hl 0 rfl) ?_
                  refine pl_l hx hb hK hP hL_w_1469 hK_w_1469 hN_w_1469 (rg_in h_1467 (by decide +kernel)) dX12_isSo_218 ?_
                  refine lv_topl (fun x_1470 ex_1470 => ?_)
                  replace hF := hF.trans (ap_n (vL_r hO_w_1469 (by decide +kernel) ex_1470))
                  refine lv_aload_n hx hb dX12_isSo_219 rfl (lv_at hl 3 rfl) ?_
                  refine pg_f (v := .ref w_1469) (C := RX12) (T := TX12) (N := 31) hx hb hts (tw_i inlX12) hown hK hP hL_this hK_this (by decide +kernel) rfl 20 (by decide +kernel) (hts _ (tw_c tw_183)) (pq_hv rfl hR_w_1469) dX12_isSo_220 ?_
                  refine lv_iload hx hb dX12_isSo_223 (lv_at hl 0 rfl) ?_
                  refine lv_iconst (v := 1) hx hb dX12_isSo_225 (by decide +kernel) ?_
                  refine lv_iadd hx hb dX12_isSo_226 ?_
                  refine lv_topi (fun x_1471 ex_1471 => ?_)
                  replace hF := hF.trans (ap_n ex_1471)
                  have h_1472 : rg x_1471 1 299 := rg_of_eq ex_1471 (rg_add h_1467 (rg_k (1 : Int32) 1 rfl) (by decide +kernel))
                  have uh_1472 := h_1472.1
                  have vh_1472 := h_1472.2
                  have tx_1471 : (x_1471).toInt = (x_1466).toInt + 1 := by rw [ex_1471]; exact i_add_rg (a2 := (x_1466).toInt) (b2 := 1) rfl rfl h_1467 (rg_k (1 : Int32) 1 rfl) (by decide +kernel)
                  refine pl_l hx hb hK hP hL_w_1469 hK_w_1469 hN_w_1469 (rg_in h_1472 (by decide +kernel)) dX12_isSo_227 ?_
                  refine lv_topl (fun x_1473 ex_1473 => ?_)
                  replace hF := hF.trans (ap_n (vL_r hO_w_1469 (by decide +kernel) ex_1473))
                  refine pk_i (va_runS (As := [.int x_1227, .long x_1470, .long x_1473]) (rest := [.int x_958, .ref w_1468]) ⟨hx, hb, hml, hown, hts⟩ (s_X12_isAsked l D t σ I J ri_960 rj_961 rq H.size tg hSH hG.1 x_1227 x_1470 x_1473) (va_cwS 3 hts (tw_S tw_613 tw_614 tw_5 tw_615) rfl rfl rfl cd_yX12_isAsked_3 ⟨Nat.le_of_ble_eq_true rfl, Nat.le_of_ble_eq_true rfl⟩) ⟨pq_blind, pq_pre hK hN hP hD⟩ rfl rfl hl.1 rfl (lv_room (Nat.le_of_ble_eq_true rfl)) dX12_isSo_228 ⟨Nat.le_of_ble_eq_true rfl, Nat.le_of_ble_eq_true rfl⟩) hD hS hA (fun x_1474 σ1 μ1 H locs hw_1475 hP hD hS => ?_)
                  obtain ⟨hu_1476, hfn_1479, hr_1478⟩ := hw_1475
                  obtain ⟨hu_1476a, hu_1476b⟩ := Prod.mk.inj hu_1476
                  rw [hu_1476a, hu_1476b] at hP hD
                  replace hF := hF.trans (ap_n hfn_1479.symm)
                  have h_1481 : rg x_1474 0 1 := by rcases hr_1478 with ⟨q, -⟩ | ⟨q, -⟩ <;> rw [q] <;> exact ⟨by decide +kernel, by decide +kernel⟩
                  have uh_1481 := h_1481.1
                  have vh_1481 := h_1481.2
                  refine pt_z hx hb hK hP hD hS hL_w_1468 hK_w_1468 hN_w_1468 (rg_in h_1465 (by decide +kernel)) (rg_w h_1481 (by decide +kernel)) dX12_isSo_231 (fun r_1482 H locs er_1482 hP hD hS => ?_)
                  replace hFr := fr_R hFr hO_w_1468 (by decide +kernel) er_1482
                  replace hF := hF.trans (ap_n (vR_st hVT hO_w_1468 (by decide +kernel) er_1482))
                  have hG := GM.wR hG hSH hT_w_1468 rfl er_1482 (rg_w h_1481 (by decide +kernel)) (by decide +kernel)
                  obtain ⟨x_1483, ex_1483⟩ : ∃ y : Int32, y = x_958 + Int32.ofInt 1 := ⟨_, rfl⟩
                  replace hF := hF.trans (ap_n ex_1483)
                  have h_1484 : rg x_1483 1 301 := rg_of_eq ex_1483 (rg_add h_1465 (rg_k (Int32.ofInt 1) 1 rfl) (by decide +kernel))
                  have uh_1484 := h_1484.1
                  have vh_1484 := h_1484.2
                  have tx_1483 : (x_1483).toInt = (x_958).toInt + 1 := by rw [ex_1483]; exact i_add_rg (a2 := (x_958).toInt) (b2 := 1) rfl rfl h_1465 (rg_k (Int32.ofInt 1) 1 rfl) (by decide +kernel)
                  refine lv_iinc (v := x_1483) (lv' := [(7, .int x_1483), (6, .int x_1466), (10, .int x_1240), (9, .int x_1227), (0, .ref this), (1, .int a0), (2, .int a1), (3, .int a2), (4, .int a3), (5, .int a4), (8, .int x_959)]) hx hb dX12_isSo_232 hl (k := 9) rfl ex_1483.symm (by decide +kernel) rfl (fun ls hl => ?_)
                  refine lv_goto (tgt := 350) hx hb dX12_isSo_235 (by decide +kernel) ?_
                  obtain ⟨x_1485, ex_1485⟩ : ∃ y : Int32, y = x_959 + Int32.ofInt 1 := ⟨_, rfl⟩
                  replace hF := hF.trans (ap_n ex_1485)
                  have h_1486 : rg x_1485 1 300 := rg_of_eq ex_1485 (rg_add h_1216 (rg_k (Int32.ofInt 1) 1 rfl) (by decide +kernel))
                  have uh_1486 := h_1486.1
                  have vh_1486 := h_1486.2
                  have tx_1485 : (x_1485).toInt = (x_959).toInt + 1 := by rw [ex_1485]; exact i_add_rg (a2 := (x_959).toInt) (b2 := 1) rfl rfl h_1216 (rg_k (Int32.ofInt 1) 1 rfl) (by decide +kernel)
                  refine lv_iinc (v := x_1485) (lv' := [(8, .int x_1485), (7, .int x_1483), (6, .int x_1466), (10, .int x_1240), (9, .int x_1227), (0, .ref this), (1, .int a0), (2, .int a1), (3, .int a2), (4, .int a3), (5, .int a4)]) hx hb dX12_isSo_350 hl (k := 10) rfl ex_1485.symm (by decide +kernel) rfl (fun ls hl => ?_)
                  have tv1 : vN (ri this_a) bb vf.toInt ((x_1485).toInt) = vN (ri this_a) bb vf.toInt ((x_959).toInt + 1) := by rw [tx_1485]
                  have tv2 : tN (ri this_a) bb vf.toInt ((x_1485).toInt) = tN (ri this_a) bb vf.toInt ((x_959).toInt + 1) := by rw [tx_1485]
                  refine lv_goto (tgt := 16) hx hb dX12_isSo_353 (by decide +kernel) ?_
                  exact ih_1185 x_1466 x_1483 x_1485 r_1482 rj_961 _ _ _ (rg_w h_1467 (by decide +kernel)) (rg_w h_1484 (by decide +kernel)) (rg_w h_1486 (by decide +kernel)) (by omega) (by omega) (fr_w hrel_1197 er_1482 hT_w_1468) (ms_up 1 hm_1182 ex_1485 rfl (by decide +kernel) h_1216 (by decide +kernel) (by decide +kernel)) hF hFr hG hP hD hS (lv_sub hl [5, 6, 7, 8, 9, 10, 2, 1, 0] rfl)
              · replace hF := hF.trans (if_neg c_1255)
                have tc_1487 : (x_1227).toInt < 10 := Int32.lt_iff_toInt_lt.mp (nle c_1255)
                have h_1488 : rg x_1227 3 9 := rg_lt1 (nle c_1255) h_1254 (rg_k (10 : Int32) 10 rfl) (by decide +kernel)
                have uh_1488 := h_1488.1
                have vh_1488 := h_1488.2
                have his := is_3 (f := ri this_a) (b := bb) (fr := vf.toInt) (i := (x_959).toInt) (by omega) ho (by omega) hoj
                have h_1489 : rg x_957 2 300 := ⟨by omega, by omega⟩
                have uh_1489 := h_1489.1
                have vh_1489 := h_1489.2
                have h_1490 : rg x_958 0 300 := ⟨by omega, by omega⟩
                have uh_1490 := h_1490.1
                have vh_1490 := h_1490.2
                obtain ⟨x_1491, ex_1491⟩ : ∃ y : Int32, y = x_957 + Int32.ofInt (-1) := ⟨_, rfl⟩
                replace hF := hF.trans (ap_n ex_1491)
                have h_1492 : rg x_1491 1 299 := rg_of_eq ex_1491 (rg_add h_1489 (rg_k (Int32.ofInt (-1)) (-1) rfl) (by decide +kernel))
                have uh_1492 := h_1492.1
                have vh_1492 := h_1492.2
                have tx_1491 : (x_1491).toInt = (x_957).toInt + (-1) := by rw [ex_1491]; exact i_add_rg (a2 := (x_957).toInt) (b2 := (-1)) rfl rfl h_1489 (rg_k (Int32.ofInt (-1)) (-1) rfl) (by decide +kernel)
                refine lv_iinc (v := x_1491) (lv' := [(6, .int x_1491), (10, .int x_1240), (9, .int x_1227), (0, .ref this), (1, .int a0), (2, .int a1), (3, .int a2), (4, .int a3), (5, .int a4), (7, .int x_958), (8, .int x_959)]) hx hb dX12_isSo_158 hl (k := 8) rfl ex_1491.symm (by decide +kernel) rfl (fun ls hl => ?_)
                refine lv_aload_n hx hb dX12_isSo_161 rfl (lv_at hl 3 rfl) ?_
                obtain ⟨w_1493, hR_w_1493, hL_w_1493, hK_w_1493, hN_w_1493, hT_w_1493⟩ := sh_a hSH 404 (ci := 12) (kd := 14) (len := 330) rfl (by decide +kernel) hL_this hK_this
                have hO_w_1493 : w_1493 = vrow σ 404 this := vo_k (c := 12) hO_this hR_w_1493
                refine pg_f (v := .ref w_1493) (C := RX12) (T := TX12) (N := 31) hx hb hts (tw_i inlX12) hown hK hP hL_this hK_this (by decide +kernel) rfl 20 (by decide +kernel) (hts _ (tw_c tw_183)) (pq_hv rfl hR_w_1493) dX12_isSo_162 ?_
                refine lv_iload hx hb dX12_isSo_165 (lv_at hl 0 rfl) ?_
                refine lv_iconst (v := 1) hx hb dX12_isSo_167 (by decide +kernel) ?_
                refine lv_isub hx hb dX12_isSo_168 ?_
                refine lv_topi (fun x_1494 ex_1494 => ?_)
                replace hF := hF.trans (ap_n ex_1494)
                have h_1495 : rg x_1494 0 298 := rg_of_eq ex_1494 (rg_sub h_1492 (rg_k (1 : Int32) 1 rfl) (by decide +kernel))
                have uh_1495 := h_1495.1
                have vh_1495 := h_1495.2
                have tx_1494 : (x_1494).toInt = (x_1491).toInt - 1 := by rw [ex_1494]; exact i_sub_rg (a2 := (x_1491).toInt) (b2 := 1) rfl rfl h_1492 (rg_k (1 : Int32) 1 rfl) (by decide +kernel)
                refine lv_iload hx hb dX12_isSo_169 (lv_at hl 2 rfl) ?_
                refine lv_aload_n hx hb dX12_isSo_171 rfl (lv_at hl 3 rfl) ?_
                refine pg_f (v := .ref w_1493) (C := RX12) (T := TX12) (N := 31) hx hb hts (tw_i inlX12) hown hK hP hL_this hK_this (by decide +kernel) rfl 20 (by decide +kernel) (hts _ (tw_c tw_183)) (pq_hv rfl hR_w_1493) dX12_isSo_172 ?_
                refine lv_iload hx hb dX12_isSo_175 (lv_at hl 0 rfl) ?_
                refine lv_iconst (v := 1) hx hb dX12_isSo_177 (by decide +kernel) ?_
                refine lv_isub hx hb dX12_isSo_178 ?_
                refine lv_topi (fun x_1496 ex_1496 => ?_)
                replace hF := hF.trans (ap_n ex_1496)
                have h_1497 : rg x_1496 0 298 := rg_of_eq ex_1496 (rg_sub h_1492 (rg_k (1 : Int32) 1 rfl) (by decide +kernel))
                have uh_1497 := h_1497.1
                have vh_1497 := h_1497.2
                have tx_1496 : (x_1496).toInt = (x_1491).toInt - 1 := by rw [ex_1496]; exact i_sub_rg (a2 := (x_1491).toInt) (b2 := 1) rfl rfl h_1492 (rg_k (1 : Int32) 1 rfl) (by decide +kernel)
                refine pl_l hx hb hK hP hL_w_1493 hK_w_1493 hN_w_1493 (rg_in h_1497 (by decide +kernel)) dX12_isSo_179 ?_
                refine lv_topl (fun x_1498 ex_1498 => ?_)
                replace hF := hF.trans (ap_n (vL_r hO_w_1493 (by decide +kernel) ex_1498))
                refine lv_aload_n hx hb dX12_isSo_180 rfl (lv_at hl 3 rfl) ?_
                refine pg_f (v := .ref w_1493) (C := RX12) (T := TX12) (N := 31) hx hb hts (tw_i inlX12) hown hK hP hL_this hK_this (by decide +kernel) rfl 20 (by decide +kernel) (hts _ (tw_c tw_183)) (pq_hv rfl hR_w_1493) dX12_isSo_181 ?_
                refine lv_iload hx hb dX12_isSo_184 (lv_at hl 0 rfl) ?_
                refine pl_l hx hb hK hP hL_w_1493 hK_w_1493 hN_w_1493 (rg_in h_1492 (by decide +kernel)) dX12_isSo_186 ?_
                refine lv_topl (fun x_1499 ex_1499 => ?_)
                replace hF := hF.trans (ap_n (vL_r hO_w_1493 (by decide +kernel) ex_1499))
                refine pk_l (va_runS (As := [.int x_1227, .long x_1498, .long x_1499]) (rest := [.int x_1494, .ref w_1493]) ⟨hx, hb, hml, hown, hts⟩ (s_X12_two l D t σ I J ri_960 rj_961 rq H.size tg hSH hG.1 x_1227 x_1498 x_1499) (va_cwS 3 hts (tw_S tw_605 tw_606 tw_5 tw_607) rfl rfl rfl cd_yX12_two_3 ⟨Nat.le_of_ble_eq_true rfl, Nat.le_of_ble_eq_true rfl⟩) ⟨pq_blind, pq_pre hK hN hP hD⟩ rfl rfl hl.1 rfl (lv_room (Nat.le_of_ble_eq_true rfl)) dX12_isSo_187 ⟨Nat.le_of_ble_eq_true rfl, Nat.le_of_ble_eq_true rfl⟩) hD hS hA (fun x_1500 σ1 μ1 H locs hw_1501 hP hD hS => ?_)
                obtain ⟨hu_1502, hfn_1505⟩ := hw_1501
                obtain ⟨hu_1502a, hu_1502b⟩ := Prod.mk.inj hu_1502
                rw [hu_1502a, hu_1502b] at hP hD
                replace hF := hF.trans (ap_n hfn_1505.symm)
                refine pt_l hx hb hK hP hD hS hL_w_1493 hK_w_1493 hN_w_1493 (rg_in h_1495 (by decide +kernel)) dX12_isSo_190 (fun r_1507 H locs er_1507 hP hD hS => ?_)
                replace hFr := fr_L hFr hO_w_1493 (by decide +kernel) er_1507
                replace hF := hF.trans (ap_n (vL_st hVT hO_w_1493 (by decide +kernel) er_1507))
                refine lv_goto (tgt := 350) hx hb dX12_isSo_191 (by decide +kernel) ?_
                obtain ⟨x_1508, ex_1508⟩ : ∃ y : Int32, y = x_959 + Int32.ofInt 1 := ⟨_, rfl⟩
                replace hF := hF.trans (ap_n ex_1508)
                have h_1509 : rg x_1508 1 300 := rg_of_eq ex_1508 (rg_add h_1216 (rg_k (Int32.ofInt 1) 1 rfl) (by decide +kernel))
                have uh_1509 := h_1509.1
                have vh_1509 := h_1509.2
                have tx_1508 : (x_1508).toInt = (x_959).toInt + 1 := by rw [ex_1508]; exact i_add_rg (a2 := (x_959).toInt) (b2 := 1) rfl rfl h_1216 (rg_k (Int32.ofInt 1) 1 rfl) (by decide +kernel)
                refine lv_iinc (v := x_1508) (lv' := [(8, .int x_1508), (6, .int x_1491), (10, .int x_1240), (9, .int x_1227), (0, .ref this), (1, .int a0), (2, .int a1), (3, .int a2), (4, .int a3), (5, .int a4), (7, .int x_958)]) hx hb dX12_isSo_350 hl (k := 10) rfl ex_1508.symm (by decide +kernel) rfl (fun ls hl => ?_)
                have tv1 : vN (ri this_a) bb vf.toInt ((x_1508).toInt) = vN (ri this_a) bb vf.toInt ((x_959).toInt + 1) := by rw [tx_1508]
                have tv2 : tN (ri this_a) bb vf.toInt ((x_1508).toInt) = tN (ri this_a) bb vf.toInt ((x_959).toInt + 1) := by rw [tx_1508]
                refine lv_goto (tgt := 16) hx hb dX12_isSo_353 (by decide +kernel) ?_
                exact ih_1185 x_1491 x_958 x_1508 ri_960 r_1507 _ _ _ (rg_w h_1492 (by decide +kernel)) (rg_w h_1490 (by decide +kernel)) (rg_w h_1509 (by decide +kernel)) (by omega) (by omega) hrel_1197 (ms_up 1 hm_1182 ex_1508 rfl (by decide +kernel) h_1216 (by decide +kernel) (by decide +kernel)) hF hFr hG hP hD hS (lv_sub hl [4, 5, 6, 7, 8, 9, 1, 10, 0] rfl)
            · replace hF := hF.trans (if_pos c_1248)
              have tc_1510 : (x_1227).toInt = 2 := congrArg Int32.toInt c_1248
              have h_1511 : rg x_1227 2 2 := rg_and h_1247 (rg_of_eq c_1248 (rg_k (2 : Int32) 2 rfl)) (by decide +kernel)
              have uh_1511 := h_1511.1
              have vh_1511 := h_1511.2
              have his := is_2 (f := ri this_a) (b := bb) (fr := vf.toInt) (i := (x_959).toInt) (by omega) ho (by omega) hoj
              have h_1512 : rg x_957 1 300 := ⟨by omega, by omega⟩
              have uh_1512 := h_1512.1
              have vh_1512 := h_1512.2
              have h_1513 : rg x_958 0 300 := ⟨by omega, by omega⟩
              have uh_1513 := h_1513.1
              have vh_1513 := h_1513.2
              refine lv_aload_n hx hb dX12_isSo_129 rfl (lv_at hl 2 rfl) ?_
              obtain ⟨w_1514, hR_w_1514, hL_w_1514, hK_w_1514, hN_w_1514, hT_w_1514⟩ := sh_a hSH 404 (ci := 12) (kd := 14) (len := 330) rfl (by decide +kernel) hL_this hK_this
              have hO_w_1514 : w_1514 = vrow σ 404 this := vo_k (c := 12) hO_this hR_w_1514
              refine pg_f (v := .ref w_1514) (C := RX12) (T := TX12) (N := 31) hx hb hts (tw_i inlX12) hown hK hP hL_this hK_this (by decide +kernel) rfl 20 (by decide +kernel) (hts _ (tw_c tw_183)) (pq_hv rfl hR_w_1514) dX12_isSo_130 ?_
              refine lv_iload hx hb dX12_isSo_133 (lv_at hl 8 rfl) ?_
              refine lv_iconst (v := 1) hx hb dX12_isSo_135 (by decide +kernel) ?_
              refine lv_isub hx hb dX12_isSo_136 ?_
              refine lv_topi (fun x_1515 ex_1515 => ?_)
              replace hF := hF.trans (ap_n ex_1515)
              have h_1516 : rg x_1515 0 299 := rg_of_eq ex_1515 (rg_sub h_1512 (rg_k (1 : Int32) 1 rfl) (by decide +kernel))
              have uh_1516 := h_1516.1
              have vh_1516 := h_1516.2
              have tx_1515 : (x_1515).toInt = (x_957).toInt - 1 := by rw [ex_1515]; exact i_sub_rg (a2 := (x_957).toInt) (b2 := 1) rfl rfl h_1512 (rg_k (1 : Int32) 1 rfl) (by decide +kernel)
              refine lv_aload_n hx hb dX12_isSo_137 rfl (lv_at hl 2 rfl) ?_
              refine pg_f (v := .ref w_1514) (C := RX12) (T := TX12) (N := 31) hx hb hts (tw_i inlX12) hown hK hP hL_this hK_this (by decide +kernel) rfl 20 (by decide +kernel) (hts _ (tw_c tw_183)) (pq_hv rfl hR_w_1514) dX12_isSo_138 ?_
              refine lv_iload hx hb dX12_isSo_141 (lv_at hl 8 rfl) ?_
              refine lv_iconst (v := 1) hx hb dX12_isSo_143 (by decide +kernel) ?_
              refine lv_isub hx hb dX12_isSo_144 ?_
              refine lv_topi (fun x_1517 ex_1517 => ?_)
              replace hF := hF.trans (ap_n ex_1517)
              have h_1518 : rg x_1517 0 299 := rg_of_eq ex_1517 (rg_sub h_1512 (rg_k (1 : Int32) 1 rfl) (by decide +kernel))
              have uh_1518 := h_1518.1
              have vh_1518 := h_1518.2
              have tx_1517 : (x_1517).toInt = (x_957).toInt - 1 := by rw [ex_1517]; exact i_sub_rg (a2 := (x_957).toInt) (b2 := 1) rfl rfl h_1512 (rg_k (1 : Int32) 1 rfl) (by decide +kernel)
              refine pl_l hx hb hK hP hL_w_1514 hK_w_1514 hN_w_1514 (rg_in h_1518 (by decide +kernel)) dX12_isSo_145 ?_
              refine lv_topl (fun x_1519 ex_1519 => ?_)
              replace hF := hF.trans (ap_n (vL_r hO_w_1514 (by decide +kernel) ex_1519))
              refine lv_lneg hx hb dX12_isSo_146 ?_
              refine lv_topl (fun x_1520 ex_1520 => ?_)
              replace hF := hF.trans (ap_n ex_1520)
              refine pt_l hx hb hK hP hD hS hL_w_1514 hK_w_1514 hN_w_1514 (rg_in h_1516 (by decide +kernel)) dX12_isSo_147 (fun r_1521 H locs er_1521 hP hD hS => ?_)
              replace hFr := fr_L hFr hO_w_1514 (by decide +kernel) er_1521
              replace hF := hF.trans (ap_n (vL_st hVT hO_w_1514 (by decide +kernel) er_1521))
              refine lv_goto (tgt := 350) hx hb dX12_isSo_148 (by decide +kernel) ?_
              obtain ⟨x_1522, ex_1522⟩ : ∃ y : Int32, y = x_959 + Int32.ofInt 1 := ⟨_, rfl⟩
              replace hF := hF.trans (ap_n ex_1522)
              have h_1523 : rg x_1522 1 300 := rg_of_eq ex_1522 (rg_add h_1216 (rg_k (Int32.ofInt 1) 1 rfl) (by decide +kernel))
              have uh_1523 := h_1523.1
              have vh_1523 := h_1523.2
              have tx_1522 : (x_1522).toInt = (x_959).toInt + 1 := by rw [ex_1522]; exact i_add_rg (a2 := (x_959).toInt) (b2 := 1) rfl rfl h_1216 (rg_k (Int32.ofInt 1) 1 rfl) (by decide +kernel)
              refine lv_iinc (v := x_1522) (lv' := [(8, .int x_1522), (10, .int x_1240), (9, .int x_1227), (0, .ref this), (1, .int a0), (2, .int a1), (3, .int a2), (4, .int a3), (5, .int a4), (6, .int x_957), (7, .int x_958)]) hx hb dX12_isSo_350 hl (k := 10) rfl ex_1522.symm (by decide +kernel) rfl (fun ls hl => ?_)
              have tv1 : vN (ri this_a) bb vf.toInt ((x_1522).toInt) = vN (ri this_a) bb vf.toInt ((x_959).toInt + 1) := by rw [tx_1522]
              have tv2 : tN (ri this_a) bb vf.toInt ((x_1522).toInt) = tN (ri this_a) bb vf.toInt ((x_959).toInt + 1) := by rw [tx_1522]
              refine lv_goto (tgt := 16) hx hb dX12_isSo_353 (by decide +kernel) ?_
              exact ih_1185 x_957 x_958 x_1522 ri_960 r_1521 _ _ _ (rg_w h_1512 (by decide +kernel)) (rg_w h_1513 (by decide +kernel)) (rg_w h_1523 (by decide +kernel)) (by omega) (by omega) hrel_1197 (ms_up 1 hm_1182 ex_1522 rfl (by decide +kernel) h_1216 (by decide +kernel) (by decide +kernel)) hF hFr hG hP hD hS (lv_sub hl [3, 4, 5, 6, 7, 8, 9, 10, 0] rfl)
          · replace hF := hF.trans (if_neg c_1241)
            have tc_1524 : (x_1227).toInt ≤ 1 := Int32.le_iff_toInt_le.mp (nlt c_1241)
            have h_1525 : rg x_1227 (-2147483648) 1 := rg_le1 (nlt c_1241) (rg_full _) (rg_k (1 : Int32) 1 rfl) (by decide +kernel)
            have uh_1525 := h_1525.1
            have vh_1525 := h_1525.2
            have his := is_1 (f := ri this_a) (b := bb) (fr := vf.toInt) (i := (x_959).toInt) (by omega) ho (by omega)
            have h_1526 : rg x_957 0 300 := ⟨by omega, by omega⟩
            have uh_1526 := h_1526.1
            have vh_1526 := h_1526.2
            have h_1527 : rg x_958 0 300 := ⟨by omega, by omega⟩
            have uh_1527 := h_1527.1
            have vh_1527 := h_1527.2
            refine lv_aload_n hx hb dX12_isSo_87 rfl (lv_at hl 2 rfl) ?_
            obtain ⟨w_1528, hR_w_1528, hL_w_1528, hK_w_1528, hN_w_1528, hT_w_1528⟩ := sh_a hSH 404 (ci := 12) (kd := 14) (len := 330) rfl (by decide +kernel) hL_this hK_this
            have hO_w_1528 : w_1528 = vrow σ 404 this := vo_k (c := 12) hO_this hR_w_1528
            refine pg_f (v := .ref w_1528) (C := RX12) (T := TX12) (N := 31) hx hb hts (tw_i inlX12) hown hK hP hL_this hK_this (by decide +kernel) rfl 20 (by decide +kernel) (hts _ (tw_c tw_183)) (pq_hv rfl hR_w_1528) dX12_isSo_88 ?_
            refine lv_iload hx hb dX12_isSo_91 (lv_at hl 8 rfl) ?_
            refine lv_iload hx hb dX12_isSo_93 (lv_at hl 1 rfl) ?_
            have K_1548 : ∀  (x_1542 : Int64) (H : Heap) (locs : List Loc) (ls : Array Slot), F = g_X12_isSo_K116 x_957 x_958 x_959 (vR 12 σ this ri_960) (vL 12 σ this rj_961) (g_X12_isSo_L16 a0 a1 a2 a3 a4 (vI 12 σ this I) (vJ 12 σ this J) (vQ 12 σ this rq) n_1183) x_1542 → FR 12 tg σ this (I, J, ri, rj, rq) (I, J, ri_960, rj_961, rq) → GM [] tg σ I ri I ri_960 rq → va_P D vwCl (pq_P t σ (I, J, ri_960, rj_961, rq)) H → va_D A (pq_P t σ (I, J, ri_960, rj_961, rq)) → va_S A s.heap H locs → lv_has ls 11 [(0, .ref this), (1, .int a0), (2, .int a1), (3, .int a2), (4, .int a3), (5, .int a4), (6, .int x_957), (7, .int x_958), (8, .int x_959)] → W p l e ({ frames := 2, cells := 0, slots := 0, locals := 46 } : Room) s m (List.toArray ([.ref this, .int a0, .int a1, .int a2, .int a3, .int a4] : List Value)) below meth c H locs 0 0 Q (F0 m 116 ls [.long x_1542, .int x_957, .ref w_1528]) := by
              intro x_1542 H locs ls hF hFr hG hP hD hS hl
              replace hF := hF.trans g_X12_isSo_K116_e
              refine pt_l hx hb hK hP hD hS hL_w_1528 hK_w_1528 hN_w_1528 (rg_in h_1526 (by decide +kernel)) dX12_isSo_116 (fun r_1549 H locs er_1549 hP hD hS => ?_)
              replace hFr := fr_L hFr hO_w_1528 (by decide +kernel) er_1549
              replace hF := hF.trans (ap_n (vL_st hVT hO_w_1528 (by decide +kernel) er_1549))
              obtain ⟨x_1550, ex_1550⟩ : ∃ y : Int32, y = x_957 + Int32.ofInt 1 := ⟨_, rfl⟩
              replace hF := hF.trans (ap_n ex_1550)
              have h_1551 : rg x_1550 1 301 := rg_of_eq ex_1550 (rg_add h_1526 (rg_k (Int32.ofInt 1) 1 rfl) (by decide +kernel))
              have uh_1551 := h_1551.1
              have vh_1551 := h_1551.2
              have tx_1550 : (x_1550).toInt = (x_957).toInt + 1 := by rw [ex_1550]; exact i_add_rg (a2 := (x_957).toInt) (b2 := 1) rfl rfl h_1526 (rg_k (Int32.ofInt 1) 1 rfl) (by decide +kernel)
              refine lv_iinc (v := x_1550) (lv' := [(6, .int x_1550), (0, .ref this), (1, .int a0), (2, .int a1), (3, .int a2), (4, .int a3), (5, .int a4), (7, .int x_958), (8, .int x_959)]) hx hb dX12_isSo_117 hl (k := 6) rfl ex_1550.symm (by decide +kernel) rfl (fun ls hl => ?_)
              refine lv_goto (tgt := 350) hx hb dX12_isSo_120 (by decide +kernel) ?_
              obtain ⟨x_1552, ex_1552⟩ : ∃ y : Int32, y = x_959 + Int32.ofInt 1 := ⟨_, rfl⟩
              replace hF := hF.trans (ap_n ex_1552)
              have h_1553 : rg x_1552 1 300 := rg_of_eq ex_1552 (rg_add h_1216 (rg_k (Int32.ofInt 1) 1 rfl) (by decide +kernel))
              have uh_1553 := h_1553.1
              have vh_1553 := h_1553.2
              have tx_1552 : (x_1552).toInt = (x_959).toInt + 1 := by rw [ex_1552]; exact i_add_rg (a2 := (x_959).toInt) (b2 := 1) rfl rfl h_1216 (rg_k (Int32.ofInt 1) 1 rfl) (by decide +kernel)
              refine lv_iinc (v := x_1552) (lv' := [(8, .int x_1552), (6, .int x_1550), (0, .ref this), (1, .int a0), (2, .int a1), (3, .int a2), (4, .int a3), (5, .int a4), (7, .int x_958)]) hx hb dX12_isSo_350 hl (k := 8) rfl ex_1552.symm (by decide +kernel) rfl (fun ls hl => ?_)
              have tv1 : vN (ri this_a) bb vf.toInt ((x_1552).toInt) = vN (ri this_a) bb vf.toInt ((x_959).toInt + 1) := by rw [tx_1552]
              have tv2 : tN (ri this_a) bb vf.toInt ((x_1552).toInt) = tN (ri this_a) bb vf.toInt ((x_959).toInt + 1) := by rw [tx_1552]
              refine lv_goto (tgt := 16) hx hb dX12_isSo_353 (by decide +kernel) ?_
              exact ih_1185 x_1550 x_958 x_1552 ri_960 r_1549 _ _ _ (rg_w h_1551 (by decide +kernel)) (rg_w h_1527 (by decide +kernel)) (rg_w h_1553 (by decide +kernel)) (by omega) (by omega) hrel_1197 (ms_up 1 hm_1182 ex_1552 rfl (by decide +kernel) h_1216 (by decide +kernel) (by decide +kernel)) hF hFr hG hP hD hS (lv_sub hl [2, 3, 4, 5, 6, 7, 1, 8, 0] rfl)
            refine lv_if_ne (tgt := 104) hx hb dX12_isSo_95 (by decide +kernel) (fun c_1554 => ?_) (fun c_1554 => ?_)
            · replace hF := hF.trans (if_neg c_1554)
              have tc_1558 : (x_1227).toInt ≠ 0 := fun q => c_1554 (Int32.toInt_inj.mp q)
              refine lv_aload_n hx hb dX12_isSo_104 rfl (lv_at hl 2 rfl) ?_
              refine lv_iload_n hx hb dX12_isSo_105 rfl (lv_at hl 5 rfl) ?_
              refine lv_iload hx hb dX12_isSo_106 (lv_at hl 0 rfl) ?_
              refine lv_iload hx hb dX12_isSo_108 (lv_at hl 6 rfl) ?_
              refine lv_iload hx hb dX12_isSo_110 (lv_at hl 7 rfl) ?_
              refine pk_i (va_runV (As := [.int a2, .int x_1240, .int a3, .int a4]) (rest := [.int x_957, .ref w_1528]) ⟨hx, hb, hml, hown, hts⟩ (s_X12_named l D t σ I J ri_960 rj_961 rq H.size tg hSH hG.1 this a2 x_1240 a3 a4 hL_this hK_this (rg_w h_a2 (by decide +kernel))) (cwV 4 hts (tw_V tw_528 tw_529 tw_530 tw_5 tw_531) rfl rfl rfl cv_yX12_named_4 ⟨Nat.le_of_ble_eq_true rfl, Nat.le_of_ble_eq_true rfl⟩) ⟨pq_blind, pq_recv hK hP hL_this hK_this (by decide +kernel) rfl, pq_pre hK hN hP hD⟩ rfl rfl hl.1 rfl (lv_room (Nat.le_of_ble_eq_true rfl)) dX12_isSo_112 ⟨Nat.le_of_ble_eq_true rfl, Nat.le_of_ble_eq_true rfl⟩) hD hS hA (fun x_1559 σ1 μ1 H locs hw_1560 hP hD hS => ?_)
              obtain ⟨hu_1561, hfn_1564⟩ := hw_1560
              obtain ⟨hu_1561a, hu_1561b⟩ := Prod.mk.inj hu_1561
              rw [hu_1561a, hu_1561b] at hP hD
              replace hF := hF.trans (bn_n hfn_1564)
              refine lv_i2l hx hb dX12_isSo_115 rfl ?_
              refine lv_topl (fun x_1566 ex_1566 => ?_)
              replace hF := hF.trans (ap_n ex_1566)
              exact K_1548 x_1566 _ _ _ hF hFr hG hP hD hS (lv_sub hl [2, 3, 4, 5, 6, 7, 8, 9, 10] rfl)
            · replace hF := hF.trans (if_pos c_1554)
              have tc_1567 : (x_1227).toInt = 0 := congrArg Int32.toInt c_1554
              have h_1568 : rg x_1227 0 0 := rg_and h_1525 (rg_of_eq c_1554 (rg_k (0 : Int32) 0 rfl)) (by decide +kernel)
              have uh_1568 := h_1568.1
              have vh_1568 := h_1568.2
              refine lv_iload hx hb dX12_isSo_98 (lv_at hl 0 rfl) ?_
              refine lv_i2l hx hb dX12_isSo_100 rfl ?_
              refine lv_topl (fun x_1569 ex_1569 => ?_)
              replace hF := hF.trans (ap_n ex_1569)
              refine lv_goto (tgt := 116) hx hb dX12_isSo_101 (by decide +kernel) ?_
              exact K_1548 x_1569 _ _ _ hF hFr hG hP hD hS (lv_sub hl [2, 3, 4, 5, 6, 7, 8, 9, 10] rfl)
    exact L_1184 _ (0 : Int32) (0 : Int32) x_3 ri rj _ _ _ (rg_w (rg_k (0 : Int32) 0 rfl) (by decide +kernel)) (rg_w (rg_k (0 : Int32) 0 rfl) (by decide +kernel)) (rg_w h_6 (by decide +kernel)) (by have k0 : (0 : Int32).toInt = 0 := rfl; omega) (by have k0 : (0 : Int32).toInt = 0 := rfl; omega) (fun _ _ => rfl) (Nat.lt_succ_self _) hF hFr hG hP hD hS (lv_sub hl [3, 4, 5, 6, 7, 8, 2, 1, 0] rfl)
  exact go _ _ _ hP hD hS hl
theorem dX12_firstSo_0 : decode cX12_firstSo 0 = .ok (.aload_n 0, 1) := oc_42 (by decide +kernel)
theorem dX12_firstSo_1 : decode cX12_firstSo 1 = .ok (.iload_n 1, 1) := oc_27 (by decide +kernel)
theorem dX12_firstSo_2 : decode cX12_firstSo 2 = .ok (.iload_n 3, 1) := oc_29 (by decide +kernel)
theorem dX12_firstSo_3 : decode cX12_firstSo 3 = .ok (.invokevirtual 275, 3) := oc_182 (a := 1) (b := 19) (by decide +kernel)
theorem dX12_firstSo_6 : decode cX12_firstSo 6 = .ok (.istore 5, 2) := oc_54 (by decide +kernel)
theorem dX12_firstSo_8 : decode cX12_firstSo 8 = .ok (.iconst 0, 1) := oc_3 (by decide +kernel)
theorem dX12_firstSo_9 : decode cX12_firstSo 9 = .ok (.istore 6, 2) := oc_54 (by decide +kernel)
theorem dX12_firstSo_11 : decode cX12_firstSo 11 = .ok (.iload 5, 2) := oc_21 (by decide +kernel)
theorem dX12_firstSo_74 : decode cX12_firstSo 74 = .ok (.iconst (-1), 1) := oc_2 (by decide +kernel)
theorem dX12_firstSo_75 : decode cX12_firstSo 75 = .ok (.ireturn, 1) := oc_172 (by decide +kernel)
theorem dX12_firstSo_13 : decode cX12_firstSo 13 = .ok (.ifCond .lt 61, 3) := oc_155 (a := 0) (b := 61) (by decide +kernel)
theorem dX12_firstSo_16 : decode cX12_firstSo 16 = .ok (.iload 6, 2) := oc_21 (by decide +kernel)
theorem dX12_firstSo_18 : decode cX12_firstSo 18 = .ok (.aload_n 0, 1) := oc_42 (by decide +kernel)
theorem dX12_firstSo_19 : decode cX12_firstSo 19 = .ok (.iload 5, 2) := oc_21 (by decide +kernel)
theorem dX12_firstSo_21 : decode cX12_firstSo 21 = .ok (.invokevirtual 266, 3) := oc_182 (a := 1) (b := 10) (by decide +kernel)
theorem dX12_firstSo_24 : decode cX12_firstSo 24 = .ok (.if_icmp .ge 50, 3) := oc_162 (a := 0) (b := 50) (by decide +kernel)
theorem dX12_firstSo_27 : decode cX12_firstSo 27 = .ok (.aload_n 0, 1) := oc_42 (by decide +kernel)
theorem dX12_firstSo_28 : decode cX12_firstSo 28 = .ok (.getfield 7, 3) := oc_180 (a := 0) (b := 7) (by decide +kernel)
theorem dX12_firstSo_31 : decode cX12_firstSo 31 = .ok (.aload_n 0, 1) := oc_42 (by decide +kernel)
theorem dX12_firstSo_32 : decode cX12_firstSo 32 = .ok (.iload 5, 2) := oc_21 (by decide +kernel)
theorem dX12_firstSo_34 : decode cX12_firstSo 34 = .ok (.iload 6, 2) := oc_21 (by decide +kernel)
theorem dX12_firstSo_36 : decode cX12_firstSo 36 = .ok (.invokevirtual 269, 3) := oc_182 (a := 1) (b := 13) (by decide +kernel)
theorem dX12_firstSo_39 : decode cX12_firstSo 39 = .ok (.iaload, 1) := oc_46 (by decide +kernel)
theorem dX12_firstSo_40 : decode cX12_firstSo 40 = .ok (.iload_n 1, 1) := oc_27 (by decide +kernel)
theorem dX12_firstSo_41 : decode cX12_firstSo 41 = .ok (.if_icmp .ne 27, 3) := oc_160 (a := 0) (b := 27) (by decide +kernel)
theorem dX12_firstSo_68 : decode cX12_firstSo 68 = .ok (.iinc 6 1, 3) := oc_132 (b := 1) (by decide +kernel)
theorem dX12_firstSo_71 : decode cX12_firstSo 71 = .ok (.goto (-60), 3) := oc_167 (a := 255) (b := 196) (by decide +kernel)
theorem dX12_firstSo_44 : decode cX12_firstSo 44 = .ok (.aload_n 0, 1) := oc_42 (by decide +kernel)
theorem dX12_firstSo_45 : decode cX12_firstSo 45 = .ok (.iload 5, 2) := oc_21 (by decide +kernel)
theorem dX12_firstSo_47 : decode cX12_firstSo 47 = .ok (.aload_n 0, 1) := oc_42 (by decide +kernel)
theorem dX12_firstSo_48 : decode cX12_firstSo 48 = .ok (.iload 5, 2) := oc_21 (by decide +kernel)
theorem dX12_firstSo_50 : decode cX12_firstSo 50 = .ok (.iload 6, 2) := oc_21 (by decide +kernel)
theorem dX12_firstSo_52 : decode cX12_firstSo 52 = .ok (.invokevirtual 269, 3) := oc_182 (a := 1) (b := 13) (by decide +kernel)
theorem dX12_firstSo_55 : decode cX12_firstSo 55 = .ok (.iload_n 2, 1) := oc_28 (by decide +kernel)
theorem dX12_firstSo_56 : decode cX12_firstSo 56 = .ok (.iload_n 3, 1) := oc_29 (by decide +kernel)
theorem dX12_firstSo_57 : decode cX12_firstSo 57 = .ok (.iload 4, 2) := oc_21 (by decide +kernel)
theorem tw_601 : Cond.methodLink RX12 297 yX12_isSo ∈ wsL_law := sg_26 _ (List.mem_of_getElem? (i := 1) rfl)
theorem tw_602 : Cond.instanceMethod yX12_isSo ∈ wsL_law := sg_26 _ (List.mem_of_getElem? (i := 2) rfl)
theorem tw_603 : Cond.selects RX12 yX12_isSo yX12_isSo ∈ wsL_law := sg_26 _ (List.mem_of_getElem? (i := 3) rfl)
theorem tw_604 : Cond.code yX12_isSo cX12_isSo 11 (some .boolean) ∈ wsL_law := sg_26 _ (List.mem_of_getElem? (i := 4) rfl)
theorem dX12_firstSo_59 : decode cX12_firstSo 59 = .ok (.invokevirtual 297, 3) := oc_182 (a := 1) (b := 41) (by decide +kernel)
theorem dX12_firstSo_62 : decode cX12_firstSo 62 = .ok (.ifCond .eq 6, 3) := oc_153 (a := 0) (b := 6) (by decide +kernel)
theorem dX12_firstSo_65 : decode cX12_firstSo 65 = .ok (.iload 6, 2) := oc_21 (by decide +kernel)
theorem dX12_firstSo_67 : decode cX12_firstSo 67 = .ok (.ireturn, 1) := oc_172 (by decide +kernel)
theorem dX12_stands_0 : decode cX12_stands 0 = .ok (.aload_n 0, 1) := oc_42 (by decide +kernel)
theorem dX12_stands_1 : decode cX12_stands 1 = .ok (.iload_n 1, 1) := oc_27 (by decide +kernel)
theorem dX12_stands_2 : decode cX12_stands 2 = .ok (.bipush 14, 2) := oc_16 (a := 14) (by decide +kernel)
theorem dX12_stands_4 : decode cX12_stands 4 = .ok (.invokevirtual 91, 3) := oc_182 (a := 0) (b := 91) (by decide +kernel)
theorem dX12_stands_7 : decode cX12_stands 7 = .ok (.istore_n 2, 1) := oc_61 (by decide +kernel)
theorem dX12_stands_8 : decode cX12_stands 8 = .ok (.iload_n 2, 1) := oc_28 (by decide +kernel)
theorem dX12_stands_9 : decode cX12_stands 9 = .ok (.ifCond .ge 5, 3) := oc_156 (a := 0) (b := 5) (by decide +kernel)
theorem dX12_stands_14 : decode cX12_stands 14 = .ok (.aload_n 0, 1) := oc_42 (by decide +kernel)
theorem dX12_stands_15 : decode cX12_stands 15 = .ok (.getfield 7, 3) := oc_180 (a := 0) (b := 7) (by decide +kernel)
theorem dX12_stands_18 : decode cX12_stands 18 = .ok (.iconst 0, 1) := oc_3 (by decide +kernel)
theorem dX12_stands_19 : decode cX12_stands 19 = .ok (.iaload, 1) := oc_46 (by decide +kernel)
theorem dX12_stands_56 : decode cX12_stands 56 = .ok (.iconst 1, 1) := oc_4 (by decide +kernel)
theorem dX12_stands_57 : decode cX12_stands 57 = .ok (.goto 4, 3) := oc_167 (a := 0) (b := 4) (by decide +kernel)
theorem dX12_stands_61 : decode cX12_stands 61 = .ok (.ireturn, 1) := oc_172 (by decide +kernel)
theorem dX12_stands_20 : decode cX12_stands 20 = .ok (.ifCond .eq 36, 3) := oc_153 (a := 0) (b := 36) (by decide +kernel)
theorem dX12_stands_23 : decode cX12_stands 23 = .ok (.aload_n 0, 1) := oc_42 (by decide +kernel)
theorem dX12_stands_24 : decode cX12_stands 24 = .ok (.iload_n 1, 1) := oc_27 (by decide +kernel)
theorem dX12_stands_25 : decode cX12_stands 25 = .ok (.bipush 12, 2) := oc_16 (a := 12) (by decide +kernel)
theorem dX12_stands_27 : decode cX12_stands 27 = .ok (.invokevirtual 91, 3) := oc_182 (a := 0) (b := 91) (by decide +kernel)
theorem dX12_stands_30 : decode cX12_stands 30 = .ok (.iconst 1, 1) := oc_4 (by decide +kernel)
theorem dX12_stands_31 : decode cX12_stands 31 = .ok (.if_icmp .eq 25, 3) := oc_159 (a := 0) (b := 25) (by decide +kernel)
theorem dX12_stands_34 : decode cX12_stands 34 = .ok (.aload_n 0, 1) := oc_42 (by decide +kernel)
theorem dX12_stands_35 : decode cX12_stands 35 = .ok (.iconst 1, 1) := oc_4 (by decide +kernel)
theorem dX12_stands_36 : decode cX12_stands 36 = .ok (.iload_n 2, 1) := oc_28 (by decide +kernel)
theorem dX12_stands_37 : decode cX12_stands 37 = .ok (.aload_n 0, 1) := oc_42 (by decide +kernel)
theorem dX12_stands_38 : decode cX12_stands 38 = .ok (.getfield 7, 3) := oc_180 (a := 0) (b := 7) (by decide +kernel)
theorem dX12_stands_41 : decode cX12_stands 41 = .ok (.iconst 0, 1) := oc_3 (by decide +kernel)
theorem dX12_stands_42 : decode cX12_stands 42 = .ok (.iaload, 1) := oc_46 (by decide +kernel)
theorem dX12_stands_43 : decode cX12_stands 43 = .ok (.aload_n 0, 1) := oc_42 (by decide +kernel)
theorem dX12_stands_44 : decode cX12_stands 44 = .ok (.iload_n 1, 1) := oc_27 (by decide +kernel)
theorem dX12_stands_45 : decode cX12_stands 45 = .ok (.bipush 11, 2) := oc_16 (a := 11) (by decide +kernel)
theorem dX12_stands_47 : decode cX12_stands 47 = .ok (.invokevirtual 91, 3) := oc_182 (a := 0) (b := 91) (by decide +kernel)
theorem tw_597 : Cond.methodLink RX12 120 yX12_firstSo ∈ wsL_law := sg_25 _ (List.mem_of_getElem? (i := 21) rfl)
theorem tw_598 : Cond.instanceMethod yX12_firstSo ∈ wsL_law := sg_25 _ (List.mem_of_getElem? (i := 22) rfl)
theorem tw_599 : Cond.selects RX12 yX12_firstSo yX12_firstSo ∈ wsL_law := sg_25 _ (List.mem_of_getElem? (i := 23) rfl)
theorem tw_600 : Cond.code yX12_firstSo cX12_firstSo 7 (some .int) ∈ wsL_law := sg_26 _ (List.mem_of_getElem? (i := 0) rfl)
theorem dX12_stands_50 : decode cX12_stands 50 = .ok (.invokevirtual 120, 3) := oc_182 (a := 0) (b := 120) (by decide +kernel)
theorem dX12_stands_53 : decode cX12_stands 53 = .ok (.ifCond .lt 7, 3) := oc_155 (a := 0) (b := 7) (by decide +kernel)
theorem dX12_stands_60 : decode cX12_stands 60 = .ok (.iconst 0, 1) := oc_3 (by decide +kernel)
theorem dX12_stands_12 : decode cX12_stands 12 = .ok (.iconst 0, 1) := oc_3 (by decide +kernel)
theorem dX12_stands_13 : decode cX12_stands 13 = .ok (.ireturn, 1) := oc_172 (by decide +kernel)
theorem dX12_titleOf_0 : decode cX12_titleOf 0 = .ok (.aload_n 0, 1) := oc_42 (by decide +kernel)
theorem dX12_titleOf_1 : decode cX12_titleOf 1 = .ok (.iload_n 1, 1) := oc_27 (by decide +kernel)
theorem dX12_titleOf_2 : decode cX12_titleOf 2 = .ok (.invokevirtual 88, 3) := oc_182 (a := 0) (b := 88) (by decide +kernel)
theorem dX12_titleOf_17 : decode cX12_titleOf 17 = .ok (.iconst (-1), 1) := oc_2 (by decide +kernel)
theorem dX12_titleOf_18 : decode cX12_titleOf 18 = .ok (.ireturn, 1) := oc_172 (by decide +kernel)
theorem dX12_titleOf_5 : decode cX12_titleOf 5 = .ok (.ifCond .eq 12, 3) := oc_153 (a := 0) (b := 12) (by decide +kernel)
theorem dX12_titleOf_8 : decode cX12_titleOf 8 = .ok (.iload_n 2, 1) := oc_28 (by decide +kernel)
theorem dX12_titleOf_9 : decode cX12_titleOf 9 = .ok (.iconst 0, 1) := oc_3 (by decide +kernel)
theorem dX12_titleOf_10 : decode cX12_titleOf 10 = .ok (.iconst 1, 1) := oc_4 (by decide +kernel)
theorem dX12_titleOf_11 : decode cX12_titleOf 11 = .ok (.invokestatic 62, 3) := oc_184 (a := 0) (b := 62) (by decide +kernel)
theorem dX12_titleOf_14 : decode cX12_titleOf 14 = .ok (.ifCond .ne 5, 3) := oc_154 (a := 0) (b := 5) (by decide +kernel)
theorem dX12_titleOf_19 : decode cX12_titleOf 19 = .ok (.iload_n 2, 1) := oc_28 (by decide +kernel)
theorem dX12_titleOf_20 : decode cX12_titleOf 20 = .ok (.ifCond .ne 13, 3) := oc_154 (a := 0) (b := 13) (by decide +kernel)
theorem dX12_titleOf_33 : decode cX12_titleOf 33 = .ok (.aload_n 0, 1) := oc_42 (by decide +kernel)
theorem dX12_titleOf_34 : decode cX12_titleOf 34 = .ok (.iload_n 1, 1) := oc_27 (by decide +kernel)
theorem tw_593 : Cond.methodLink RX12 124 yX12_stands ∈ wsL_law := sg_25 _ (List.mem_of_getElem? (i := 17) rfl)
theorem tw_594 : Cond.instanceMethod yX12_stands ∈ wsL_law := sg_25 _ (List.mem_of_getElem? (i := 18) rfl)
theorem tw_595 : Cond.selects RX12 yX12_stands yX12_stands ∈ wsL_law := sg_25 _ (List.mem_of_getElem? (i := 19) rfl)
theorem tw_596 : Cond.code yX12_stands cX12_stands 3 (some .boolean) ∈ wsL_law := sg_25 _ (List.mem_of_getElem? (i := 20) rfl)
theorem dX12_titleOf_35 : decode cX12_titleOf 35 = .ok (.invokevirtual 124, 3) := oc_182 (a := 0) (b := 124) (by decide +kernel)
theorem dX12_titleOf_38 : decode cX12_titleOf 38 = .ok (.ifCond .eq 7, 3) := oc_153 (a := 0) (b := 7) (by decide +kernel)
theorem dX12_titleOf_45 : decode cX12_titleOf 45 = .ok (.iconst 0, 1) := oc_3 (by decide +kernel)
theorem dX12_titleOf_46 : decode cX12_titleOf 46 = .ok (.ireturn, 1) := oc_172 (by decide +kernel)
theorem dX12_titleOf_41 : decode cX12_titleOf 41 = .ok (.iconst 1, 1) := oc_4 (by decide +kernel)
theorem dX12_titleOf_42 : decode cX12_titleOf 42 = .ok (.goto 4, 3) := oc_167 (a := 0) (b := 4) (by decide +kernel)
theorem dX12_titleOf_23 : decode cX12_titleOf 23 = .ok (.aload_n 0, 1) := oc_42 (by decide +kernel)
theorem dX12_titleOf_24 : decode cX12_titleOf 24 = .ok (.iload_n 1, 1) := oc_27 (by decide +kernel)
theorem dX12_titleOf_25 : decode cX12_titleOf 25 = .ok (.bipush 14, 2) := oc_16 (a := 14) (by decide +kernel)
theorem dX12_titleOf_27 : decode cX12_titleOf 27 = .ok (.invokevirtual 91, 3) := oc_182 (a := 0) (b := 91) (by decide +kernel)
theorem dX12_titleOf_30 : decode cX12_titleOf 30 = .ok (.goto 16, 3) := oc_167 (a := 0) (b := 16) (by decide +kernel)
theorem dX12_four_0 : decode cX12_four 0 = .ok (.bipush 24, 2) := oc_16 (a := 24) (by decide +kernel)
theorem dX12_four_2 : decode cX12_four 2 = .ok (.istore_n 2, 1) := oc_61 (by decide +kernel)
theorem dX12_four_3 : decode cX12_four 3 = .ok (.iload_n 2, 1) := oc_28 (by decide +kernel)
theorem dX12_four_4 : decode cX12_four 4 = .ok (.ifCond .lt 35, 3) := oc_155 (a := 0) (b := 35) (by decide +kernel)
theorem dX12_four_39 : decode cX12_four 39 = .ok (.return_, 1) := oc_177 (by decide +kernel)
theorem dX12_four_7 : decode cX12_four 7 = .ok (.aload_n 0, 1) := oc_42 (by decide +kernel)
theorem dX12_four_8 : decode cX12_four 8 = .ok (.getfield 19, 3) := oc_180 (a := 0) (b := 19) (by decide +kernel)
theorem dX12_four_11 : decode cX12_four 11 = .ok (.aload_n 0, 1) := oc_42 (by decide +kernel)
theorem dX12_four_12 : decode cX12_four 12 = .ok (.getfield 127, 3) := oc_180 (a := 0) (b := 127) (by decide +kernel)
theorem dX12_four_15 : decode cX12_four 15 = .ok (.iload_n 1, 1) := oc_27 (by decide +kernel)
theorem dX12_four_16 : decode cX12_four 16 = .ok (.iload_n 2, 1) := oc_28 (by decide +kernel)
theorem dX12_four_17 : decode cX12_four 17 = .ok (.ishr, 1) := oc_122 (by decide +kernel)
theorem dX12_four_18 : decode cX12_four 18 = .ok (.sipush 255, 3) := oc_17 (a := 0) (b := 255) (by decide +kernel)
theorem dX12_four_21 : decode cX12_four 21 = .ok (.iand, 1) := oc_126 (by decide +kernel)
theorem dX12_four_22 : decode cX12_four 22 = .ok (.iastore, 1) := oc_79 (by decide +kernel)
theorem dX12_four_23 : decode cX12_four 23 = .ok (.aload_n 0, 1) := oc_42 (by decide +kernel)
theorem dX12_four_24 : decode cX12_four 24 = .ok (.dup, 1) := oc_89 (by decide +kernel)
theorem dX12_four_25 : decode cX12_four 25 = .ok (.getfield 127, 3) := oc_180 (a := 0) (b := 127) (by decide +kernel)
theorem dX12_four_28 : decode cX12_four 28 = .ok (.iconst 1, 1) := oc_4 (by decide +kernel)
theorem dX12_four_29 : decode cX12_four 29 = .ok (.iadd, 1) := oc_96 (by decide +kernel)
theorem dX12_four_30 : decode cX12_four 30 = .ok (.putfield 127, 3) := oc_181 (a := 0) (b := 127) (by decide +kernel)
theorem dX12_four_33 : decode cX12_four 33 = .ok (.iinc 2 (-8), 3) := oc_132 (b := 248) (by decide +kernel)
theorem dX12_four_36 : decode cX12_four 36 = .ok (.goto (-33), 3) := oc_167 (a := 255) (b := 223) (by decide +kernel)
theorem dX12_feed_0 : decode cX12_feed 0 = .ok (.aload_n 0, 1) := oc_42 (by decide +kernel)
theorem dX12_feed_1 : decode cX12_feed 1 = .ok (.getfield 127, 3) := oc_180 (a := 0) (b := 127) (by decide +kernel)
theorem dX12_feed_4 : decode cX12_feed 4 = .ok (.bipush 20, 2) := oc_16 (a := 20) (by decide +kernel)
theorem dX12_feed_6 : decode cX12_feed 6 = .ok (.iadd, 1) := oc_96 (by decide +kernel)
theorem dX12_feed_7 : decode cX12_feed 7 = .ok (.sipush 300, 3) := oc_17 (a := 1) (b := 44) (by decide +kernel)
theorem dX12_feed_10 : decode cX12_feed 10 = .ok (.if_icmp .le 5, 3) := oc_164 (a := 0) (b := 5) (by decide +kernel)
theorem dX12_feed_15 : decode cX12_feed 15 = .ok (.aload_n 0, 1) := oc_42 (by decide +kernel)
theorem dX12_feed_16 : decode cX12_feed 16 = .ok (.iload_n 1, 1) := oc_27 (by decide +kernel)
theorem tw_632 : Cond.methodLink RX12 130 yX12_four ∈ wsL_law := sg_27 _ (List.mem_of_getElem? (i := 8) rfl)
theorem tw_633 : Cond.instanceMethod yX12_four ∈ wsL_law := sg_27 _ (List.mem_of_getElem? (i := 9) rfl)
theorem tw_634 : Cond.selects RX12 yX12_four yX12_four ∈ wsL_law := sg_27 _ (List.mem_of_getElem? (i := 10) rfl)
theorem tw_635 : Cond.code yX12_four cX12_four 3 none ∈ wsL_law := sg_27 _ (List.mem_of_getElem? (i := 11) rfl)
theorem dX12_feed_17 : decode cX12_feed 17 = .ok (.invokevirtual 130, 3) := oc_182 (a := 0) (b := 130) (by decide +kernel)
theorem dX12_feed_20 : decode cX12_feed 20 = .ok (.aload_n 0, 1) := oc_42 (by decide +kernel)
theorem dX12_feed_21 : decode cX12_feed 21 = .ok (.iload_n 2, 1) := oc_28 (by decide +kernel)
theorem dX12_feed_22 : decode cX12_feed 22 = .ok (.invokevirtual 130, 3) := oc_182 (a := 0) (b := 130) (by decide +kernel)
theorem dX12_feed_25 : decode cX12_feed 25 = .ok (.aload_n 0, 1) := oc_42 (by decide +kernel)
theorem dX12_feed_26 : decode cX12_feed 26 = .ok (.iload_n 3, 1) := oc_29 (by decide +kernel)
theorem dX12_feed_27 : decode cX12_feed 27 = .ok (.invokevirtual 130, 3) := oc_182 (a := 0) (b := 130) (by decide +kernel)
theorem dX12_feed_30 : decode cX12_feed 30 = .ok (.aload_n 0, 1) := oc_42 (by decide +kernel)
theorem dX12_feed_31 : decode cX12_feed 31 = .ok (.iload 4, 2) := oc_21 (by decide +kernel)
theorem dX12_feed_33 : decode cX12_feed 33 = .ok (.invokevirtual 130, 3) := oc_182 (a := 0) (b := 130) (by decide +kernel)
theorem dX12_feed_36 : decode cX12_feed 36 = .ok (.aload_n 0, 1) := oc_42 (by decide +kernel)
theorem dX12_feed_37 : decode cX12_feed 37 = .ok (.iload 5, 2) := oc_21 (by decide +kernel)
theorem dX12_feed_39 : decode cX12_feed 39 = .ok (.invokevirtual 130, 3) := oc_182 (a := 0) (b := 130) (by decide +kernel)
theorem dX12_feed_42 : decode cX12_feed 42 = .ok (.aload_n 0, 1) := oc_42 (by decide +kernel)
theorem dX12_feed_43 : decode cX12_feed 43 = .ok (.getfield 127, 3) := oc_180 (a := 0) (b := 127) (by decide +kernel)
theorem dX12_feed_46 : decode cX12_feed 46 = .ok (.ireturn, 1) := oc_172 (by decide +kernel)
theorem dX12_feed_13 : decode cX12_feed 13 = .ok (.iconst (-1), 1) := oc_2 (by decide +kernel)
theorem dX12_feed_14 : decode cX12_feed 14 = .ok (.ireturn, 1) := oc_172 (by decide +kernel)
theorem dX12_end_0 : decode cX12_end 0 = .ok (.iload_n 1, 1) := oc_27 (by decide +kernel)
theorem dX12_end_1 : decode cX12_end 1 = .ok (.iconst 0, 1) := oc_3 (by decide +kernel)
theorem dX12_end_2 : decode cX12_end 2 = .ok (.aload_n 0, 1) := oc_42 (by decide +kernel)
theorem dX12_end_3 : decode cX12_end 3 = .ok (.getfield 127, 3) := oc_180 (a := 0) (b := 127) (by decide +kernel)
theorem dX12_end_6 : decode cX12_end 6 = .ok (.invokestatic 62, 3) := oc_184 (a := 0) (b := 62) (by decide +kernel)
theorem dX12_end_9 : decode cX12_end 9 = .ok (.ifCond .ne 5, 3) := oc_154 (a := 0) (b := 5) (by decide +kernel)
theorem dX12_end_14 : decode cX12_end 14 = .ok (.aload_n 0, 1) := oc_42 (by decide +kernel)
theorem dX12_end_15 : decode cX12_end 15 = .ok (.iload_n 1, 1) := oc_27 (by decide +kernel)
theorem dX12_end_16 : decode cX12_end 16 = .ok (.putfield 127, 3) := oc_181 (a := 0) (b := 127) (by decide +kernel)
theorem dX12_end_19 : decode cX12_end 19 = .ok (.iload_n 1, 1) := oc_27 (by decide +kernel)
theorem dX12_end_20 : decode cX12_end 20 = .ok (.ireturn, 1) := oc_172 (by decide +kernel)
theorem dX12_end_12 : decode cX12_end 12 = .ok (.iconst (-1), 1) := oc_2 (by decide +kernel)
theorem dX12_end_13 : decode cX12_end 13 = .ok (.ireturn, 1) := oc_172 (by decide +kernel)
set_option maxRecDepth 100000 in
def g_X12_firstSo_K74 (I : Nat → Int32) (J : Nat → Int64) (rq : Nat → Nat → Option Nat) (ri_550 : Nat → Nat → Int32) (rj_551 : Nat → Nat → Int64) : Int32 × vM := ((-1 : Int32), I, J, ri_550, rj_551, rq)
set_option maxRecDepth 100000 in
theorem g_X12_firstSo_K74_e {I : Nat → Int32} {J : Nat → Int64} {rq : Nat → Nat → Option Nat} {ri_550 : Nat → Nat → Int32} {rj_551 : Nat → Nat → Int64} : g_X12_firstSo_K74 I J rq ri_550 rj_551  = ((-1 : Int32), I, J, ri_550, rj_551, rq) := rfl
set_option maxRecDepth 100000 in
def g_X12_firstSo_L11 (a0 : Int32) (a1 : Int32) (a2 : Int32) (a3 : Int32) (I : Nat → Int32) (J : Nat → Int64) (rq : Nat → Nat → Option Nat) (x_1 : Int32) : Nat → (Int32) → (Nat → Nat → Int32) → (Nat → Nat → Int64) → Int32 × vM
  | 0, x_549, ri_550, rj_551 => ((0 : Int32), I, J, ri_550, rj_551, rq)
  | n_618 + 1, x_549, ri_550, rj_551 => (if x_1 < (0 : Int32) then (g_X12_firstSo_K74 I J rq ri_550 rj_551 ) else (bnI (g_X12_clausesOf x_1 I J ri_550 rj_551 rq) fun (x_698 : Int32) (_ : Nat → Int32) (_ : Nat → Int64) (_ : Nat → Nat → Int32) (_ : Nat → Nat → Int64) (_ : Nat → Nat → Option Nat) => (if x_698 ≤ x_549 then (g_X12_firstSo_K74 I J rq ri_550 rj_551 ) else (bnI (g_X12_clauseAt x_1 x_549 I J ri_550 rj_551 rq) fun (x_716 : Int32) (_ : Nat → Int32) (_ : Nat → Int64) (_ : Nat → Nat → Int32) (_ : Nat → Nat → Int64) (_ : Nat → Nat → Option Nat) => (ap1 (ri_550 384 (x_716).toNatClampNeg) fun (x_725 : Int32) => (if x_725 = a0 then (bnI (g_X12_clauseAt x_1 x_549 I J ri_550 rj_551 rq) fun (x_735 : Int32) (_ : Nat → Int32) (_ : Nat → Int64) (_ : Nat → Nat → Int32) (_ : Nat → Nat → Int64) (_ : Nat → Nat → Option Nat) => (bnI (g_X12_isSo x_1 x_735 a1 a2 a3 I J ri_550 rj_551 rq) fun (x_745 : Int32) (_ : Nat → Int32) (_ : Nat → Int64) (ri_747 : Nat → Nat → Int32) (rj_748 : Nat → Nat → Int64) (_ : Nat → Nat → Option Nat) => (if x_745 = (0 : Int32) then (ap1 (x_549 + Int32.ofInt 1) fun (x_763 : Int32) => ((g_X12_firstSo_L11 a0 a1 a2 a3 I J rq x_1 n_618) x_763 ri_747 rj_748)) else (x_549, I, J, ri_747, rj_748, rq)))) else (ap1 (x_549 + Int32.ofInt 1) fun (x_731 : Int32) => ((g_X12_firstSo_L11 a0 a1 a2 a3 I J rq x_1 n_618) x_731 ri_550 rj_551))))))))
set_option maxRecDepth 100000 in
theorem g_X12_firstSo_L11_e {a0 : Int32} {a1 : Int32} {a2 : Int32} {a3 : Int32} {I : Nat → Int32} {J : Nat → Int64} {rq : Nat → Nat → Option Nat} {x_1 : Int32} {n_618 : Nat} {x_549 : Int32} {ri_550 : Nat → Nat → Int32} {rj_551 : Nat → Nat → Int64} : g_X12_firstSo_L11 a0 a1 a2 a3 I J rq x_1 (n_618 + 1) x_549 ri_550 rj_551 = (if x_1 < (0 : Int32) then (g_X12_firstSo_K74 I J rq ri_550 rj_551 ) else (bnI (g_X12_clausesOf x_1 I J ri_550 rj_551 rq) fun (x_698 : Int32) (_ : Nat → Int32) (_ : Nat → Int64) (_ : Nat → Nat → Int32) (_ : Nat → Nat → Int64) (_ : Nat → Nat → Option Nat) => (if x_698 ≤ x_549 then (g_X12_firstSo_K74 I J rq ri_550 rj_551 ) else (bnI (g_X12_clauseAt x_1 x_549 I J ri_550 rj_551 rq) fun (x_716 : Int32) (_ : Nat → Int32) (_ : Nat → Int64) (_ : Nat → Nat → Int32) (_ : Nat → Nat → Int64) (_ : Nat → Nat → Option Nat) => (ap1 (ri_550 384 (x_716).toNatClampNeg) fun (x_725 : Int32) => (if x_725 = a0 then (bnI (g_X12_clauseAt x_1 x_549 I J ri_550 rj_551 rq) fun (x_735 : Int32) (_ : Nat → Int32) (_ : Nat → Int64) (_ : Nat → Nat → Int32) (_ : Nat → Nat → Int64) (_ : Nat → Nat → Option Nat) => (bnI (g_X12_isSo x_1 x_735 a1 a2 a3 I J ri_550 rj_551 rq) fun (x_745 : Int32) (_ : Nat → Int32) (_ : Nat → Int64) (ri_747 : Nat → Nat → Int32) (rj_748 : Nat → Nat → Int64) (_ : Nat → Nat → Option Nat) => (if x_745 = (0 : Int32) then (ap1 (x_549 + Int32.ofInt 1) fun (x_763 : Int32) => ((g_X12_firstSo_L11 a0 a1 a2 a3 I J rq x_1 n_618) x_763 ri_747 rj_748)) else (x_549, I, J, ri_747, rj_748, rq)))) else (ap1 (x_549 + Int32.ofInt 1) fun (x_731 : Int32) => ((g_X12_firstSo_L11 a0 a1 a2 a3 I J rq x_1 n_618) x_731 ri_550 rj_551)))))))) := rfl
set_option maxRecDepth 100000 in
def g_X12_firstSo (a0 : Int32) (a1 : Int32) (a2 : Int32) (a3 : Int32) (I : Nat → Int32) (J : Nat → Int64) (ri : Nat → Nat → Int32) (rj : Nat → Nat → Int64) (rq : Nat → Nat → Option Nat) : Int32 × vM := (bnI (g_X12_textFor a0 a2 I J ri rj rq) fun (x_1 : Int32) (_ : Nat → Int32) (_ : Nat → Int64) (_ : Nat → Nat → Int32) (_ : Nat → Nat → Int64) (_ : Nat → Nat → Option Nat) => (g_X12_firstSo_L11 a0 a1 a2 a3 I J rq x_1 ((20 - ((0 : Int32)).toInt).toNat + 1) (0 : Int32) ri rj))
set_option maxRecDepth 100000 in
theorem g_X12_firstSo_e {a0 : Int32} {a1 : Int32} {a2 : Int32} {a3 : Int32} {I : Nat → Int32} {J : Nat → Int64} {ri : Nat → Nat → Int32} {rj : Nat → Nat → Int64} {rq : Nat → Nat → Option Nat} : g_X12_firstSo a0 a1 a2 a3 I J ri rj rq = (bnI (g_X12_textFor a0 a2 I J ri rj rq) fun (x_1 : Int32) (_ : Nat → Int32) (_ : Nat → Int64) (_ : Nat → Nat → Int32) (_ : Nat → Nat → Int64) (_ : Nat → Nat → Option Nat) => (g_X12_firstSo_L11 a0 a1 a2 a3 I J rq x_1 ((20 - ((0 : Int32)).toInt).toNat + 1) (0 : Int32) ri rj)) := rfl
set_option maxHeartbeats 4000000 in
set_option maxRecDepth 100000 in
theorem s_X12_firstSo (l : Launch) (D : va_G) (t : pq_T) (σ : pq_S) (I : Nat → Nat → Int32) (J : Nat → Nat → Int64) (ri : Nat → Nat → Int32) (rj : Nat → Nat → Int64) (rq : Nat → Nat → Option Nat) (sz : Nat) (tg : Nat → Nat) (hSH : SH σ tg) (hG0 : GT tg I ri) (this : Nat) (a0 : Int32) (a1 : Int32) (a2 : Int32) (a3 : Int32) (hL_this : this ∈ σ.1) (hK_this : σ.2.1 this = 12) (h_a0 : rg a0 1 4) (h_a1 : rg a1 0 39) (this_a : Nat) (hR_this_a : σ.2.2.1 384 this = some this_a) (hL_this_a : this_a ∈ σ.1) (hK_this_a : σ.2.1 this_a = 13) (hN_this_a : σ.2.2.2 this_a = 12720) (hT_this_a : tg this_a = 384) : MetI l yX12_firstSo (wa yX12_firstSo cX12_firstSo 7 (some .int)) ({ frames := 3, cells := 0, slots := 0, locals := 76 }) [.ref this, .int a0, .int a1, .int a2, .int a3] D t σ (I, J, ri, rj, rq) sz 0 0 (fun (r : Int32) (u : pq_S × pq_M) => ∃ ri' : Nat → Nat → Int32, ∃ rj' : Nat → Nat → Int64, u = (σ, I, J, ri', rj', rq) ∧ GM [] tg σ I ri I ri' rq ∧ (∀ q, tg q ≠ 405 → ri' q = ri q) ∧ g_X12_firstSo a0 a1 a2 a3 (vI 12 σ this I) (vJ 12 σ this J) (vR 12 σ this ri) (vL 12 σ this rj) (vQ 12 σ this rq) = (r, (vI 12 σ this I), (vJ 12 σ this J), (vR 12 σ this ri'), (vL 12 σ this rj'), (vQ 12 σ this rq)) ∧ FR 12 tg σ this (I, J, ri, rj, rq) (I, J, ri', rj', rq) ∧ rg r (-1) 19) := by
  refine Met.ofW (cc := cX12_firstSo) (maxL := 7) (ret := (some .int)) (by decide +kernel) rfl ?_
  intro p e s m args below meth c s₁ B hml hv
  obtain ⟨rfl, hsz, hP, hK, hD0, hN⟩ := hv
  have hx := B.exec
  have hb := B.bytes
  have hr := B.returns
  have hts := atoms_spec (ws := (wa yX12_firstSo cX12_firstSo 7 (some .int))) B.pre
  have hown : s.vm.findClass RX12 = some m.cls := findClass_of_methodNamed B.named
  have hlocks := B.notSynchronized
  subst hsz
  have hD : va_D (pq_B t σ (I, J, ri, rj, rq) s.heap.size) (pq_P t σ (I, J, ri, rj, rq)) := hD0.self
  generalize hAe : pq_B t σ (I, J, ri, rj, rq) s.heap.size = A at hD ⊢
  have hA : ∀ q : Nat, s.heap.size ≤ q → A q := fun q h => by rw [← hAe]; exact Or.inr h
  have hS : va_S A s.heap s.heap [] := va_S.rf
  have hG : GM [] tg σ I ri I ri rq := ⟨hG0, fun _ _ _ => rfl, fun _ _ _ _ _ => rfl, fun _ _ _ _ _ _ => rfl⟩
  have hl := lv_entry ([.ref this, .int a0, .int a1, .int a2, .int a3]) (n := 7) (Nat.le_of_ble_eq_true rfl)
  rw [lg_entry_eq]
  generalize (lg_sl ([.ref this, .int a0, .int a1, .int a2, .int a3]) ++ List.replicate (7 - (lg_sl ([.ref this, .int a0, .int a1, .int a2, .int a3])).length) Slot.unset).toArray = ls at hl ⊢
  have hl : lv_has ls 7 [(0, .ref this), (1, .int a0), (2, .int a1), (3, .int a2), (4, .int a3)] := hl
  refine q_gen (fun Q hQ => ?_)
  have go : ∀ (H : Heap) (locs : List Loc) (ls : Array Slot), va_P D vwCl (pq_P t σ (I, J, ri, rj, rq)) H → va_D A (pq_P t σ (I, J, ri, rj, rq)) → va_S A s.heap H locs → lv_has ls 7 [(0, .ref this), (1, .int a0), (2, .int a1), (3, .int a2), (4, .int a3)] → W p l e ({ frames := 3, cells := 0, slots := 0, locals := 76 } : Room) s m (List.toArray ([.ref this, .int a0, .int a1, .int a2, .int a3] : List Value)) below meth c H locs 0 0 Q (F0 m 0 ls []) := by
    intro H locs ls hP hD hS hl
    have hO_this : this = vo σ 12 this := rfl
    have hVT : VT 12 σ tg this := vt_12 hSH hL_this hK_this
    have hFr : FR 12 tg σ this (I, J, ri, rj, rq) (I, J, ri, rj, rq) := fr_rf
    have hO_this_a : this_a = vrow σ 384 this := vo_k (c := 12) hO_this hR_this_a
    obtain ⟨F, hF0⟩ : ∃ F, F = g_X12_firstSo a0 a1 a2 a3 (vI 12 σ this I) (vJ 12 σ this J) (vR 12 σ this ri) (vL 12 σ this rj) (vQ 12 σ this rq) := ⟨_, rfl⟩
    have hF := hF0.trans g_X12_firstSo_e
    refine lv_aload_n hx hb dX12_firstSo_0 rfl (lv_at hl 0 rfl) ?_
    refine lv_iload_n hx hb dX12_firstSo_1 rfl (lv_at hl 1 rfl) ?_
    refine lv_iload_n hx hb dX12_firstSo_2 rfl (lv_at hl 3 rfl) ?_
    refine pk_i (va_runV (As := [.int a0, .int a2]) (rest := []) ⟨hx, hb, hml, hown, hts⟩ (s_X12_textFor l D t σ I J ri rj rq H.size tg hSH hG.1 this a0 a2 hL_this hK_this this_a hR_this_a hL_this_a hK_this_a hN_this_a hT_this_a) (cwV 2 hts (tw_V tw_508 tw_509 tw_510 tw_5 tw_511) rfl rfl rfl cv_yX12_textFor_2 ⟨Nat.le_of_ble_eq_true rfl, Nat.le_of_ble_eq_true rfl⟩) ⟨pq_blind, pq_recv hK hP hL_this hK_this (by decide +kernel) rfl, pq_pre hK hN hP hD⟩ rfl rfl hl.1 rfl (lv_room (Nat.le_of_ble_eq_true rfl)) dX12_firstSo_3 ⟨Nat.le_of_ble_eq_true rfl, Nat.le_of_ble_eq_true rfl⟩) hD hS hA (fun x_1 σ1 μ1 H locs hw_2 hP hD hS => ?_)
    obtain ⟨hu_3, hp_6, hfn_7, hr_5⟩ := hw_2
    obtain ⟨hu_3a, hu_3b⟩ := Prod.mk.inj hu_3
    rw [hu_3a, hu_3b] at hP hD
    replace hF := hF.trans (bn_n hfn_7)
    have tt_9 := hp_6
    refine lv_istore (lv' := [(5, .int x_1), (0, .ref this), (1, .int a0), (2, .int a1), (3, .int a2), (4, .int a3)]) hx hb dX12_firstSo_6 hl (by decide +kernel) rfl (fun ls hl => ?_)
    refine lv_iconst (v := 0) hx hb dX12_firstSo_8 (by decide +kernel) ?_
    refine lv_istore (lv' := [(6, .int 0), (5, .int x_1), (0, .ref this), (1, .int a0), (2, .int a1), (3, .int a2), (4, .int a3)]) hx hb dX12_firstSo_9 hl (by decide +kernel) rfl (fun ls hl => ?_)
    have L_619 : ∀ (n_618 : Nat) (x_549 : Int32) (ri_550 : Nat → Nat → Int32) (rj_551 : Nat → Nat → Int64) (H : Heap) (locs : List Loc) (ls : Array Slot), rg x_549 0 20 → (∀ q, tg q ≠ 405 → ri_550 q = ri q) → (20 - (x_549).toInt).toNat < n_618 → F = g_X12_firstSo_L11 a0 a1 a2 a3 (vI 12 σ this I) (vJ 12 σ this J) (vQ 12 σ this rq) x_1 n_618 x_549 (vR 12 σ this ri_550) (vL 12 σ this rj_551) → FR 12 tg σ this (I, J, ri, rj, rq) (I, J, ri_550, rj_551, rq) → GM [] tg σ I ri I ri_550 rq → va_P D vwCl (pq_P t σ (I, J, ri_550, rj_551, rq)) H → va_D A (pq_P t σ (I, J, ri_550, rj_551, rq)) → va_S A s.heap H locs → lv_has ls 7 [(0, .ref this), (1, .int a0), (2, .int a1), (3, .int a2), (4, .int a3), (5, .int x_1), (6, .int x_549)] → W p l e ({ frames := 3, cells := 0, slots := 0, locals := 76 } : Room) s m (List.toArray ([.ref this, .int a0, .int a1, .int a2, .int a3] : List Value)) below meth c H locs 0 0 Q (F0 m 11 ls []) := by
      intro n_618
      induction n_618 with
      | zero => intro x_549 ri_550 rj_551 H locs ls h_623 hrel_624 hm_617 hF hFr hG hP hD hS hl; exact absurd hm_617 (Nat.not_lt_zero _)
      | succ n_618 ih_620 =>
        intro x_549 ri_550 rj_551 H locs ls h_623 hrel_624 hm_617 hF hFr hG hP hD hS hl
        have uh_623 := h_623.1
        have vh_623 := h_623.2
        replace hF := hF.trans g_X12_firstSo_L11_e
        refine lv_iload hx hb dX12_firstSo_11 (lv_at hl 5 rfl) ?_
        have K_688 : ∀  (H : Heap) (locs : List Loc) (ls : Array Slot), F = g_X12_firstSo_K74 (vI 12 σ this I) (vJ 12 σ this J) (vQ 12 σ this rq) (vR 12 σ this ri_550) (vL 12 σ this rj_551)  → FR 12 tg σ this (I, J, ri, rj, rq) (I, J, ri_550, rj_551, rq) → GM [] tg σ I ri I ri_550 rq → va_P D vwCl (pq_P t σ (I, J, ri_550, rj_551, rq)) H → va_D A (pq_P t σ (I, J, ri_550, rj_551, rq)) → va_S A s.heap H locs → lv_has ls 7 [] → W p l e ({ frames := 3, cells := 0, slots := 0, locals := 76 } : Room) s m (List.toArray ([.ref this, .int a0, .int a1, .int a2, .int a3] : List Value)) below meth c H locs 0 0 Q (F0 m 74 ls []) := by
          intro H locs ls hF hFr hG hP hD hS hl
          replace hF := hF.trans g_X12_firstSo_K74_e
          refine lv_iconst (v := (-1)) hx hb dX12_firstSo_74 (by decide +kernel) ?_
          subst hQ
          exact W.iret (v := (-1)) hx hb hr (fun t1 ht hW => ⟨⟨(-1), (σ, I, J, ri_550, rj_551, rq), rfl, ⟨ri_550, rj_551, rfl, hG, hrel_624, (hF0.symm.trans hF), hFr, (rg_w (rg_k (-1 : Int32) (-1) rfl) (by decide +kernel))⟩, by rw [ht]; exact hP, va_K.moved hW.alike hK, hD⟩, hS.F ht⟩) hS.2.2 dX12_firstSo_75
        refine lv_if_lt (tgt := 74) hx hb dX12_firstSo_13 (by decide +kernel) (fun c_689 => ?_) (fun c_689 => ?_)
        · replace hF := hF.trans (if_pos c_689)
          have tc_694 : (x_1).toInt < 0 := Int32.lt_iff_toInt_lt.mp c_689
          have h_695 : rg x_1 (-1) (-1) := rg_lt1 c_689 hr_5 (rg_k (0 : Int32) 0 rfl) (by decide +kernel)
          have uh_695 := h_695.1
          have vh_695 := h_695.2
          exact K_688 _ _ _ hF hFr hG hP hD hS (lv_sub hl [] rfl)
        · replace hF := hF.trans (if_neg c_689)
          have tc_696 : 0 ≤ (x_1).toInt := Int32.le_iff_toInt_le.mp (nlt c_689)
          have h_697 : rg x_1 0 9 := rg_le2 (nlt c_689) (rg_k (0 : Int32) 0 rfl) hr_5 (by decide +kernel)
          have uh_697 := h_697.1
          have vh_697 := h_697.2
          refine lv_iload hx hb dX12_firstSo_16 (lv_at hl 6 rfl) ?_
          refine lv_aload_n hx hb dX12_firstSo_18 rfl (lv_at hl 0 rfl) ?_
          refine lv_iload hx hb dX12_firstSo_19 (lv_at hl 5 rfl) ?_
          refine pk_i (va_runV (As := [.int x_1]) (rest := [.int x_549]) ⟨hx, hb, hml, hown, hts⟩ (s_X12_clausesOf l D t σ I J ri_550 rj_551 rq H.size tg hSH hG.1 this x_1 hL_this hK_this (rg_w h_697 (by decide +kernel)) this_a hR_this_a hL_this_a hK_this_a hN_this_a hT_this_a) (cwV 1 hts (tw_V tw_516 tw_517 tw_518 tw_5 tw_519) rfl rfl rfl cv_yX12_clausesOf_1 ⟨Nat.le_of_ble_eq_true rfl, Nat.le_of_ble_eq_true rfl⟩) ⟨pq_blind, pq_recv hK hP hL_this hK_this (by decide +kernel) rfl, pq_pre hK hN hP hD⟩ rfl rfl hl.1 rfl (lv_room (Nat.le_of_ble_eq_true rfl)) dX12_firstSo_21 ⟨Nat.le_of_ble_eq_true rfl, Nat.le_of_ble_eq_true rfl⟩) hD hS hA (fun x_698 σ1 μ1 H locs hw_699 hP hD hS => ?_)
          obtain ⟨hu_700, hp_703, hfn_704, hr_702⟩ := hw_699
          obtain ⟨hu_700a, hu_700b⟩ := Prod.mk.inj hu_700
          rw [hu_700a, hu_700b] at hP hD
          replace hF := hF.trans (bn_n hfn_704)
          have tt_706 := congrArg Int32.toInt hp_703
          refine lv_icmp_ge (tgt := 74) hx hb dX12_firstSo_24 (by decide +kernel) (fun c_707 => ?_) (fun c_707 => ?_)
          · replace hF := hF.trans (if_pos c_707)
            have tc_712 : (x_698).toInt ≤ (x_549).toInt := Int32.le_iff_toInt_le.mp c_707
            exact K_688 _ _ _ hF hFr hG hP hD hS (lv_sub hl [] rfl)
          · replace hF := hF.trans (if_neg c_707)
            have tc_713 : (x_549).toInt < (x_698).toInt := Int32.lt_iff_toInt_lt.mp (nle c_707)
            have h_714 : rg x_549 0 19 := rg_lt1 (nle c_707) h_623 hr_702 (by decide +kernel)
            have uh_714 := h_714.1
            have vh_714 := h_714.2
            have h_715 : rg x_698 1 20 := rg_lt2 (nle c_707) h_623 hr_702 (by decide +kernel)
            have uh_715 := h_715.1
            have vh_715 := h_715.2
            refine lv_aload_n hx hb dX12_firstSo_27 rfl (lv_at hl 0 rfl) ?_
            refine pg_f (v := .ref this_a) (C := RX12) (T := TX12) (N := 31) hx hb hts (tw_i inlX12) hown hK hP hL_this hK_this (by decide +kernel) rfl 0 (by decide +kernel) (hts _ (tw_c tw_176)) (pq_hv rfl hR_this_a) dX12_firstSo_28 ?_
            refine lv_aload_n hx hb dX12_firstSo_31 rfl (lv_at hl 0 rfl) ?_
            refine lv_iload hx hb dX12_firstSo_32 (lv_at hl 5 rfl) ?_
            refine lv_iload hx hb dX12_firstSo_34 (lv_at hl 6 rfl) ?_
            refine pk_i (va_runV (As := [.int x_1, .int x_549]) (rest := [.ref this_a]) ⟨hx, hb, hml, hown, hts⟩ (s_X12_clauseAt l D t σ I J ri_550 rj_551 rq H.size tg hSH hG.1 this x_1 x_549 hL_this hK_this (rg_w h_697 (by decide +kernel)) (rg_w h_714 (by decide +kernel))) (cwV 2 hts (tw_V tw_520 tw_521 tw_522 tw_5 tw_523) rfl rfl rfl cv_yX12_clauseAt_2 ⟨Nat.le_of_ble_eq_true rfl, Nat.le_of_ble_eq_true rfl⟩) ⟨pq_blind, pq_recv hK hP hL_this hK_this (by decide +kernel) rfl, pq_pre hK hN hP hD⟩ rfl rfl hl.1 rfl (lv_room (Nat.le_of_ble_eq_true rfl)) dX12_firstSo_36 ⟨Nat.le_of_ble_eq_true rfl, Nat.le_of_ble_eq_true rfl⟩) hD hS hA (fun x_716 σ1 μ1 H locs hw_717 hP hD hS => ?_)
            obtain ⟨hu_718, hp_721, hfn_722, hr_720⟩ := hw_717
            obtain ⟨hu_718a, hu_718b⟩ := Prod.mk.inj hu_718
            rw [hu_718a, hu_718b] at hP hD
            replace hF := hF.trans (bn_n hfn_722)
            have tt_724 := hp_721
            refine pl_i hx hb hK hP hL_this_a hK_this_a hN_this_a (rg_in hr_720 (by decide +kernel)) dX12_firstSo_39 ?_
            refine lv_topi (fun x_725 ex_725 => ?_)
            replace hF := hF.trans (ap_n (vR_r hO_this_a (by decide +kernel) ex_725))
            refine lv_iload_n hx hb dX12_firstSo_40 rfl (lv_at hl 1 rfl) ?_
            refine lv_icmp_ne (tgt := 68) hx hb dX12_firstSo_41 (by decide +kernel) (fun c_726 => ?_) (fun c_726 => ?_)
            · replace hF := hF.trans (if_neg c_726)
              have tc_730 : (x_725).toInt ≠ (a0).toInt := fun q => c_726 (Int32.toInt_inj.mp q)
              obtain ⟨x_731, ex_731⟩ : ∃ y : Int32, y = x_549 + Int32.ofInt 1 := ⟨_, rfl⟩
              replace hF := hF.trans (ap_n ex_731)
              have h_732 : rg x_731 1 20 := rg_of_eq ex_731 (rg_add h_714 (rg_k (Int32.ofInt 1) 1 rfl) (by decide +kernel))
              have uh_732 := h_732.1
              have vh_732 := h_732.2
              have tx_731 : (x_731).toInt = (x_549).toInt + 1 := by rw [ex_731]; exact i_add_rg (a2 := (x_549).toInt) (b2 := 1) rfl rfl h_714 (rg_k (Int32.ofInt 1) 1 rfl) (by decide +kernel)
              refine lv_iinc (v := x_731) (lv' := [(6, .int x_731), (0, .ref this), (1, .int a0), (2, .int a1), (3, .int a2), (4, .int a3), (5, .int x_1)]) hx hb dX12_firstSo_68 hl (k := 6) rfl ex_731.symm (by decide +kernel) rfl (fun ls hl => ?_)
              refine lv_goto (tgt := 11) hx hb dX12_firstSo_71 (by decide +kernel) ?_
              exact ih_620 x_731 ri_550 rj_551 _ _ _ (rg_w h_732 (by decide +kernel)) hrel_624 (ms_up 1 hm_617 ex_731 rfl (by decide +kernel) h_714 (by decide +kernel) (by decide +kernel)) hF hFr hG hP hD hS (lv_sub hl [1, 2, 3, 4, 5, 6, 0] rfl)
            · replace hF := hF.trans (if_pos c_726)
              have tc_733 : (x_725).toInt = (a0).toInt := congrArg Int32.toInt c_726
              have h_734 : rg x_725 1 4 := rg_and (rg_full _) (rg_of_eq c_726 h_a0) (by decide +kernel)
              have uh_734 := h_734.1
              have vh_734 := h_734.2
              refine lv_aload_n hx hb dX12_firstSo_44 rfl (lv_at hl 0 rfl) ?_
              refine lv_iload hx hb dX12_firstSo_45 (lv_at hl 5 rfl) ?_
              refine lv_aload_n hx hb dX12_firstSo_47 rfl (lv_at hl 0 rfl) ?_
              refine lv_iload hx hb dX12_firstSo_48 (lv_at hl 5 rfl) ?_
              refine lv_iload hx hb dX12_firstSo_50 (lv_at hl 6 rfl) ?_
              refine pk_i (va_runV (As := [.int x_1, .int x_549]) (rest := [.int x_1, .ref this]) ⟨hx, hb, hml, hown, hts⟩ (s_X12_clauseAt l D t σ I J ri_550 rj_551 rq H.size tg hSH hG.1 this x_1 x_549 hL_this hK_this (rg_w h_697 (by decide +kernel)) (rg_w h_714 (by decide +kernel))) (cwV 2 hts (tw_V tw_520 tw_521 tw_522 tw_5 tw_523) rfl rfl rfl cv_yX12_clauseAt_2 ⟨Nat.le_of_ble_eq_true rfl, Nat.le_of_ble_eq_true rfl⟩) ⟨pq_blind, pq_recv hK hP hL_this hK_this (by decide +kernel) rfl, pq_pre hK hN hP hD⟩ rfl rfl hl.1 rfl (lv_room (Nat.le_of_ble_eq_true rfl)) dX12_firstSo_52 ⟨Nat.le_of_ble_eq_true rfl, Nat.le_of_ble_eq_true rfl⟩) hD hS hA (fun x_735 σ1 μ1 H locs hw_736 hP hD hS => ?_)
              obtain ⟨hu_737, hp_740, hfn_741, hr_739⟩ := hw_736
              obtain ⟨hu_737a, hu_737b⟩ := Prod.mk.inj hu_737
              rw [hu_737a, hu_737b] at hP hD
              replace hF := hF.trans (bn_n hfn_741)
              have tt_743 := hp_740
              refine lv_iload_n hx hb dX12_firstSo_55 rfl (lv_at hl 2 rfl) ?_
              refine lv_iload_n hx hb dX12_firstSo_56 rfl (lv_at hl 3 rfl) ?_
              refine lv_iload hx hb dX12_firstSo_57 (lv_at hl 4 rfl) ?_
              have hsa : ri_550 this_a = ri this_a := (hrel_624 this_a (by rw [hT_this_a]; decide))
              have hw1 : 0 ≤ (x_1).toInt ∧ (x_1).toInt < (ri_550 this_a 6).toInt := by rw [hsa]; omega
              have hw2 : ∃ c : Nat, c < 20 ∧ (c : Int) < (ri_550 this_a (3720 + 900 * (x_1).toNatClampNeg)).toInt ∧ (x_735).toInt = 3721 + 900 * (x_1).toInt + 12 * c := ⟨x_549.toNatClampNeg, by have z0 := clampE x_549; omega, by have z0 := clampE x_549; omega, by have z0 := clampE x_549; omega⟩
              have hwe : x_735 = x_716 := Int32.toInt_inj.mp (by omega)
              have hwz : ri_550 this_a (x_735).toNatClampNeg = x_725 := by rw [hwe]; exact ex_725.symm
              have hw3 : 1 ≤ (ri_550 this_a (x_735).toNatClampNeg).toInt ∧ (ri_550 this_a (x_735).toNatClampNeg).toInt ≤ 4 := by rw [hwz]; omega
              have h_744 : rg x_735 3721 12060 := ⟨by omega, by omega⟩
              have uh_744 := h_744.1
              have vh_744 := h_744.2
              refine pk_i (va_runV (As := [.int x_1, .int x_735, .int a1, .int a2, .int a3]) (rest := []) ⟨hx, hb, hml, hown, hts⟩ (s_X12_isSo l D t σ I J ri_550 rj_551 rq H.size tg hSH hG.1 this x_1 x_735 a1 a2 a3 hL_this hK_this (rg_w h_697 (by decide +kernel)) (rg_w h_744 (by decide +kernel)) (rg_w h_a1 (by decide +kernel)) this_a hR_this_a hL_this_a hK_this_a hN_this_a hT_this_a (by assumption) (by assumption) (by assumption)) (cwV 5 hts (tw_V tw_601 tw_602 tw_603 tw_5 tw_604) rfl rfl rfl cv_yX12_isSo_5 ⟨Nat.le_of_ble_eq_true rfl, Nat.le_of_ble_eq_true rfl⟩) ⟨pq_blind, pq_recv hK hP hL_this hK_this (by decide +kernel) rfl, pq_pre hK hN hP hD⟩ rfl rfl hl.1 rfl (lv_room (Nat.le_of_ble_eq_true rfl)) dX12_firstSo_59 ⟨Nat.le_of_ble_eq_true rfl, Nat.le_of_ble_eq_true rfl⟩) hD hS hA (fun x_745 σ1 μ1 H locs hw_746 hP hD hS => ?_)
              obtain ⟨ri_747, rj_748, hu_749, hg_750, hp_752, hfn_753, hfr_754, hr_751⟩ := hw_746
              obtain ⟨hu_749a, hu_749b⟩ := Prod.mk.inj hu_749
              rw [hu_749a, hu_749b] at hP hD
              replace hF := hF.trans (bn_n hfn_753)
              replace hFr := fr_tr hFr hfr_754
              have hG := GM.tr hG hg_750 (by decide +kernel)
              have h_755 : rg x_745 0 1 := by rcases hr_751 with ⟨q, -⟩ | ⟨q, -⟩ <;> rw [q] <;> exact ⟨by decide +kernel, by decide +kernel⟩
              have uh_755 := h_755.1
              have vh_755 := h_755.2
              refine lv_if_eq (tgt := 68) hx hb dX12_firstSo_62 (by decide +kernel) (fun c_756 => ?_) (fun c_756 => ?_)
              · replace hF := hF.trans (if_pos c_756)
                have tc_761 : (x_745).toInt = 0 := congrArg Int32.toInt c_756
                have h_762 : rg x_745 0 0 := rg_and h_755 (rg_of_eq c_756 (rg_k (0 : Int32) 0 rfl)) (by decide +kernel)
                have uh_762 := h_762.1
                have vh_762 := h_762.2
                obtain ⟨x_763, ex_763⟩ : ∃ y : Int32, y = x_549 + Int32.ofInt 1 := ⟨_, rfl⟩
                replace hF := hF.trans (ap_n ex_763)
                have h_764 : rg x_763 1 20 := rg_of_eq ex_763 (rg_add h_714 (rg_k (Int32.ofInt 1) 1 rfl) (by decide +kernel))
                have uh_764 := h_764.1
                have vh_764 := h_764.2
                have tx_763 : (x_763).toInt = (x_549).toInt + 1 := by rw [ex_763]; exact i_add_rg (a2 := (x_549).toInt) (b2 := 1) rfl rfl h_714 (rg_k (Int32.ofInt 1) 1 rfl) (by decide +kernel)
                refine lv_iinc (v := x_763) (lv' := [(6, .int x_763), (0, .ref this), (1, .int a0), (2, .int a1), (3, .int a2), (4, .int a3), (5, .int x_1)]) hx hb dX12_firstSo_68 hl (k := 6) rfl ex_763.symm (by decide +kernel) rfl (fun ls hl => ?_)
                refine lv_goto (tgt := 11) hx hb dX12_firstSo_71 (by decide +kernel) ?_
                exact ih_620 x_763 ri_747 rj_748 _ _ _ (rg_w h_764 (by decide +kernel)) (fr_t hrel_624 hp_752) (ms_up 1 hm_617 ex_763 rfl (by decide +kernel) h_714 (by decide +kernel) (by decide +kernel)) hF hFr hG hP hD hS (lv_sub hl [1, 2, 3, 4, 5, 6, 0] rfl)
              · replace hF := hF.trans (if_neg c_756)
                have tc_765 : (x_745).toInt ≠ 0 := fun q => c_756 (Int32.toInt_inj.mp q)
                have h_766 : rg x_745 1 1 := rg_ne c_756 h_755 0 rfl (by decide +kernel)
                have uh_766 := h_766.1
                have vh_766 := h_766.2
                refine lv_iload hx hb dX12_firstSo_65 (lv_at hl 6 rfl) ?_
                subst hQ
                exact W.iret (v := x_549) hx hb hr (fun t1 ht hW => ⟨⟨x_549, (σ, I, J, ri_747, rj_748, rq), rfl, ⟨ri_747, rj_748, rfl, hG, (fr_t hrel_624 hp_752), (hF0.symm.trans hF), hFr, (rg_w h_714 (by decide +kernel))⟩, by rw [ht]; exact hP, va_K.moved hW.alike hK, hD⟩, hS.F ht⟩) hS.2.2 dX12_firstSo_67
    exact L_619 _ (0 : Int32) ri rj _ _ _ (rg_w (rg_k (0 : Int32) 0 rfl) (by decide +kernel)) (fun _ _ => rfl) (Nat.lt_succ_self _) hF hFr hG hP hD hS (lv_sub hl [2, 3, 4, 5, 6, 1, 0] rfl)
  exact go _ _ _ hP hD hS hl

set_option maxRecDepth 100000 in
def g_X12_stands_K56 (I : Nat → Int32) (J : Nat → Int64) (rq : Nat → Nat → Option Nat) (ri_56 : Nat → Nat → Int32) (rj_57 : Nat → Nat → Int64) : Int32 × vM := ((1 : Int32), I, J, ri_56, rj_57, rq)
set_option maxRecDepth 100000 in
theorem g_X12_stands_K56_e {I : Nat → Int32} {J : Nat → Int64} {rq : Nat → Nat → Option Nat} {ri_56 : Nat → Nat → Int32} {rj_57 : Nat → Nat → Int64} : g_X12_stands_K56 I J rq ri_56 rj_57 = ((1 : Int32), I, J, ri_56, rj_57, rq) := rfl
set_option maxRecDepth 100000 in
def g_X12_stands (a0 : Int32) (I : Nat → Int32) (J : Nat → Int64) (ri : Nat → Nat → Int32) (rj : Nat → Nat → Int64) (rq : Nat → Nat → Option Nat) : Int32 × vM := (bnI (g_X12_cellAt_c14 a0 I J ri rj rq) fun (x_1 : Int32) (_ : Nat → Int32) (_ : Nat → Int64) (_ : Nat → Nat → Int32) (_ : Nat → Nat → Int64) (_ : Nat → Nat → Option Nat) => (if (0 : Int32) ≤ x_1 then (ap1 (ri 384 0) fun (y_17 : Int32) => (if (y_17) = (0 : Int32) then (g_X12_stands_K56 I J rq ri rj) else (bnI (g_X12_cellAt_c12 a0 I J ri rj rq) fun (x_68 : Int32) (_ : Nat → Int32) (_ : Nat → Int64) (_ : Nat → Nat → Int32) (_ : Nat → Nat → Int64) (_ : Nat → Nat → Option Nat) => (if x_68 = (1 : Int32) then (g_X12_stands_K56 I J rq ri rj) else (bnI (g_X12_cellAt_c11 a0 I J ri rj rq) fun (x_82 : Int32) (_ : Nat → Int32) (_ : Nat → Int64) (_ : Nat → Nat → Int32) (_ : Nat → Nat → Int64) (_ : Nat → Nat → Option Nat) => (bnI (g_X12_firstSo (1 : Int32) x_1 (y_17) x_82 I J ri rj rq) fun (x_89 : Int32) (_ : Nat → Int32) (_ : Nat → Int64) (ri_91 : Nat → Nat → Int32) (rj_92 : Nat → Nat → Int64) (_ : Nat → Nat → Option Nat) => (if x_89 < (0 : Int32) then ((0 : Int32), I, J, ri_91, rj_92, rq) else (g_X12_stands_K56 I J rq ri_91 rj_92)))))))) else ((0 : Int32), I, J, ri, rj, rq)))
set_option maxRecDepth 100000 in
theorem g_X12_stands_e {a0 : Int32} {I : Nat → Int32} {J : Nat → Int64} {ri : Nat → Nat → Int32} {rj : Nat → Nat → Int64} {rq : Nat → Nat → Option Nat} : g_X12_stands a0 I J ri rj rq = (bnI (g_X12_cellAt_c14 a0 I J ri rj rq) fun (x_1 : Int32) (_ : Nat → Int32) (_ : Nat → Int64) (_ : Nat → Nat → Int32) (_ : Nat → Nat → Int64) (_ : Nat → Nat → Option Nat) => (if (0 : Int32) ≤ x_1 then (ap1 (ri 384 0) fun (y_17 : Int32) => (if (y_17) = (0 : Int32) then (g_X12_stands_K56 I J rq ri rj) else (bnI (g_X12_cellAt_c12 a0 I J ri rj rq) fun (x_68 : Int32) (_ : Nat → Int32) (_ : Nat → Int64) (_ : Nat → Nat → Int32) (_ : Nat → Nat → Int64) (_ : Nat → Nat → Option Nat) => (if x_68 = (1 : Int32) then (g_X12_stands_K56 I J rq ri rj) else (bnI (g_X12_cellAt_c11 a0 I J ri rj rq) fun (x_82 : Int32) (_ : Nat → Int32) (_ : Nat → Int64) (_ : Nat → Nat → Int32) (_ : Nat → Nat → Int64) (_ : Nat → Nat → Option Nat) => (bnI (g_X12_firstSo (1 : Int32) x_1 (y_17) x_82 I J ri rj rq) fun (x_89 : Int32) (_ : Nat → Int32) (_ : Nat → Int64) (ri_91 : Nat → Nat → Int32) (rj_92 : Nat → Nat → Int64) (_ : Nat → Nat → Option Nat) => (if x_89 < (0 : Int32) then ((0 : Int32), I, J, ri_91, rj_92, rq) else (g_X12_stands_K56 I J rq ri_91 rj_92)))))))) else ((0 : Int32), I, J, ri, rj, rq))) := rfl
set_option maxHeartbeats 4000000 in
set_option maxRecDepth 100000 in
theorem s_X12_stands (l : Launch) (D : va_G) (t : pq_T) (σ : pq_S) (I : Nat → Nat → Int32) (J : Nat → Nat → Int64) (ri : Nat → Nat → Int32) (rj : Nat → Nat → Int64) (rq : Nat → Nat → Option Nat) (sz : Nat) (tg : Nat → Nat) (hSH : SH σ tg) (hG0 : GT tg I ri) (this : Nat) (a0 : Int32) (hL_this : this ∈ σ.1) (hK_this : σ.2.1 this = 12) (h_a0 : rg a0 0 39) : MetI l yX12_stands (wa yX12_stands cX12_stands 3 (some .boolean)) ({ frames := 4, cells := 0, slots := 0, locals := 102 }) [.ref this, .int a0] D t σ (I, J, ri, rj, rq) sz 0 0 (fun (r : Int32) (u : pq_S × pq_M) => ∃ ri' : Nat → Nat → Int32, ∃ rj' : Nat → Nat → Int64, u = (σ, I, J, ri', rj', rq) ∧ GM [] tg σ I ri I ri' rq ∧ g_X12_stands a0 (vI 12 σ this I) (vJ 12 σ this J) (vR 12 σ this ri) (vL 12 σ this rj) (vQ 12 σ this rq) = (r, (vI 12 σ this I), (vJ 12 σ this J), (vR 12 σ this ri'), (vL 12 σ this rj'), (vQ 12 σ this rq)) ∧ FR 12 tg σ this (I, J, ri, rj, rq) (I, J, ri', rj', rq) ∧ ((r = 1 ∧ True) ∨ (r = 0 ∧ True))) := by
  refine Met.ofW (cc := cX12_stands) (maxL := 3) (ret := (some .boolean)) (by decide +kernel) rfl ?_
  intro p e s m args below meth c s₁ B hml hv
  obtain ⟨rfl, hsz, hP, hK, hD0, hN⟩ := hv
  have hx := B.exec
  have hb := B.bytes
  have hr := B.returns
  have hts := atoms_spec (ws := (wa yX12_stands cX12_stands 3 (some .boolean))) B.pre
  have hown : s.vm.findClass RX12 = some m.cls := findClass_of_methodNamed B.named
  have hlocks := B.notSynchronized
  subst hsz
  have hD : va_D (pq_B t σ (I, J, ri, rj, rq) s.heap.size) (pq_P t σ (I, J, ri, rj, rq)) := hD0.self
  generalize hAe : pq_B t σ (I, J, ri, rj, rq) s.heap.size = A at hD ⊢
  have hA : ∀ q : Nat, s.heap.size ≤ q → A q := fun q h => by rw [← hAe]; exact Or.inr h
  have hS : va_S A s.heap s.heap [] := va_S.rf
  have hG : GM [] tg σ I ri I ri rq := ⟨hG0, fun _ _ _ => rfl, fun _ _ _ _ _ => rfl, fun _ _ _ _ _ _ => rfl⟩
  have hl := lv_entry ([.ref this, .int a0]) (n := 3) (Nat.le_of_ble_eq_true rfl)
  rw [lg_entry_eq]
  generalize (lg_sl ([.ref this, .int a0]) ++ List.replicate (3 - (lg_sl ([.ref this, .int a0])).length) Slot.unset).toArray = ls at hl ⊢
  have hl : lv_has ls 3 [(0, .ref this), (1, .int a0)] := hl
  refine q_gen (fun Q hQ => ?_)
  have go : ∀ (H : Heap) (locs : List Loc) (ls : Array Slot), va_P D vwCl (pq_P t σ (I, J, ri, rj, rq)) H → va_D A (pq_P t σ (I, J, ri, rj, rq)) → va_S A s.heap H locs → lv_has ls 3 [(0, .ref this), (1, .int a0)] → W p l e ({ frames := 4, cells := 0, slots := 0, locals := 102 } : Room) s m (List.toArray ([.ref this, .int a0] : List Value)) below meth c H locs 0 0 Q (F0 m 0 ls []) := by
    intro H locs ls hP hD hS hl
    have hO_this : this = vo σ 12 this := rfl
    have hVT : VT 12 σ tg this := vt_12 hSH hL_this hK_this
    have hFr : FR 12 tg σ this (I, J, ri, rj, rq) (I, J, ri, rj, rq) := fr_rf
    obtain ⟨F, hF0⟩ : ∃ F, F = g_X12_stands a0 (vI 12 σ this I) (vJ 12 σ this J) (vR 12 σ this ri) (vL 12 σ this rj) (vQ 12 σ this rq) := ⟨_, rfl⟩
    have hF := hF0.trans g_X12_stands_e
    refine lv_aload_n hx hb dX12_stands_0 rfl (lv_at hl 0 rfl) ?_
    refine lv_iload_n hx hb dX12_stands_1 rfl (lv_at hl 1 rfl) ?_
    refine lv_bipush (v := 14) hx hb dX12_stands_2 (by decide +kernel) ?_
    refine pk_i (va_runV (As := [.int a0, .int 14]) (rest := []) ⟨hx, hb, hml, hown, hts⟩ (s_X12_cellAt_c14 l D t σ I J ri rj rq H.size tg hSH hG.1 this a0 hL_this hK_this (rg_w h_a0 (by decide +kernel))) (cwV 2 hts (tw_V tw_361 tw_362 tw_363 tw_5 tw_364) rfl rfl rfl cv_yX12_cellAt_2 ⟨Nat.le_of_ble_eq_true rfl, Nat.le_of_ble_eq_true rfl⟩) ⟨pq_blind, pq_recv hK hP hL_this hK_this (by decide +kernel) rfl, pq_pre hK hN hP hD⟩ rfl rfl hl.1 rfl (lv_room (Nat.le_of_ble_eq_true rfl)) dX12_stands_4 ⟨Nat.le_of_ble_eq_true rfl, Nat.le_of_ble_eq_true rfl⟩) hD hS hA (fun x_1 σ1 μ1 H locs hw_2 hP hD hS => ?_)
    obtain ⟨hu_3, hfn_6, hr_5⟩ := hw_2
    obtain ⟨hu_3a, hu_3b⟩ := Prod.mk.inj hu_3
    rw [hu_3a, hu_3b] at hP hD
    replace hF := hF.trans (bn_n hfn_6)
    refine lv_istore_n (lv' := [(2, .int x_1), (0, .ref this), (1, .int a0)]) hx hb dX12_stands_7 rfl hl (by decide +kernel) rfl (fun ls hl => ?_)
    refine lv_iload_n hx hb dX12_stands_8 rfl (lv_at hl 0 rfl) ?_
    refine lv_if_ge (tgt := 14) hx hb dX12_stands_9 (by decide +kernel) (fun c_8 => ?_) (fun c_8 => ?_)
    · replace hF := hF.trans (if_pos c_8)
      have tc_13 : 0 ≤ (x_1).toInt := Int32.le_iff_toInt_le.mp c_8
      have h_14 : rg x_1 0 39 := rg_le2 c_8 (rg_k (0 : Int32) 0 rfl) hr_5 (by decide +kernel)
      have uh_14 := h_14.1
      have vh_14 := h_14.2
      refine lv_aload_n hx hb dX12_stands_14 rfl (lv_at hl 1 rfl) ?_
      obtain ⟨w_15, hR_w_15, hL_w_15, hK_w_15, hN_w_15, hT_w_15⟩ := sh_a hSH 384 (ci := 12) (kd := 13) (len := 12720) rfl (by decide +kernel) hL_this hK_this
      have hO_w_15 : w_15 = vrow σ 384 this := vo_k (c := 12) hO_this hR_w_15
      refine pg_f (v := .ref w_15) (C := RX12) (T := TX12) (N := 31) hx hb hts (tw_i inlX12) hown hK hP hL_this hK_this (by decide +kernel) rfl 0 (by decide +kernel) (hts _ (tw_c tw_176)) (pq_hv rfl hR_w_15) dX12_stands_15 ?_
      refine lv_iconst (v := 0) hx hb dX12_stands_18 (by decide +kernel) ?_
      refine pl_i hx hb hK hP hL_w_15 hK_w_15 hN_w_15 (vp_in_iff.mpr (by decide +kernel)) dX12_stands_19 ?_
      refine lv_tov (ri w_15 0) rfl ?_
      have h_16 : rg (ri w_15 0) 0 600 := GM.z0 hG0 (by rw [hT_w_15]; decide) (i := 0) (k := 0) (by decide +kernel) rfl
      have uh_16 := h_16.1
      have vh_16 := h_16.2
      replace hF := hF.trans (ap_n (vR_r hO_w_15 (by decide +kernel) rfl))
      have K_58 : ∀  (ri_56 : Nat → Nat → Int32) (rj_57 : Nat → Nat → Int64) (H : Heap) (locs : List Loc) (ls : Array Slot), F = g_X12_stands_K56 (vI 12 σ this I) (vJ 12 σ this J) (vQ 12 σ this rq) (vR 12 σ this ri_56) (vL 12 σ this rj_57) → FR 12 tg σ this (I, J, ri, rj, rq) (I, J, ri_56, rj_57, rq) → GM [] tg σ I ri I ri_56 rq → va_P D vwCl (pq_P t σ (I, J, ri_56, rj_57, rq)) H → va_D A (pq_P t σ (I, J, ri_56, rj_57, rq)) → va_S A s.heap H locs → lv_has ls 3 [] → W p l e ({ frames := 4, cells := 0, slots := 0, locals := 102 } : Room) s m (List.toArray ([.ref this, .int a0] : List Value)) below meth c H locs 0 0 Q (F0 m 56 ls []) := by
        intro ri_56 rj_57 H locs ls hF hFr hG hP hD hS hl
        replace hF := hF.trans g_X12_stands_K56_e
        refine lv_iconst (v := 1) hx hb dX12_stands_56 (by decide +kernel) ?_
        refine lv_goto (tgt := 61) hx hb dX12_stands_57 (by decide +kernel) ?_
        subst hQ
        exact W.zret (v := 1) hx hb hr (by decide +kernel) (fun t1 ht hW => ⟨⟨1, (σ, I, J, ri_56, rj_57, rq), rfl, ⟨ri_56, rj_57, rfl, hG, (hF0.symm.trans hF), hFr, (Or.inl ⟨rfl, trivial⟩)⟩, by rw [ht]; exact hP, va_K.moved hW.alike hK, hD⟩, hS.F ht⟩) hS.2.2 dX12_stands_61
      refine lv_if_eq (tgt := 56) hx hb dX12_stands_20 (by decide +kernel) (fun c_59 => ?_) (fun c_59 => ?_)
      · replace hF := hF.trans (if_pos c_59)
        have tc_64 : (ri w_15 0).toInt = 0 := congrArg Int32.toInt c_59
        have h_65 : rg (ri w_15 0) 0 0 := rg_and h_16 (rg_of_eq c_59 (rg_k (0 : Int32) 0 rfl)) (by decide +kernel)
        have uh_65 := h_65.1
        have vh_65 := h_65.2
        exact K_58 ri rj _ _ _ hF hFr hG hP hD hS (lv_sub hl [] rfl)
      · replace hF := hF.trans (if_neg c_59)
        have tc_66 : (ri w_15 0).toInt ≠ 0 := fun q => c_59 (Int32.toInt_inj.mp q)
        have h_67 : rg (ri w_15 0) 1 600 := rg_ne c_59 h_16 0 rfl (by decide +kernel)
        have uh_67 := h_67.1
        have vh_67 := h_67.2
        refine lv_aload_n hx hb dX12_stands_23 rfl (lv_at hl 1 rfl) ?_
        refine lv_iload_n hx hb dX12_stands_24 rfl (lv_at hl 2 rfl) ?_
        refine lv_bipush (v := 12) hx hb dX12_stands_25 (by decide +kernel) ?_
        refine pk_i (va_runV (As := [.int a0, .int 12]) (rest := []) ⟨hx, hb, hml, hown, hts⟩ (s_X12_cellAt_c12 l D t σ I J ri rj rq H.size tg hSH hG.1 this a0 hL_this hK_this (rg_w h_a0 (by decide +kernel))) (cwV 2 hts (tw_V tw_361 tw_362 tw_363 tw_5 tw_364) rfl rfl rfl cv_yX12_cellAt_2 ⟨Nat.le_of_ble_eq_true rfl, Nat.le_of_ble_eq_true rfl⟩) ⟨pq_blind, pq_recv hK hP hL_this hK_this (by decide +kernel) rfl, pq_pre hK hN hP hD⟩ rfl rfl hl.1 rfl (lv_room (Nat.le_of_ble_eq_true rfl)) dX12_stands_27 ⟨Nat.le_of_ble_eq_true rfl, Nat.le_of_ble_eq_true rfl⟩) hD hS hA (fun x_68 σ1 μ1 H locs hw_69 hP hD hS => ?_)
        obtain ⟨hu_70, hfn_73⟩ := hw_69
        obtain ⟨hu_70a, hu_70b⟩ := Prod.mk.inj hu_70
        rw [hu_70a, hu_70b] at hP hD
        replace hF := hF.trans (bn_n hfn_73)
        refine lv_iconst (v := 1) hx hb dX12_stands_30 (by decide +kernel) ?_
        refine lv_icmp_eq (tgt := 56) hx hb dX12_stands_31 (by decide +kernel) (fun c_75 => ?_) (fun c_75 => ?_)
        · replace hF := hF.trans (if_pos c_75)
          have tc_79 : (x_68).toInt = 1 := congrArg Int32.toInt c_75
          have h_80 : rg x_68 1 1 := rg_and (rg_full _) (rg_of_eq c_75 (rg_k (1 : Int32) 1 rfl)) (by decide +kernel)
          have uh_80 := h_80.1
          have vh_80 := h_80.2
          exact K_58 ri rj _ _ _ hF hFr hG hP hD hS (lv_sub hl [] rfl)
        · replace hF := hF.trans (if_neg c_75)
          have tc_81 : (x_68).toInt ≠ 1 := fun q => c_75 (Int32.toInt_inj.mp q)
          refine lv_aload_n hx hb dX12_stands_34 rfl (lv_at hl 1 rfl) ?_
          refine lv_iconst (v := 1) hx hb dX12_stands_35 (by decide +kernel) ?_
          refine lv_iload_n hx hb dX12_stands_36 rfl (lv_at hl 0 rfl) ?_
          refine lv_aload_n hx hb dX12_stands_37 rfl (lv_at hl 1 rfl) ?_
          refine pg_f (v := .ref w_15) (C := RX12) (T := TX12) (N := 31) hx hb hts (tw_i inlX12) hown hK hP hL_this hK_this (by decide +kernel) rfl 0 (by decide +kernel) (hts _ (tw_c tw_176)) (pq_hv rfl hR_w_15) dX12_stands_38 ?_
          refine lv_iconst (v := 0) hx hb dX12_stands_41 (by decide +kernel) ?_
          refine pl_i hx hb hK hP hL_w_15 hK_w_15 hN_w_15 (vp_in_iff.mpr (by decide +kernel)) dX12_stands_42 ?_
          refine lv_tov (ri w_15 0) rfl ?_
          refine lv_aload_n hx hb dX12_stands_43 rfl (lv_at hl 1 rfl) ?_
          refine lv_iload_n hx hb dX12_stands_44 rfl (lv_at hl 2 rfl) ?_
          refine lv_bipush (v := 11) hx hb dX12_stands_45 (by decide +kernel) ?_
          refine pk_i (va_runV (As := [.int a0, .int 11]) (rest := [.int (ri w_15 0), .int x_1, .int 1, .ref this]) ⟨hx, hb, hml, hown, hts⟩ (s_X12_cellAt_c11 l D t σ I J ri rj rq H.size tg hSH hG.1 this a0 hL_this hK_this (rg_w h_a0 (by decide +kernel))) (cwV 2 hts (tw_V tw_361 tw_362 tw_363 tw_5 tw_364) rfl rfl rfl cv_yX12_cellAt_2 ⟨Nat.le_of_ble_eq_true rfl, Nat.le_of_ble_eq_true rfl⟩) ⟨pq_blind, pq_recv hK hP hL_this hK_this (by decide +kernel) rfl, pq_pre hK hN hP hD⟩ rfl rfl hl.1 rfl (lv_room (Nat.le_of_ble_eq_true rfl)) dX12_stands_47 ⟨Nat.le_of_ble_eq_true rfl, Nat.le_of_ble_eq_true rfl⟩) hD hS hA (fun x_82 σ1 μ1 H locs hw_83 hP hD hS => ?_)
          obtain ⟨hu_84, hfn_87⟩ := hw_83
          obtain ⟨hu_84a, hu_84b⟩ := Prod.mk.inj hu_84
          rw [hu_84a, hu_84b] at hP hD
          replace hF := hF.trans (bn_n hfn_87)
          refine pk_i (va_runV (As := [.int 1, .int x_1, .int (ri w_15 0), .int x_82]) (rest := []) ⟨hx, hb, hml, hown, hts⟩ (s_X12_firstSo l D t σ I J ri rj rq H.size tg hSH hG.1 this (1 : Int32) x_1 (ri w_15 0) x_82 hL_this hK_this (rg_w (rg_k (1 : Int32) 1 rfl) (by decide +kernel)) (rg_w h_14 (by decide +kernel)) w_15 hR_w_15 hL_w_15 hK_w_15 hN_w_15 hT_w_15) (cwV 4 hts (tw_V tw_597 tw_598 tw_599 tw_5 tw_600) rfl rfl rfl cv_yX12_firstSo_4 ⟨Nat.le_of_ble_eq_true rfl, Nat.le_of_ble_eq_true rfl⟩) ⟨pq_blind, pq_recv hK hP hL_this hK_this (by decide +kernel) rfl, pq_pre hK hN hP hD⟩ rfl rfl hl.1 rfl (lv_room (Nat.le_of_ble_eq_true rfl)) dX12_stands_50 ⟨Nat.le_of_ble_eq_true rfl, Nat.le_of_ble_eq_true rfl⟩) hD hS hA (fun x_89 σ1 μ1 H locs hw_90 hP hD hS => ?_)
          obtain ⟨ri_91, rj_92, hu_93, hg_94, hp_96, hfn_97, hfr_98, hr_95⟩ := hw_90
          obtain ⟨hu_93a, hu_93b⟩ := Prod.mk.inj hu_93
          rw [hu_93a, hu_93b] at hP hD
          replace hF := hF.trans (bn_n hfn_97)
          replace hFr := fr_tr hFr hfr_98
          have hG := GM.tr hG hg_94 (by decide +kernel)
          refine lv_if_lt (tgt := 60) hx hb dX12_stands_53 (by decide +kernel) (fun c_99 => ?_) (fun c_99 => ?_)
          · replace hF := hF.trans (if_pos c_99)
            have tc_104 : (x_89).toInt < 0 := Int32.lt_iff_toInt_lt.mp c_99
            have h_105 : rg x_89 (-1) (-1) := rg_lt1 c_99 hr_95 (rg_k (0 : Int32) 0 rfl) (by decide +kernel)
            have uh_105 := h_105.1
            have vh_105 := h_105.2
            refine lv_iconst (v := 0) hx hb dX12_stands_60 (by decide +kernel) ?_
            subst hQ
            exact W.zret (v := 0) hx hb hr (by decide +kernel) (fun t1 ht hW => ⟨⟨0, (σ, I, J, ri_91, rj_92, rq), rfl, ⟨ri_91, rj_92, rfl, hG, (hF0.symm.trans hF), hFr, (Or.inr ⟨rfl, trivial⟩)⟩, by rw [ht]; exact hP, va_K.moved hW.alike hK, hD⟩, hS.F ht⟩) hS.2.2 dX12_stands_61
          · replace hF := hF.trans (if_neg c_99)
            have tc_106 : 0 ≤ (x_89).toInt := Int32.le_iff_toInt_le.mp (nlt c_99)
            have h_107 : rg x_89 0 19 := rg_le2 (nlt c_99) (rg_k (0 : Int32) 0 rfl) hr_95 (by decide +kernel)
            have uh_107 := h_107.1
            have vh_107 := h_107.2
            exact K_58 ri_91 rj_92 _ _ _ hF hFr hG hP hD hS (lv_sub hl [] rfl)
    · replace hF := hF.trans (if_neg c_8)
      have tc_108 : (x_1).toInt < 0 := Int32.lt_iff_toInt_lt.mp (nle c_8)
      have h_109 : rg x_1 (-1) (-1) := rg_lt1 (nle c_8) hr_5 (rg_k (0 : Int32) 0 rfl) (by decide +kernel)
      have uh_109 := h_109.1
      have vh_109 := h_109.2
      refine lv_iconst (v := 0) hx hb dX12_stands_12 (by decide +kernel) ?_
      subst hQ
      exact W.zret (v := 0) hx hb hr (by decide +kernel) (fun t1 ht hW => ⟨⟨0, (σ, I, J, ri, rj, rq), rfl, ⟨ri, rj, rfl, hG, (hF0.symm.trans hF), hFr, (Or.inr ⟨rfl, trivial⟩)⟩, by rw [ht]; exact hP, va_K.moved hW.alike hK, hD⟩, hS.F ht⟩) hS.2.2 dX12_stands_13
  exact go _ _ _ hP hD hS hl

set_option maxRecDepth 100000 in
def g_X12_titleOf_K17 (I : Nat → Int32) (J : Nat → Int64) (ri : Nat → Nat → Int32) (rj : Nat → Nat → Int64) (rq : Nat → Nat → Option Nat) : Int32 × vM := ((-1 : Int32), I, J, ri, rj, rq)
set_option maxRecDepth 100000 in
theorem g_X12_titleOf_K17_e {I : Nat → Int32} {J : Nat → Int64} {ri : Nat → Nat → Int32} {rj : Nat → Nat → Int64} {rq : Nat → Nat → Option Nat} : g_X12_titleOf_K17 I J ri rj rq  = ((-1 : Int32), I, J, ri, rj, rq) := rfl
set_option maxRecDepth 100000 in
def g_X12_titleOf (a0 : Int32) (a1 : Int32) (I : Nat → Int32) (J : Nat → Int64) (ri : Nat → Nat → Int32) (rj : Nat → Nat → Int64) (rq : Nat → Nat → Option Nat) : Int32 × vM := (bnI (g_X12_isCell a0 I J ri rj rq) fun (x_1 : Int32) (_ : Nat → Int32) (_ : Nat → Int64) (_ : Nat → Nat → Int32) (_ : Nat → Nat → Int64) (_ : Nat → Nat → Option Nat) => (if x_1 = (0 : Int32) then (g_X12_titleOf_K17 I J ri rj rq ) else (ap1 (g_X12_isIn a1 (0 : Int32) (1 : Int32)) fun (x_77 : Int32) => (if x_77 = (0 : Int32) then (g_X12_titleOf_K17 I J ri rj rq ) else (if a1 = (0 : Int32) then (bnI (g_X12_cellAt_c14 a0 I J ri rj rq) fun (x_133 : Int32) (_ : Nat → Int32) (_ : Nat → Int64) (_ : Nat → Nat → Int32) (_ : Nat → Nat → Int64) (_ : Nat → Nat → Option Nat) => (x_133, I, J, ri, rj, rq)) else (bnI (g_X12_stands a0 I J ri rj rq) fun (x_112 : Int32) (_ : Nat → Int32) (_ : Nat → Int64) (ri_114 : Nat → Nat → Int32) (rj_115 : Nat → Nat → Int64) (_ : Nat → Nat → Option Nat) => (if x_112 = (0 : Int32) then ((0 : Int32), I, J, ri_114, rj_115, rq) else ((1 : Int32), I, J, ri_114, rj_115, rq))))))))
set_option maxRecDepth 100000 in
theorem g_X12_titleOf_e {a0 : Int32} {a1 : Int32} {I : Nat → Int32} {J : Nat → Int64} {ri : Nat → Nat → Int32} {rj : Nat → Nat → Int64} {rq : Nat → Nat → Option Nat} : g_X12_titleOf a0 a1 I J ri rj rq = (bnI (g_X12_isCell a0 I J ri rj rq) fun (x_1 : Int32) (_ : Nat → Int32) (_ : Nat → Int64) (_ : Nat → Nat → Int32) (_ : Nat → Nat → Int64) (_ : Nat → Nat → Option Nat) => (if x_1 = (0 : Int32) then (g_X12_titleOf_K17 I J ri rj rq ) else (ap1 (g_X12_isIn a1 (0 : Int32) (1 : Int32)) fun (x_77 : Int32) => (if x_77 = (0 : Int32) then (g_X12_titleOf_K17 I J ri rj rq ) else (if a1 = (0 : Int32) then (bnI (g_X12_cellAt_c14 a0 I J ri rj rq) fun (x_133 : Int32) (_ : Nat → Int32) (_ : Nat → Int64) (_ : Nat → Nat → Int32) (_ : Nat → Nat → Int64) (_ : Nat → Nat → Option Nat) => (x_133, I, J, ri, rj, rq)) else (bnI (g_X12_stands a0 I J ri rj rq) fun (x_112 : Int32) (_ : Nat → Int32) (_ : Nat → Int64) (ri_114 : Nat → Nat → Int32) (rj_115 : Nat → Nat → Int64) (_ : Nat → Nat → Option Nat) => (if x_112 = (0 : Int32) then ((0 : Int32), I, J, ri_114, rj_115, rq) else ((1 : Int32), I, J, ri_114, rj_115, rq)))))))) := rfl
set_option maxHeartbeats 4000000 in
set_option maxRecDepth 100000 in
theorem s_X12_titleOf (l : Launch) (D : va_G) (t : pq_T) (σ : pq_S) (I : Nat → Nat → Int32) (J : Nat → Nat → Int64) (ri : Nat → Nat → Int32) (rj : Nat → Nat → Int64) (rq : Nat → Nat → Option Nat) (sz : Nat) (tg : Nat → Nat) (hSH : SH σ tg) (hG0 : GT tg I ri) (this : Nat) (a0 : Int32) (a1 : Int32) (hL_this : this ∈ σ.1) (hK_this : σ.2.1 this = 12) : MetI l yX12_titleOf (wa yX12_titleOf cX12_titleOf 3 (some .int)) ({ frames := 5, cells := 0, slots := 0, locals := 124 }) [.ref this, .int a0, .int a1] D t σ (I, J, ri, rj, rq) sz 0 0 (fun (r : Int32) (u : pq_S × pq_M) => ∃ ri' : Nat → Nat → Int32, ∃ rj' : Nat → Nat → Int64, u = (σ, I, J, ri', rj', rq) ∧ GM [] tg σ I ri I ri' rq ∧ g_X12_titleOf a0 a1 (vI 12 σ this I) (vJ 12 σ this J) (vR 12 σ this ri) (vL 12 σ this rj) (vQ 12 σ this rq) = (r, (vI 12 σ this I), (vJ 12 σ this J), (vR 12 σ this ri'), (vL 12 σ this rj'), (vQ 12 σ this rq)) ∧ FR 12 tg σ this (I, J, ri, rj, rq) (I, J, ri', rj', rq) ∧ rg r (-1) 39) := by
  refine Met.ofW (cc := cX12_titleOf) (maxL := 3) (ret := (some .int)) (by decide +kernel) rfl ?_
  intro p e s m args below meth c s₁ B hml hv
  obtain ⟨rfl, hsz, hP, hK, hD0, hN⟩ := hv
  have hx := B.exec
  have hb := B.bytes
  have hr := B.returns
  have hts := atoms_spec (ws := (wa yX12_titleOf cX12_titleOf 3 (some .int))) B.pre
  have hown : s.vm.findClass RX12 = some m.cls := findClass_of_methodNamed B.named
  have hlocks := B.notSynchronized
  subst hsz
  have hD : va_D (pq_B t σ (I, J, ri, rj, rq) s.heap.size) (pq_P t σ (I, J, ri, rj, rq)) := hD0.self
  generalize hAe : pq_B t σ (I, J, ri, rj, rq) s.heap.size = A at hD ⊢
  have hA : ∀ q : Nat, s.heap.size ≤ q → A q := fun q h => by rw [← hAe]; exact Or.inr h
  have hS : va_S A s.heap s.heap [] := va_S.rf
  have hG : GM [] tg σ I ri I ri rq := ⟨hG0, fun _ _ _ => rfl, fun _ _ _ _ _ => rfl, fun _ _ _ _ _ _ => rfl⟩
  have hl := lv_entry ([.ref this, .int a0, .int a1]) (n := 3) (Nat.le_of_ble_eq_true rfl)
  rw [lg_entry_eq]
  generalize (lg_sl ([.ref this, .int a0, .int a1]) ++ List.replicate (3 - (lg_sl ([.ref this, .int a0, .int a1])).length) Slot.unset).toArray = ls at hl ⊢
  have hl : lv_has ls 3 [(0, .ref this), (1, .int a0), (2, .int a1)] := hl
  refine q_gen (fun Q hQ => ?_)
  have go : ∀ (H : Heap) (locs : List Loc) (ls : Array Slot), va_P D vwCl (pq_P t σ (I, J, ri, rj, rq)) H → va_D A (pq_P t σ (I, J, ri, rj, rq)) → va_S A s.heap H locs → lv_has ls 3 [(0, .ref this), (1, .int a0), (2, .int a1)] → W p l e ({ frames := 5, cells := 0, slots := 0, locals := 124 } : Room) s m (List.toArray ([.ref this, .int a0, .int a1] : List Value)) below meth c H locs 0 0 Q (F0 m 0 ls []) := by
    intro H locs ls hP hD hS hl
    have hO_this : this = vo σ 12 this := rfl
    have hVT : VT 12 σ tg this := vt_12 hSH hL_this hK_this
    have hFr : FR 12 tg σ this (I, J, ri, rj, rq) (I, J, ri, rj, rq) := fr_rf
    obtain ⟨F, hF0⟩ : ∃ F, F = g_X12_titleOf a0 a1 (vI 12 σ this I) (vJ 12 σ this J) (vR 12 σ this ri) (vL 12 σ this rj) (vQ 12 σ this rq) := ⟨_, rfl⟩
    have hF := hF0.trans g_X12_titleOf_e
    refine lv_aload_n hx hb dX12_titleOf_0 rfl (lv_at hl 0 rfl) ?_
    refine lv_iload_n hx hb dX12_titleOf_1 rfl (lv_at hl 1 rfl) ?_
    refine pk_i (va_runV (As := [.int a0]) (rest := []) ⟨hx, hb, hml, hown, hts⟩ (s_X12_isCell l D t σ I J ri rj rq H.size tg hSH hG.1 this a0 hL_this hK_this) (cwV 1 hts (tw_V tw_340 tw_341 tw_342 tw_5 tw_343) rfl rfl rfl cv_yX12_isCell_1 ⟨Nat.le_of_ble_eq_true rfl, Nat.le_of_ble_eq_true rfl⟩) ⟨pq_blind, pq_recv hK hP hL_this hK_this (by decide +kernel) rfl, pq_pre hK hN hP hD⟩ rfl rfl hl.1 rfl (lv_room (Nat.le_of_ble_eq_true rfl)) dX12_titleOf_2 ⟨Nat.le_of_ble_eq_true rfl, Nat.le_of_ble_eq_true rfl⟩) hD hS hA (fun x_1 σ1 μ1 H locs hw_2 hP hD hS => ?_)
    obtain ⟨hu_3, hfn_6, hr_5⟩ := hw_2
    obtain ⟨hu_3a, hu_3b⟩ := Prod.mk.inj hu_3
    rw [hu_3a, hu_3b] at hP hD
    replace hF := hF.trans (bn_n hfn_6)
    have h_8 : rg x_1 0 1 := by rcases hr_5 with ⟨q, -⟩ | ⟨q, -⟩ <;> rw [q] <;> exact ⟨by decide +kernel, by decide +kernel⟩
    have uh_8 := h_8.1
    have vh_8 := h_8.2
    have K_63 : ∀  (H : Heap) (locs : List Loc) (ls : Array Slot), F = g_X12_titleOf_K17 (vI 12 σ this I) (vJ 12 σ this J) (vR 12 σ this ri) (vL 12 σ this rj) (vQ 12 σ this rq)  → FR 12 tg σ this (I, J, ri, rj, rq) (I, J, ri, rj, rq) → GM [] tg σ I ri I ri rq → va_P D vwCl (pq_P t σ (I, J, ri, rj, rq)) H → va_D A (pq_P t σ (I, J, ri, rj, rq)) → va_S A s.heap H locs → lv_has ls 3 [] → W p l e ({ frames := 5, cells := 0, slots := 0, locals := 124 } : Room) s m (List.toArray ([.ref this, .int a0, .int a1] : List Value)) below meth c H locs 0 0 Q (F0 m 17 ls []) := by
      intro H locs ls hF hFr hG hP hD hS hl
      replace hF := hF.trans g_X12_titleOf_K17_e
      refine lv_iconst (v := (-1)) hx hb dX12_titleOf_17 (by decide +kernel) ?_
      subst hQ
      exact W.iret (v := (-1)) hx hb hr (fun t1 ht hW => ⟨⟨(-1), (σ, I, J, ri, rj, rq), rfl, ⟨ri, rj, rfl, hG, (hF0.symm.trans hF), hFr, (rg_w (rg_k (-1 : Int32) (-1) rfl) (by decide +kernel))⟩, by rw [ht]; exact hP, va_K.moved hW.alike hK, hD⟩, hS.F ht⟩) hS.2.2 dX12_titleOf_18
    refine lv_if_eq (tgt := 17) hx hb dX12_titleOf_5 (by decide +kernel) (fun c_64 => ?_) (fun c_64 => ?_)
    · replace hF := hF.trans (if_pos c_64)
      have f_71 := (hr_5.resolve_left (fun q => absurd (q.1.symm.trans c_64) (by decide +kernel))).2
      have tc_72 : (x_1).toInt = 0 := congrArg Int32.toInt c_64
      have h_73 : rg x_1 0 0 := rg_and h_8 (rg_of_eq c_64 (rg_k (0 : Int32) 0 rfl)) (by decide +kernel)
      have uh_73 := h_73.1
      have vh_73 := h_73.2
      exact K_63 _ _ _ hF hFr hG hP hD hS (lv_sub hl [] rfl)
    · replace hF := hF.trans (if_neg c_64)
      have f_74 := (hr_5.resolve_right (fun q => c_64 q.1)).2
      have uf_74 := f_74.1
      have vf_74 := f_74.2
      have tc_75 : (x_1).toInt ≠ 0 := fun q => c_64 (Int32.toInt_inj.mp q)
      have h_76 : rg x_1 1 1 := rg_ne c_64 h_8 0 rfl (by decide +kernel)
      have uh_76 := h_76.1
      have vh_76 := h_76.2
      refine lv_iload_n hx hb dX12_titleOf_8 rfl (lv_at hl 2 rfl) ?_
      refine lv_iconst (v := 0) hx hb dX12_titleOf_9 (by decide +kernel) ?_
      refine lv_iconst (v := 1) hx hb dX12_titleOf_10 (by decide +kernel) ?_
      refine pk_i (va_runS (As := [.int a1, .int 0, .int 1]) (rest := []) ⟨hx, hb, hml, hown, hts⟩ (s_X12_isIn l D t σ I J ri rj rq H.size tg hSH hG.1 a1 (0 : Int32) (1 : Int32)) (va_cwS 3 hts (tw_S tw_235 tw_236 tw_5 tw_237) rfl rfl rfl cd_yX12_isIn_3 ⟨Nat.le_of_ble_eq_true rfl, Nat.le_of_ble_eq_true rfl⟩) ⟨pq_blind, pq_pre hK hN hP hD⟩ rfl rfl hl.1 rfl (lv_room (Nat.le_of_ble_eq_true rfl)) dX12_titleOf_11 ⟨Nat.le_of_ble_eq_true rfl, Nat.le_of_ble_eq_true rfl⟩) hD hS hA (fun x_77 σ1 μ1 H locs hw_78 hP hD hS => ?_)
      obtain ⟨hu_79, hfn_82, hr_81⟩ := hw_78
      obtain ⟨hu_79a, hu_79b⟩ := Prod.mk.inj hu_79
      rw [hu_79a, hu_79b] at hP hD
      replace hF := hF.trans (ap_n hfn_82.symm)
      have h_84 : rg x_77 0 1 := by rcases hr_81 with ⟨q, -⟩ | ⟨q, -⟩ <;> rw [q] <;> exact ⟨by decide +kernel, by decide +kernel⟩
      have uh_84 := h_84.1
      have vh_84 := h_84.2
      refine lv_if_ne (tgt := 19) hx hb dX12_titleOf_14 (by decide +kernel) (fun c_85 => ?_) (fun c_85 => ?_)
      · replace hF := hF.trans (if_neg c_85)
        obtain ⟨f_97, f_98⟩ := (hr_81.resolve_right (fun q => c_85 q.1)).2
        have tc_99 : 0 ≤ (a1).toInt := Int32.le_iff_toInt_le.mp f_97
        have h_100 : rg a1 0 2147483647 := rg_le2 f_97 (rg_k (0 : Int32) 0 rfl) (rg_full _) (by decide +kernel)
        have uh_100 := h_100.1
        have vh_100 := h_100.2
        have tc_101 : (a1).toInt ≤ 1 := Int32.le_iff_toInt_le.mp f_98
        have h_102 : rg a1 0 1 := rg_le1 f_98 h_100 (rg_k (1 : Int32) 1 rfl) (by decide +kernel)
        have uh_102 := h_102.1
        have vh_102 := h_102.2
        have tc_103 : (x_77).toInt ≠ 0 := fun q => c_85 (Int32.toInt_inj.mp q)
        have h_104 : rg x_77 1 1 := rg_ne c_85 h_84 0 rfl (by decide +kernel)
        have uh_104 := h_104.1
        have vh_104 := h_104.2
        refine lv_iload_n hx hb dX12_titleOf_19 rfl (lv_at hl 2 rfl) ?_
        refine lv_if_ne (tgt := 33) hx hb dX12_titleOf_20 (by decide +kernel) (fun c_105 => ?_) (fun c_105 => ?_)
        · replace hF := hF.trans (if_neg c_105)
          have tc_110 : (a1).toInt ≠ 0 := fun q => c_105 (Int32.toInt_inj.mp q)
          have h_111 : rg a1 1 1 := rg_ne c_105 h_102 0 rfl (by decide +kernel)
          have uh_111 := h_111.1
          have vh_111 := h_111.2
          refine lv_aload_n hx hb dX12_titleOf_33 rfl (lv_at hl 0 rfl) ?_
          refine lv_iload_n hx hb dX12_titleOf_34 rfl (lv_at hl 1 rfl) ?_
          refine pk_i (va_runV (As := [.int a0]) (rest := []) ⟨hx, hb, hml, hown, hts⟩ (s_X12_stands l D t σ I J ri rj rq H.size tg hSH hG.1 this a0 hL_this hK_this (rg_w f_74 (by decide +kernel))) (cwV 1 hts (tw_V tw_593 tw_594 tw_595 tw_5 tw_596) rfl rfl rfl cv_yX12_stands_1 ⟨Nat.le_of_ble_eq_true rfl, Nat.le_of_ble_eq_true rfl⟩) ⟨pq_blind, pq_recv hK hP hL_this hK_this (by decide +kernel) rfl, pq_pre hK hN hP hD⟩ rfl rfl hl.1 rfl (lv_room (Nat.le_of_ble_eq_true rfl)) dX12_titleOf_35 ⟨Nat.le_of_ble_eq_true rfl, Nat.le_of_ble_eq_true rfl⟩) hD hS hA (fun x_112 σ1 μ1 H locs hw_113 hP hD hS => ?_)
          obtain ⟨ri_114, rj_115, hu_116, hg_117, hfn_119, hfr_120, hr_118⟩ := hw_113
          obtain ⟨hu_116a, hu_116b⟩ := Prod.mk.inj hu_116
          rw [hu_116a, hu_116b] at hP hD
          replace hF := hF.trans (bn_n hfn_119)
          replace hFr := fr_tr hFr hfr_120
          have hG := GM.tr hG hg_117 (by decide +kernel)
          have h_121 : rg x_112 0 1 := by rcases hr_118 with ⟨q, -⟩ | ⟨q, -⟩ <;> rw [q] <;> exact ⟨by decide +kernel, by decide +kernel⟩
          have uh_121 := h_121.1
          have vh_121 := h_121.2
          refine lv_if_eq (tgt := 45) hx hb dX12_titleOf_38 (by decide +kernel) (fun c_122 => ?_) (fun c_122 => ?_)
          · replace hF := hF.trans (if_pos c_122)
            have tc_127 : (x_112).toInt = 0 := congrArg Int32.toInt c_122
            have h_128 : rg x_112 0 0 := rg_and h_121 (rg_of_eq c_122 (rg_k (0 : Int32) 0 rfl)) (by decide +kernel)
            have uh_128 := h_128.1
            have vh_128 := h_128.2
            refine lv_iconst (v := 0) hx hb dX12_titleOf_45 (by decide +kernel) ?_
            subst hQ
            exact W.iret (v := 0) hx hb hr (fun t1 ht hW => ⟨⟨0, (σ, I, J, ri_114, rj_115, rq), rfl, ⟨ri_114, rj_115, rfl, hG, (hF0.symm.trans hF), hFr, (rg_w (rg_k (0 : Int32) 0 rfl) (by decide +kernel))⟩, by rw [ht]; exact hP, va_K.moved hW.alike hK, hD⟩, hS.F ht⟩) hS.2.2 dX12_titleOf_46
          · replace hF := hF.trans (if_neg c_122)
            have tc_129 : (x_112).toInt ≠ 0 := fun q => c_122 (Int32.toInt_inj.mp q)
            have h_130 : rg x_112 1 1 := rg_ne c_122 h_121 0 rfl (by decide +kernel)
            have uh_130 := h_130.1
            have vh_130 := h_130.2
            refine lv_iconst (v := 1) hx hb dX12_titleOf_41 (by decide +kernel) ?_
            refine lv_goto (tgt := 46) hx hb dX12_titleOf_42 (by decide +kernel) ?_
            subst hQ
            exact W.iret (v := 1) hx hb hr (fun t1 ht hW => ⟨⟨1, (σ, I, J, ri_114, rj_115, rq), rfl, ⟨ri_114, rj_115, rfl, hG, (hF0.symm.trans hF), hFr, (rg_w (rg_k (1 : Int32) 1 rfl) (by decide +kernel))⟩, by rw [ht]; exact hP, va_K.moved hW.alike hK, hD⟩, hS.F ht⟩) hS.2.2 dX12_titleOf_46
        · replace hF := hF.trans (if_pos c_105)
          have tc_131 : (a1).toInt = 0 := congrArg Int32.toInt c_105
          have h_132 : rg a1 0 0 := rg_and h_102 (rg_of_eq c_105 (rg_k (0 : Int32) 0 rfl)) (by decide +kernel)
          have uh_132 := h_132.1
          have vh_132 := h_132.2
          refine lv_aload_n hx hb dX12_titleOf_23 rfl (lv_at hl 0 rfl) ?_
          refine lv_iload_n hx hb dX12_titleOf_24 rfl (lv_at hl 1 rfl) ?_
          refine lv_bipush (v := 14) hx hb dX12_titleOf_25 (by decide +kernel) ?_
          refine pk_i (va_runV (As := [.int a0, .int 14]) (rest := []) ⟨hx, hb, hml, hown, hts⟩ (s_X12_cellAt_c14 l D t σ I J ri rj rq H.size tg hSH hG.1 this a0 hL_this hK_this (rg_w f_74 (by decide +kernel))) (cwV 2 hts (tw_V tw_361 tw_362 tw_363 tw_5 tw_364) rfl rfl rfl cv_yX12_cellAt_2 ⟨Nat.le_of_ble_eq_true rfl, Nat.le_of_ble_eq_true rfl⟩) ⟨pq_blind, pq_recv hK hP hL_this hK_this (by decide +kernel) rfl, pq_pre hK hN hP hD⟩ rfl rfl hl.1 rfl (lv_room (Nat.le_of_ble_eq_true rfl)) dX12_titleOf_27 ⟨Nat.le_of_ble_eq_true rfl, Nat.le_of_ble_eq_true rfl⟩) hD hS hA (fun x_133 σ1 μ1 H locs hw_134 hP hD hS => ?_)
          obtain ⟨hu_135, hfn_138, hr_137⟩ := hw_134
          obtain ⟨hu_135a, hu_135b⟩ := Prod.mk.inj hu_135
          rw [hu_135a, hu_135b] at hP hD
          replace hF := hF.trans (bn_n hfn_138)
          refine lv_goto (tgt := 46) hx hb dX12_titleOf_30 (by decide +kernel) ?_
          subst hQ
          exact W.iret (v := x_133) hx hb hr (fun t1 ht hW => ⟨⟨x_133, (σ, I, J, ri, rj, rq), rfl, ⟨ri, rj, rfl, hG, (hF0.symm.trans hF), hFr, (rg_w hr_137 (by decide +kernel))⟩, by rw [ht]; exact hP, va_K.moved hW.alike hK, hD⟩, hS.F ht⟩) hS.2.2 dX12_titleOf_46
      · replace hF := hF.trans (if_pos c_85)
        have f_140 := (hr_81.resolve_left (fun q => absurd (q.1.symm.trans c_85) (by decide +kernel))).2
        have tc_141 : (x_77).toInt = 0 := congrArg Int32.toInt c_85
        have h_142 : rg x_77 0 0 := rg_and h_84 (rg_of_eq c_85 (rg_k (0 : Int32) 0 rfl)) (by decide +kernel)
        have uh_142 := h_142.1
        have vh_142 := h_142.2
        exact K_63 _ _ _ hF hFr hG hP hD hS (lv_sub hl [] rfl)
  exact go _ _ _ hP hD hS hl

set_option maxRecDepth 100000 in
def g_X12_four_L3 (a0 : Int32) (J : Nat → Int64) (rj : Nat → Nat → Int64) (rq : Nat → Nat → Option Nat) : Nat → (Int32) → (Nat → Int32) → (Nat → Nat → Int32) → vM
  | 0, x_177, I_178, ri_179 => (I_178, J, ri_179, rj, rq)
  | n_202 + 1, x_177, I_178, ri_179 => (if x_177 < (0 : Int32) then (I_178, J, ri_179, rj, rq) else (ap1 (I_178 388) fun (y_220 : Int32) => (ap1 (a0 >>> (x_177 &&& 31)) fun (x_221 : Int32) => (ap1 (x_221 &&& (255 : Int32)) fun (x_222 : Int32) => (ap1 (va_up ri_179 387 (upd (ri_179 387) ((y_220)).toNatClampNeg x_222)) fun (r_224 : Nat → Nat → Int32) => (ap1 ((y_220) + (1 : Int32)) fun (x_226 : Int32) => (ap1 (va_up I_178 388 x_226) fun (I_228 : Nat → Int32) => (ap1 (x_177 + Int32.ofInt (-8)) fun (x_230 : Int32) => ((g_X12_four_L3 a0 J rj rq n_202) x_230 I_228 r_224)))))))))
set_option maxRecDepth 100000 in
theorem g_X12_four_L3_e {a0 : Int32} {J : Nat → Int64} {rj : Nat → Nat → Int64} {rq : Nat → Nat → Option Nat} {n_202 : Nat} {x_177 : Int32} {I_178 : Nat → Int32} {ri_179 : Nat → Nat → Int32} : g_X12_four_L3 a0 J rj rq (n_202 + 1) x_177 I_178 ri_179 = (if x_177 < (0 : Int32) then (I_178, J, ri_179, rj, rq) else (ap1 (I_178 388) fun (y_220 : Int32) => (ap1 (a0 >>> (x_177 &&& 31)) fun (x_221 : Int32) => (ap1 (x_221 &&& (255 : Int32)) fun (x_222 : Int32) => (ap1 (va_up ri_179 387 (upd (ri_179 387) ((y_220)).toNatClampNeg x_222)) fun (r_224 : Nat → Nat → Int32) => (ap1 ((y_220) + (1 : Int32)) fun (x_226 : Int32) => (ap1 (va_up I_178 388 x_226) fun (I_228 : Nat → Int32) => (ap1 (x_177 + Int32.ofInt (-8)) fun (x_230 : Int32) => ((g_X12_four_L3 a0 J rj rq n_202) x_230 I_228 r_224))))))))) := rfl
set_option maxRecDepth 100000 in
def g_X12_four (a0 : Int32) (I : Nat → Int32) (J : Nat → Int64) (ri : Nat → Nat → Int32) (rj : Nat → Nat → Int64) (rq : Nat → Nat → Option Nat) : vM := (g_X12_four_L3 a0 J rj rq ((((24 : Int32)).toInt - (-8)).toNat + 1) (24 : Int32) I ri)
set_option maxRecDepth 100000 in
theorem g_X12_four_e {a0 : Int32} {I : Nat → Int32} {J : Nat → Int64} {ri : Nat → Nat → Int32} {rj : Nat → Nat → Int64} {rq : Nat → Nat → Option Nat} : g_X12_four a0 I J ri rj rq = (g_X12_four_L3 a0 J rj rq ((((24 : Int32)).toInt - (-8)).toNat + 1) (24 : Int32) I ri) := rfl
set_option maxHeartbeats 4000000 in
set_option maxRecDepth 100000 in
theorem s_X12_four (l : Launch) (D : va_G) (t : pq_T) (σ : pq_S) (I : Nat → Nat → Int32) (J : Nat → Nat → Int64) (ri : Nat → Nat → Int32) (rj : Nat → Nat → Int64) (rq : Nat → Nat → Option Nat) (sz : Nat) (tg : Nat → Nat) (hSH : SH σ tg) (hG0 : GT tg I ri) (this : Nat) (a0 : Int32) (hL_this : this ∈ σ.1) (hK_this : σ.2.1 this = 12) (hct : (I 388 this).toInt + 4 ≤ 300) : MetV l yX12_four (wa yX12_four cX12_four 3 none) ({ frames := 0, cells := 0, slots := 0, locals := 0 }) [.ref this, .int a0] D t σ (I, J, ri, rj, rq) sz 0 0 (fun (u : pq_S × pq_M) => ∃ I' : Nat → Nat → Int32, ∃ ri' : Nat → Nat → Int32, u = (σ, I', J, ri', rj, rq) ∧ GM [2003, 388] tg σ I ri I' ri' rq ∧ ((I' 388 this).toInt = (I 388 this).toInt + 4) ∧ g_X12_four a0 (vI 12 σ this I) (vJ 12 σ this J) (vR 12 σ this ri) (vL 12 σ this rj) (vQ 12 σ this rq) = ((vI 12 σ this I'), (vJ 12 σ this J), (vR 12 σ this ri'), (vL 12 σ this rj), (vQ 12 σ this rq)) ∧ FR 12 tg σ this (I, J, ri, rj, rq) (I', J, ri', rj, rq)) := by
  refine Met.ofW (cc := cX12_four) (maxL := 3) (ret := none) (by decide +kernel) rfl ?_
  intro p e s m args below meth c s₁ B hml hv
  obtain ⟨rfl, hsz, hP, hK, hD0, hN⟩ := hv
  have hx := B.exec
  have hb := B.bytes
  have hr := B.returns
  have hts := atoms_spec (ws := (wa yX12_four cX12_four 3 none)) B.pre
  have hown : s.vm.findClass RX12 = some m.cls := findClass_of_methodNamed B.named
  have hlocks := B.notSynchronized
  subst hsz
  have hD : va_D (pq_B t σ (I, J, ri, rj, rq) s.heap.size) (pq_P t σ (I, J, ri, rj, rq)) := hD0.self
  generalize hAe : pq_B t σ (I, J, ri, rj, rq) s.heap.size = A at hD ⊢
  have hA : ∀ q : Nat, s.heap.size ≤ q → A q := fun q h => by rw [← hAe]; exact Or.inr h
  have hS : va_S A s.heap s.heap [] := va_S.rf
  have hG : GM [2003, 388] tg σ I ri I ri rq := ⟨hG0, fun _ _ _ => rfl, fun _ _ _ _ _ => rfl, fun _ _ _ _ _ _ => rfl⟩
  have hl := lv_entry ([.ref this, .int a0]) (n := 3) (Nat.le_of_ble_eq_true rfl)
  rw [lg_entry_eq]
  generalize (lg_sl ([.ref this, .int a0]) ++ List.replicate (3 - (lg_sl ([.ref this, .int a0])).length) Slot.unset).toArray = ls at hl ⊢
  have hl : lv_has ls 3 [(0, .ref this), (1, .int a0)] := hl
  refine q_gen (fun Q hQ => ?_)
  have go : ∀ (H : Heap) (locs : List Loc) (ls : Array Slot), va_P D vwCl (pq_P t σ (I, J, ri, rj, rq)) H → va_D A (pq_P t σ (I, J, ri, rj, rq)) → va_S A s.heap H locs → lv_has ls 3 [(0, .ref this), (1, .int a0)] → W p l e ({ frames := 0, cells := 0, slots := 0, locals := 0 } : Room) s m (List.toArray ([.ref this, .int a0] : List Value)) below meth c H locs 0 0 Q (F0 m 0 ls []) := by
    intro H locs ls hP hD hS hl
    have hO_this : this = vo σ 12 this := rfl
    have hVT : VT 12 σ tg this := vt_12 hSH hL_this hK_this
    have hFr : FR 12 tg σ this (I, J, ri, rj, rq) (I, J, ri, rj, rq) := fr_rf
    obtain ⟨F, hF0⟩ : ∃ F, F = g_X12_four a0 (vI 12 σ this I) (vJ 12 σ this J) (vR 12 σ this ri) (vL 12 σ this rj) (vQ 12 σ this rq) := ⟨_, rfl⟩
    have hF := hF0.trans g_X12_four_e
    refine lv_bipush (v := 24) hx hb dX12_four_0 (by decide +kernel) ?_
    refine lv_istore_n (lv' := [(2, .int 24), (0, .ref this), (1, .int a0)]) hx hb dX12_four_2 rfl hl (by decide +kernel) rfl (fun ls hl => ?_)
    have L_203 : ∀ (n_202 : Nat) (x_177 : Int32) (I_178 : Nat → Nat → Int32) (ri_179 : Nat → Nat → Int32) (H : Heap) (locs : List Loc) (ls : Array Slot), rg x_177 (-8) 24 → (8 * ((I_178 388 this).toInt - (I 388 this).toInt) + (x_177).toInt = 24) → ((x_177).toInt - (-8)).toNat < n_202 → F = g_X12_four_L3 a0 (vJ 12 σ this J) (vL 12 σ this rj) (vQ 12 σ this rq) n_202 x_177 (vI 12 σ this I_178) (vR 12 σ this ri_179) → FR 12 tg σ this (I, J, ri, rj, rq) (I_178, J, ri_179, rj, rq) → GM [2003, 388] tg σ I ri I_178 ri_179 rq → va_P D vwCl (pq_P t σ (I_178, J, ri_179, rj, rq)) H → va_D A (pq_P t σ (I_178, J, ri_179, rj, rq)) → va_S A s.heap H locs → lv_has ls 3 [(0, .ref this), (1, .int a0), (2, .int x_177)] → W p l e ({ frames := 0, cells := 0, slots := 0, locals := 0 } : Room) s m (List.toArray ([.ref this, .int a0] : List Value)) below meth c H locs 0 0 Q (F0 m 3 ls []) := by
      intro n_202
      induction n_202 with
      | zero => intro x_177 I_178 ri_179 H locs ls h_207 hrel_208 hm_201 hF hFr hG hP hD hS hl; exact absurd hm_201 (Nat.not_lt_zero _)
      | succ n_202 ih_204 =>
        intro x_177 I_178 ri_179 H locs ls h_207 hrel_208 hm_201 hF hFr hG hP hD hS hl
        have uh_207 := h_207.1
        have vh_207 := h_207.2
        replace hF := hF.trans g_X12_four_L3_e
        refine lv_iload_n hx hb dX12_four_3 rfl (lv_at hl 2 rfl) ?_
        refine lv_if_lt (tgt := 39) hx hb dX12_four_4 (by decide +kernel) (fun c_209 => ?_) (fun c_209 => ?_)
        · replace hF := hF.trans (if_pos c_209)
          have tc_214 : (x_177).toInt < 0 := Int32.lt_iff_toInt_lt.mp c_209
          have h_215 : rg x_177 (-8) (-1) := rg_lt1 c_209 h_207 (rg_k (0 : Int32) 0 rfl) (by decide +kernel)
          have uh_215 := h_215.1
          have vh_215 := h_215.2
          subst hQ
          exact W.vret hx hb hr (fun t1 ht hW => ⟨⟨(σ, I_178, J, ri_179, rj, rq), rfl, ⟨I_178, ri_179, rfl, hG, (by omega), (hF0.symm.trans hF), hFr⟩, by rw [ht]; exact hP, va_K.moved hW.alike hK, hD⟩, hS.F ht⟩) hS.2.2 dX12_four_39
        · replace hF := hF.trans (if_neg c_209)
          have tc_216 : 0 ≤ (x_177).toInt := Int32.le_iff_toInt_le.mp (nlt c_209)
          have h_217 : rg x_177 0 24 := rg_le2 (nlt c_209) (rg_k (0 : Int32) 0 rfl) h_207 (by decide +kernel)
          have uh_217 := h_217.1
          have vh_217 := h_217.2
          refine lv_aload_n hx hb dX12_four_7 rfl (lv_at hl 0 rfl) ?_
          obtain ⟨w_218, hR_w_218, hL_w_218, hK_w_218, hN_w_218, hT_w_218⟩ := sh_a hSH 387 (ci := 12) (kd := 13) (len := 300) rfl (by decide +kernel) hL_this hK_this
          have hO_w_218 : w_218 = vrow σ 387 this := vo_k (c := 12) hO_this hR_w_218
          refine pg_f (v := .ref w_218) (C := RX12) (T := TX12) (N := 31) hx hb hts (tw_i inlX12) hown hK hP hL_this hK_this (by decide +kernel) rfl 3 (by decide +kernel) (hts _ (tw_c tw_179)) (pq_hv rfl hR_w_218) dX12_four_8 ?_
          refine lv_aload_n hx hb dX12_four_11 rfl (lv_at hl 0 rfl) ?_
          refine pg_f (v := .int (I_178 388 this)) (C := RX12) (T := TX12) (N := 31) hx hb hts (tw_i inlX12) hown hK hP hL_this hK_this (by decide +kernel) rfl 4 (by decide +kernel) (hts _ (tw_c tw_631)) rfl dX12_four_12 ?_
          have h_219 : rg (I_178 388 this) 0 300 := GM.rI hG 388 rfl
          have uh_219 := h_219.1
          have vh_219 := h_219.2
          replace hF := hF.trans (ap_n (vI_e (f := 388) hO_this (by decide +kernel)))
          refine lv_iload_n hx hb dX12_four_15 rfl (lv_at hl 1 rfl) ?_
          refine lv_iload_n hx hb dX12_four_16 rfl (lv_at hl 2 rfl) ?_
          refine lv_ishr hx hb dX12_four_17 ?_
          refine lv_topi (fun x_221 ex_221 => ?_)
          replace hF := hF.trans (ap_n ex_221)
          refine lv_sipush (v := 255) hx hb dX12_four_18 (by decide +kernel) ?_
          refine lv_iand hx hb dX12_four_21 ?_
          refine lv_topi (fun x_222 ex_222 => ?_)
          replace hF := hF.trans (ap_n ex_222)
          have h_223 : rg x_222 0 255 := rg_of_eq ex_222 (rg_m255 _)
          have uh_223 := h_223.1
          have vh_223 := h_223.2
          have h_225 : rg (I_178 388 this) 0 299 := ⟨by omega, by omega⟩
          have uh_225 := h_225.1
          have vh_225 := h_225.2
          refine pt_i hx hb hK hP hD hS hL_w_218 hK_w_218 hN_w_218 (rg_in h_225 (by decide +kernel)) dX12_four_22 (fun r_224 H locs er_224 hP hD hS => ?_)
          replace hFr := fr_R hFr hO_w_218 (by decide +kernel) er_224
          replace hF := hF.trans (ap_n (vR_st hVT hO_w_218 (by decide +kernel) er_224))
          have hG := GM.wR hG hSH hT_w_218 rfl er_224 (rg_w h_223 (by decide +kernel)) (by decide +kernel)
          refine lv_aload_n hx hb dX12_four_23 rfl (lv_at hl 0 rfl) ?_
          refine lv_dup hx hb dX12_four_24 rfl ?_
          refine pg_f (v := .int (I_178 388 this)) (C := RX12) (T := TX12) (N := 31) hx hb hts (tw_i inlX12) hown hK hP hL_this hK_this (by decide +kernel) rfl 4 (by decide +kernel) (hts _ (tw_c tw_631)) rfl dX12_four_25 ?_
          refine lv_iconst (v := 1) hx hb dX12_four_28 (by decide +kernel) ?_
          refine lv_iadd hx hb dX12_four_29 ?_
          refine lv_topi (fun x_226 ex_226 => ?_)
          replace hF := hF.trans (ap_n ex_226)
          have h_227 : rg x_226 1 300 := rg_of_eq ex_226 (rg_add h_225 (rg_k (1 : Int32) 1 rfl) (by decide +kernel))
          have uh_227 := h_227.1
          have vh_227 := h_227.2
          have tx_226 : (x_226).toInt = (I_178 388 this).toInt + 1 := by rw [ex_226]; exact i_add_rg (a2 := (I_178 388 this).toInt) (b2 := 1) rfl rfl h_225 (rg_k (1 : Int32) 1 rfl) (by decide +kernel)
          refine pp_i (v := x_226) (ty := .int) (C := RX12) (T := TX12) (N := 31) hx hb hts (tw_i inlX12) tyX12 tyX12_ok nmX12 hown hK hP hD hS hL_this hK_this (by decide +kernel) rfl 4 388 (by decide +kernel) (hts _ (tw_c tw_631)) rfl (tyX12_ok 4 (by decide +kernel)) rfl rfl (Nat.le_of_ble_eq_true rfl) (ps_388 _ _ _ _ _) dX12_four_30 (fun I_228 H locs eI_228 hP hD hS => ?_)
          replace hFr := fr_I (f := 388) hFr hO_this (by decide +kernel) eI_228
          replace hF := hF.trans (ap_n (vI_st (f := 388) hO_this (by decide +kernel) eI_228))
          have hG := GM.wI hG 388 rfl eI_228 (rg_w h_227 (by decide +kernel)) (by decide +kernel)
          have tt_229 : (I_228 388 this).toInt = (x_226).toInt := by rw [eI_228, pq_us]
          obtain ⟨x_230, ex_230⟩ : ∃ y : Int32, y = x_177 + Int32.ofInt (-8) := ⟨_, rfl⟩
          replace hF := hF.trans (ap_n ex_230)
          have h_231 : rg x_230 (-8) 16 := rg_of_eq ex_230 (rg_add h_217 (rg_k (Int32.ofInt (-8)) (-8) rfl) (by decide +kernel))
          have uh_231 := h_231.1
          have vh_231 := h_231.2
          have tx_230 : (x_230).toInt = (x_177).toInt + (-8) := by rw [ex_230]; exact i_add_rg (a2 := (x_177).toInt) (b2 := (-8)) rfl rfl h_217 (rg_k (Int32.ofInt (-8)) (-8) rfl) (by decide +kernel)
          refine lv_iinc (v := x_230) (lv' := [(2, .int x_230), (0, .ref this), (1, .int a0)]) hx hb dX12_four_33 hl (k := 2) rfl ex_230.symm (by decide +kernel) rfl (fun ls hl => ?_)
          refine lv_goto (tgt := 3) hx hb dX12_four_36 (by decide +kernel) ?_
          exact ih_204 x_230 I_228 r_224 _ _ _ (rg_w h_231 (by decide +kernel)) (by omega) (ms_dn 8 hm_201 ex_230 rfl (by decide +kernel) h_217 (by decide +kernel) (by decide +kernel)) hF hFr hG hP hD hS (lv_sub hl [1, 2, 0] rfl)
    exact L_203 _ (24 : Int32) I ri _ _ _ (rg_w (rg_k (24 : Int32) 24 rfl) (by decide +kernel)) (by have k0 : (24 : Int32).toInt = 24 := rfl; omega) (Nat.lt_succ_self _) hF hFr hG hP hD hS (lv_sub hl [1, 2, 0] rfl)
  exact go _ _ _ hP hD hS hl

set_option maxRecDepth 100000 in
def g_X12_feed (a0 : Int32) (a1 : Int32) (a2 : Int32) (a3 : Int32) (a4 : Int32) (I : Nat → Int32) (J : Nat → Int64) (ri : Nat → Nat → Int32) (rj : Nat → Nat → Int64) (rq : Nat → Nat → Option Nat) : Int32 × vM := (ap1 (I 388) fun (y_2 : Int32) => (ap1 ((y_2) + (20 : Int32)) fun (x_3 : Int32) => (if x_3 ≤ (300 : Int32) then (bnV (g_X12_four a0 I J ri rj rq) fun (I_14 : Nat → Int32) (_ : Nat → Int64) (ri_15 : Nat → Nat → Int32) (_ : Nat → Nat → Int64) (_ : Nat → Nat → Option Nat) => (bnV (g_X12_four a1 I_14 J ri_15 rj rq) fun (I_25 : Nat → Int32) (_ : Nat → Int64) (ri_26 : Nat → Nat → Int32) (_ : Nat → Nat → Int64) (_ : Nat → Nat → Option Nat) => (bnV (g_X12_four a2 I_25 J ri_26 rj rq) fun (I_36 : Nat → Int32) (_ : Nat → Int64) (ri_37 : Nat → Nat → Int32) (_ : Nat → Nat → Int64) (_ : Nat → Nat → Option Nat) => (bnV (g_X12_four a3 I_36 J ri_37 rj rq) fun (I_47 : Nat → Int32) (_ : Nat → Int64) (ri_48 : Nat → Nat → Int32) (_ : Nat → Nat → Int64) (_ : Nat → Nat → Option Nat) => (bnV (g_X12_four a4 I_47 J ri_48 rj rq) fun (I_58 : Nat → Int32) (_ : Nat → Int64) (ri_59 : Nat → Nat → Int32) (_ : Nat → Nat → Int64) (_ : Nat → Nat → Option Nat) => (ap1 (I_58 388) fun (y_68 : Int32) => ((y_68), I_58, J, ri_59, rj, rq))))))) else ((-1 : Int32), I, J, ri, rj, rq))))
set_option maxRecDepth 100000 in
theorem g_X12_feed_e {a0 : Int32} {a1 : Int32} {a2 : Int32} {a3 : Int32} {a4 : Int32} {I : Nat → Int32} {J : Nat → Int64} {ri : Nat → Nat → Int32} {rj : Nat → Nat → Int64} {rq : Nat → Nat → Option Nat} : g_X12_feed a0 a1 a2 a3 a4 I J ri rj rq = (ap1 (I 388) fun (y_2 : Int32) => (ap1 ((y_2) + (20 : Int32)) fun (x_3 : Int32) => (if x_3 ≤ (300 : Int32) then (bnV (g_X12_four a0 I J ri rj rq) fun (I_14 : Nat → Int32) (_ : Nat → Int64) (ri_15 : Nat → Nat → Int32) (_ : Nat → Nat → Int64) (_ : Nat → Nat → Option Nat) => (bnV (g_X12_four a1 I_14 J ri_15 rj rq) fun (I_25 : Nat → Int32) (_ : Nat → Int64) (ri_26 : Nat → Nat → Int32) (_ : Nat → Nat → Int64) (_ : Nat → Nat → Option Nat) => (bnV (g_X12_four a2 I_25 J ri_26 rj rq) fun (I_36 : Nat → Int32) (_ : Nat → Int64) (ri_37 : Nat → Nat → Int32) (_ : Nat → Nat → Int64) (_ : Nat → Nat → Option Nat) => (bnV (g_X12_four a3 I_36 J ri_37 rj rq) fun (I_47 : Nat → Int32) (_ : Nat → Int64) (ri_48 : Nat → Nat → Int32) (_ : Nat → Nat → Int64) (_ : Nat → Nat → Option Nat) => (bnV (g_X12_four a4 I_47 J ri_48 rj rq) fun (I_58 : Nat → Int32) (_ : Nat → Int64) (ri_59 : Nat → Nat → Int32) (_ : Nat → Nat → Int64) (_ : Nat → Nat → Option Nat) => (ap1 (I_58 388) fun (y_68 : Int32) => ((y_68), I_58, J, ri_59, rj, rq))))))) else ((-1 : Int32), I, J, ri, rj, rq)))) := rfl
set_option maxHeartbeats 4000000 in
set_option maxRecDepth 100000 in
theorem s_X12_feed (l : Launch) (D : va_G) (t : pq_T) (σ : pq_S) (I : Nat → Nat → Int32) (J : Nat → Nat → Int64) (ri : Nat → Nat → Int32) (rj : Nat → Nat → Int64) (rq : Nat → Nat → Option Nat) (sz : Nat) (tg : Nat → Nat) (hSH : SH σ tg) (hG0 : GT tg I ri) (this : Nat) (a0 : Int32) (a1 : Int32) (a2 : Int32) (a3 : Int32) (a4 : Int32) (hL_this : this ∈ σ.1) (hK_this : σ.2.1 this = 12) : MetI l yX12_feed (wa yX12_feed cX12_feed 6 (some .int)) ({ frames := 1, cells := 0, slots := 0, locals := 22 }) [.ref this, .int a0, .int a1, .int a2, .int a3, .int a4] D t σ (I, J, ri, rj, rq) sz 0 0 (fun (r : Int32) (u : pq_S × pq_M) => ∃ I' : Nat → Nat → Int32, ∃ ri' : Nat → Nat → Int32, u = (σ, I', J, ri', rj, rq) ∧ GM [2003, 388] tg σ I ri I' ri' rq ∧ g_X12_feed a0 a1 a2 a3 a4 (vI 12 σ this I) (vJ 12 σ this J) (vR 12 σ this ri) (vL 12 σ this rj) (vQ 12 σ this rq) = (r, (vI 12 σ this I'), (vJ 12 σ this J), (vR 12 σ this ri'), (vL 12 σ this rj), (vQ 12 σ this rq)) ∧ FR 12 tg σ this (I, J, ri, rj, rq) (I', J, ri', rj, rq) ∧ rg r (-1) 300) := by
  refine Met.ofW (cc := cX12_feed) (maxL := 6) (ret := (some .int)) (by decide +kernel) rfl ?_
  intro p e s m args below meth c s₁ B hml hv
  obtain ⟨rfl, hsz, hP, hK, hD0, hN⟩ := hv
  have hx := B.exec
  have hb := B.bytes
  have hr := B.returns
  have hts := atoms_spec (ws := (wa yX12_feed cX12_feed 6 (some .int))) B.pre
  have hown : s.vm.findClass RX12 = some m.cls := findClass_of_methodNamed B.named
  have hlocks := B.notSynchronized
  subst hsz
  have hD : va_D (pq_B t σ (I, J, ri, rj, rq) s.heap.size) (pq_P t σ (I, J, ri, rj, rq)) := hD0.self
  generalize hAe : pq_B t σ (I, J, ri, rj, rq) s.heap.size = A at hD ⊢
  have hA : ∀ q : Nat, s.heap.size ≤ q → A q := fun q h => by rw [← hAe]; exact Or.inr h
  have hS : va_S A s.heap s.heap [] := va_S.rf
  have hG : GM [2003, 388] tg σ I ri I ri rq := ⟨hG0, fun _ _ _ => rfl, fun _ _ _ _ _ => rfl, fun _ _ _ _ _ _ => rfl⟩
  have hl := lv_entry ([.ref this, .int a0, .int a1, .int a2, .int a3, .int a4]) (n := 6) (Nat.le_of_ble_eq_true rfl)
  rw [lg_entry_eq]
  generalize (lg_sl ([.ref this, .int a0, .int a1, .int a2, .int a3, .int a4]) ++ List.replicate (6 - (lg_sl ([.ref this, .int a0, .int a1, .int a2, .int a3, .int a4])).length) Slot.unset).toArray = ls at hl ⊢
  have hl : lv_has ls 6 [(0, .ref this), (1, .int a0), (2, .int a1), (3, .int a2), (4, .int a3), (5, .int a4)] := hl
  refine q_gen (fun Q hQ => ?_)
  have go : ∀ (H : Heap) (locs : List Loc) (ls : Array Slot), va_P D vwCl (pq_P t σ (I, J, ri, rj, rq)) H → va_D A (pq_P t σ (I, J, ri, rj, rq)) → va_S A s.heap H locs → lv_has ls 6 [(0, .ref this), (1, .int a0), (2, .int a1), (3, .int a2), (4, .int a3), (5, .int a4)] → W p l e ({ frames := 1, cells := 0, slots := 0, locals := 22 } : Room) s m (List.toArray ([.ref this, .int a0, .int a1, .int a2, .int a3, .int a4] : List Value)) below meth c H locs 0 0 Q (F0 m 0 ls []) := by
    intro H locs ls hP hD hS hl
    have hO_this : this = vo σ 12 this := rfl
    have hVT : VT 12 σ tg this := vt_12 hSH hL_this hK_this
    have hFr : FR 12 tg σ this (I, J, ri, rj, rq) (I, J, ri, rj, rq) := fr_rf
    obtain ⟨F, hF0⟩ : ∃ F, F = g_X12_feed a0 a1 a2 a3 a4 (vI 12 σ this I) (vJ 12 σ this J) (vR 12 σ this ri) (vL 12 σ this rj) (vQ 12 σ this rq) := ⟨_, rfl⟩
    have hF := hF0.trans g_X12_feed_e
    refine lv_aload_n hx hb dX12_feed_0 rfl (lv_at hl 0 rfl) ?_
    refine pg_f (v := .int (I 388 this)) (C := RX12) (T := TX12) (N := 31) hx hb hts (tw_i inlX12) hown hK hP hL_this hK_this (by decide +kernel) rfl 4 (by decide +kernel) (hts _ (tw_c tw_631)) rfl dX12_feed_1 ?_
    have h_1 : rg (I 388 this) 0 300 := GM.rI hG 388 rfl
    have uh_1 := h_1.1
    have vh_1 := h_1.2
    replace hF := hF.trans (ap_n (vI_e (f := 388) hO_this (by decide +kernel)))
    refine lv_bipush (v := 20) hx hb dX12_feed_4 (by decide +kernel) ?_
    refine lv_iadd hx hb dX12_feed_6 ?_
    refine lv_topi (fun x_3 ex_3 => ?_)
    replace hF := hF.trans (ap_n ex_3)
    have h_4 : rg x_3 20 320 := rg_of_eq ex_3 (rg_add h_1 (rg_k (20 : Int32) 20 rfl) (by decide +kernel))
    have uh_4 := h_4.1
    have vh_4 := h_4.2
    have tx_3 : (x_3).toInt = (I 388 this).toInt + 20 := by rw [ex_3]; exact i_add_rg (a2 := (I 388 this).toInt) (b2 := 20) rfl rfl h_1 (rg_k (20 : Int32) 20 rfl) (by decide +kernel)
    refine lv_sipush (v := 300) hx hb dX12_feed_7 (by decide +kernel) ?_
    refine lv_icmp_le (tgt := 15) hx hb dX12_feed_10 (by decide +kernel) (fun c_5 => ?_) (fun c_5 => ?_)
    · replace hF := hF.trans (if_pos c_5)
      have tc_10 : (x_3).toInt ≤ 300 := Int32.le_iff_toInt_le.mp c_5
      have h_11 : rg x_3 20 300 := rg_le1 c_5 h_4 (rg_k (300 : Int32) 300 rfl) (by decide +kernel)
      have uh_11 := h_11.1
      have vh_11 := h_11.2
      refine lv_aload_n hx hb dX12_feed_15 rfl (lv_at hl 0 rfl) ?_
      refine lv_iload_n hx hb dX12_feed_16 rfl (lv_at hl 1 rfl) ?_
      refine pk_v (va_runV (As := [.int a0]) (rest := []) ⟨hx, hb, hml, hown, hts⟩ (s_X12_four l D t σ I J ri rj rq H.size tg hSH hG.1 this a0 hL_this hK_this (by omega)) (cwV 1 hts (tw_V tw_632 tw_633 tw_634 tw_5 tw_635) rfl rfl rfl cv_yX12_four_1 ⟨Nat.le_of_ble_eq_true rfl, Nat.le_of_ble_eq_true rfl⟩) ⟨pq_blind, pq_recv hK hP hL_this hK_this (by decide +kernel) rfl, pq_pre hK hN hP hD⟩ rfl rfl hl.1 rfl (lv_room (Nat.le_of_ble_eq_true rfl)) dX12_feed_17 ⟨Nat.le_of_ble_eq_true rfl, Nat.le_of_ble_eq_true rfl⟩) hD hS hA (fun σ1 μ1 H locs hw_13 hP hD hS => ?_)
      obtain ⟨I_14, ri_15, hu_16, hg_17, hp_19, hfn_20, hfr_21⟩ := hw_13
      obtain ⟨hu_16a, hu_16b⟩ := Prod.mk.inj hu_16
      rw [hu_16a, hu_16b] at hP hD
      replace hF := hF.trans (bv_n hfn_20)
      replace hFr := fr_tr hFr hfr_21
      have tt_22 := hp_19
      have hG := GM.tr hG hg_17 (by decide +kernel)
      refine lv_aload_n hx hb dX12_feed_20 rfl (lv_at hl 0 rfl) ?_
      refine lv_iload_n hx hb dX12_feed_21 rfl (lv_at hl 2 rfl) ?_
      refine pk_v (va_runV (As := [.int a1]) (rest := []) ⟨hx, hb, hml, hown, hts⟩ (s_X12_four l D t σ I_14 J ri_15 rj rq H.size tg hSH hG.1 this a1 hL_this hK_this (by omega)) (cwV 1 hts (tw_V tw_632 tw_633 tw_634 tw_5 tw_635) rfl rfl rfl cv_yX12_four_1 ⟨Nat.le_of_ble_eq_true rfl, Nat.le_of_ble_eq_true rfl⟩) ⟨pq_blind, pq_recv hK hP hL_this hK_this (by decide +kernel) rfl, pq_pre hK hN hP hD⟩ rfl rfl hl.1 rfl (lv_room (Nat.le_of_ble_eq_true rfl)) dX12_feed_22 ⟨Nat.le_of_ble_eq_true rfl, Nat.le_of_ble_eq_true rfl⟩) hD hS hA (fun σ1 μ1 H locs hw_24 hP hD hS => ?_)
      obtain ⟨I_25, ri_26, hu_27, hg_28, hp_30, hfn_31, hfr_32⟩ := hw_24
      obtain ⟨hu_27a, hu_27b⟩ := Prod.mk.inj hu_27
      rw [hu_27a, hu_27b] at hP hD
      replace hF := hF.trans (bv_n hfn_31)
      replace hFr := fr_tr hFr hfr_32
      have tt_33 := hp_30
      have hG := GM.tr hG hg_28 (by decide +kernel)
      refine lv_aload_n hx hb dX12_feed_25 rfl (lv_at hl 0 rfl) ?_
      refine lv_iload_n hx hb dX12_feed_26 rfl (lv_at hl 3 rfl) ?_
      refine pk_v (va_runV (As := [.int a2]) (rest := []) ⟨hx, hb, hml, hown, hts⟩ (s_X12_four l D t σ I_25 J ri_26 rj rq H.size tg hSH hG.1 this a2 hL_this hK_this (by omega)) (cwV 1 hts (tw_V tw_632 tw_633 tw_634 tw_5 tw_635) rfl rfl rfl cv_yX12_four_1 ⟨Nat.le_of_ble_eq_true rfl, Nat.le_of_ble_eq_true rfl⟩) ⟨pq_blind, pq_recv hK hP hL_this hK_this (by decide +kernel) rfl, pq_pre hK hN hP hD⟩ rfl rfl hl.1 rfl (lv_room (Nat.le_of_ble_eq_true rfl)) dX12_feed_27 ⟨Nat.le_of_ble_eq_true rfl, Nat.le_of_ble_eq_true rfl⟩) hD hS hA (fun σ1 μ1 H locs hw_35 hP hD hS => ?_)
      obtain ⟨I_36, ri_37, hu_38, hg_39, hp_41, hfn_42, hfr_43⟩ := hw_35
      obtain ⟨hu_38a, hu_38b⟩ := Prod.mk.inj hu_38
      rw [hu_38a, hu_38b] at hP hD
      replace hF := hF.trans (bv_n hfn_42)
      replace hFr := fr_tr hFr hfr_43
      have tt_44 := hp_41
      have hG := GM.tr hG hg_39 (by decide +kernel)
      refine lv_aload_n hx hb dX12_feed_30 rfl (lv_at hl 0 rfl) ?_
      refine lv_iload hx hb dX12_feed_31 (lv_at hl 4 rfl) ?_
      refine pk_v (va_runV (As := [.int a3]) (rest := []) ⟨hx, hb, hml, hown, hts⟩ (s_X12_four l D t σ I_36 J ri_37 rj rq H.size tg hSH hG.1 this a3 hL_this hK_this (by omega)) (cwV 1 hts (tw_V tw_632 tw_633 tw_634 tw_5 tw_635) rfl rfl rfl cv_yX12_four_1 ⟨Nat.le_of_ble_eq_true rfl, Nat.le_of_ble_eq_true rfl⟩) ⟨pq_blind, pq_recv hK hP hL_this hK_this (by decide +kernel) rfl, pq_pre hK hN hP hD⟩ rfl rfl hl.1 rfl (lv_room (Nat.le_of_ble_eq_true rfl)) dX12_feed_33 ⟨Nat.le_of_ble_eq_true rfl, Nat.le_of_ble_eq_true rfl⟩) hD hS hA (fun σ1 μ1 H locs hw_46 hP hD hS => ?_)
      obtain ⟨I_47, ri_48, hu_49, hg_50, hp_52, hfn_53, hfr_54⟩ := hw_46
      obtain ⟨hu_49a, hu_49b⟩ := Prod.mk.inj hu_49
      rw [hu_49a, hu_49b] at hP hD
      replace hF := hF.trans (bv_n hfn_53)
      replace hFr := fr_tr hFr hfr_54
      have tt_55 := hp_52
      have hG := GM.tr hG hg_50 (by decide +kernel)
      refine lv_aload_n hx hb dX12_feed_36 rfl (lv_at hl 0 rfl) ?_
      refine lv_iload hx hb dX12_feed_37 (lv_at hl 5 rfl) ?_
      refine pk_v (va_runV (As := [.int a4]) (rest := []) ⟨hx, hb, hml, hown, hts⟩ (s_X12_four l D t σ I_47 J ri_48 rj rq H.size tg hSH hG.1 this a4 hL_this hK_this (by omega)) (cwV 1 hts (tw_V tw_632 tw_633 tw_634 tw_5 tw_635) rfl rfl rfl cv_yX12_four_1 ⟨Nat.le_of_ble_eq_true rfl, Nat.le_of_ble_eq_true rfl⟩) ⟨pq_blind, pq_recv hK hP hL_this hK_this (by decide +kernel) rfl, pq_pre hK hN hP hD⟩ rfl rfl hl.1 rfl (lv_room (Nat.le_of_ble_eq_true rfl)) dX12_feed_39 ⟨Nat.le_of_ble_eq_true rfl, Nat.le_of_ble_eq_true rfl⟩) hD hS hA (fun σ1 μ1 H locs hw_57 hP hD hS => ?_)
      obtain ⟨I_58, ri_59, hu_60, hg_61, hp_63, hfn_64, hfr_65⟩ := hw_57
      obtain ⟨hu_60a, hu_60b⟩ := Prod.mk.inj hu_60
      rw [hu_60a, hu_60b] at hP hD
      replace hF := hF.trans (bv_n hfn_64)
      replace hFr := fr_tr hFr hfr_65
      have tt_66 := hp_63
      have hG := GM.tr hG hg_61 (by decide +kernel)
      refine lv_aload_n hx hb dX12_feed_42 rfl (lv_at hl 0 rfl) ?_
      refine pg_f (v := .int (I_58 388 this)) (C := RX12) (T := TX12) (N := 31) hx hb hts (tw_i inlX12) hown hK hP hL_this hK_this (by decide +kernel) rfl 4 (by decide +kernel) (hts _ (tw_c tw_631)) rfl dX12_feed_43 ?_
      have h_67 : rg (I_58 388 this) 0 300 := GM.rI hG 388 rfl
      have uh_67 := h_67.1
      have vh_67 := h_67.2
      replace hF := hF.trans (ap_n (vI_e (f := 388) hO_this (by decide +kernel)))
      subst hQ
      exact W.iret (v := (I_58 388 this)) hx hb hr (fun t1 ht hW => ⟨⟨(I_58 388 this), (σ, I_58, J, ri_59, rj, rq), rfl, ⟨I_58, ri_59, rfl, hG, (hF0.symm.trans hF), hFr, (rg_w h_67 (by decide +kernel))⟩, by rw [ht]; exact hP, va_K.moved hW.alike hK, hD⟩, hS.F ht⟩) hS.2.2 dX12_feed_46
    · replace hF := hF.trans (if_neg c_5)
      have tc_69 : 300 < (x_3).toInt := Int32.lt_iff_toInt_lt.mp (nle c_5)
      have h_70 : rg x_3 301 320 := rg_lt2 (nle c_5) (rg_k (300 : Int32) 300 rfl) h_4 (by decide +kernel)
      have uh_70 := h_70.1
      have vh_70 := h_70.2
      refine lv_iconst (v := (-1)) hx hb dX12_feed_13 (by decide +kernel) ?_
      subst hQ
      exact W.iret (v := (-1)) hx hb hr (fun t1 ht hW => ⟨⟨(-1), (σ, I, J, ri, rj, rq), rfl, ⟨I, ri, rfl, hG, (hF0.symm.trans hF), hFr, (rg_w (rg_k (-1 : Int32) (-1) rfl) (by decide +kernel))⟩, by rw [ht]; exact hP, va_K.moved hW.alike hK, hD⟩, hS.F ht⟩) hS.2.2 dX12_feed_14
  exact go _ _ _ hP hD hS hl

set_option maxRecDepth 100000 in
def g_X12_end (a0 : Int32) (I : Nat → Int32) (J : Nat → Int64) (ri : Nat → Nat → Int32) (rj : Nat → Nat → Int64) (rq : Nat → Nat → Option Nat) : Int32 × vM := (ap1 (I 388) fun (y_2 : Int32) => (ap1 (g_X12_isIn a0 (0 : Int32) (y_2)) fun (x_3 : Int32) => (if x_3 = (0 : Int32) then ((-1 : Int32), I, J, ri, rj, rq) else (ap1 (va_up I 388 a0) fun (I_31 : Nat → Int32) => (a0, I_31, J, ri, rj, rq)))))
set_option maxRecDepth 100000 in
theorem g_X12_end_e {a0 : Int32} {I : Nat → Int32} {J : Nat → Int64} {ri : Nat → Nat → Int32} {rj : Nat → Nat → Int64} {rq : Nat → Nat → Option Nat} : g_X12_end a0 I J ri rj rq = (ap1 (I 388) fun (y_2 : Int32) => (ap1 (g_X12_isIn a0 (0 : Int32) (y_2)) fun (x_3 : Int32) => (if x_3 = (0 : Int32) then ((-1 : Int32), I, J, ri, rj, rq) else (ap1 (va_up I 388 a0) fun (I_31 : Nat → Int32) => (a0, I_31, J, ri, rj, rq))))) := rfl
set_option maxHeartbeats 4000000 in
set_option maxRecDepth 100000 in
theorem s_X12_end (l : Launch) (D : va_G) (t : pq_T) (σ : pq_S) (I : Nat → Nat → Int32) (J : Nat → Nat → Int64) (ri : Nat → Nat → Int32) (rj : Nat → Nat → Int64) (rq : Nat → Nat → Option Nat) (sz : Nat) (tg : Nat → Nat) (hSH : SH σ tg) (hG0 : GT tg I ri) (this : Nat) (a0 : Int32) (hL_this : this ∈ σ.1) (hK_this : σ.2.1 this = 12) : MetI l yX12_end (wa yX12_end cX12_end 2 (some .int)) ({ frames := 1, cells := 0, slots := 0, locals := 22 }) [.ref this, .int a0] D t σ (I, J, ri, rj, rq) sz 0 0 (fun (r : Int32) (u : pq_S × pq_M) => ∃ I' : Nat → Nat → Int32, u = (σ, I', J, ri, rj, rq) ∧ GM [388] tg σ I ri I' ri rq ∧ g_X12_end a0 (vI 12 σ this I) (vJ 12 σ this J) (vR 12 σ this ri) (vL 12 σ this rj) (vQ 12 σ this rq) = (r, (vI 12 σ this I'), (vJ 12 σ this J), (vR 12 σ this ri), (vL 12 σ this rj), (vQ 12 σ this rq)) ∧ FR 12 tg σ this (I, J, ri, rj, rq) (I', J, ri, rj, rq) ∧ rg r (-1) 300) := by
  refine Met.ofW (cc := cX12_end) (maxL := 2) (ret := (some .int)) (by decide +kernel) rfl ?_
  intro p e s m args below meth c s₁ B hml hv
  obtain ⟨rfl, hsz, hP, hK, hD0, hN⟩ := hv
  have hx := B.exec
  have hb := B.bytes
  have hr := B.returns
  have hts := atoms_spec (ws := (wa yX12_end cX12_end 2 (some .int))) B.pre
  have hown : s.vm.findClass RX12 = some m.cls := findClass_of_methodNamed B.named
  have hlocks := B.notSynchronized
  subst hsz
  have hD : va_D (pq_B t σ (I, J, ri, rj, rq) s.heap.size) (pq_P t σ (I, J, ri, rj, rq)) := hD0.self
  generalize hAe : pq_B t σ (I, J, ri, rj, rq) s.heap.size = A at hD ⊢
  have hA : ∀ q : Nat, s.heap.size ≤ q → A q := fun q h => by rw [← hAe]; exact Or.inr h
  have hS : va_S A s.heap s.heap [] := va_S.rf
  have hG : GM [388] tg σ I ri I ri rq := ⟨hG0, fun _ _ _ => rfl, fun _ _ _ _ _ => rfl, fun _ _ _ _ _ _ => rfl⟩
  have hl := lv_entry ([.ref this, .int a0]) (n := 2) (Nat.le_of_ble_eq_true rfl)
  rw [lg_entry_eq]
  generalize (lg_sl ([.ref this, .int a0]) ++ List.replicate (2 - (lg_sl ([.ref this, .int a0])).length) Slot.unset).toArray = ls at hl ⊢
  have hl : lv_has ls 2 [(0, .ref this), (1, .int a0)] := hl
  refine q_gen (fun Q hQ => ?_)
  have go : ∀ (H : Heap) (locs : List Loc) (ls : Array Slot), va_P D vwCl (pq_P t σ (I, J, ri, rj, rq)) H → va_D A (pq_P t σ (I, J, ri, rj, rq)) → va_S A s.heap H locs → lv_has ls 2 [(0, .ref this), (1, .int a0)] → W p l e ({ frames := 1, cells := 0, slots := 0, locals := 22 } : Room) s m (List.toArray ([.ref this, .int a0] : List Value)) below meth c H locs 0 0 Q (F0 m 0 ls []) := by
    intro H locs ls hP hD hS hl
    have hO_this : this = vo σ 12 this := rfl
    have hVT : VT 12 σ tg this := vt_12 hSH hL_this hK_this
    have hFr : FR 12 tg σ this (I, J, ri, rj, rq) (I, J, ri, rj, rq) := fr_rf
    obtain ⟨F, hF0⟩ : ∃ F, F = g_X12_end a0 (vI 12 σ this I) (vJ 12 σ this J) (vR 12 σ this ri) (vL 12 σ this rj) (vQ 12 σ this rq) := ⟨_, rfl⟩
    have hF := hF0.trans g_X12_end_e
    refine lv_iload_n hx hb dX12_end_0 rfl (lv_at hl 1 rfl) ?_
    refine lv_iconst (v := 0) hx hb dX12_end_1 (by decide +kernel) ?_
    refine lv_aload_n hx hb dX12_end_2 rfl (lv_at hl 0 rfl) ?_
    refine pg_f (v := .int (I 388 this)) (C := RX12) (T := TX12) (N := 31) hx hb hts (tw_i inlX12) hown hK hP hL_this hK_this (by decide +kernel) rfl 4 (by decide +kernel) (hts _ (tw_c tw_631)) rfl dX12_end_3 ?_
    have h_1 : rg (I 388 this) 0 300 := GM.rI hG 388 rfl
    have uh_1 := h_1.1
    have vh_1 := h_1.2
    replace hF := hF.trans (ap_n (vI_e (f := 388) hO_this (by decide +kernel)))
    refine pk_i (va_runS (As := [.int a0, .int 0, .int (I 388 this)]) (rest := []) ⟨hx, hb, hml, hown, hts⟩ (s_X12_isIn l D t σ I J ri rj rq H.size tg hSH hG.1 a0 (0 : Int32) (I 388 this)) (va_cwS 3 hts (tw_S tw_235 tw_236 tw_5 tw_237) rfl rfl rfl cd_yX12_isIn_3 ⟨Nat.le_of_ble_eq_true rfl, Nat.le_of_ble_eq_true rfl⟩) ⟨pq_blind, pq_pre hK hN hP hD⟩ rfl rfl hl.1 rfl (lv_room (Nat.le_of_ble_eq_true rfl)) dX12_end_6 ⟨Nat.le_of_ble_eq_true rfl, Nat.le_of_ble_eq_true rfl⟩) hD hS hA (fun x_3 σ1 μ1 H locs hw_4 hP hD hS => ?_)
    obtain ⟨hu_5, hfn_8, hr_7⟩ := hw_4
    obtain ⟨hu_5a, hu_5b⟩ := Prod.mk.inj hu_5
    rw [hu_5a, hu_5b] at hP hD
    replace hF := hF.trans (ap_n hfn_8.symm)
    have h_10 : rg x_3 0 1 := by rcases hr_7 with ⟨q, -⟩ | ⟨q, -⟩ <;> rw [q] <;> exact ⟨by decide +kernel, by decide +kernel⟩
    have uh_10 := h_10.1
    have vh_10 := h_10.2
    refine lv_if_ne (tgt := 14) hx hb dX12_end_9 (by decide +kernel) (fun c_11 => ?_) (fun c_11 => ?_)
    · replace hF := hF.trans (if_neg c_11)
      obtain ⟨f_23, f_24⟩ := (hr_7.resolve_right (fun q => c_11 q.1)).2
      have tc_25 : 0 ≤ (a0).toInt := Int32.le_iff_toInt_le.mp f_23
      have h_26 : rg a0 0 2147483647 := rg_le2 f_23 (rg_k (0 : Int32) 0 rfl) (rg_full _) (by decide +kernel)
      have uh_26 := h_26.1
      have vh_26 := h_26.2
      have tc_27 : (a0).toInt ≤ (I 388 this).toInt := Int32.le_iff_toInt_le.mp f_24
      have h_28 : rg a0 0 300 := rg_le1 f_24 h_26 h_1 (by decide +kernel)
      have uh_28 := h_28.1
      have vh_28 := h_28.2
      have tc_29 : (x_3).toInt ≠ 0 := fun q => c_11 (Int32.toInt_inj.mp q)
      have h_30 : rg x_3 1 1 := rg_ne c_11 h_10 0 rfl (by decide +kernel)
      have uh_30 := h_30.1
      have vh_30 := h_30.2
      refine lv_aload_n hx hb dX12_end_14 rfl (lv_at hl 0 rfl) ?_
      refine lv_iload_n hx hb dX12_end_15 rfl (lv_at hl 1 rfl) ?_
      refine pp_i (v := a0) (ty := .int) (C := RX12) (T := TX12) (N := 31) hx hb hts (tw_i inlX12) tyX12 tyX12_ok nmX12 hown hK hP hD hS hL_this hK_this (by decide +kernel) rfl 4 388 (by decide +kernel) (hts _ (tw_c tw_631)) rfl (tyX12_ok 4 (by decide +kernel)) rfl rfl (Nat.le_of_ble_eq_true rfl) (ps_388 _ _ _ _ _) dX12_end_16 (fun I_31 H locs eI_31 hP hD hS => ?_)
      replace hFr := fr_I (f := 388) hFr hO_this (by decide +kernel) eI_31
      replace hF := hF.trans (ap_n (vI_st (f := 388) hO_this (by decide +kernel) eI_31))
      have hG := GM.wI hG 388 rfl eI_31 (rg_w h_28 (by decide +kernel)) (by decide +kernel)
      refine lv_iload_n hx hb dX12_end_19 rfl (lv_at hl 1 rfl) ?_
      subst hQ
      exact W.iret (v := a0) hx hb hr (fun t1 ht hW => ⟨⟨a0, (σ, I_31, J, ri, rj, rq), rfl, ⟨I_31, rfl, hG, (hF0.symm.trans hF), hFr, (rg_w h_28 (by decide +kernel))⟩, by rw [ht]; exact hP, va_K.moved hW.alike hK, hD⟩, hS.F ht⟩) hS.2.2 dX12_end_20
    · replace hF := hF.trans (if_pos c_11)
      have f_32 := (hr_7.resolve_left (fun q => absurd (q.1.symm.trans c_11) (by decide +kernel))).2
      have tc_33 : (x_3).toInt = 0 := congrArg Int32.toInt c_11
      have h_34 : rg x_3 0 0 := rg_and h_10 (rg_of_eq c_11 (rg_k (0 : Int32) 0 rfl)) (by decide +kernel)
      have uh_34 := h_34.1
      have vh_34 := h_34.2
      refine lv_iconst (v := (-1)) hx hb dX12_end_12 (by decide +kernel) ?_
      subst hQ
      exact W.iret (v := (-1)) hx hb hr (fun t1 ht hW => ⟨⟨(-1), (σ, I, J, ri, rj, rq), rfl, ⟨I, rfl, hG, (hF0.symm.trans hF), hFr, (rg_w (rg_k (-1 : Int32) (-1) rfl) (by decide +kernel))⟩, by rw [ht]; exact hP, va_K.moved hW.alike hK, hD⟩, hS.F ht⟩) hS.2.2 dX12_end_13
  exact go _ _ _ hP hD hS hl
