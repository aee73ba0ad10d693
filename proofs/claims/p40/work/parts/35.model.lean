theorem dX12_isAsked_0 : decode cX12_isAsked 0 = .ok (.iload_n 0, 1) := oc_26 (by decide +kernel)
theorem dX12_isAsked_1 : decode cX12_isAsked 1 = .ok (.bipush 10, 2) := oc_16 (a := 10) (by decide +kernel)
theorem dX12_isAsked_3 : decode cX12_isAsked 3 = .ok (.if_icmp .ne 17, 3) := oc_160 (a := 0) (b := 17) (by decide +kernel)
theorem dX12_isAsked_20 : decode cX12_isAsked 20 = .ok (.iload_n 0, 1) := oc_26 (by decide +kernel)
theorem dX12_isAsked_21 : decode cX12_isAsked 21 = .ok (.bipush 11, 2) := oc_16 (a := 11) (by decide +kernel)
theorem dX12_isAsked_23 : decode cX12_isAsked 23 = .ok (.if_icmp .ne 17, 3) := oc_160 (a := 0) (b := 17) (by decide +kernel)
theorem dX12_isAsked_40 : decode cX12_isAsked 40 = .ok (.iload_n 0, 1) := oc_26 (by decide +kernel)
theorem dX12_isAsked_41 : decode cX12_isAsked 41 = .ok (.bipush 12, 2) := oc_16 (a := 12) (by decide +kernel)
theorem dX12_isAsked_43 : decode cX12_isAsked 43 = .ok (.if_icmp .ne 17, 3) := oc_160 (a := 0) (b := 17) (by decide +kernel)
theorem dX12_isAsked_60 : decode cX12_isAsked 60 = .ok (.iload_n 0, 1) := oc_26 (by decide +kernel)
theorem dX12_isAsked_61 : decode cX12_isAsked 61 = .ok (.bipush 13, 2) := oc_16 (a := 13) (by decide +kernel)
theorem dX12_isAsked_63 : decode cX12_isAsked 63 = .ok (.if_icmp .ne 17, 3) := oc_160 (a := 0) (b := 17) (by decide +kernel)
theorem dX12_isAsked_80 : decode cX12_isAsked 80 = .ok (.iload_n 0, 1) := oc_26 (by decide +kernel)
theorem dX12_isAsked_81 : decode cX12_isAsked 81 = .ok (.bipush 14, 2) := oc_16 (a := 14) (by decide +kernel)
theorem dX12_isAsked_83 : decode cX12_isAsked 83 = .ok (.if_icmp .ne 17, 3) := oc_160 (a := 0) (b := 17) (by decide +kernel)
theorem dX12_isAsked_100 : decode cX12_isAsked 100 = .ok (.lload_n 1, 1) := oc_31 (by decide +kernel)
theorem dX12_isAsked_101 : decode cX12_isAsked 101 = .ok (.lload_n 3, 1) := oc_33 (by decide +kernel)
theorem dX12_isAsked_102 : decode cX12_isAsked 102 = .ok (.lcmp, 1) := oc_148 (by decide +kernel)
theorem dX12_isAsked_103 : decode cX12_isAsked 103 = .ok (.ifCond .eq 7, 3) := oc_153 (a := 0) (b := 7) (by decide +kernel)
theorem dX12_isAsked_110 : decode cX12_isAsked 110 = .ok (.iconst 0, 1) := oc_3 (by decide +kernel)
theorem dX12_isAsked_111 : decode cX12_isAsked 111 = .ok (.ireturn, 1) := oc_172 (by decide +kernel)
theorem dX12_isAsked_106 : decode cX12_isAsked 106 = .ok (.iconst 1, 1) := oc_4 (by decide +kernel)
theorem dX12_isAsked_107 : decode cX12_isAsked 107 = .ok (.goto 4, 3) := oc_167 (a := 0) (b := 4) (by decide +kernel)
theorem dX12_isAsked_86 : decode cX12_isAsked 86 = .ok (.lload_n 1, 1) := oc_31 (by decide +kernel)
theorem dX12_isAsked_87 : decode cX12_isAsked 87 = .ok (.lload_n 3, 1) := oc_33 (by decide +kernel)
theorem dX12_isAsked_88 : decode cX12_isAsked 88 = .ok (.lcmp, 1) := oc_148 (by decide +kernel)
theorem dX12_isAsked_89 : decode cX12_isAsked 89 = .ok (.ifCond .ne 7, 3) := oc_154 (a := 0) (b := 7) (by decide +kernel)
theorem dX12_isAsked_96 : decode cX12_isAsked 96 = .ok (.iconst 0, 1) := oc_3 (by decide +kernel)
theorem dX12_isAsked_97 : decode cX12_isAsked 97 = .ok (.goto 14, 3) := oc_167 (a := 0) (b := 14) (by decide +kernel)
theorem dX12_isAsked_92 : decode cX12_isAsked 92 = .ok (.iconst 1, 1) := oc_4 (by decide +kernel)
theorem dX12_isAsked_93 : decode cX12_isAsked 93 = .ok (.goto 18, 3) := oc_167 (a := 0) (b := 18) (by decide +kernel)
theorem dX12_isAsked_66 : decode cX12_isAsked 66 = .ok (.lload_n 1, 1) := oc_31 (by decide +kernel)
theorem dX12_isAsked_67 : decode cX12_isAsked 67 = .ok (.lload_n 3, 1) := oc_33 (by decide +kernel)
theorem dX12_isAsked_68 : decode cX12_isAsked 68 = .ok (.lcmp, 1) := oc_148 (by decide +kernel)
theorem dX12_isAsked_69 : decode cX12_isAsked 69 = .ok (.ifCond .lt 7, 3) := oc_155 (a := 0) (b := 7) (by decide +kernel)
theorem dX12_isAsked_76 : decode cX12_isAsked 76 = .ok (.iconst 0, 1) := oc_3 (by decide +kernel)
theorem dX12_isAsked_77 : decode cX12_isAsked 77 = .ok (.goto 34, 3) := oc_167 (a := 0) (b := 34) (by decide +kernel)
theorem dX12_isAsked_72 : decode cX12_isAsked 72 = .ok (.iconst 1, 1) := oc_4 (by decide +kernel)
theorem dX12_isAsked_73 : decode cX12_isAsked 73 = .ok (.goto 38, 3) := oc_167 (a := 0) (b := 38) (by decide +kernel)
theorem dX12_isAsked_46 : decode cX12_isAsked 46 = .ok (.lload_n 1, 1) := oc_31 (by decide +kernel)
theorem dX12_isAsked_47 : decode cX12_isAsked 47 = .ok (.lload_n 3, 1) := oc_33 (by decide +kernel)
theorem dX12_isAsked_48 : decode cX12_isAsked 48 = .ok (.lcmp, 1) := oc_148 (by decide +kernel)
theorem dX12_isAsked_49 : decode cX12_isAsked 49 = .ok (.ifCond .le 7, 3) := oc_158 (a := 0) (b := 7) (by decide +kernel)
theorem dX12_isAsked_56 : decode cX12_isAsked 56 = .ok (.iconst 0, 1) := oc_3 (by decide +kernel)
theorem dX12_isAsked_57 : decode cX12_isAsked 57 = .ok (.goto 54, 3) := oc_167 (a := 0) (b := 54) (by decide +kernel)
theorem dX12_isAsked_52 : decode cX12_isAsked 52 = .ok (.iconst 1, 1) := oc_4 (by decide +kernel)
theorem dX12_isAsked_53 : decode cX12_isAsked 53 = .ok (.goto 58, 3) := oc_167 (a := 0) (b := 58) (by decide +kernel)
theorem dX12_isAsked_26 : decode cX12_isAsked 26 = .ok (.lload_n 1, 1) := oc_31 (by decide +kernel)
theorem dX12_isAsked_27 : decode cX12_isAsked 27 = .ok (.lload_n 3, 1) := oc_33 (by decide +kernel)
theorem dX12_isAsked_28 : decode cX12_isAsked 28 = .ok (.lcmp, 1) := oc_148 (by decide +kernel)
theorem dX12_isAsked_29 : decode cX12_isAsked 29 = .ok (.ifCond .gt 7, 3) := oc_157 (a := 0) (b := 7) (by decide +kernel)
theorem dX12_isAsked_36 : decode cX12_isAsked 36 = .ok (.iconst 0, 1) := oc_3 (by decide +kernel)
theorem dX12_isAsked_37 : decode cX12_isAsked 37 = .ok (.goto 74, 3) := oc_167 (a := 0) (b := 74) (by decide +kernel)
theorem dX12_isAsked_32 : decode cX12_isAsked 32 = .ok (.iconst 1, 1) := oc_4 (by decide +kernel)
theorem dX12_isAsked_33 : decode cX12_isAsked 33 = .ok (.goto 78, 3) := oc_167 (a := 0) (b := 78) (by decide +kernel)
theorem dX12_isAsked_6 : decode cX12_isAsked 6 = .ok (.lload_n 1, 1) := oc_31 (by decide +kernel)
theorem dX12_isAsked_7 : decode cX12_isAsked 7 = .ok (.lload_n 3, 1) := oc_33 (by decide +kernel)
theorem dX12_isAsked_8 : decode cX12_isAsked 8 = .ok (.lcmp, 1) := oc_148 (by decide +kernel)
theorem dX12_isAsked_9 : decode cX12_isAsked 9 = .ok (.ifCond .ge 7, 3) := oc_156 (a := 0) (b := 7) (by decide +kernel)
theorem dX12_isAsked_16 : decode cX12_isAsked 16 = .ok (.iconst 0, 1) := oc_3 (by decide +kernel)
theorem dX12_isAsked_17 : decode cX12_isAsked 17 = .ok (.goto 94, 3) := oc_167 (a := 0) (b := 94) (by decide +kernel)
theorem dX12_isAsked_12 : decode cX12_isAsked 12 = .ok (.iconst 1, 1) := oc_4 (by decide +kernel)
theorem dX12_isAsked_13 : decode cX12_isAsked 13 = .ok (.goto 98, 3) := oc_167 (a := 0) (b := 98) (by decide +kernel)
theorem dX12_clip_0 : decode cX12_clip 0 = .ok (.lload_n 0, 1) := oc_30 (by decide +kernel)
theorem tw_611 : Cond.constantLong RX12 278 (1000000000) ∈ wsL_law := sg_26 _ (List.mem_of_getElem? (i := 11) rfl)
theorem dX12_clip_1 : decode cX12_clip 1 = .ok (.ldc2_w 278, 3) := oc_20 (a := 1) (b := 22) (by decide +kernel)
theorem dX12_clip_4 : decode cX12_clip 4 = .ok (.lcmp, 1) := oc_148 (by decide +kernel)
theorem dX12_clip_5 : decode cX12_clip 5 = .ok (.ifCond .le 9, 3) := oc_158 (a := 0) (b := 9) (by decide +kernel)
theorem dX12_clip_14 : decode cX12_clip 14 = .ok (.lload_n 0, 1) := oc_30 (by decide +kernel)
theorem tw_612 : Cond.constantLong RX12 280 (-1000000000) ∈ wsL_law := sg_26 _ (List.mem_of_getElem? (i := 12) rfl)
theorem dX12_clip_15 : decode cX12_clip 15 = .ok (.ldc2_w 280, 3) := oc_20 (a := 1) (b := 24) (by decide +kernel)
theorem dX12_clip_18 : decode cX12_clip 18 = .ok (.lcmp, 1) := oc_148 (by decide +kernel)
theorem dX12_clip_19 : decode cX12_clip 19 = .ok (.ifCond .ge 9, 3) := oc_156 (a := 0) (b := 9) (by decide +kernel)
theorem dX12_clip_28 : decode cX12_clip 28 = .ok (.lload_n 0, 1) := oc_30 (by decide +kernel)
theorem dX12_clip_29 : decode cX12_clip 29 = .ok (.lreturn, 1) := oc_173 (by decide +kernel)
theorem dX12_clip_22 : decode cX12_clip 22 = .ok (.ldc2_w 280, 3) := oc_20 (a := 1) (b := 24) (by decide +kernel)
theorem dX12_clip_25 : decode cX12_clip 25 = .ok (.goto 4, 3) := oc_167 (a := 0) (b := 4) (by decide +kernel)
theorem dX12_clip_8 : decode cX12_clip 8 = .ok (.ldc2_w 278, 3) := oc_20 (a := 1) (b := 22) (by decide +kernel)
theorem dX12_clip_11 : decode cX12_clip 11 = .ok (.goto 18, 3) := oc_167 (a := 0) (b := 18) (by decide +kernel)
theorem dX12_two_0 : decode cX12_two 0 = .ok (.iload_n 0, 1) := oc_26 (by decide +kernel)
theorem dX12_two_1 : decode cX12_two 1 = .ok (.iconst 3, 1) := oc_6 (by decide +kernel)
theorem dX12_two_2 : decode cX12_two 2 = .ok (.if_icmp .ne 12, 3) := oc_160 (a := 0) (b := 12) (by decide +kernel)
theorem dX12_two_14 : decode cX12_two 14 = .ok (.iload_n 0, 1) := oc_26 (by decide +kernel)
theorem dX12_two_15 : decode cX12_two 15 = .ok (.iconst 4, 1) := oc_7 (by decide +kernel)
theorem dX12_two_16 : decode cX12_two 16 = .ok (.if_icmp .ne 12, 3) := oc_160 (a := 0) (b := 12) (by decide +kernel)
theorem dX12_two_28 : decode cX12_two 28 = .ok (.iload_n 0, 1) := oc_26 (by decide +kernel)
theorem dX12_two_29 : decode cX12_two 29 = .ok (.iconst 5, 1) := oc_8 (by decide +kernel)
theorem dX12_two_30 : decode cX12_two 30 = .ok (.if_icmp .ne 12, 3) := oc_160 (a := 0) (b := 12) (by decide +kernel)
theorem dX12_two_42 : decode cX12_two 42 = .ok (.lload_n 3, 1) := oc_33 (by decide +kernel)
theorem dX12_two_43 : decode cX12_two 43 = .ok (.lconst 0, 1) := oc_9 (by decide +kernel)
theorem dX12_two_44 : decode cX12_two 44 = .ok (.lcmp, 1) := oc_148 (by decide +kernel)
theorem dX12_two_45 : decode cX12_two 45 = .ok (.ifCond .ne 7, 3) := oc_154 (a := 0) (b := 7) (by decide +kernel)
theorem dX12_two_52 : decode cX12_two 52 = .ok (.lload_n 1, 1) := oc_31 (by decide +kernel)
theorem dX12_two_53 : decode cX12_two 53 = .ok (.lload_n 3, 1) := oc_33 (by decide +kernel)
theorem dX12_two_54 : decode cX12_two 54 = .ok (.ldiv, 1) := oc_109 (by decide +kernel)
theorem tw_608 : Cond.methodLink RX12 282 yX12_clip ∈ wsL_law := sg_26 _ (List.mem_of_getElem? (i := 8) rfl)
theorem tw_609 : Cond.static yX12_clip ∈ wsL_law := sg_26 _ (List.mem_of_getElem? (i := 9) rfl)
theorem tw_610 : Cond.code yX12_clip cX12_clip 2 (some .long) ∈ wsL_law := sg_26 _ (List.mem_of_getElem? (i := 10) rfl)
theorem dX12_two_55 : decode cX12_two 55 = .ok (.invokestatic 282, 3) := oc_184 (a := 1) (b := 26) (by decide +kernel)
theorem dX12_two_58 : decode cX12_two 58 = .ok (.lreturn, 1) := oc_173 (by decide +kernel)
theorem dX12_two_48 : decode cX12_two 48 = .ok (.lconst 0, 1) := oc_9 (by decide +kernel)
theorem dX12_two_49 : decode cX12_two 49 = .ok (.goto 9, 3) := oc_167 (a := 0) (b := 9) (by decide +kernel)
theorem dX12_two_33 : decode cX12_two 33 = .ok (.lload_n 1, 1) := oc_31 (by decide +kernel)
theorem dX12_two_34 : decode cX12_two 34 = .ok (.lload_n 3, 1) := oc_33 (by decide +kernel)
theorem dX12_two_35 : decode cX12_two 35 = .ok (.lmul, 1) := oc_105 (by decide +kernel)
theorem dX12_two_36 : decode cX12_two 36 = .ok (.invokestatic 282, 3) := oc_184 (a := 1) (b := 26) (by decide +kernel)
theorem dX12_two_39 : decode cX12_two 39 = .ok (.goto 19, 3) := oc_167 (a := 0) (b := 19) (by decide +kernel)
theorem dX12_two_19 : decode cX12_two 19 = .ok (.lload_n 1, 1) := oc_31 (by decide +kernel)
theorem dX12_two_20 : decode cX12_two 20 = .ok (.lload_n 3, 1) := oc_33 (by decide +kernel)
theorem dX12_two_21 : decode cX12_two 21 = .ok (.lsub, 1) := oc_101 (by decide +kernel)
theorem dX12_two_22 : decode cX12_two 22 = .ok (.invokestatic 282, 3) := oc_184 (a := 1) (b := 26) (by decide +kernel)
theorem dX12_two_25 : decode cX12_two 25 = .ok (.goto 33, 3) := oc_167 (a := 0) (b := 33) (by decide +kernel)
theorem dX12_two_5 : decode cX12_two 5 = .ok (.lload_n 1, 1) := oc_31 (by decide +kernel)
theorem dX12_two_6 : decode cX12_two 6 = .ok (.lload_n 3, 1) := oc_33 (by decide +kernel)
theorem dX12_two_7 : decode cX12_two 7 = .ok (.ladd, 1) := oc_97 (by decide +kernel)
theorem dX12_two_8 : decode cX12_two 8 = .ok (.invokestatic 282, 3) := oc_184 (a := 1) (b := 26) (by decide +kernel)
theorem dX12_two_11 : decode cX12_two 11 = .ok (.goto 47, 3) := oc_167 (a := 0) (b := 47) (by decide +kernel)
theorem dX12_isSo_0 : decode cX12_isSo 0 = .ok (.iconst 0, 1) := oc_3 (by decide +kernel)
theorem dX12_isSo_1 : decode cX12_isSo 1 = .ok (.istore 6, 2) := oc_54 (by decide +kernel)
theorem dX12_isSo_3 : decode cX12_isSo 3 = .ok (.iconst 0, 1) := oc_3 (by decide +kernel)
theorem dX12_isSo_4 : decode cX12_isSo 4 = .ok (.istore 7, 2) := oc_54 (by decide +kernel)
theorem dX12_isSo_6 : decode cX12_isSo 6 = .ok (.aload_n 0, 1) := oc_42 (by decide +kernel)
theorem dX12_isSo_7 : decode cX12_isSo 7 = .ok (.getfield 7, 3) := oc_180 (a := 0) (b := 7) (by decide +kernel)
theorem dX12_isSo_10 : decode cX12_isSo 10 = .ok (.iload_n 2, 1) := oc_28 (by decide +kernel)
theorem dX12_isSo_11 : decode cX12_isSo 11 = .ok (.iconst 2, 1) := oc_5 (by decide +kernel)
theorem dX12_isSo_12 : decode cX12_isSo 12 = .ok (.iadd, 1) := oc_96 (by decide +kernel)
theorem dX12_isSo_13 : decode cX12_isSo 13 = .ok (.iaload, 1) := oc_46 (by decide +kernel)
theorem dX12_isSo_14 : decode cX12_isSo 14 = .ok (.istore 8, 2) := oc_54 (by decide +kernel)
theorem dX12_isSo_16 : decode cX12_isSo 16 = .ok (.iload 8, 2) := oc_21 (by decide +kernel)
theorem dX12_isSo_18 : decode cX12_isSo 18 = .ok (.aload_n 0, 1) := oc_42 (by decide +kernel)
theorem dX12_isSo_19 : decode cX12_isSo 19 = .ok (.getfield 7, 3) := oc_180 (a := 0) (b := 7) (by decide +kernel)
theorem dX12_isSo_22 : decode cX12_isSo 22 = .ok (.iload_n 2, 1) := oc_28 (by decide +kernel)
theorem dX12_isSo_23 : decode cX12_isSo 23 = .ok (.iconst 3, 1) := oc_6 (by decide +kernel)
theorem dX12_isSo_24 : decode cX12_isSo 24 = .ok (.iadd, 1) := oc_96 (by decide +kernel)
theorem dX12_isSo_25 : decode cX12_isSo 25 = .ok (.iaload, 1) := oc_46 (by decide +kernel)
theorem dX12_isSo_26 : decode cX12_isSo 26 = .ok (.if_icmp .ge 330, 3) := oc_162 (a := 1) (b := 74) (by decide +kernel)
theorem dX12_isSo_356 : decode cX12_isSo 356 = .ok (.aload_n 0, 1) := oc_42 (by decide +kernel)
theorem tw_185 : Cond.fieldLink RX12 36 "RingsUnderModel" "truth" "[Z" ∈ wsL_law := sg_8 _ (List.mem_of_getElem? (i := 17) rfl)
theorem dX12_isSo_357 : decode cX12_isSo 357 = .ok (.getfield 36, 3) := oc_180 (a := 0) (b := 36) (by decide +kernel)
theorem dX12_isSo_360 : decode cX12_isSo 360 = .ok (.iconst 0, 1) := oc_3 (by decide +kernel)
theorem dX12_isSo_361 : decode cX12_isSo 361 = .ok (.baload, 1) := oc_51 (by decide +kernel)
theorem dX12_isSo_362 : decode cX12_isSo 362 = .ok (.ireturn, 1) := oc_172 (by decide +kernel)
theorem dX12_isSo_29 : decode cX12_isSo 29 = .ok (.aload_n 0, 1) := oc_42 (by decide +kernel)
theorem dX12_isSo_30 : decode cX12_isSo 30 = .ok (.getfield 7, 3) := oc_180 (a := 0) (b := 7) (by decide +kernel)
theorem dX12_isSo_33 : decode cX12_isSo 33 = .ok (.sipush 3720, 3) := oc_17 (a := 14) (b := 136) (by decide +kernel)
theorem dX12_isSo_36 : decode cX12_isSo 36 = .ok (.sipush 900, 3) := oc_17 (a := 3) (b := 132) (by decide +kernel)
theorem dX12_isSo_39 : decode cX12_isSo 39 = .ok (.iload_n 1, 1) := oc_27 (by decide +kernel)
theorem dX12_isSo_40 : decode cX12_isSo 40 = .ok (.imul, 1) := oc_104 (by decide +kernel)
theorem dX12_isSo_41 : decode cX12_isSo 41 = .ok (.iadd, 1) := oc_96 (by decide +kernel)
theorem dX12_isSo_42 : decode cX12_isSo 42 = .ok (.sipush 250, 3) := oc_17 (a := 0) (b := 250) (by decide +kernel)
theorem dX12_isSo_45 : decode cX12_isSo 45 = .ok (.iadd, 1) := oc_96 (by decide +kernel)
theorem dX12_isSo_46 : decode cX12_isSo 46 = .ok (.iconst 2, 1) := oc_5 (by decide +kernel)
theorem dX12_isSo_47 : decode cX12_isSo 47 = .ok (.iload 8, 2) := oc_21 (by decide +kernel)
theorem dX12_isSo_49 : decode cX12_isSo 49 = .ok (.imul, 1) := oc_104 (by decide +kernel)
theorem dX12_isSo_50 : decode cX12_isSo 50 = .ok (.iadd, 1) := oc_96 (by decide +kernel)
theorem dX12_isSo_51 : decode cX12_isSo 51 = .ok (.iaload, 1) := oc_46 (by decide +kernel)
theorem dX12_isSo_52 : decode cX12_isSo 52 = .ok (.istore 9, 2) := oc_54 (by decide +kernel)
theorem dX12_isSo_54 : decode cX12_isSo 54 = .ok (.aload_n 0, 1) := oc_42 (by decide +kernel)
theorem dX12_isSo_55 : decode cX12_isSo 55 = .ok (.getfield 7, 3) := oc_180 (a := 0) (b := 7) (by decide +kernel)
theorem dX12_isSo_58 : decode cX12_isSo 58 = .ok (.sipush 3720, 3) := oc_17 (a := 14) (b := 136) (by decide +kernel)
theorem dX12_isSo_61 : decode cX12_isSo 61 = .ok (.sipush 900, 3) := oc_17 (a := 3) (b := 132) (by decide +kernel)
theorem dX12_isSo_64 : decode cX12_isSo 64 = .ok (.iload_n 1, 1) := oc_27 (by decide +kernel)
theorem dX12_isSo_65 : decode cX12_isSo 65 = .ok (.imul, 1) := oc_104 (by decide +kernel)
theorem dX12_isSo_66 : decode cX12_isSo 66 = .ok (.iadd, 1) := oc_96 (by decide +kernel)
theorem dX12_isSo_67 : decode cX12_isSo 67 = .ok (.sipush 250, 3) := oc_17 (a := 0) (b := 250) (by decide +kernel)
theorem dX12_isSo_70 : decode cX12_isSo 70 = .ok (.iadd, 1) := oc_96 (by decide +kernel)
theorem dX12_isSo_71 : decode cX12_isSo 71 = .ok (.iconst 2, 1) := oc_5 (by decide +kernel)
theorem dX12_isSo_72 : decode cX12_isSo 72 = .ok (.iload 8, 2) := oc_21 (by decide +kernel)
theorem dX12_isSo_74 : decode cX12_isSo 74 = .ok (.imul, 1) := oc_104 (by decide +kernel)
theorem dX12_isSo_75 : decode cX12_isSo 75 = .ok (.iadd, 1) := oc_96 (by decide +kernel)
theorem dX12_isSo_76 : decode cX12_isSo 76 = .ok (.iconst 1, 1) := oc_4 (by decide +kernel)
theorem dX12_isSo_77 : decode cX12_isSo 77 = .ok (.iadd, 1) := oc_96 (by decide +kernel)
theorem dX12_isSo_78 : decode cX12_isSo 78 = .ok (.iaload, 1) := oc_46 (by decide +kernel)
theorem dX12_isSo_79 : decode cX12_isSo 79 = .ok (.istore 10, 2) := oc_54 (by decide +kernel)
theorem dX12_isSo_81 : decode cX12_isSo 81 = .ok (.iload 9, 2) := oc_21 (by decide +kernel)
theorem dX12_isSo_83 : decode cX12_isSo 83 = .ok (.iconst 1, 1) := oc_4 (by decide +kernel)
theorem dX12_isSo_84 : decode cX12_isSo 84 = .ok (.if_icmp .gt 39, 3) := oc_163 (a := 0) (b := 39) (by decide +kernel)
theorem dX12_isSo_123 : decode cX12_isSo 123 = .ok (.iload 9, 2) := oc_21 (by decide +kernel)
theorem dX12_isSo_125 : decode cX12_isSo 125 = .ok (.iconst 2, 1) := oc_5 (by decide +kernel)
theorem dX12_isSo_126 : decode cX12_isSo 126 = .ok (.if_icmp .ne 25, 3) := oc_160 (a := 0) (b := 25) (by decide +kernel)
theorem dX12_isSo_151 : decode cX12_isSo 151 = .ok (.iload 9, 2) := oc_21 (by decide +kernel)
theorem dX12_isSo_153 : decode cX12_isSo 153 = .ok (.bipush 10, 2) := oc_16 (a := 10) (by decide +kernel)
theorem dX12_isSo_155 : decode cX12_isSo 155 = .ok (.if_icmp .ge 39, 3) := oc_162 (a := 0) (b := 39) (by decide +kernel)
theorem dX12_isSo_194 : decode cX12_isSo 194 = .ok (.iload 9, 2) := oc_21 (by decide +kernel)
theorem dX12_isSo_196 : decode cX12_isSo 196 = .ok (.bipush 20, 2) := oc_16 (a := 20) (by decide +kernel)
theorem dX12_isSo_198 : decode cX12_isSo 198 = .ok (.if_icmp .ge 40, 3) := oc_162 (a := 0) (b := 40) (by decide +kernel)
theorem dX12_isSo_238 : decode cX12_isSo 238 = .ok (.iload 9, 2) := oc_21 (by decide +kernel)
theorem dX12_isSo_240 : decode cX12_isSo 240 = .ok (.bipush 20, 2) := oc_16 (a := 20) (by decide +kernel)
theorem dX12_isSo_242 : decode cX12_isSo 242 = .ok (.if_icmp .ne 32, 3) := oc_160 (a := 0) (b := 32) (by decide +kernel)
theorem dX12_isSo_274 : decode cX12_isSo 274 = .ok (.iinc 7 (-1), 3) := oc_132 (b := 255) (by decide +kernel)
theorem dX12_isSo_277 : decode cX12_isSo 277 = .ok (.aload_n 0, 1) := oc_42 (by decide +kernel)
theorem dX12_isSo_278 : decode cX12_isSo 278 = .ok (.getfield 36, 3) := oc_180 (a := 0) (b := 36) (by decide +kernel)
theorem dX12_isSo_281 : decode cX12_isSo 281 = .ok (.iload 7, 2) := oc_21 (by decide +kernel)
theorem dX12_isSo_283 : decode cX12_isSo 283 = .ok (.iconst 1, 1) := oc_4 (by decide +kernel)
theorem dX12_isSo_284 : decode cX12_isSo 284 = .ok (.isub, 1) := oc_100 (by decide +kernel)
theorem dX12_isSo_285 : decode cX12_isSo 285 = .ok (.iload 9, 2) := oc_21 (by decide +kernel)
theorem dX12_isSo_287 : decode cX12_isSo 287 = .ok (.bipush 21, 2) := oc_16 (a := 21) (by decide +kernel)
theorem dX12_isSo_349 : decode cX12_isSo 349 = .ok (.bastore, 1) := oc_84 (by decide +kernel)
theorem dX12_isSo_350 : decode cX12_isSo 350 = .ok (.iinc 8 1, 3) := oc_132 (b := 1) (by decide +kernel)
theorem dX12_isSo_353 : decode cX12_isSo 353 = .ok (.goto (-337), 3) := oc_167 (a := 254) (b := 175) (by decide +kernel)
theorem dX12_isSo_289 : decode cX12_isSo 289 = .ok (.if_icmp .ne 33, 3) := oc_160 (a := 0) (b := 33) (by decide +kernel)
theorem dX12_isSo_322 : decode cX12_isSo 322 = .ok (.aload_n 0, 1) := oc_42 (by decide +kernel)
theorem dX12_isSo_323 : decode cX12_isSo 323 = .ok (.getfield 36, 3) := oc_180 (a := 0) (b := 36) (by decide +kernel)
theorem dX12_isSo_326 : decode cX12_isSo 326 = .ok (.iload 7, 2) := oc_21 (by decide +kernel)
theorem dX12_isSo_328 : decode cX12_isSo 328 = .ok (.iconst 1, 1) := oc_4 (by decide +kernel)
theorem dX12_isSo_329 : decode cX12_isSo 329 = .ok (.isub, 1) := oc_100 (by decide +kernel)
theorem dX12_isSo_330 : decode cX12_isSo 330 = .ok (.baload, 1) := oc_51 (by decide +kernel)
theorem dX12_isSo_344 : decode cX12_isSo 344 = .ok (.iconst 1, 1) := oc_4 (by decide +kernel)
theorem dX12_isSo_345 : decode cX12_isSo 345 = .ok (.goto 4, 3) := oc_167 (a := 0) (b := 4) (by decide +kernel)
theorem dX12_isSo_331 : decode cX12_isSo 331 = .ok (.ifCond .ne 13, 3) := oc_154 (a := 0) (b := 13) (by decide +kernel)
theorem dX12_isSo_334 : decode cX12_isSo 334 = .ok (.aload_n 0, 1) := oc_42 (by decide +kernel)
theorem dX12_isSo_335 : decode cX12_isSo 335 = .ok (.getfield 36, 3) := oc_180 (a := 0) (b := 36) (by decide +kernel)
theorem dX12_isSo_338 : decode cX12_isSo 338 = .ok (.iload 7, 2) := oc_21 (by decide +kernel)
theorem dX12_isSo_340 : decode cX12_isSo 340 = .ok (.baload, 1) := oc_51 (by decide +kernel)
theorem dX12_isSo_341 : decode cX12_isSo 341 = .ok (.ifCond .eq 7, 3) := oc_153 (a := 0) (b := 7) (by decide +kernel)
theorem dX12_isSo_348 : decode cX12_isSo 348 = .ok (.iconst 0, 1) := oc_3 (by decide +kernel)
theorem dX12_isSo_292 : decode cX12_isSo 292 = .ok (.aload_n 0, 1) := oc_42 (by decide +kernel)
theorem dX12_isSo_293 : decode cX12_isSo 293 = .ok (.getfield 36, 3) := oc_180 (a := 0) (b := 36) (by decide +kernel)
theorem dX12_isSo_296 : decode cX12_isSo 296 = .ok (.iload 7, 2) := oc_21 (by decide +kernel)
theorem dX12_isSo_298 : decode cX12_isSo 298 = .ok (.iconst 1, 1) := oc_4 (by decide +kernel)
theorem dX12_isSo_299 : decode cX12_isSo 299 = .ok (.isub, 1) := oc_100 (by decide +kernel)
theorem dX12_isSo_300 : decode cX12_isSo 300 = .ok (.baload, 1) := oc_51 (by decide +kernel)
theorem dX12_isSo_318 : decode cX12_isSo 318 = .ok (.iconst 0, 1) := oc_3 (by decide +kernel)
theorem dX12_isSo_319 : decode cX12_isSo 319 = .ok (.goto 30, 3) := oc_167 (a := 0) (b := 30) (by decide +kernel)
theorem dX12_isSo_301 : decode cX12_isSo 301 = .ok (.ifCond .eq 17, 3) := oc_153 (a := 0) (b := 17) (by decide +kernel)
theorem dX12_isSo_304 : decode cX12_isSo 304 = .ok (.aload_n 0, 1) := oc_42 (by decide +kernel)
theorem dX12_isSo_305 : decode cX12_isSo 305 = .ok (.getfield 36, 3) := oc_180 (a := 0) (b := 36) (by decide +kernel)
theorem dX12_isSo_308 : decode cX12_isSo 308 = .ok (.iload 7, 2) := oc_21 (by decide +kernel)
theorem dX12_isSo_310 : decode cX12_isSo 310 = .ok (.baload, 1) := oc_51 (by decide +kernel)
theorem dX12_isSo_311 : decode cX12_isSo 311 = .ok (.ifCond .eq 7, 3) := oc_153 (a := 0) (b := 7) (by decide +kernel)
theorem dX12_isSo_314 : decode cX12_isSo 314 = .ok (.iconst 1, 1) := oc_4 (by decide +kernel)
theorem dX12_isSo_315 : decode cX12_isSo 315 = .ok (.goto 34, 3) := oc_167 (a := 0) (b := 34) (by decide +kernel)
theorem dX12_isSo_245 : decode cX12_isSo 245 = .ok (.aload_n 0, 1) := oc_42 (by decide +kernel)
theorem dX12_isSo_246 : decode cX12_isSo 246 = .ok (.getfield 36, 3) := oc_180 (a := 0) (b := 36) (by decide +kernel)
theorem dX12_isSo_249 : decode cX12_isSo 249 = .ok (.iload 7, 2) := oc_21 (by decide +kernel)
theorem dX12_isSo_251 : decode cX12_isSo 251 = .ok (.iconst 1, 1) := oc_4 (by decide +kernel)
theorem dX12_isSo_252 : decode cX12_isSo 252 = .ok (.isub, 1) := oc_100 (by decide +kernel)
theorem dX12_isSo_253 : decode cX12_isSo 253 = .ok (.aload_n 0, 1) := oc_42 (by decide +kernel)
theorem dX12_isSo_254 : decode cX12_isSo 254 = .ok (.getfield 36, 3) := oc_180 (a := 0) (b := 36) (by decide +kernel)
theorem dX12_isSo_257 : decode cX12_isSo 257 = .ok (.iload 7, 2) := oc_21 (by decide +kernel)
theorem dX12_isSo_259 : decode cX12_isSo 259 = .ok (.iconst 1, 1) := oc_4 (by decide +kernel)
theorem dX12_isSo_260 : decode cX12_isSo 260 = .ok (.isub, 1) := oc_100 (by decide +kernel)
theorem dX12_isSo_261 : decode cX12_isSo 261 = .ok (.baload, 1) := oc_51 (by decide +kernel)
theorem dX12_isSo_270 : decode cX12_isSo 270 = .ok (.bastore, 1) := oc_84 (by decide +kernel)
theorem dX12_isSo_271 : decode cX12_isSo 271 = .ok (.goto 79, 3) := oc_167 (a := 0) (b := 79) (by decide +kernel)
theorem dX12_isSo_262 : decode cX12_isSo 262 = .ok (.ifCond .ne 7, 3) := oc_154 (a := 0) (b := 7) (by decide +kernel)
theorem dX12_isSo_269 : decode cX12_isSo 269 = .ok (.iconst 0, 1) := oc_3 (by decide +kernel)
theorem dX12_isSo_265 : decode cX12_isSo 265 = .ok (.iconst 1, 1) := oc_4 (by decide +kernel)
theorem dX12_isSo_266 : decode cX12_isSo 266 = .ok (.goto 4, 3) := oc_167 (a := 0) (b := 4) (by decide +kernel)
theorem dX12_isSo_201 : decode cX12_isSo 201 = .ok (.iinc 6 (-2), 3) := oc_132 (b := 254) (by decide +kernel)
theorem dX12_isSo_204 : decode cX12_isSo 204 = .ok (.aload_n 0, 1) := oc_42 (by decide +kernel)
theorem dX12_isSo_205 : decode cX12_isSo 205 = .ok (.getfield 36, 3) := oc_180 (a := 0) (b := 36) (by decide +kernel)
theorem dX12_isSo_208 : decode cX12_isSo 208 = .ok (.iload 7, 2) := oc_21 (by decide +kernel)
theorem dX12_isSo_210 : decode cX12_isSo 210 = .ok (.iload 9, 2) := oc_21 (by decide +kernel)
theorem dX12_isSo_212 : decode cX12_isSo 212 = .ok (.aload_n 0, 1) := oc_42 (by decide +kernel)
theorem tw_183 : Cond.fieldLink RX12 32 "RingsUnderModel" "values" "[J" ∈ wsL_law := sg_8 _ (List.mem_of_getElem? (i := 15) rfl)
theorem dX12_isSo_213 : decode cX12_isSo 213 = .ok (.getfield 32, 3) := oc_180 (a := 0) (b := 32) (by decide +kernel)
theorem dX12_isSo_216 : decode cX12_isSo 216 = .ok (.iload 6, 2) := oc_21 (by decide +kernel)
theorem dX12_isSo_218 : decode cX12_isSo 218 = .ok (.laload, 1) := oc_47 (by decide +kernel)
theorem dX12_isSo_219 : decode cX12_isSo 219 = .ok (.aload_n 0, 1) := oc_42 (by decide +kernel)
theorem dX12_isSo_220 : decode cX12_isSo 220 = .ok (.getfield 32, 3) := oc_180 (a := 0) (b := 32) (by decide +kernel)
theorem dX12_isSo_223 : decode cX12_isSo 223 = .ok (.iload 6, 2) := oc_21 (by decide +kernel)
theorem dX12_isSo_225 : decode cX12_isSo 225 = .ok (.iconst 1, 1) := oc_4 (by decide +kernel)
theorem dX12_isSo_226 : decode cX12_isSo 226 = .ok (.iadd, 1) := oc_96 (by decide +kernel)
theorem dX12_isSo_227 : decode cX12_isSo 227 = .ok (.laload, 1) := oc_47 (by decide +kernel)
theorem tw_613 : Cond.methodLink RX12 293 yX12_isAsked ∈ wsL_law := sg_26 _ (List.mem_of_getElem? (i := 13) rfl)
theorem tw_614 : Cond.static yX12_isAsked ∈ wsL_law := sg_26 _ (List.mem_of_getElem? (i := 14) rfl)
theorem tw_615 : Cond.code yX12_isAsked cX12_isAsked 5 (some .boolean) ∈ wsL_law := sg_26 _ (List.mem_of_getElem? (i := 15) rfl)
theorem dX12_isSo_228 : decode cX12_isSo 228 = .ok (.invokestatic 293, 3) := oc_184 (a := 1) (b := 37) (by decide +kernel)
theorem dX12_isSo_231 : decode cX12_isSo 231 = .ok (.bastore, 1) := oc_84 (by decide +kernel)
theorem dX12_isSo_232 : decode cX12_isSo 232 = .ok (.iinc 7 1, 3) := oc_132 (b := 1) (by decide +kernel)
theorem dX12_isSo_235 : decode cX12_isSo 235 = .ok (.goto 115, 3) := oc_167 (a := 0) (b := 115) (by decide +kernel)
theorem dX12_isSo_158 : decode cX12_isSo 158 = .ok (.iinc 6 (-1), 3) := oc_132 (b := 255) (by decide +kernel)
theorem dX12_isSo_161 : decode cX12_isSo 161 = .ok (.aload_n 0, 1) := oc_42 (by decide +kernel)
theorem dX12_isSo_162 : decode cX12_isSo 162 = .ok (.getfield 32, 3) := oc_180 (a := 0) (b := 32) (by decide +kernel)
theorem dX12_isSo_165 : decode cX12_isSo 165 = .ok (.iload 6, 2) := oc_21 (by decide +kernel)
theorem dX12_isSo_167 : decode cX12_isSo 167 = .ok (.iconst 1, 1) := oc_4 (by decide +kernel)
theorem dX12_isSo_168 : decode cX12_isSo 168 = .ok (.isub, 1) := oc_100 (by decide +kernel)
theorem dX12_isSo_169 : decode cX12_isSo 169 = .ok (.iload 9, 2) := oc_21 (by decide +kernel)
theorem dX12_isSo_171 : decode cX12_isSo 171 = .ok (.aload_n 0, 1) := oc_42 (by decide +kernel)
theorem dX12_isSo_172 : decode cX12_isSo 172 = .ok (.getfield 32, 3) := oc_180 (a := 0) (b := 32) (by decide +kernel)
theorem dX12_isSo_175 : decode cX12_isSo 175 = .ok (.iload 6, 2) := oc_21 (by decide +kernel)
theorem dX12_isSo_177 : decode cX12_isSo 177 = .ok (.iconst 1, 1) := oc_4 (by decide +kernel)
theorem dX12_isSo_178 : decode cX12_isSo 178 = .ok (.isub, 1) := oc_100 (by decide +kernel)
theorem dX12_isSo_179 : decode cX12_isSo 179 = .ok (.laload, 1) := oc_47 (by decide +kernel)
theorem dX12_isSo_180 : decode cX12_isSo 180 = .ok (.aload_n 0, 1) := oc_42 (by decide +kernel)
theorem dX12_isSo_181 : decode cX12_isSo 181 = .ok (.getfield 32, 3) := oc_180 (a := 0) (b := 32) (by decide +kernel)
theorem dX12_isSo_184 : decode cX12_isSo 184 = .ok (.iload 6, 2) := oc_21 (by decide +kernel)
theorem dX12_isSo_186 : decode cX12_isSo 186 = .ok (.laload, 1) := oc_47 (by decide +kernel)
theorem tw_605 : Cond.methodLink RX12 289 yX12_two ∈ wsL_law := sg_26 _ (List.mem_of_getElem? (i := 5) rfl)
theorem tw_606 : Cond.static yX12_two ∈ wsL_law := sg_26 _ (List.mem_of_getElem? (i := 6) rfl)
theorem tw_607 : Cond.code yX12_two cX12_two 5 (some .long) ∈ wsL_law := sg_26 _ (List.mem_of_getElem? (i := 7) rfl)
theorem dX12_isSo_187 : decode cX12_isSo 187 = .ok (.invokestatic 289, 3) := oc_184 (a := 1) (b := 33) (by decide +kernel)
theorem dX12_isSo_190 : decode cX12_isSo 190 = .ok (.lastore, 1) := oc_80 (by decide +kernel)
theorem dX12_isSo_191 : decode cX12_isSo 191 = .ok (.goto 159, 3) := oc_167 (a := 0) (b := 159) (by decide +kernel)
theorem dX12_isSo_129 : decode cX12_isSo 129 = .ok (.aload_n 0, 1) := oc_42 (by decide +kernel)
theorem dX12_isSo_130 : decode cX12_isSo 130 = .ok (.getfield 32, 3) := oc_180 (a := 0) (b := 32) (by decide +kernel)
theorem dX12_isSo_133 : decode cX12_isSo 133 = .ok (.iload 6, 2) := oc_21 (by decide +kernel)
theorem dX12_isSo_135 : decode cX12_isSo 135 = .ok (.iconst 1, 1) := oc_4 (by decide +kernel)
theorem dX12_isSo_136 : decode cX12_isSo 136 = .ok (.isub, 1) := oc_100 (by decide +kernel)
theorem dX12_isSo_137 : decode cX12_isSo 137 = .ok (.aload_n 0, 1) := oc_42 (by decide +kernel)
theorem dX12_isSo_138 : decode cX12_isSo 138 = .ok (.getfield 32, 3) := oc_180 (a := 0) (b := 32) (by decide +kernel)
theorem dX12_isSo_141 : decode cX12_isSo 141 = .ok (.iload 6, 2) := oc_21 (by decide +kernel)
theorem dX12_isSo_143 : decode cX12_isSo 143 = .ok (.iconst 1, 1) := oc_4 (by decide +kernel)
theorem dX12_isSo_144 : decode cX12_isSo 144 = .ok (.isub, 1) := oc_100 (by decide +kernel)
theorem dX12_isSo_145 : decode cX12_isSo 145 = .ok (.laload, 1) := oc_47 (by decide +kernel)
theorem dX12_isSo_146 : decode cX12_isSo 146 = .ok (.lneg, 1) := oc_117 (by decide +kernel)
theorem dX12_isSo_147 : decode cX12_isSo 147 = .ok (.lastore, 1) := oc_80 (by decide +kernel)
theorem dX12_isSo_148 : decode cX12_isSo 148 = .ok (.goto 202, 3) := oc_167 (a := 0) (b := 202) (by decide +kernel)
theorem dX12_isSo_87 : decode cX12_isSo 87 = .ok (.aload_n 0, 1) := oc_42 (by decide +kernel)
theorem dX12_isSo_88 : decode cX12_isSo 88 = .ok (.getfield 32, 3) := oc_180 (a := 0) (b := 32) (by decide +kernel)
theorem dX12_isSo_91 : decode cX12_isSo 91 = .ok (.iload 6, 2) := oc_21 (by decide +kernel)
theorem dX12_isSo_93 : decode cX12_isSo 93 = .ok (.iload 9, 2) := oc_21 (by decide +kernel)
theorem dX12_isSo_116 : decode cX12_isSo 116 = .ok (.lastore, 1) := oc_80 (by decide +kernel)
theorem dX12_isSo_117 : decode cX12_isSo 117 = .ok (.iinc 6 1, 3) := oc_132 (b := 1) (by decide +kernel)
theorem dX12_isSo_120 : decode cX12_isSo 120 = .ok (.goto 230, 3) := oc_167 (a := 0) (b := 230) (by decide +kernel)
theorem dX12_isSo_95 : decode cX12_isSo 95 = .ok (.ifCond .ne 9, 3) := oc_154 (a := 0) (b := 9) (by decide +kernel)
theorem dX12_isSo_104 : decode cX12_isSo 104 = .ok (.aload_n 0, 1) := oc_42 (by decide +kernel)
theorem dX12_isSo_105 : decode cX12_isSo 105 = .ok (.iload_n 3, 1) := oc_29 (by decide +kernel)
theorem dX12_isSo_106 : decode cX12_isSo 106 = .ok (.iload 10, 2) := oc_21 (by decide +kernel)
theorem dX12_isSo_108 : decode cX12_isSo 108 = .ok (.iload 4, 2) := oc_21 (by decide +kernel)
theorem dX12_isSo_110 : decode cX12_isSo 110 = .ok (.iload 5, 2) := oc_21 (by decide +kernel)
theorem dX12_isSo_112 : decode cX12_isSo 112 = .ok (.invokevirtual 286, 3) := oc_182 (a := 1) (b := 30) (by decide +kernel)
theorem dX12_isSo_115 : decode cX12_isSo 115 = .ok (.i2l, 1) := oc_133 (by decide +kernel)
theorem dX12_isSo_98 : decode cX12_isSo 98 = .ok (.iload 10, 2) := oc_21 (by decide +kernel)
theorem dX12_isSo_100 : decode cX12_isSo 100 = .ok (.i2l, 1) := oc_133 (by decide +kernel)
theorem dX12_isSo_101 : decode cX12_isSo 101 = .ok (.goto 15, 3) := oc_167 (a := 0) (b := 15) (by decide +kernel)
theorem dX12_firstSo_0 : decode cX12_firstSo 0 = .ok (.aload_n 0, 1) := oc_42 (by decide +kernel)
theorem dX12_firstSo_1 : decode cX12_firstSo 1 = .ok (.iload_n 1, 1) := oc_27 (by decide +kernel)
theorem dX12_firstSo_2 : decode cX12_firstSo 2 = .ok (.iload_n 3, 1) := oc_29 (by decide +kernel)
theorem dX12_firstSo_3 : decode cX12_firstSo 3 = .ok (.invokevirtual 275, 3) := oc_182 (a := 1) (b := 19) (by decide +kernel)
theorem dX12_firstSo_6 : decode cX12_firstSo 6 = .ok (.istore 5, 2) := oc_54 (by decide +kernel)
theorem dX12_firstSo_8 : decode cX12_firstSo 8 = .ok (.iconst 0, 1) := oc_3 (by decide +kernel)
theorem dX12_firstSo_9 : decode cX12_firstSo 9 = .ok (.istore 6, 2) := oc_54 (by decide +kernel)
theorem dX12_firstSo_11 : decode cX12_firstSo 11 = .ok (.iload 5, 2) := oc_21 (by decide +kernel)
theorem dX12_firstSo_74 : decode cX12_firstSo 74 = .ok (.iconst (-1), 1) := oc_2 (by decide +kernel)
theorem dX12_firstSo_75 : decode cX12_firstSo 75 = .ok (.ireturn, 1) := oc_172 (by decide +kernel)
theorem dX12_firstSo_13 : decode cX12_firstSo 13 = .ok (.ifCond .lt 61, 3) := oc_155 (a := 0) (b := 61) (by decide +kernel)
theorem dX12_firstSo_16 : decode cX12_firstSo 16 = .ok (.iload 6, 2) := oc_21 (by decide +kernel)
theorem dX12_firstSo_18 : decode cX12_firstSo 18 = .ok (.aload_n 0, 1) := oc_42 (by decide +kernel)
theorem dX12_firstSo_19 : decode cX12_firstSo 19 = .ok (.iload 5, 2) := oc_21 (by decide +kernel)
theorem dX12_firstSo_21 : decode cX12_firstSo 21 = .ok (.invokevirtual 266, 3) := oc_182 (a := 1) (b := 10) (by decide +kernel)
theorem dX12_firstSo_24 : decode cX12_firstSo 24 = .ok (.if_icmp .ge 50, 3) := oc_162 (a := 0) (b := 50) (by decide +kernel)
theorem dX12_firstSo_27 : decode cX12_firstSo 27 = .ok (.aload_n 0, 1) := oc_42 (by decide +kernel)
theorem dX12_firstSo_28 : decode cX12_firstSo 28 = .ok (.getfield 7, 3) := oc_180 (a := 0) (b := 7) (by decide +kernel)
theorem dX12_firstSo_31 : decode cX12_firstSo 31 = .ok (.aload_n 0, 1) := oc_42 (by decide +kernel)
theorem dX12_firstSo_32 : decode cX12_firstSo 32 = .ok (.iload 5, 2) := oc_21 (by decide +kernel)
theorem dX12_firstSo_34 : decode cX12_firstSo 34 = .ok (.iload 6, 2) := oc_21 (by decide +kernel)
theorem dX12_firstSo_36 : decode cX12_firstSo 36 = .ok (.invokevirtual 269, 3) := oc_182 (a := 1) (b := 13) (by decide +kernel)
theorem dX12_firstSo_39 : decode cX12_firstSo 39 = .ok (.iaload, 1) := oc_46 (by decide +kernel)
theorem dX12_firstSo_40 : decode cX12_firstSo 40 = .ok (.iload_n 1, 1) := oc_27 (by decide +kernel)
theorem dX12_firstSo_41 : decode cX12_firstSo 41 = .ok (.if_icmp .ne 27, 3) := oc_160 (a := 0) (b := 27) (by decide +kernel)
theorem dX12_firstSo_68 : decode cX12_firstSo 68 = .ok (.iinc 6 1, 3) := oc_132 (b := 1) (by decide +kernel)
theorem dX12_firstSo_71 : decode cX12_firstSo 71 = .ok (.goto (-60), 3) := oc_167 (a := 255) (b := 196) (by decide +kernel)
theorem dX12_firstSo_44 : decode cX12_firstSo 44 = .ok (.aload_n 0, 1) := oc_42 (by decide +kernel)
theorem dX12_firstSo_45 : decode cX12_firstSo 45 = .ok (.iload 5, 2) := oc_21 (by decide +kernel)
theorem dX12_firstSo_47 : decode cX12_firstSo 47 = .ok (.aload_n 0, 1) := oc_42 (by decide +kernel)
theorem dX12_firstSo_48 : decode cX12_firstSo 48 = .ok (.iload 5, 2) := oc_21 (by decide +kernel)
theorem dX12_firstSo_50 : decode cX12_firstSo 50 = .ok (.iload 6, 2) := oc_21 (by decide +kernel)
theorem dX12_firstSo_52 : decode cX12_firstSo 52 = .ok (.invokevirtual 269, 3) := oc_182 (a := 1) (b := 13) (by decide +kernel)
theorem dX12_firstSo_55 : decode cX12_firstSo 55 = .ok (.iload_n 2, 1) := oc_28 (by decide +kernel)
theorem dX12_firstSo_56 : decode cX12_firstSo 56 = .ok (.iload_n 3, 1) := oc_29 (by decide +kernel)
theorem dX12_firstSo_57 : decode cX12_firstSo 57 = .ok (.iload 4, 2) := oc_21 (by decide +kernel)
theorem tw_601 : Cond.methodLink RX12 297 yX12_isSo ∈ wsL_law := sg_26 _ (List.mem_of_getElem? (i := 1) rfl)
theorem tw_602 : Cond.instanceMethod yX12_isSo ∈ wsL_law := sg_26 _ (List.mem_of_getElem? (i := 2) rfl)
theorem tw_603 : Cond.selects RX12 yX12_isSo yX12_isSo ∈ wsL_law := sg_26 _ (List.mem_of_getElem? (i := 3) rfl)
theorem tw_604 : Cond.code yX12_isSo cX12_isSo 11 (some .boolean) ∈ wsL_law := sg_26 _ (List.mem_of_getElem? (i := 4) rfl)
theorem dX12_firstSo_59 : decode cX12_firstSo 59 = .ok (.invokevirtual 297, 3) := oc_182 (a := 1) (b := 41) (by decide +kernel)
theorem dX12_firstSo_62 : decode cX12_firstSo 62 = .ok (.ifCond .eq 6, 3) := oc_153 (a := 0) (b := 6) (by decide +kernel)
theorem dX12_firstSo_65 : decode cX12_firstSo 65 = .ok (.iload 6, 2) := oc_21 (by decide +kernel)
theorem dX12_firstSo_67 : decode cX12_firstSo 67 = .ok (.ireturn, 1) := oc_172 (by decide +kernel)
set_option maxHeartbeats 4000000 in
set_option maxRecDepth 100000 in
theorem s_X12_cellAt_c12 (l : Launch) (D : va_G) (t : pq_T) (σ : pq_S) (I : Nat → Nat → Int32) (J : Nat → Nat → Int64) (ri : Nat → Nat → Int32) (rj : Nat → Nat → Int64) (rq : Nat → Nat → Option Nat) (sz : Nat) (tg : Nat → Nat) (hSH : SH σ tg) (hG0 : GT tg I ri) (this : Nat) (a0 : Int32) (hL_this : this ∈ σ.1) (hK_this : σ.2.1 this = 12) (h_a0 : rg a0 0 39) : MetI l yX12_cellAt (wa yX12_cellAt cX12_cellAt 3 (some .int)) ({ frames := 0, cells := 0, slots := 0, locals := 0 }) [.ref this, .int a0, .int 12] D t σ (I, J, ri, rj, rq) sz 0 0 (fun (r : Int32) (u : pq_S × pq_M) => u = (σ, I, J, ri, rj, rq)) := by
  refine Met.ofW (cc := cX12_cellAt) (maxL := 3) (ret := (some .int)) (by decide) rfl ?_
  intro p e s m args below meth c s₁ B hml hv
  obtain ⟨rfl, hsz, hP, hK, hD0, hN⟩ := hv
  have hx := B.exec
  have hb := B.bytes
  have hr := B.returns
  have hts := atoms_spec (ws := (wa yX12_cellAt cX12_cellAt 3 (some .int))) B.pre
  have hown : s.vm.findClass RX12 = some m.cls := findClass_of_methodNamed B.named
  have hlocks := B.notSynchronized
  subst hsz
  have hD : va_D (pq_B t σ (I, J, ri, rj, rq) s.heap.size) (pq_P t σ (I, J, ri, rj, rq)) := hD0.self
  generalize hAe : pq_B t σ (I, J, ri, rj, rq) s.heap.size = A at hD ⊢
  have hA : ∀ q : Nat, s.heap.size ≤ q → A q := fun q h => by rw [← hAe]; exact Or.inr h
  have hS : va_S A s.heap s.heap [] := va_S.rf
  have hG : GM [] tg σ I ri I ri rq := ⟨hG0, fun _ _ _ => rfl, fun _ _ _ _ _ => rfl, fun _ _ _ _ _ _ => rfl⟩
  have hl := lv_entry ([.ref this, .int a0, .int 12]) (n := 3) (Nat.le_of_ble_eq_true rfl)
  rw [lg_entry_eq]
  generalize (lg_sl ([.ref this, .int a0, .int 12]) ++ List.replicate (3 - (lg_sl ([.ref this, .int a0, .int 12])).length) Slot.unset).toArray = ls at hl ⊢
  have hl : lv_has ls 3 [(0, .ref this), (1, .int a0), (2, .int 12)] := hl
  refine q_gen (fun Q hQ => ?_)
  have go : ∀ (H : Heap) (locs : List Loc) (ls : Array Slot), va_P D vwCl (pq_P t σ (I, J, ri, rj, rq)) H → va_D A (pq_P t σ (I, J, ri, rj, rq)) → va_S A s.heap H locs → lv_has ls 3 [(0, .ref this), (1, .int a0), (2, .int 12)] → W p l e ({ frames := 0, cells := 0, slots := 0, locals := 0 } : Room) s m (List.toArray ([.ref this, .int a0, .int 12] : List Value)) below meth c H locs 0 0 Q (F0 m 0 ls []) := by
    intro H locs ls hP hD hS hl
    refine lv_aload_n hx hb dX12_cellAt_0 rfl (lv_at hl 0 rfl) ?_
    obtain ⟨w_1, hR_w_1, hL_w_1, hK_w_1, hN_w_1, hT_w_1⟩ := sh_a hSH 384 (ci := 12) (kd := 13) (len := 12720) rfl (by decide) hL_this hK_this
    refine pg_f (v := .ref w_1) (C := RX12) (T := TX12) (N := 31) hx hb hts (tw_i inlX12) hown hK hP hL_this hK_this (by decide) rfl 0 (by decide) (hts _ (tw_c tw_176)) (pq_hv rfl hR_w_1) dX12_cellAt_1 ?_
    refine lv_bipush (v := 100) hx hb dX12_cellAt_4 (by decide) ?_
    refine lv_bipush (v := 16) hx hb dX12_cellAt_6 (by decide) ?_
    refine lv_iload_n hx hb dX12_cellAt_8 rfl (lv_at hl 1 rfl) ?_
    refine lv_imul hx hb dX12_cellAt_9 ?_
    refine lv_topi (fun x_2 ex_2 => ?_)
    have h_3 : rg x_2 0 624 := rg_of_eq ex_2 (rg_mul (rg_k (16 : Int32) 16 rfl) h_a0 (by decide))
    have uh_3 := h_3.1
    have vh_3 := h_3.2
    have tx_2 : (x_2).toInt = 16 * (a0).toInt := by rw [ex_2]; exact i_mul_rg (a2 := 16) (b2 := (a0).toInt) rfl rfl (rg_k (16 : Int32) 16 rfl) h_a0 (by decide)
    refine lv_iadd hx hb dX12_cellAt_10 ?_
    refine lv_topi (fun x_4 ex_4 => ?_)
    have h_5 : rg x_4 100 724 := rg_of_eq ex_4 (rg_add (rg_k (100 : Int32) 100 rfl) h_3 (by decide))
    have uh_5 := h_5.1
    have vh_5 := h_5.2
    have tx_4 : (x_4).toInt = 100 + (x_2).toInt := by rw [ex_4]; exact i_add_rg (a2 := 100) (b2 := (x_2).toInt) rfl rfl (rg_k (100 : Int32) 100 rfl) h_3 (by decide)
    refine lv_iload_n hx hb dX12_cellAt_11 rfl (lv_at hl 2 rfl) ?_
    refine lv_iadd hx hb dX12_cellAt_12 ?_
    refine lv_topi (fun x_6 ex_6 => ?_)
    have h_7 : rg x_6 112 736 := rg_of_eq ex_6 (rg_add h_5 (rg_k (12 : Int32) 12 rfl) (by decide))
    have uh_7 := h_7.1
    have vh_7 := h_7.2
    have tx_6 : (x_6).toInt = (x_4).toInt + 12 := by rw [ex_6]; exact i_add_rg (a2 := (x_4).toInt) (b2 := 12) rfl rfl h_5 (rg_k (12 : Int32) 12 rfl) (by decide)
    refine pl_i hx hb hK hP hL_w_1 hK_w_1 hN_w_1 (rg_in h_7 (by decide)) dX12_cellAt_13 ?_
    refine lv_topi (fun x_8 ex_8 => ?_)
    subst hQ
    exact W.iret (v := x_8) hx hb hr (fun t1 ht hW => ⟨⟨x_8, (σ, I, J, ri, rj, rq), rfl, rfl, by rw [ht]; exact hP, va_K.moved hW.alike hK, hD⟩, hS.F ht⟩) hS.2.2 dX12_cellAt_14
  exact go _ _ _ hP hD hS hl

set_option maxHeartbeats 4000000 in
set_option maxRecDepth 100000 in
theorem s_X12_cellAt_c11 (l : Launch) (D : va_G) (t : pq_T) (σ : pq_S) (I : Nat → Nat → Int32) (J : Nat → Nat → Int64) (ri : Nat → Nat → Int32) (rj : Nat → Nat → Int64) (rq : Nat → Nat → Option Nat) (sz : Nat) (tg : Nat → Nat) (hSH : SH σ tg) (hG0 : GT tg I ri) (this : Nat) (a0 : Int32) (hL_this : this ∈ σ.1) (hK_this : σ.2.1 this = 12) (h_a0 : rg a0 0 39) : MetI l yX12_cellAt (wa yX12_cellAt cX12_cellAt 3 (some .int)) ({ frames := 0, cells := 0, slots := 0, locals := 0 }) [.ref this, .int a0, .int 11] D t σ (I, J, ri, rj, rq) sz 0 0 (fun (r : Int32) (u : pq_S × pq_M) => u = (σ, I, J, ri, rj, rq)) := by
  refine Met.ofW (cc := cX12_cellAt) (maxL := 3) (ret := (some .int)) (by decide) rfl ?_
  intro p e s m args below meth c s₁ B hml hv
  obtain ⟨rfl, hsz, hP, hK, hD0, hN⟩ := hv
  have hx := B.exec
  have hb := B.bytes
  have hr := B.returns
  have hts := atoms_spec (ws := (wa yX12_cellAt cX12_cellAt 3 (some .int))) B.pre
  have hown : s.vm.findClass RX12 = some m.cls := findClass_of_methodNamed B.named
  have hlocks := B.notSynchronized
  subst hsz
  have hD : va_D (pq_B t σ (I, J, ri, rj, rq) s.heap.size) (pq_P t σ (I, J, ri, rj, rq)) := hD0.self
  generalize hAe : pq_B t σ (I, J, ri, rj, rq) s.heap.size = A at hD ⊢
  have hA : ∀ q : Nat, s.heap.size ≤ q → A q := fun q h => by rw [← hAe]; exact Or.inr h
  have hS : va_S A s.heap s.heap [] := va_S.rf
  have hG : GM [] tg σ I ri I ri rq := ⟨hG0, fun _ _ _ => rfl, fun _ _ _ _ _ => rfl, fun _ _ _ _ _ _ => rfl⟩
  have hl := lv_entry ([.ref this, .int a0, .int 11]) (n := 3) (Nat.le_of_ble_eq_true rfl)
  rw [lg_entry_eq]
  generalize (lg_sl ([.ref this, .int a0, .int 11]) ++ List.replicate (3 - (lg_sl ([.ref this, .int a0, .int 11])).length) Slot.unset).toArray = ls at hl ⊢
  have hl : lv_has ls 3 [(0, .ref this), (1, .int a0), (2, .int 11)] := hl
  refine q_gen (fun Q hQ => ?_)
  have go : ∀ (H : Heap) (locs : List Loc) (ls : Array Slot), va_P D vwCl (pq_P t σ (I, J, ri, rj, rq)) H → va_D A (pq_P t σ (I, J, ri, rj, rq)) → va_S A s.heap H locs → lv_has ls 3 [(0, .ref this), (1, .int a0), (2, .int 11)] → W p l e ({ frames := 0, cells := 0, slots := 0, locals := 0 } : Room) s m (List.toArray ([.ref this, .int a0, .int 11] : List Value)) below meth c H locs 0 0 Q (F0 m 0 ls []) := by
    intro H locs ls hP hD hS hl
    refine lv_aload_n hx hb dX12_cellAt_0 rfl (lv_at hl 0 rfl) ?_
    obtain ⟨w_1, hR_w_1, hL_w_1, hK_w_1, hN_w_1, hT_w_1⟩ := sh_a hSH 384 (ci := 12) (kd := 13) (len := 12720) rfl (by decide) hL_this hK_this
    refine pg_f (v := .ref w_1) (C := RX12) (T := TX12) (N := 31) hx hb hts (tw_i inlX12) hown hK hP hL_this hK_this (by decide) rfl 0 (by decide) (hts _ (tw_c tw_176)) (pq_hv rfl hR_w_1) dX12_cellAt_1 ?_
    refine lv_bipush (v := 100) hx hb dX12_cellAt_4 (by decide) ?_
    refine lv_bipush (v := 16) hx hb dX12_cellAt_6 (by decide) ?_
    refine lv_iload_n hx hb dX12_cellAt_8 rfl (lv_at hl 1 rfl) ?_
    refine lv_imul hx hb dX12_cellAt_9 ?_
    refine lv_topi (fun x_2 ex_2 => ?_)
    have h_3 : rg x_2 0 624 := rg_of_eq ex_2 (rg_mul (rg_k (16 : Int32) 16 rfl) h_a0 (by decide))
    have uh_3 := h_3.1
    have vh_3 := h_3.2
    have tx_2 : (x_2).toInt = 16 * (a0).toInt := by rw [ex_2]; exact i_mul_rg (a2 := 16) (b2 := (a0).toInt) rfl rfl (rg_k (16 : Int32) 16 rfl) h_a0 (by decide)
    refine lv_iadd hx hb dX12_cellAt_10 ?_
    refine lv_topi (fun x_4 ex_4 => ?_)
    have h_5 : rg x_4 100 724 := rg_of_eq ex_4 (rg_add (rg_k (100 : Int32) 100 rfl) h_3 (by decide))
    have uh_5 := h_5.1
    have vh_5 := h_5.2
    have tx_4 : (x_4).toInt = 100 + (x_2).toInt := by rw [ex_4]; exact i_add_rg (a2 := 100) (b2 := (x_2).toInt) rfl rfl (rg_k (100 : Int32) 100 rfl) h_3 (by decide)
    refine lv_iload_n hx hb dX12_cellAt_11 rfl (lv_at hl 2 rfl) ?_
    refine lv_iadd hx hb dX12_cellAt_12 ?_
    refine lv_topi (fun x_6 ex_6 => ?_)
    have h_7 : rg x_6 111 735 := rg_of_eq ex_6 (rg_add h_5 (rg_k (11 : Int32) 11 rfl) (by decide))
    have uh_7 := h_7.1
    have vh_7 := h_7.2
    have tx_6 : (x_6).toInt = (x_4).toInt + 11 := by rw [ex_6]; exact i_add_rg (a2 := (x_4).toInt) (b2 := 11) rfl rfl h_5 (rg_k (11 : Int32) 11 rfl) (by decide)
    refine pl_i hx hb hK hP hL_w_1 hK_w_1 hN_w_1 (rg_in h_7 (by decide)) dX12_cellAt_13 ?_
    refine lv_topi (fun x_8 ex_8 => ?_)
    subst hQ
    exact W.iret (v := x_8) hx hb hr (fun t1 ht hW => ⟨⟨x_8, (σ, I, J, ri, rj, rq), rfl, rfl, by rw [ht]; exact hP, va_K.moved hW.alike hK, hD⟩, hS.F ht⟩) hS.2.2 dX12_cellAt_14
  exact go _ _ _ hP hD hS hl

set_option maxHeartbeats 4000000 in
set_option maxRecDepth 100000 in
theorem s_X12_isAsked (l : Launch) (D : va_G) (t : pq_T) (σ : pq_S) (I : Nat → Nat → Int32) (J : Nat → Nat → Int64) (ri : Nat → Nat → Int32) (rj : Nat → Nat → Int64) (rq : Nat → Nat → Option Nat) (sz : Nat) (tg : Nat → Nat) (hSH : SH σ tg) (hG0 : GT tg I ri) (a0 : Int32) (a1 : Int64) (a2 : Int64) : MetI l yX12_isAsked (wa yX12_isAsked cX12_isAsked 5 (some .boolean)) ({ frames := 0, cells := 0, slots := 0, locals := 0 }) [.int a0, .long a1, .long a2] D t σ (I, J, ri, rj, rq) sz 0 0 (fun (r : Int32) (u : pq_S × pq_M) => u = (σ, I, J, ri, rj, rq) ∧ ((r = 1 ∧ True) ∨ (r = 0 ∧ True))) := by
  refine Met.ofW (cc := cX12_isAsked) (maxL := 5) (ret := (some .boolean)) (by decide) rfl ?_
  intro p e s m args below meth c s₁ B hml hv
  obtain ⟨rfl, hsz, hP, hK, hD0, hN⟩ := hv
  have hx := B.exec
  have hb := B.bytes
  have hr := B.returns
  have hts := atoms_spec (ws := (wa yX12_isAsked cX12_isAsked 5 (some .boolean))) B.pre
  have hown : s.vm.findClass RX12 = some m.cls := findClass_of_methodNamed B.named
  have hlocks := B.notSynchronized
  subst hsz
  have hD : va_D (pq_B t σ (I, J, ri, rj, rq) s.heap.size) (pq_P t σ (I, J, ri, rj, rq)) := hD0.self
  generalize hAe : pq_B t σ (I, J, ri, rj, rq) s.heap.size = A at hD ⊢
  have hA : ∀ q : Nat, s.heap.size ≤ q → A q := fun q h => by rw [← hAe]; exact Or.inr h
  have hS : va_S A s.heap s.heap [] := va_S.rf
  have hG : GM [] tg σ I ri I ri rq := ⟨hG0, fun _ _ _ => rfl, fun _ _ _ _ _ => rfl, fun _ _ _ _ _ _ => rfl⟩
  have hl := lv_entry ([.int a0, .long a1, .long a2]) (n := 5) (Nat.le_of_ble_eq_true rfl)
  rw [lg_entry_eq]
  generalize (lg_sl ([.int a0, .long a1, .long a2]) ++ List.replicate (5 - (lg_sl ([.int a0, .long a1, .long a2])).length) Slot.unset).toArray = ls at hl ⊢
  have hl : lv_has ls 5 [(0, .int a0), (1, .long a1), (3, .long a2)] := hl
  refine q_gen (fun Q hQ => ?_)
  have go : ∀ (H : Heap) (locs : List Loc) (ls : Array Slot), va_P D vwCl (pq_P t σ (I, J, ri, rj, rq)) H → va_D A (pq_P t σ (I, J, ri, rj, rq)) → va_S A s.heap H locs → lv_has ls 5 [(0, .int a0), (1, .long a1), (3, .long a2)] → W p l e ({ frames := 0, cells := 0, slots := 0, locals := 0 } : Room) s m (List.toArray ([.int a0, .long a1, .long a2] : List Value)) below meth c H locs 0 0 Q (F0 m 0 ls []) := by
    intro H locs ls hP hD hS hl
    refine lv_iload_n hx hb dX12_isAsked_0 rfl (lv_at hl 0 rfl) ?_
    refine lv_bipush (v := 10) hx hb dX12_isAsked_1 (by decide) ?_
    refine lv_icmp_ne (tgt := 20) hx hb dX12_isAsked_3 (by decide) (fun c_1 => ?_) (fun c_1 => ?_)
    · have tc_2 : (a0).toInt ≠ 10 := fun q => c_1 (Int32.toInt_inj.mp q)
      refine lv_iload_n hx hb dX12_isAsked_20 rfl (lv_at hl 0 rfl) ?_
      refine lv_bipush (v := 11) hx hb dX12_isAsked_21 (by decide) ?_
      refine lv_icmp_ne (tgt := 40) hx hb dX12_isAsked_23 (by decide) (fun c_3 => ?_) (fun c_3 => ?_)
      · have tc_4 : (a0).toInt ≠ 11 := fun q => c_3 (Int32.toInt_inj.mp q)
        refine lv_iload_n hx hb dX12_isAsked_40 rfl (lv_at hl 0 rfl) ?_
        refine lv_bipush (v := 12) hx hb dX12_isAsked_41 (by decide) ?_
        refine lv_icmp_ne (tgt := 60) hx hb dX12_isAsked_43 (by decide) (fun c_5 => ?_) (fun c_5 => ?_)
        · have tc_6 : (a0).toInt ≠ 12 := fun q => c_5 (Int32.toInt_inj.mp q)
          refine lv_iload_n hx hb dX12_isAsked_60 rfl (lv_at hl 0 rfl) ?_
          refine lv_bipush (v := 13) hx hb dX12_isAsked_61 (by decide) ?_
          refine lv_icmp_ne (tgt := 80) hx hb dX12_isAsked_63 (by decide) (fun c_7 => ?_) (fun c_7 => ?_)
          · have tc_8 : (a0).toInt ≠ 13 := fun q => c_7 (Int32.toInt_inj.mp q)
            refine lv_iload_n hx hb dX12_isAsked_80 rfl (lv_at hl 0 rfl) ?_
            refine lv_bipush (v := 14) hx hb dX12_isAsked_81 (by decide) ?_
            refine lv_icmp_ne (tgt := 100) hx hb dX12_isAsked_83 (by decide) (fun c_9 => ?_) (fun c_9 => ?_)
            · have tc_10 : (a0).toInt ≠ 14 := fun q => c_9 (Int32.toInt_inj.mp q)
              refine lv_lload_n hx hb dX12_isAsked_100 rfl (lv_at hl 1 rfl) ?_
              refine lv_lload_n hx hb dX12_isAsked_101 rfl (lv_at hl 2 rfl) ?_
              refine W.lcmp hx hb dX12_isAsked_102 ?_
              refine lv_topi (fun x_11 ex_11 => ?_)
              refine lv_if_eq (tgt := 110) hx hb dX12_isAsked_103 (by decide) (fun c_12 => ?_) (fun c_12 => ?_)
              · have tc_13 : (x_11).toInt = 0 := congrArg Int32.toInt c_12
                have h_14 : rg x_11 0 0 := rg_and (rg_full _) (rg_of_eq c_12 (rg_k (0 : Int32) 0 rfl)) (by decide)
                have uh_14 := h_14.1
                have vh_14 := h_14.2
                refine lv_iconst (v := 0) hx hb dX12_isAsked_110 (by decide) ?_
                subst hQ
                exact W.zret (v := 0) hx hb hr (by decide) (fun t1 ht hW => ⟨⟨0, (σ, I, J, ri, rj, rq), rfl, ⟨rfl, (Or.inr ⟨rfl, trivial⟩)⟩, by rw [ht]; exact hP, va_K.moved hW.alike hK, hD⟩, hS.F ht⟩) hS.2.2 dX12_isAsked_111
              · have tc_15 : (x_11).toInt ≠ 0 := fun q => c_12 (Int32.toInt_inj.mp q)
                refine lv_iconst (v := 1) hx hb dX12_isAsked_106 (by decide) ?_
                refine lv_goto (tgt := 111) hx hb dX12_isAsked_107 (by decide) ?_
                subst hQ
                exact W.zret (v := 1) hx hb hr (by decide) (fun t1 ht hW => ⟨⟨1, (σ, I, J, ri, rj, rq), rfl, ⟨rfl, (Or.inl ⟨rfl, trivial⟩)⟩, by rw [ht]; exact hP, va_K.moved hW.alike hK, hD⟩, hS.F ht⟩) hS.2.2 dX12_isAsked_111
            · have tc_16 : (a0).toInt = 14 := congrArg Int32.toInt c_9
              have h_17 : rg a0 14 14 := rg_and (rg_full _) (rg_of_eq c_9 (rg_k (14 : Int32) 14 rfl)) (by decide)
              have uh_17 := h_17.1
              have vh_17 := h_17.2
              refine lv_lload_n hx hb dX12_isAsked_86 rfl (lv_at hl 1 rfl) ?_
              refine lv_lload_n hx hb dX12_isAsked_87 rfl (lv_at hl 2 rfl) ?_
              refine W.lcmp hx hb dX12_isAsked_88 ?_
              refine lv_topi (fun x_18 ex_18 => ?_)
              refine lv_if_ne (tgt := 96) hx hb dX12_isAsked_89 (by decide) (fun c_19 => ?_) (fun c_19 => ?_)
              · have tc_20 : (x_18).toInt ≠ 0 := fun q => c_19 (Int32.toInt_inj.mp q)
                refine lv_iconst (v := 0) hx hb dX12_isAsked_96 (by decide) ?_
                refine lv_goto (tgt := 111) hx hb dX12_isAsked_97 (by decide) ?_
                subst hQ
                exact W.zret (v := 0) hx hb hr (by decide) (fun t1 ht hW => ⟨⟨0, (σ, I, J, ri, rj, rq), rfl, ⟨rfl, (Or.inr ⟨rfl, trivial⟩)⟩, by rw [ht]; exact hP, va_K.moved hW.alike hK, hD⟩, hS.F ht⟩) hS.2.2 dX12_isAsked_111
              · have tc_21 : (x_18).toInt = 0 := congrArg Int32.toInt c_19
                have h_22 : rg x_18 0 0 := rg_and (rg_full _) (rg_of_eq c_19 (rg_k (0 : Int32) 0 rfl)) (by decide)
                have uh_22 := h_22.1
                have vh_22 := h_22.2
                refine lv_iconst (v := 1) hx hb dX12_isAsked_92 (by decide) ?_
                refine lv_goto (tgt := 111) hx hb dX12_isAsked_93 (by decide) ?_
                subst hQ
                exact W.zret (v := 1) hx hb hr (by decide) (fun t1 ht hW => ⟨⟨1, (σ, I, J, ri, rj, rq), rfl, ⟨rfl, (Or.inl ⟨rfl, trivial⟩)⟩, by rw [ht]; exact hP, va_K.moved hW.alike hK, hD⟩, hS.F ht⟩) hS.2.2 dX12_isAsked_111
          · have tc_23 : (a0).toInt = 13 := congrArg Int32.toInt c_7
            have h_24 : rg a0 13 13 := rg_and (rg_full _) (rg_of_eq c_7 (rg_k (13 : Int32) 13 rfl)) (by decide)
            have uh_24 := h_24.1
            have vh_24 := h_24.2
            refine lv_lload_n hx hb dX12_isAsked_66 rfl (lv_at hl 1 rfl) ?_
            refine lv_lload_n hx hb dX12_isAsked_67 rfl (lv_at hl 2 rfl) ?_
            refine W.lcmp hx hb dX12_isAsked_68 ?_
            refine lv_topi (fun x_25 ex_25 => ?_)
            refine lv_if_lt (tgt := 76) hx hb dX12_isAsked_69 (by decide) (fun c_26 => ?_) (fun c_26 => ?_)
            · have tc_27 : (x_25).toInt < 0 := Int32.lt_iff_toInt_lt.mp c_26
              have h_28 : rg x_25 (-2147483648) (-1) := rg_lt1 c_26 (rg_full _) (rg_k (0 : Int32) 0 rfl) (by decide)
              have uh_28 := h_28.1
              have vh_28 := h_28.2
              refine lv_iconst (v := 0) hx hb dX12_isAsked_76 (by decide) ?_
              refine lv_goto (tgt := 111) hx hb dX12_isAsked_77 (by decide) ?_
              subst hQ
              exact W.zret (v := 0) hx hb hr (by decide) (fun t1 ht hW => ⟨⟨0, (σ, I, J, ri, rj, rq), rfl, ⟨rfl, (Or.inr ⟨rfl, trivial⟩)⟩, by rw [ht]; exact hP, va_K.moved hW.alike hK, hD⟩, hS.F ht⟩) hS.2.2 dX12_isAsked_111
            · have tc_29 : 0 ≤ (x_25).toInt := Int32.le_iff_toInt_le.mp (nlt c_26)
              have h_30 : rg x_25 0 2147483647 := rg_le2 (nlt c_26) (rg_k (0 : Int32) 0 rfl) (rg_full _) (by decide)
              have uh_30 := h_30.1
              have vh_30 := h_30.2
              refine lv_iconst (v := 1) hx hb dX12_isAsked_72 (by decide) ?_
              refine lv_goto (tgt := 111) hx hb dX12_isAsked_73 (by decide) ?_
              subst hQ
              exact W.zret (v := 1) hx hb hr (by decide) (fun t1 ht hW => ⟨⟨1, (σ, I, J, ri, rj, rq), rfl, ⟨rfl, (Or.inl ⟨rfl, trivial⟩)⟩, by rw [ht]; exact hP, va_K.moved hW.alike hK, hD⟩, hS.F ht⟩) hS.2.2 dX12_isAsked_111
        · have tc_31 : (a0).toInt = 12 := congrArg Int32.toInt c_5
          have h_32 : rg a0 12 12 := rg_and (rg_full _) (rg_of_eq c_5 (rg_k (12 : Int32) 12 rfl)) (by decide)
          have uh_32 := h_32.1
          have vh_32 := h_32.2
          refine lv_lload_n hx hb dX12_isAsked_46 rfl (lv_at hl 1 rfl) ?_
          refine lv_lload_n hx hb dX12_isAsked_47 rfl (lv_at hl 2 rfl) ?_
          refine W.lcmp hx hb dX12_isAsked_48 ?_
          refine lv_topi (fun x_33 ex_33 => ?_)
          refine lv_if_le (tgt := 56) hx hb dX12_isAsked_49 (by decide) (fun c_34 => ?_) (fun c_34 => ?_)
          · have tc_35 : (x_33).toInt ≤ 0 := Int32.le_iff_toInt_le.mp c_34
            have h_36 : rg x_33 (-2147483648) 0 := rg_le1 c_34 (rg_full _) (rg_k (0 : Int32) 0 rfl) (by decide)
            have uh_36 := h_36.1
            have vh_36 := h_36.2
            refine lv_iconst (v := 0) hx hb dX12_isAsked_56 (by decide) ?_
            refine lv_goto (tgt := 111) hx hb dX12_isAsked_57 (by decide) ?_
            subst hQ
            exact W.zret (v := 0) hx hb hr (by decide) (fun t1 ht hW => ⟨⟨0, (σ, I, J, ri, rj, rq), rfl, ⟨rfl, (Or.inr ⟨rfl, trivial⟩)⟩, by rw [ht]; exact hP, va_K.moved hW.alike hK, hD⟩, hS.F ht⟩) hS.2.2 dX12_isAsked_111
          · have tc_37 : 0 < (x_33).toInt := Int32.lt_iff_toInt_lt.mp (nle c_34)
            have h_38 : rg x_33 1 2147483647 := rg_lt2 (nle c_34) (rg_k (0 : Int32) 0 rfl) (rg_full _) (by decide)
            have uh_38 := h_38.1
            have vh_38 := h_38.2
            refine lv_iconst (v := 1) hx hb dX12_isAsked_52 (by decide) ?_
            refine lv_goto (tgt := 111) hx hb dX12_isAsked_53 (by decide) ?_
            subst hQ
            exact W.zret (v := 1) hx hb hr (by decide) (fun t1 ht hW => ⟨⟨1, (σ, I, J, ri, rj, rq), rfl, ⟨rfl, (Or.inl ⟨rfl, trivial⟩)⟩, by rw [ht]; exact hP, va_K.moved hW.alike hK, hD⟩, hS.F ht⟩) hS.2.2 dX12_isAsked_111
      · have tc_39 : (a0).toInt = 11 := congrArg Int32.toInt c_3
        have h_40 : rg a0 11 11 := rg_and (rg_full _) (rg_of_eq c_3 (rg_k (11 : Int32) 11 rfl)) (by decide)
        have uh_40 := h_40.1
        have vh_40 := h_40.2
        refine lv_lload_n hx hb dX12_isAsked_26 rfl (lv_at hl 1 rfl) ?_
        refine lv_lload_n hx hb dX12_isAsked_27 rfl (lv_at hl 2 rfl) ?_
        refine W.lcmp hx hb dX12_isAsked_28 ?_
        refine lv_topi (fun x_41 ex_41 => ?_)
        refine lv_if_gt (tgt := 36) hx hb dX12_isAsked_29 (by decide) (fun c_42 => ?_) (fun c_42 => ?_)
        · have tc_43 : 0 < (x_41).toInt := Int32.lt_iff_toInt_lt.mp c_42
          have h_44 : rg x_41 1 2147483647 := rg_lt2 c_42 (rg_k (0 : Int32) 0 rfl) (rg_full _) (by decide)
          have uh_44 := h_44.1
          have vh_44 := h_44.2
          refine lv_iconst (v := 0) hx hb dX12_isAsked_36 (by decide) ?_
          refine lv_goto (tgt := 111) hx hb dX12_isAsked_37 (by decide) ?_
          subst hQ
          exact W.zret (v := 0) hx hb hr (by decide) (fun t1 ht hW => ⟨⟨0, (σ, I, J, ri, rj, rq), rfl, ⟨rfl, (Or.inr ⟨rfl, trivial⟩)⟩, by rw [ht]; exact hP, va_K.moved hW.alike hK, hD⟩, hS.F ht⟩) hS.2.2 dX12_isAsked_111
        · have tc_45 : (x_41).toInt ≤ 0 := Int32.le_iff_toInt_le.mp (nlt c_42)
          have h_46 : rg x_41 (-2147483648) 0 := rg_le1 (nlt c_42) (rg_full _) (rg_k (0 : Int32) 0 rfl) (by decide)
          have uh_46 := h_46.1
          have vh_46 := h_46.2
          refine lv_iconst (v := 1) hx hb dX12_isAsked_32 (by decide) ?_
          refine lv_goto (tgt := 111) hx hb dX12_isAsked_33 (by decide) ?_
          subst hQ
          exact W.zret (v := 1) hx hb hr (by decide) (fun t1 ht hW => ⟨⟨1, (σ, I, J, ri, rj, rq), rfl, ⟨rfl, (Or.inl ⟨rfl, trivial⟩)⟩, by rw [ht]; exact hP, va_K.moved hW.alike hK, hD⟩, hS.F ht⟩) hS.2.2 dX12_isAsked_111
    · have tc_47 : (a0).toInt = 10 := congrArg Int32.toInt c_1
      have h_48 : rg a0 10 10 := rg_and (rg_full _) (rg_of_eq c_1 (rg_k (10 : Int32) 10 rfl)) (by decide)
      have uh_48 := h_48.1
      have vh_48 := h_48.2
      refine lv_lload_n hx hb dX12_isAsked_6 rfl (lv_at hl 1 rfl) ?_
      refine lv_lload_n hx hb dX12_isAsked_7 rfl (lv_at hl 2 rfl) ?_
      refine W.lcmp hx hb dX12_isAsked_8 ?_
      refine lv_topi (fun x_49 ex_49 => ?_)
      refine lv_if_ge (tgt := 16) hx hb dX12_isAsked_9 (by decide) (fun c_50 => ?_) (fun c_50 => ?_)
      · have tc_51 : 0 ≤ (x_49).toInt := Int32.le_iff_toInt_le.mp c_50
        have h_52 : rg x_49 0 2147483647 := rg_le2 c_50 (rg_k (0 : Int32) 0 rfl) (rg_full _) (by decide)
        have uh_52 := h_52.1
        have vh_52 := h_52.2
        refine lv_iconst (v := 0) hx hb dX12_isAsked_16 (by decide) ?_
        refine lv_goto (tgt := 111) hx hb dX12_isAsked_17 (by decide) ?_
        subst hQ
        exact W.zret (v := 0) hx hb hr (by decide) (fun t1 ht hW => ⟨⟨0, (σ, I, J, ri, rj, rq), rfl, ⟨rfl, (Or.inr ⟨rfl, trivial⟩)⟩, by rw [ht]; exact hP, va_K.moved hW.alike hK, hD⟩, hS.F ht⟩) hS.2.2 dX12_isAsked_111
      · have tc_53 : (x_49).toInt < 0 := Int32.lt_iff_toInt_lt.mp (nle c_50)
        have h_54 : rg x_49 (-2147483648) (-1) := rg_lt1 (nle c_50) (rg_full _) (rg_k (0 : Int32) 0 rfl) (by decide)
        have uh_54 := h_54.1
        have vh_54 := h_54.2
        refine lv_iconst (v := 1) hx hb dX12_isAsked_12 (by decide) ?_
        refine lv_goto (tgt := 111) hx hb dX12_isAsked_13 (by decide) ?_
        subst hQ
        exact W.zret (v := 1) hx hb hr (by decide) (fun t1 ht hW => ⟨⟨1, (σ, I, J, ri, rj, rq), rfl, ⟨rfl, (Or.inl ⟨rfl, trivial⟩)⟩, by rw [ht]; exact hP, va_K.moved hW.alike hK, hD⟩, hS.F ht⟩) hS.2.2 dX12_isAsked_111
  exact go _ _ _ hP hD hS hl

set_option maxHeartbeats 4000000 in
set_option maxRecDepth 100000 in
theorem s_X12_clip (l : Launch) (D : va_G) (t : pq_T) (σ : pq_S) (I : Nat → Nat → Int32) (J : Nat → Nat → Int64) (ri : Nat → Nat → Int32) (rj : Nat → Nat → Int64) (rq : Nat → Nat → Option Nat) (sz : Nat) (tg : Nat → Nat) (hSH : SH σ tg) (hG0 : GT tg I ri) (a0 : Int64) : MetL l yX12_clip (wa yX12_clip cX12_clip 2 (some .long)) ({ frames := 0, cells := 0, slots := 0, locals := 0 }) [.long a0] D t σ (I, J, ri, rj, rq) sz 0 0 (fun (r : Int64) (u : pq_S × pq_M) => u = (σ, I, J, ri, rj, rq)) := by
  refine Met.ofW (cc := cX12_clip) (maxL := 2) (ret := (some .long)) (by decide) rfl ?_
  intro p e s m args below meth c s₁ B hml hv
  obtain ⟨rfl, hsz, hP, hK, hD0, hN⟩ := hv
  have hx := B.exec
  have hb := B.bytes
  have hr := B.returns
  have hts := atoms_spec (ws := (wa yX12_clip cX12_clip 2 (some .long))) B.pre
  have hown : s.vm.findClass RX12 = some m.cls := findClass_of_methodNamed B.named
  have hlocks := B.notSynchronized
  subst hsz
  have hD : va_D (pq_B t σ (I, J, ri, rj, rq) s.heap.size) (pq_P t σ (I, J, ri, rj, rq)) := hD0.self
  generalize hAe : pq_B t σ (I, J, ri, rj, rq) s.heap.size = A at hD ⊢
  have hA : ∀ q : Nat, s.heap.size ≤ q → A q := fun q h => by rw [← hAe]; exact Or.inr h
  have hS : va_S A s.heap s.heap [] := va_S.rf
  have hG : GM [] tg σ I ri I ri rq := ⟨hG0, fun _ _ _ => rfl, fun _ _ _ _ _ => rfl, fun _ _ _ _ _ _ => rfl⟩
  have hl := lv_entry ([.long a0]) (n := 2) (Nat.le_of_ble_eq_true rfl)
  rw [lg_entry_eq]
  generalize (lg_sl ([.long a0]) ++ List.replicate (2 - (lg_sl ([.long a0])).length) Slot.unset).toArray = ls at hl ⊢
  have hl : lv_has ls 2 [(0, .long a0)] := hl
  refine q_gen (fun Q hQ => ?_)
  have go : ∀ (H : Heap) (locs : List Loc) (ls : Array Slot), va_P D vwCl (pq_P t σ (I, J, ri, rj, rq)) H → va_D A (pq_P t σ (I, J, ri, rj, rq)) → va_S A s.heap H locs → lv_has ls 2 [(0, .long a0)] → W p l e ({ frames := 0, cells := 0, slots := 0, locals := 0 } : Room) s m (List.toArray ([.long a0] : List Value)) below meth c H locs 0 0 Q (F0 m 0 ls []) := by
    intro H locs ls hP hD hS hl
    refine lv_lload_n hx hb dX12_clip_0 rfl (lv_at hl 0 rfl) ?_
    refine lv_ldc2 hx hb hown (hts _ (tw_c tw_611)) dX12_clip_1 ?_
    refine W.lcmp hx hb dX12_clip_4 ?_
    refine lv_topi (fun x_1 ex_1 => ?_)
    refine lv_if_le (tgt := 14) hx hb dX12_clip_5 (by decide) (fun c_2 => ?_) (fun c_2 => ?_)
    · have tc_3 : (x_1).toInt ≤ 0 := Int32.le_iff_toInt_le.mp c_2
      have h_4 : rg x_1 (-2147483648) 0 := rg_le1 c_2 (rg_full _) (rg_k (0 : Int32) 0 rfl) (by decide)
      have uh_4 := h_4.1
      have vh_4 := h_4.2
      refine lv_lload_n hx hb dX12_clip_14 rfl (lv_at hl 0 rfl) ?_
      refine lv_ldc2 hx hb hown (hts _ (tw_c tw_612)) dX12_clip_15 ?_
      refine W.lcmp hx hb dX12_clip_18 ?_
      refine lv_topi (fun x_5 ex_5 => ?_)
      refine lv_if_ge (tgt := 28) hx hb dX12_clip_19 (by decide) (fun c_6 => ?_) (fun c_6 => ?_)
      · have tc_7 : 0 ≤ (x_5).toInt := Int32.le_iff_toInt_le.mp c_6
        have h_8 : rg x_5 0 2147483647 := rg_le2 c_6 (rg_k (0 : Int32) 0 rfl) (rg_full _) (by decide)
        have uh_8 := h_8.1
        have vh_8 := h_8.2
        refine lv_lload_n hx hb dX12_clip_28 rfl (lv_at hl 0 rfl) ?_
        subst hQ
        exact W.lret (v := a0) hx hb hr (fun t1 ht hW => ⟨⟨a0, (σ, I, J, ri, rj, rq), rfl, rfl, by rw [ht]; exact hP, va_K.moved hW.alike hK, hD⟩, hS.F ht⟩) hS.2.2 dX12_clip_29
      · have tc_9 : (x_5).toInt < 0 := Int32.lt_iff_toInt_lt.mp (nle c_6)
        have h_10 : rg x_5 (-2147483648) (-1) := rg_lt1 (nle c_6) (rg_full _) (rg_k (0 : Int32) 0 rfl) (by decide)
        have uh_10 := h_10.1
        have vh_10 := h_10.2
        refine lv_ldc2 hx hb hown (hts _ (tw_c tw_612)) dX12_clip_22 ?_
        refine lv_goto (tgt := 29) hx hb dX12_clip_25 (by decide) ?_
        subst hQ
        exact W.lret (v := (-1000000000)) hx hb hr (fun t1 ht hW => ⟨⟨(-1000000000), (σ, I, J, ri, rj, rq), rfl, rfl, by rw [ht]; exact hP, va_K.moved hW.alike hK, hD⟩, hS.F ht⟩) hS.2.2 dX12_clip_29
    · have tc_11 : 0 < (x_1).toInt := Int32.lt_iff_toInt_lt.mp (nle c_2)
      have h_12 : rg x_1 1 2147483647 := rg_lt2 (nle c_2) (rg_k (0 : Int32) 0 rfl) (rg_full _) (by decide)
      have uh_12 := h_12.1
      have vh_12 := h_12.2
      refine lv_ldc2 hx hb hown (hts _ (tw_c tw_611)) dX12_clip_8 ?_
      refine lv_goto (tgt := 29) hx hb dX12_clip_11 (by decide) ?_
      subst hQ
      exact W.lret (v := 1000000000) hx hb hr (fun t1 ht hW => ⟨⟨1000000000, (σ, I, J, ri, rj, rq), rfl, rfl, by rw [ht]; exact hP, va_K.moved hW.alike hK, hD⟩, hS.F ht⟩) hS.2.2 dX12_clip_29
  exact go _ _ _ hP hD hS hl

set_option maxHeartbeats 4000000 in
set_option maxRecDepth 100000 in
theorem s_X12_two (l : Launch) (D : va_G) (t : pq_T) (σ : pq_S) (I : Nat → Nat → Int32) (J : Nat → Nat → Int64) (ri : Nat → Nat → Int32) (rj : Nat → Nat → Int64) (rq : Nat → Nat → Option Nat) (sz : Nat) (tg : Nat → Nat) (hSH : SH σ tg) (hG0 : GT tg I ri) (a0 : Int32) (a1 : Int64) (a2 : Int64) : MetL l yX12_two (wa yX12_two cX12_two 5 (some .long)) ({ frames := 1, cells := 0, slots := 0, locals := 21 }) [.int a0, .long a1, .long a2] D t σ (I, J, ri, rj, rq) sz 0 0 (fun (r : Int64) (u : pq_S × pq_M) => u = (σ, I, J, ri, rj, rq)) := by
  refine Met.ofW (cc := cX12_two) (maxL := 5) (ret := (some .long)) (by decide) rfl ?_
  intro p e s m args below meth c s₁ B hml hv
  obtain ⟨rfl, hsz, hP, hK, hD0, hN⟩ := hv
  have hx := B.exec
  have hb := B.bytes
  have hr := B.returns
  have hts := atoms_spec (ws := (wa yX12_two cX12_two 5 (some .long))) B.pre
  have hown : s.vm.findClass RX12 = some m.cls := findClass_of_methodNamed B.named
  have hlocks := B.notSynchronized
  subst hsz
  have hD : va_D (pq_B t σ (I, J, ri, rj, rq) s.heap.size) (pq_P t σ (I, J, ri, rj, rq)) := hD0.self
  generalize hAe : pq_B t σ (I, J, ri, rj, rq) s.heap.size = A at hD ⊢
  have hA : ∀ q : Nat, s.heap.size ≤ q → A q := fun q h => by rw [← hAe]; exact Or.inr h
  have hS : va_S A s.heap s.heap [] := va_S.rf
  have hG : GM [] tg σ I ri I ri rq := ⟨hG0, fun _ _ _ => rfl, fun _ _ _ _ _ => rfl, fun _ _ _ _ _ _ => rfl⟩
  have hl := lv_entry ([.int a0, .long a1, .long a2]) (n := 5) (Nat.le_of_ble_eq_true rfl)
  rw [lg_entry_eq]
  generalize (lg_sl ([.int a0, .long a1, .long a2]) ++ List.replicate (5 - (lg_sl ([.int a0, .long a1, .long a2])).length) Slot.unset).toArray = ls at hl ⊢
  have hl : lv_has ls 5 [(0, .int a0), (1, .long a1), (3, .long a2)] := hl
  refine q_gen (fun Q hQ => ?_)
  have go : ∀ (H : Heap) (locs : List Loc) (ls : Array Slot), va_P D vwCl (pq_P t σ (I, J, ri, rj, rq)) H → va_D A (pq_P t σ (I, J, ri, rj, rq)) → va_S A s.heap H locs → lv_has ls 5 [(0, .int a0), (1, .long a1), (3, .long a2)] → W p l e ({ frames := 1, cells := 0, slots := 0, locals := 21 } : Room) s m (List.toArray ([.int a0, .long a1, .long a2] : List Value)) below meth c H locs 0 0 Q (F0 m 0 ls []) := by
    intro H locs ls hP hD hS hl
    refine lv_iload_n hx hb dX12_two_0 rfl (lv_at hl 0 rfl) ?_
    refine lv_iconst (v := 3) hx hb dX12_two_1 (by decide) ?_
    refine lv_icmp_ne (tgt := 14) hx hb dX12_two_2 (by decide) (fun c_1 => ?_) (fun c_1 => ?_)
    · have tc_2 : (a0).toInt ≠ 3 := fun q => c_1 (Int32.toInt_inj.mp q)
      refine lv_iload_n hx hb dX12_two_14 rfl (lv_at hl 0 rfl) ?_
      refine lv_iconst (v := 4) hx hb dX12_two_15 (by decide) ?_
      refine lv_icmp_ne (tgt := 28) hx hb dX12_two_16 (by decide) (fun c_3 => ?_) (fun c_3 => ?_)
      · have tc_4 : (a0).toInt ≠ 4 := fun q => c_3 (Int32.toInt_inj.mp q)
        refine lv_iload_n hx hb dX12_two_28 rfl (lv_at hl 0 rfl) ?_
        refine lv_iconst (v := 5) hx hb dX12_two_29 (by decide) ?_
        refine lv_icmp_ne (tgt := 42) hx hb dX12_two_30 (by decide) (fun c_5 => ?_) (fun c_5 => ?_)
        · have tc_6 : (a0).toInt ≠ 5 := fun q => c_5 (Int32.toInt_inj.mp q)
          refine lv_lload_n hx hb dX12_two_42 rfl (lv_at hl 2 rfl) ?_
          refine lv_lconst (v := 0) hx hb dX12_two_43 (by decide) ?_
          refine W.lcmp hx hb dX12_two_44 ?_
          refine lv_topi (fun x_7 ex_7 => ?_)
          refine lv_if_ne (tgt := 52) hx hb dX12_two_45 (by decide) (fun c_8 => ?_) (fun c_8 => ?_)
          · have tc_9 : (x_7).toInt ≠ 0 := fun q => c_8 (Int32.toInt_inj.mp q)
            refine lv_lload_n hx hb dX12_two_52 rfl (lv_at hl 1 rfl) ?_
            refine lv_lload_n hx hb dX12_two_53 rfl (lv_at hl 2 rfl) ?_
            refine lv_ldiv hx hb dX12_two_54 (fun q => c_8 (by rw [ex_7, q]; rfl)) ?_
            refine lv_topl (fun x_10 ex_10 => ?_)
            refine pk_l (va_runS (As := [.long x_10]) (rest := []) ⟨hx, hb, hml, hown, hts⟩ (s_X12_clip l D t σ I J ri rj rq H.size tg hSH hG.1 x_10) (va_cwS 1 hts (tw_S tw_608 tw_609 tw_5 tw_610) rfl rfl rfl cd_yX12_clip_1 ⟨Nat.le_of_ble_eq_true rfl, Nat.le_of_ble_eq_true rfl⟩) ⟨pq_blind, pq_pre hK hN hP hD⟩ rfl rfl hl.1 rfl (lv_room (Nat.le_of_ble_eq_true rfl)) dX12_two_55 ⟨Nat.le_of_ble_eq_true rfl, Nat.le_of_ble_eq_true rfl⟩) hD hS hA (fun x_11 σ1 μ1 H locs hw_12 hP hD hS => ?_)
            have hu_13 := hw_12
            obtain ⟨hu_13a, hu_13b⟩ := Prod.mk.inj hu_13
            rw [hu_13a, hu_13b] at hP hD
            subst hQ
            exact W.lret (v := x_11) hx hb hr (fun t1 ht hW => ⟨⟨x_11, (σ, I, J, ri, rj, rq), rfl, rfl, by rw [ht]; exact hP, va_K.moved hW.alike hK, hD⟩, hS.F ht⟩) hS.2.2 dX12_two_58
          · have tc_16 : (x_7).toInt = 0 := congrArg Int32.toInt c_8
            have h_17 : rg x_7 0 0 := rg_and (rg_full _) (rg_of_eq c_8 (rg_k (0 : Int32) 0 rfl)) (by decide)
            have uh_17 := h_17.1
            have vh_17 := h_17.2
            refine lv_lconst (v := 0) hx hb dX12_two_48 (by decide) ?_
            refine lv_goto (tgt := 58) hx hb dX12_two_49 (by decide) ?_
            subst hQ
            exact W.lret (v := 0) hx hb hr (fun t1 ht hW => ⟨⟨0, (σ, I, J, ri, rj, rq), rfl, rfl, by rw [ht]; exact hP, va_K.moved hW.alike hK, hD⟩, hS.F ht⟩) hS.2.2 dX12_two_58
        · have tc_18 : (a0).toInt = 5 := congrArg Int32.toInt c_5
          have h_19 : rg a0 5 5 := rg_and (rg_full _) (rg_of_eq c_5 (rg_k (5 : Int32) 5 rfl)) (by decide)
          have uh_19 := h_19.1
          have vh_19 := h_19.2
          refine lv_lload_n hx hb dX12_two_33 rfl (lv_at hl 1 rfl) ?_
          refine lv_lload_n hx hb dX12_two_34 rfl (lv_at hl 2 rfl) ?_
          refine lv_lmul hx hb dX12_two_35 ?_
          refine lv_topl (fun x_20 ex_20 => ?_)
          refine pk_l (va_runS (As := [.long x_20]) (rest := []) ⟨hx, hb, hml, hown, hts⟩ (s_X12_clip l D t σ I J ri rj rq H.size tg hSH hG.1 x_20) (va_cwS 1 hts (tw_S tw_608 tw_609 tw_5 tw_610) rfl rfl rfl cd_yX12_clip_1 ⟨Nat.le_of_ble_eq_true rfl, Nat.le_of_ble_eq_true rfl⟩) ⟨pq_blind, pq_pre hK hN hP hD⟩ rfl rfl hl.1 rfl (lv_room (Nat.le_of_ble_eq_true rfl)) dX12_two_36 ⟨Nat.le_of_ble_eq_true rfl, Nat.le_of_ble_eq_true rfl⟩) hD hS hA (fun x_21 σ1 μ1 H locs hw_22 hP hD hS => ?_)
          have hu_23 := hw_22
          obtain ⟨hu_23a, hu_23b⟩ := Prod.mk.inj hu_23
          rw [hu_23a, hu_23b] at hP hD
          refine lv_goto (tgt := 58) hx hb dX12_two_39 (by decide) ?_
          subst hQ
          exact W.lret (v := x_21) hx hb hr (fun t1 ht hW => ⟨⟨x_21, (σ, I, J, ri, rj, rq), rfl, rfl, by rw [ht]; exact hP, va_K.moved hW.alike hK, hD⟩, hS.F ht⟩) hS.2.2 dX12_two_58
      · have tc_26 : (a0).toInt = 4 := congrArg Int32.toInt c_3
        have h_27 : rg a0 4 4 := rg_and (rg_full _) (rg_of_eq c_3 (rg_k (4 : Int32) 4 rfl)) (by decide)
        have uh_27 := h_27.1
        have vh_27 := h_27.2
        refine lv_lload_n hx hb dX12_two_19 rfl (lv_at hl 1 rfl) ?_
        refine lv_lload_n hx hb dX12_two_20 rfl (lv_at hl 2 rfl) ?_
        refine lv_lsub hx hb dX12_two_21 ?_
        refine lv_topl (fun x_28 ex_28 => ?_)
        refine pk_l (va_runS (As := [.long x_28]) (rest := []) ⟨hx, hb, hml, hown, hts⟩ (s_X12_clip l D t σ I J ri rj rq H.size tg hSH hG.1 x_28) (va_cwS 1 hts (tw_S tw_608 tw_609 tw_5 tw_610) rfl rfl rfl cd_yX12_clip_1 ⟨Nat.le_of_ble_eq_true rfl, Nat.le_of_ble_eq_true rfl⟩) ⟨pq_blind, pq_pre hK hN hP hD⟩ rfl rfl hl.1 rfl (lv_room (Nat.le_of_ble_eq_true rfl)) dX12_two_22 ⟨Nat.le_of_ble_eq_true rfl, Nat.le_of_ble_eq_true rfl⟩) hD hS hA (fun x_29 σ1 μ1 H locs hw_30 hP hD hS => ?_)
        have hu_31 := hw_30
        obtain ⟨hu_31a, hu_31b⟩ := Prod.mk.inj hu_31
        rw [hu_31a, hu_31b] at hP hD
        refine lv_goto (tgt := 58) hx hb dX12_two_25 (by decide) ?_
        subst hQ
        exact W.lret (v := x_29) hx hb hr (fun t1 ht hW => ⟨⟨x_29, (σ, I, J, ri, rj, rq), rfl, rfl, by rw [ht]; exact hP, va_K.moved hW.alike hK, hD⟩, hS.F ht⟩) hS.2.2 dX12_two_58
    · have tc_34 : (a0).toInt = 3 := congrArg Int32.toInt c_1
      have h_35 : rg a0 3 3 := rg_and (rg_full _) (rg_of_eq c_1 (rg_k (3 : Int32) 3 rfl)) (by decide)
      have uh_35 := h_35.1
      have vh_35 := h_35.2
      refine lv_lload_n hx hb dX12_two_5 rfl (lv_at hl 1 rfl) ?_
      refine lv_lload_n hx hb dX12_two_6 rfl (lv_at hl 2 rfl) ?_
      refine lv_ladd hx hb dX12_two_7 ?_
      refine lv_topl (fun x_36 ex_36 => ?_)
      refine pk_l (va_runS (As := [.long x_36]) (rest := []) ⟨hx, hb, hml, hown, hts⟩ (s_X12_clip l D t σ I J ri rj rq H.size tg hSH hG.1 x_36) (va_cwS 1 hts (tw_S tw_608 tw_609 tw_5 tw_610) rfl rfl rfl cd_yX12_clip_1 ⟨Nat.le_of_ble_eq_true rfl, Nat.le_of_ble_eq_true rfl⟩) ⟨pq_blind, pq_pre hK hN hP hD⟩ rfl rfl hl.1 rfl (lv_room (Nat.le_of_ble_eq_true rfl)) dX12_two_8 ⟨Nat.le_of_ble_eq_true rfl, Nat.le_of_ble_eq_true rfl⟩) hD hS hA (fun x_37 σ1 μ1 H locs hw_38 hP hD hS => ?_)
      have hu_39 := hw_38
      obtain ⟨hu_39a, hu_39b⟩ := Prod.mk.inj hu_39
      rw [hu_39a, hu_39b] at hP hD
      refine lv_goto (tgt := 58) hx hb dX12_two_11 (by decide) ?_
      subst hQ
      exact W.lret (v := x_37) hx hb hr (fun t1 ht hW => ⟨⟨x_37, (σ, I, J, ri, rj, rq), rfl, rfl, by rw [ht]; exact hP, va_K.moved hW.alike hK, hD⟩, hS.F ht⟩) hS.2.2 dX12_two_58
  exact go _ _ _ hP hD hS hl

set_option maxHeartbeats 4000000 in
set_option maxRecDepth 100000 in
theorem s_X12_isSo (l : Launch) (D : va_G) (t : pq_T) (σ : pq_S) (I : Nat → Nat → Int32) (J : Nat → Nat → Int64) (ri : Nat → Nat → Int32) (rj : Nat → Nat → Int64) (rq : Nat → Nat → Option Nat) (sz : Nat) (tg : Nat → Nat) (hSH : SH σ tg) (hG0 : GT tg I ri) (this : Nat) (a0 : Int32) (a1 : Int32) (a2 : Int32) (a3 : Int32) (a4 : Int32) (hL_this : this ∈ σ.1) (hK_this : σ.2.1 this = 12) (h_a0 : rg a0 0 9) (h_a1 : rg a1 3721 12060) (h_a2 : rg a2 0 39) (this_a : Nat) (hR_this_a : σ.2.2.1 384 this = some this_a) (hL_this_a : this_a ∈ σ.1) (hK_this_a : σ.2.1 this_a = 13) (hN_this_a : σ.2.2.2 this_a = 12720) (hT_this_a : tg this_a = 384) (hwt : 0 ≤ a0.toInt ∧ a0.toInt < (ri this_a 6).toInt) (hwc : ∃ c : Nat, c < 20 ∧ (c : Int) < (ri this_a (3720 + 900 * a0.toNatClampNeg)).toInt ∧ a1.toInt = 3721 + 900 * a0.toInt + 12 * c) (hws : 1 ≤ (ri this_a a1.toNatClampNeg).toInt ∧ (ri this_a a1.toNatClampNeg).toInt ≤ 4) : MetI l yX12_isSo (wa yX12_isSo cX12_isSo 11 (some .boolean)) ({ frames := 2, cells := 0, slots := 0, locals := 46 }) [.ref this, .int a0, .int a1, .int a2, .int a3, .int a4] D t σ (I, J, ri, rj, rq) sz 0 0 (fun (r : Int32) (u : pq_S × pq_M) => ∃ ri' : Nat → Nat → Int32, ∃ rj' : Nat → Nat → Int64, u = (σ, I, J, ri', rj', rq) ∧ GM [] tg σ I ri I ri' rq ∧ (∀ q, tg q ≠ 405 → ri' q = ri q) ∧ ((r = 1 ∧ True) ∨ (r = 0 ∧ True))) := by
  refine Met.ofW (cc := cX12_isSo) (maxL := 11) (ret := (some .boolean)) (by decide) rfl ?_
  intro p e s m args below meth c s₁ B hml hv
  obtain ⟨rfl, hsz, hP, hK, hD0, hN⟩ := hv
  have hx := B.exec
  have hb := B.bytes
  have hr := B.returns
  have hts := atoms_spec (ws := (wa yX12_isSo cX12_isSo 11 (some .boolean))) B.pre
  have hown : s.vm.findClass RX12 = some m.cls := findClass_of_methodNamed B.named
  have hlocks := B.notSynchronized
  subst hsz
  have hD : va_D (pq_B t σ (I, J, ri, rj, rq) s.heap.size) (pq_P t σ (I, J, ri, rj, rq)) := hD0.self
  generalize hAe : pq_B t σ (I, J, ri, rj, rq) s.heap.size = A at hD ⊢
  have hA : ∀ q : Nat, s.heap.size ≤ q → A q := fun q h => by rw [← hAe]; exact Or.inr h
  have hS : va_S A s.heap s.heap [] := va_S.rf
  have hG : GM [] tg σ I ri I ri rq := ⟨hG0, fun _ _ _ => rfl, fun _ _ _ _ _ => rfl, fun _ _ _ _ _ _ => rfl⟩
  have hl := lv_entry ([.ref this, .int a0, .int a1, .int a2, .int a3, .int a4]) (n := 11) (Nat.le_of_ble_eq_true rfl)
  rw [lg_entry_eq]
  generalize (lg_sl ([.ref this, .int a0, .int a1, .int a2, .int a3, .int a4]) ++ List.replicate (11 - (lg_sl ([.ref this, .int a0, .int a1, .int a2, .int a3, .int a4])).length) Slot.unset).toArray = ls at hl ⊢
  have hl : lv_has ls 11 [(0, .ref this), (1, .int a0), (2, .int a1), (3, .int a2), (4, .int a3), (5, .int a4)] := hl
  refine q_gen (fun Q hQ => ?_)
  have go : ∀ (H : Heap) (locs : List Loc) (ls : Array Slot), va_P D vwCl (pq_P t σ (I, J, ri, rj, rq)) H → va_D A (pq_P t σ (I, J, ri, rj, rq)) → va_S A s.heap H locs → lv_has ls 11 [(0, .ref this), (1, .int a0), (2, .int a1), (3, .int a2), (4, .int a3), (5, .int a4)] → W p l e ({ frames := 2, cells := 0, slots := 0, locals := 46 } : Room) s m (List.toArray ([.ref this, .int a0, .int a1, .int a2, .int a3, .int a4] : List Value)) below meth c H locs 0 0 Q (F0 m 0 ls []) := by
    intro H locs ls hP hD hS hl
    obtain ⟨kc, kc1, kc2, kc3⟩ := hwc
    have hid : a1.toNatClampNeg = 3721 + 900 * a0.toNatClampNeg + 12 * kc := by have z0 := clampE a0; have z1 := clampE a1; omega
    rw [hid] at hws
    obtain ⟨q1, q2, q3, q4⟩ := (hG0.2.2.1 this_a (by rw [hT_this_a]; decide)).2.1 a0.toNatClampNeg (by have z0 := clampE a0; omega) kc kc2 hws.1 hws.2
    generalize hFr : (ri this_a (3721 + 900 * a0.toNatClampNeg + 12 * kc + 2)) = vf at q1 q2 q4
    generalize hTo : (ri this_a (3721 + 900 * a0.toNatClampNeg + 12 * kc + 3)) = vt at q2 q3 q4
    generalize hBB : 3970 + 900 * a0.toNatClampNeg + 2 * vf.toNatClampNeg = bb at q4
    have hok : oN (ri this_a) bb vf.toInt vt.toInt := by unfold oN; rw [show (vt.toInt - vf.toInt).toNat = vt.toNatClampNeg - vf.toNatClampNeg from by have z0 := clampE vf; have z1 := clampE vt; omega]; exact q4
    have hN0 : vN (ri this_a) bb vf.toInt vf.toInt = 0 ∧ tN (ri this_a) bb vf.toInt vf.toInt = 0 := by unfold vN tN; rw [Int.sub_self]; exact ⟨rfl, rfl⟩
    refine lv_iconst (v := 0) hx hb dX12_isSo_0 (by decide) ?_
    refine lv_istore (lv' := [(6, .int 0), (0, .ref this), (1, .int a0), (2, .int a1), (3, .int a2), (4, .int a3), (5, .int a4)]) hx hb dX12_isSo_1 hl (by decide) rfl (fun ls hl => ?_)
    refine lv_iconst (v := 0) hx hb dX12_isSo_3 (by decide) ?_
    refine lv_istore (lv' := [(7, .int 0), (6, .int 0), (0, .ref this), (1, .int a0), (2, .int a1), (3, .int a2), (4, .int a3), (5, .int a4)]) hx hb dX12_isSo_4 hl (by decide) rfl (fun ls hl => ?_)
    refine lv_aload_n hx hb dX12_isSo_6 rfl (lv_at hl 2 rfl) ?_
    refine pg_f (v := .ref this_a) (C := RX12) (T := TX12) (N := 31) hx hb hts (tw_i inlX12) hown hK hP hL_this hK_this (by decide) rfl 0 (by decide) (hts _ (tw_c tw_176)) (pq_hv rfl hR_this_a) dX12_isSo_7 ?_
    refine lv_iload_n hx hb dX12_isSo_10 rfl (lv_at hl 4 rfl) ?_
    refine lv_iconst (v := 2) hx hb dX12_isSo_11 (by decide) ?_
    refine lv_iadd hx hb dX12_isSo_12 ?_
    refine lv_topi (fun x_1 ex_1 => ?_)
    have h_2 : rg x_1 3723 12062 := rg_of_eq ex_1 (rg_add h_a1 (rg_k (2 : Int32) 2 rfl) (by decide))
    have uh_2 := h_2.1
    have vh_2 := h_2.2
    have tx_1 : (x_1).toInt = (a1).toInt + 2 := by rw [ex_1]; exact i_add_rg (a2 := (a1).toInt) (b2 := 2) rfl rfl h_a1 (rg_k (2 : Int32) 2 rfl) (by decide)
    refine pl_i hx hb hK hP hL_this_a hK_this_a hN_this_a (rg_in h_2 (by decide)) dX12_isSo_13 ?_
    refine lv_topi (fun x_3 ex_3 => ?_)
    have tt_4 : x_3 = vf := (ex_3.trans ((congrFun rfl _).trans (congrArg (ri this_a) (by have z0 := clampE a0; have z1 := clampE a1; have z2 := clampE x_1; omega)))).trans hFr
    have tt_5 : (x_3).toInt = vf.toInt := congrArg Int32.toInt tt_4
    have tN0 : vN (ri this_a) bb vf.toInt (x_3).toInt = 0 ∧ tN (ri this_a) bb vf.toInt (x_3).toInt = 0 := by rw [tt_4]; exact hN0
    have h_6 : rg x_3 0 300 := ⟨by omega, by omega⟩
    have uh_6 := h_6.1
    have vh_6 := h_6.2
    refine lv_istore (lv' := [(8, .int x_3), (7, .int 0), (6, .int 0), (0, .ref this), (1, .int a0), (2, .int a1), (3, .int a2), (4, .int a3), (5, .int a4)]) hx hb dX12_isSo_14 hl (by decide) rfl (fun ls hl => ?_)
    have L_1152 : ∀ (n_1151 : Nat) (x_931 : Int32) (x_932 : Int32) (x_933 : Int32) (ri_934 : Nat → Nat → Int32) (rj_935 : Nat → Nat → Int64) (H : Heap) (locs : List Loc) (ls : Array Slot), rg x_931 0 301 → rg x_932 0 301 → rg x_933 0 300 → (vf.toInt ≤ (x_933).toInt ∧ (x_933).toInt ≤ vt.toInt) → ((x_931).toInt = vN (ri this_a) bb vf.toInt (x_933).toInt ∧ (x_932).toInt = tN (ri this_a) bb vf.toInt (x_933).toInt) → (∀ q, tg q ≠ 405 → ri_934 q = ri q) → (300 - (x_933).toInt).toNat < n_1151 → GM [] tg σ I ri I ri_934 rq → va_P D vwCl (pq_P t σ (I, J, ri_934, rj_935, rq)) H → va_D A (pq_P t σ (I, J, ri_934, rj_935, rq)) → va_S A s.heap H locs → lv_has ls 11 [(0, .ref this), (1, .int a0), (2, .int a1), (3, .int a2), (4, .int a3), (5, .int a4), (6, .int x_931), (7, .int x_932), (8, .int x_933)] → W p l e ({ frames := 2, cells := 0, slots := 0, locals := 46 } : Room) s m (List.toArray ([.ref this, .int a0, .int a1, .int a2, .int a3, .int a4] : List Value)) below meth c H locs 0 0 Q (F0 m 16 ls []) := by
      intro n_1151
      induction n_1151 with
      | zero => intro x_931 x_932 x_933 ri_934 rj_935 H locs ls h_1160 h_1161 h_1162 hrel_1163 hrel_1164 hrel_1165 hm_1150 hG hP hD hS hl; exact absurd hm_1150 (Nat.not_lt_zero _)
      | succ n_1151 ih_1153 =>
        intro x_931 x_932 x_933 ri_934 rj_935 H locs ls h_1160 h_1161 h_1162 hrel_1163 hrel_1164 hrel_1165 hm_1150 hG hP hD hS hl
        have uh_1160 := h_1160.1
        have vh_1160 := h_1160.2
        have uh_1161 := h_1161.1
        have vh_1161 := h_1161.2
        have uh_1162 := h_1162.1
        have vh_1162 := h_1162.2
        refine lv_iload hx hb dX12_isSo_16 (lv_at hl 8 rfl) ?_
        refine lv_aload_n hx hb dX12_isSo_18 rfl (lv_at hl 0 rfl) ?_
        refine pg_f (v := .ref this_a) (C := RX12) (T := TX12) (N := 31) hx hb hts (tw_i inlX12) hown hK hP hL_this hK_this (by decide) rfl 0 (by decide) (hts _ (tw_c tw_176)) (pq_hv rfl hR_this_a) dX12_isSo_19 ?_
        refine lv_iload_n hx hb dX12_isSo_22 rfl (lv_at hl 2 rfl) ?_
        refine lv_iconst (v := 3) hx hb dX12_isSo_23 (by decide) ?_
        refine lv_iadd hx hb dX12_isSo_24 ?_
        refine lv_topi (fun x_1166 ex_1166 => ?_)
        have h_1167 : rg x_1166 3724 12063 := rg_of_eq ex_1166 (rg_add h_a1 (rg_k (3 : Int32) 3 rfl) (by decide))
        have uh_1167 := h_1167.1
        have vh_1167 := h_1167.2
        have tx_1166 : (x_1166).toInt = (a1).toInt + 3 := by rw [ex_1166]; exact i_add_rg (a2 := (a1).toInt) (b2 := 3) rfl rfl h_a1 (rg_k (3 : Int32) 3 rfl) (by decide)
        refine pl_i hx hb hK hP hL_this_a hK_this_a hN_this_a (rg_in h_1167 (by decide)) dX12_isSo_25 ?_
        refine lv_topi (fun x_1168 ex_1168 => ?_)
        have tt_1169 : x_1168 = vt := (ex_1168.trans ((congrFun (hrel_1165 this_a (by rw [hT_this_a]; decide)) _).trans (congrArg (ri this_a) (by have z0 := clampE a0; have z1 := clampE a1; have z2 := clampE x_1166; omega)))).trans hTo
        have tt_1170 : (x_1168).toInt = vt.toInt := congrArg Int32.toInt tt_1169
        refine lv_icmp_ge (tgt := 356) hx hb dX12_isSo_26 (by decide) (fun c_1171 => ?_) (fun c_1171 => ?_)
        · have tc_1172 : (x_1168).toInt ≤ (x_933).toInt := Int32.le_iff_toInt_le.mp c_1171
          have h_1173 : rg x_1168 (-2147483648) 300 := rg_le1 c_1171 (rg_full _) h_1162 (by decide)
          have uh_1173 := h_1173.1
          have vh_1173 := h_1173.2
          refine lv_aload_n hx hb dX12_isSo_356 rfl (lv_at hl 0 rfl) ?_
          obtain ⟨w_1174, hR_w_1174, hL_w_1174, hK_w_1174, hN_w_1174, hT_w_1174⟩ := sh_a hSH 405 (ci := 12) (kd := 15) (len := 330) rfl (by decide) hL_this hK_this
          refine pg_f (v := .ref w_1174) (C := RX12) (T := TX12) (N := 31) hx hb hts (tw_i inlX12) hown hK hP hL_this hK_this (by decide) rfl 21 (by decide) (hts _ (tw_c tw_185)) (pq_hv rfl hR_w_1174) dX12_isSo_357 ?_
          refine lv_iconst (v := 0) hx hb dX12_isSo_360 (by decide) ?_
          refine pl_z hx hb hK hP hL_w_1174 hK_w_1174 hN_w_1174 (vp_in_iff.mpr (by decide)) dX12_isSo_361 ?_
          refine lv_topi (fun x_1175 ex_1175 => ?_)
          have h_1176 : rg x_1175 0 1 := rg_of_eq ex_1175 (GM.rR hG hT_w_1174 rfl)
          have uh_1176 := h_1176.1
          have vh_1176 := h_1176.2
          rcases bool01 (rg_w h_1176 (by decide)) with e_1177 | e_1177
          · refine lv_tov 0 e_1177 ?_
            subst hQ
            exact W.zret (v := 0) hx hb hr (by decide) (fun t1 ht hW => ⟨⟨0, (σ, I, J, ri_934, rj_935, rq), rfl, ⟨ri_934, rj_935, rfl, hG, hrel_1165, (Or.inr ⟨rfl, trivial⟩)⟩, by rw [ht]; exact hP, va_K.moved hW.alike hK, hD⟩, hS.F ht⟩) hS.2.2 dX12_isSo_362
          · refine lv_tov 1 e_1177 ?_
            subst hQ
            exact W.zret (v := 1) hx hb hr (by decide) (fun t1 ht hW => ⟨⟨1, (σ, I, J, ri_934, rj_935, rq), rfl, ⟨ri_934, rj_935, rfl, hG, hrel_1165, (Or.inl ⟨rfl, trivial⟩)⟩, by rw [ht]; exact hP, va_K.moved hW.alike hK, hD⟩, hS.F ht⟩) hS.2.2 dX12_isSo_362
        · have tc_1178 : (x_933).toInt < (x_1168).toInt := Int32.lt_iff_toInt_lt.mp (nle c_1171)
          have h_1179 : rg x_1168 1 2147483647 := rg_lt2 (nle c_1171) h_1162 (rg_full _) (by decide)
          have uh_1179 := h_1179.1
          have vh_1179 := h_1179.2
          have h_1180 : rg x_933 0 299 := ⟨by omega, by omega⟩
          have uh_1180 := h_1180.1
          have vh_1180 := h_1180.2
          refine lv_aload_n hx hb dX12_isSo_29 rfl (lv_at hl 0 rfl) ?_
          refine pg_f (v := .ref this_a) (C := RX12) (T := TX12) (N := 31) hx hb hts (tw_i inlX12) hown hK hP hL_this hK_this (by decide) rfl 0 (by decide) (hts _ (tw_c tw_176)) (pq_hv rfl hR_this_a) dX12_isSo_30 ?_
          refine lv_sipush (v := 3720) hx hb dX12_isSo_33 (by decide) ?_
          refine lv_sipush (v := 900) hx hb dX12_isSo_36 (by decide) ?_
          refine lv_iload_n hx hb dX12_isSo_39 rfl (lv_at hl 1 rfl) ?_
          refine lv_imul hx hb dX12_isSo_40 ?_
          refine lv_topi (fun x_1181 ex_1181 => ?_)
          have h_1182 : rg x_1181 0 8100 := rg_of_eq ex_1181 (rg_mul (rg_k (900 : Int32) 900 rfl) h_a0 (by decide))
          have uh_1182 := h_1182.1
          have vh_1182 := h_1182.2
          have tx_1181 : (x_1181).toInt = 900 * (a0).toInt := by rw [ex_1181]; exact i_mul_rg (a2 := 900) (b2 := (a0).toInt) rfl rfl (rg_k (900 : Int32) 900 rfl) h_a0 (by decide)
          refine lv_iadd hx hb dX12_isSo_41 ?_
          refine lv_topi (fun x_1183 ex_1183 => ?_)
          have h_1184 : rg x_1183 3720 11820 := rg_of_eq ex_1183 (rg_add (rg_k (3720 : Int32) 3720 rfl) h_1182 (by decide))
          have uh_1184 := h_1184.1
          have vh_1184 := h_1184.2
          have tx_1183 : (x_1183).toInt = 3720 + (x_1181).toInt := by rw [ex_1183]; exact i_add_rg (a2 := 3720) (b2 := (x_1181).toInt) rfl rfl (rg_k (3720 : Int32) 3720 rfl) h_1182 (by decide)
          refine lv_sipush (v := 250) hx hb dX12_isSo_42 (by decide) ?_
          refine lv_iadd hx hb dX12_isSo_45 ?_
          refine lv_topi (fun x_1185 ex_1185 => ?_)
          have h_1186 : rg x_1185 3970 12070 := rg_of_eq ex_1185 (rg_add h_1184 (rg_k (250 : Int32) 250 rfl) (by decide))
          have uh_1186 := h_1186.1
          have vh_1186 := h_1186.2
          have tx_1185 : (x_1185).toInt = (x_1183).toInt + 250 := by rw [ex_1185]; exact i_add_rg (a2 := (x_1183).toInt) (b2 := 250) rfl rfl h_1184 (rg_k (250 : Int32) 250 rfl) (by decide)
          refine lv_iconst (v := 2) hx hb dX12_isSo_46 (by decide) ?_
          refine lv_iload hx hb dX12_isSo_47 (lv_at hl 8 rfl) ?_
          refine lv_imul hx hb dX12_isSo_49 ?_
          refine lv_topi (fun x_1187 ex_1187 => ?_)
          have h_1188 : rg x_1187 0 598 := rg_of_eq ex_1187 (rg_mul (rg_k (2 : Int32) 2 rfl) h_1180 (by decide))
          have uh_1188 := h_1188.1
          have vh_1188 := h_1188.2
          have tx_1187 : (x_1187).toInt = 2 * (x_933).toInt := by rw [ex_1187]; exact i_mul_rg (a2 := 2) (b2 := (x_933).toInt) rfl rfl (rg_k (2 : Int32) 2 rfl) h_1180 (by decide)
          refine lv_iadd hx hb dX12_isSo_50 ?_
          refine lv_topi (fun x_1189 ex_1189 => ?_)
          have h_1190 : rg x_1189 3970 12668 := rg_of_eq ex_1189 (rg_add h_1186 h_1188 (by decide))
          have uh_1190 := h_1190.1
          have vh_1190 := h_1190.2
          have tx_1189 : (x_1189).toInt = (x_1185).toInt + (x_1187).toInt := by rw [ex_1189]; exact i_add_rg (a2 := (x_1185).toInt) (b2 := (x_1187).toInt) rfl rfl h_1186 h_1188 (by decide)
          refine pl_i hx hb hK hP hL_this_a hK_this_a hN_this_a (rg_in h_1190 (by decide)) dX12_isSo_51 ?_
          refine lv_topi (fun x_1191 ex_1191 => ?_)
          have ho : ri this_a (bb + 2 * ((x_933).toInt - vf.toInt).toNat) = x_1191 := ((congrArg (ri this_a) (by have z0 := clampE a0; have z1 := clampE vf; have z2 := clampE x_933; have z3 := clampE x_1189; omega)).trans ((congrFun (hrel_1165 this_a (by rw [hT_this_a]; decide)) _).symm.trans ex_1191.symm))
          have hoi := oN_b (oN_le hok (i := (x_933).toInt) (by omega)) (by omega)
          have hoj := oN_le hok (i := (x_933).toInt + 1) (by omega)
          refine lv_istore (lv' := [(9, .int x_1191), (0, .ref this), (1, .int a0), (2, .int a1), (3, .int a2), (4, .int a3), (5, .int a4), (6, .int x_931), (7, .int x_932), (8, .int x_933)]) hx hb dX12_isSo_52 hl (by decide) rfl (fun ls hl => ?_)
          refine lv_aload_n hx hb dX12_isSo_54 rfl (lv_at hl 1 rfl) ?_
          refine pg_f (v := .ref this_a) (C := RX12) (T := TX12) (N := 31) hx hb hts (tw_i inlX12) hown hK hP hL_this hK_this (by decide) rfl 0 (by decide) (hts _ (tw_c tw_176)) (pq_hv rfl hR_this_a) dX12_isSo_55 ?_
          refine lv_sipush (v := 3720) hx hb dX12_isSo_58 (by decide) ?_
          refine lv_sipush (v := 900) hx hb dX12_isSo_61 (by decide) ?_
          refine lv_iload_n hx hb dX12_isSo_64 rfl (lv_at hl 2 rfl) ?_
          refine lv_imul hx hb dX12_isSo_65 ?_
          refine lv_topi (fun x_1192 ex_1192 => ?_)
          have h_1193 : rg x_1192 0 8100 := rg_of_eq ex_1192 (rg_mul (rg_k (900 : Int32) 900 rfl) h_a0 (by decide))
          have uh_1193 := h_1193.1
          have vh_1193 := h_1193.2
          have tx_1192 : (x_1192).toInt = 900 * (a0).toInt := by rw [ex_1192]; exact i_mul_rg (a2 := 900) (b2 := (a0).toInt) rfl rfl (rg_k (900 : Int32) 900 rfl) h_a0 (by decide)
          refine lv_iadd hx hb dX12_isSo_66 ?_
          refine lv_topi (fun x_1194 ex_1194 => ?_)
          have h_1195 : rg x_1194 3720 11820 := rg_of_eq ex_1194 (rg_add (rg_k (3720 : Int32) 3720 rfl) h_1193 (by decide))
          have uh_1195 := h_1195.1
          have vh_1195 := h_1195.2
          have tx_1194 : (x_1194).toInt = 3720 + (x_1192).toInt := by rw [ex_1194]; exact i_add_rg (a2 := 3720) (b2 := (x_1192).toInt) rfl rfl (rg_k (3720 : Int32) 3720 rfl) h_1193 (by decide)
          refine lv_sipush (v := 250) hx hb dX12_isSo_67 (by decide) ?_
          refine lv_iadd hx hb dX12_isSo_70 ?_
          refine lv_topi (fun x_1196 ex_1196 => ?_)
          have h_1197 : rg x_1196 3970 12070 := rg_of_eq ex_1196 (rg_add h_1195 (rg_k (250 : Int32) 250 rfl) (by decide))
          have uh_1197 := h_1197.1
          have vh_1197 := h_1197.2
          have tx_1196 : (x_1196).toInt = (x_1194).toInt + 250 := by rw [ex_1196]; exact i_add_rg (a2 := (x_1194).toInt) (b2 := 250) rfl rfl h_1195 (rg_k (250 : Int32) 250 rfl) (by decide)
          refine lv_iconst (v := 2) hx hb dX12_isSo_71 (by decide) ?_
          refine lv_iload hx hb dX12_isSo_72 (lv_at hl 9 rfl) ?_
          refine lv_imul hx hb dX12_isSo_74 ?_
          refine lv_topi (fun x_1198 ex_1198 => ?_)
          have h_1199 : rg x_1198 0 598 := rg_of_eq ex_1198 (rg_mul (rg_k (2 : Int32) 2 rfl) h_1180 (by decide))
          have uh_1199 := h_1199.1
          have vh_1199 := h_1199.2
          have tx_1198 : (x_1198).toInt = 2 * (x_933).toInt := by rw [ex_1198]; exact i_mul_rg (a2 := 2) (b2 := (x_933).toInt) rfl rfl (rg_k (2 : Int32) 2 rfl) h_1180 (by decide)
          refine lv_iadd hx hb dX12_isSo_75 ?_
          refine lv_topi (fun x_1200 ex_1200 => ?_)
          have h_1201 : rg x_1200 3970 12668 := rg_of_eq ex_1200 (rg_add h_1197 h_1199 (by decide))
          have uh_1201 := h_1201.1
          have vh_1201 := h_1201.2
          have tx_1200 : (x_1200).toInt = (x_1196).toInt + (x_1198).toInt := by rw [ex_1200]; exact i_add_rg (a2 := (x_1196).toInt) (b2 := (x_1198).toInt) rfl rfl h_1197 h_1199 (by decide)
          refine lv_iconst (v := 1) hx hb dX12_isSo_76 (by decide) ?_
          refine lv_iadd hx hb dX12_isSo_77 ?_
          refine lv_topi (fun x_1202 ex_1202 => ?_)
          have h_1203 : rg x_1202 3971 12669 := rg_of_eq ex_1202 (rg_add h_1201 (rg_k (1 : Int32) 1 rfl) (by decide))
          have uh_1203 := h_1203.1
          have vh_1203 := h_1203.2
          have tx_1202 : (x_1202).toInt = (x_1200).toInt + 1 := by rw [ex_1202]; exact i_add_rg (a2 := (x_1200).toInt) (b2 := 1) rfl rfl h_1201 (rg_k (1 : Int32) 1 rfl) (by decide)
          refine pl_i hx hb hK hP hL_this_a hK_this_a hN_this_a (rg_in h_1203 (by decide)) dX12_isSo_78 ?_
          refine lv_topi (fun x_1204 ex_1204 => ?_)
          refine lv_istore (lv' := [(10, .int x_1204), (9, .int x_1191), (0, .ref this), (1, .int a0), (2, .int a1), (3, .int a2), (4, .int a3), (5, .int a4), (6, .int x_931), (7, .int x_932), (8, .int x_933)]) hx hb dX12_isSo_79 hl (by decide) rfl (fun ls hl => ?_)
          refine lv_iload hx hb dX12_isSo_81 (lv_at hl 1 rfl) ?_
          refine lv_iconst (v := 1) hx hb dX12_isSo_83 (by decide) ?_
          refine lv_icmp_gt (tgt := 123) hx hb dX12_isSo_84 (by decide) (fun c_1205 => ?_) (fun c_1205 => ?_)
          · have tc_1206 : 1 < (x_1191).toInt := Int32.lt_iff_toInt_lt.mp c_1205
            have h_1207 : rg x_1191 2 2147483647 := rg_lt2 c_1205 (rg_k (1 : Int32) 1 rfl) (rg_full _) (by decide)
            have uh_1207 := h_1207.1
            have vh_1207 := h_1207.2
            refine lv_iload hx hb dX12_isSo_123 (lv_at hl 1 rfl) ?_
            refine lv_iconst (v := 2) hx hb dX12_isSo_125 (by decide) ?_
            refine lv_icmp_ne (tgt := 151) hx hb dX12_isSo_126 (by decide) (fun c_1208 => ?_) (fun c_1208 => ?_)
            · have tc_1209 : (x_1191).toInt ≠ 2 := fun q => c_1208 (Int32.toInt_inj.mp q)
              have h_1210 : rg x_1191 3 2147483647 := rg_ne c_1208 h_1207 2 rfl (by decide)
              have uh_1210 := h_1210.1
              have vh_1210 := h_1210.2
              refine lv_iload hx hb dX12_isSo_151 (lv_at hl 1 rfl) ?_
              refine lv_bipush (v := 10) hx hb dX12_isSo_153 (by decide) ?_
              refine lv_icmp_ge (tgt := 194) hx hb dX12_isSo_155 (by decide) (fun c_1211 => ?_) (fun c_1211 => ?_)
              · have tc_1212 : 10 ≤ (x_1191).toInt := Int32.le_iff_toInt_le.mp c_1211
                have h_1213 : rg x_1191 10 2147483647 := rg_le2 c_1211 (rg_k (10 : Int32) 10 rfl) h_1210 (by decide)
                have uh_1213 := h_1213.1
                have vh_1213 := h_1213.2
                refine lv_iload hx hb dX12_isSo_194 (lv_at hl 1 rfl) ?_
                refine lv_bipush (v := 20) hx hb dX12_isSo_196 (by decide) ?_
                refine lv_icmp_ge (tgt := 238) hx hb dX12_isSo_198 (by decide) (fun c_1214 => ?_) (fun c_1214 => ?_)
                · have tc_1215 : 20 ≤ (x_1191).toInt := Int32.le_iff_toInt_le.mp c_1214
                  have h_1216 : rg x_1191 20 2147483647 := rg_le2 c_1214 (rg_k (20 : Int32) 20 rfl) h_1213 (by decide)
                  have uh_1216 := h_1216.1
                  have vh_1216 := h_1216.2
                  refine lv_iload hx hb dX12_isSo_238 (lv_at hl 1 rfl) ?_
                  refine lv_bipush (v := 20) hx hb dX12_isSo_240 (by decide) ?_
                  refine lv_icmp_ne (tgt := 274) hx hb dX12_isSo_242 (by decide) (fun c_1217 => ?_) (fun c_1217 => ?_)
                  · have tc_1218 : (x_1191).toInt ≠ 20 := fun q => c_1217 (Int32.toInt_inj.mp q)
                    have h_1219 : rg x_1191 21 2147483647 := rg_ne c_1217 h_1216 20 rfl (by decide)
                    have uh_1219 := h_1219.1
                    have vh_1219 := h_1219.2
                    have his := is_6 (f := ri this_a) (b := bb) (fr := vf.toInt) (i := (x_933).toInt) (by omega) ho (by omega) hoj
                    have h_1220 : rg x_931 0 300 := ⟨by omega, by omega⟩
                    have uh_1220 := h_1220.1
                    have vh_1220 := h_1220.2
                    have h_1221 : rg x_932 2 300 := ⟨by omega, by omega⟩
                    have uh_1221 := h_1221.1
                    have vh_1221 := h_1221.2
                    obtain ⟨x_1222, ex_1222⟩ : ∃ y : Int32, y = x_932 + Int32.ofInt (-1) := ⟨_, rfl⟩
                    have h_1223 : rg x_1222 1 299 := rg_of_eq ex_1222 (rg_add h_1221 (rg_k (Int32.ofInt (-1)) (-1) rfl) (by decide))
                    have uh_1223 := h_1223.1
                    have vh_1223 := h_1223.2
                    have tx_1222 : (x_1222).toInt = (x_932).toInt + (-1) := by rw [ex_1222]; exact i_add_rg (a2 := (x_932).toInt) (b2 := (-1)) rfl rfl h_1221 (rg_k (Int32.ofInt (-1)) (-1) rfl) (by decide)
                    refine lv_iinc (v := x_1222) (lv' := [(7, .int x_1222), (10, .int x_1204), (9, .int x_1191), (0, .ref this), (1, .int a0), (2, .int a1), (3, .int a2), (4, .int a3), (5, .int a4), (6, .int x_931), (8, .int x_933)]) hx hb dX12_isSo_274 hl (k := 9) rfl ex_1222.symm (by decide) rfl (fun ls hl => ?_)
                    refine lv_aload_n hx hb dX12_isSo_277 rfl (lv_at hl 3 rfl) ?_
                    obtain ⟨w_1224, hR_w_1224, hL_w_1224, hK_w_1224, hN_w_1224, hT_w_1224⟩ := sh_a hSH 405 (ci := 12) (kd := 15) (len := 330) rfl (by decide) hL_this hK_this
                    refine pg_f (v := .ref w_1224) (C := RX12) (T := TX12) (N := 31) hx hb hts (tw_i inlX12) hown hK hP hL_this hK_this (by decide) rfl 21 (by decide) (hts _ (tw_c tw_185)) (pq_hv rfl hR_w_1224) dX12_isSo_278 ?_
                    refine lv_iload hx hb dX12_isSo_281 (lv_at hl 0 rfl) ?_
                    refine lv_iconst (v := 1) hx hb dX12_isSo_283 (by decide) ?_
                    refine lv_isub hx hb dX12_isSo_284 ?_
                    refine lv_topi (fun x_1225 ex_1225 => ?_)
                    have h_1226 : rg x_1225 0 298 := rg_of_eq ex_1225 (rg_sub h_1223 (rg_k (1 : Int32) 1 rfl) (by decide))
                    have uh_1226 := h_1226.1
                    have vh_1226 := h_1226.2
                    have tx_1225 : (x_1225).toInt = (x_1222).toInt - 1 := by rw [ex_1225]; exact i_sub_rg (a2 := (x_1222).toInt) (b2 := 1) rfl rfl h_1223 (rg_k (1 : Int32) 1 rfl) (by decide)
                    refine lv_iload hx hb dX12_isSo_285 (lv_at hl 2 rfl) ?_
                    refine lv_bipush (v := 21) hx hb dX12_isSo_287 (by decide) ?_
                    have K_1270 : ∀  (H : Heap) (locs : List Loc) (ls : Array Slot), GM [] tg σ I ri I ri_934 rq → va_P D vwCl (pq_P t σ (I, J, ri_934, rj_935, rq)) H → va_D A (pq_P t σ (I, J, ri_934, rj_935, rq)) → va_S A s.heap H locs → lv_has ls 11 [(0, .ref this), (1, .int a0), (2, .int a1), (3, .int a2), (4, .int a3), (5, .int a4), (6, .int x_931), (7, .int x_1222), (8, .int x_933)] → W p l e ({ frames := 2, cells := 0, slots := 0, locals := 46 } : Room) s m (List.toArray ([.ref this, .int a0, .int a1, .int a2, .int a3, .int a4] : List Value)) below meth c H locs 0 0 Q (F0 m 349 ls [.int 0, .int x_1225, .ref w_1224]) := by
                      intro H locs ls hG hP hD hS hl
                      refine pt_z hx hb hK hP hD hS hL_w_1224 hK_w_1224 hN_w_1224 (rg_in h_1226 (by decide)) (rg_w (rg_k (0 : Int32) 0 rfl) (by decide)) dX12_isSo_349 (fun r_1271 H locs er_1271 hP hD hS => ?_)
                      have hG := GM.wR hG hSH hT_w_1224 rfl er_1271 (rg_w (rg_k (0 : Int32) 0 rfl) (by decide)) (by decide)
                      obtain ⟨x_1272, ex_1272⟩ : ∃ y : Int32, y = x_933 + Int32.ofInt 1 := ⟨_, rfl⟩
                      have h_1273 : rg x_1272 1 300 := rg_of_eq ex_1272 (rg_add h_1180 (rg_k (Int32.ofInt 1) 1 rfl) (by decide))
                      have uh_1273 := h_1273.1
                      have vh_1273 := h_1273.2
                      have tx_1272 : (x_1272).toInt = (x_933).toInt + 1 := by rw [ex_1272]; exact i_add_rg (a2 := (x_933).toInt) (b2 := 1) rfl rfl h_1180 (rg_k (Int32.ofInt 1) 1 rfl) (by decide)
                      refine lv_iinc (v := x_1272) (lv' := [(8, .int x_1272), (0, .ref this), (1, .int a0), (2, .int a1), (3, .int a2), (4, .int a3), (5, .int a4), (6, .int x_931), (7, .int x_1222)]) hx hb dX12_isSo_350 hl (k := 8) rfl ex_1272.symm (by decide) rfl (fun ls hl => ?_)
                      have tv1 : vN (ri this_a) bb vf.toInt ((x_1272).toInt) = vN (ri this_a) bb vf.toInt ((x_933).toInt + 1) := by rw [tx_1272]
                      have tv2 : tN (ri this_a) bb vf.toInt ((x_1272).toInt) = tN (ri this_a) bb vf.toInt ((x_933).toInt + 1) := by rw [tx_1272]
                      refine lv_goto (tgt := 16) hx hb dX12_isSo_353 (by decide) ?_
                      exact ih_1153 x_931 x_1222 x_1272 r_1271 rj_935 _ _ _ (rg_w h_1220 (by decide)) (rg_w h_1223 (by decide)) (rg_w h_1273 (by decide)) (by omega) (by omega) (fr_w hrel_1165 er_1271 hT_w_1224) (ms_up 1 hm_1150 ex_1272 rfl (by decide) h_1180 (by decide) (by decide)) hG hP hD hS (lv_sub hl [1, 2, 3, 4, 5, 6, 7, 8, 0] rfl)
                    have K_1274 : ∀  (H : Heap) (locs : List Loc) (ls : Array Slot), GM [] tg σ I ri I ri_934 rq → va_P D vwCl (pq_P t σ (I, J, ri_934, rj_935, rq)) H → va_D A (pq_P t σ (I, J, ri_934, rj_935, rq)) → va_S A s.heap H locs → lv_has ls 11 [(0, .ref this), (1, .int a0), (2, .int a1), (3, .int a2), (4, .int a3), (5, .int a4), (6, .int x_931), (7, .int x_1222), (8, .int x_933)] → W p l e ({ frames := 2, cells := 0, slots := 0, locals := 46 } : Room) s m (List.toArray ([.ref this, .int a0, .int a1, .int a2, .int a3, .int a4] : List Value)) below meth c H locs 0 0 Q (F0 m 349 ls [.int 1, .int x_1225, .ref w_1224]) := by
                      intro H locs ls hG hP hD hS hl
                      refine pt_z hx hb hK hP hD hS hL_w_1224 hK_w_1224 hN_w_1224 (rg_in h_1226 (by decide)) (rg_w (rg_k (1 : Int32) 1 rfl) (by decide)) dX12_isSo_349 (fun r_1275 H locs er_1275 hP hD hS => ?_)
                      have hG := GM.wR hG hSH hT_w_1224 rfl er_1275 (rg_w (rg_k (1 : Int32) 1 rfl) (by decide)) (by decide)
                      obtain ⟨x_1276, ex_1276⟩ : ∃ y : Int32, y = x_933 + Int32.ofInt 1 := ⟨_, rfl⟩
                      have h_1277 : rg x_1276 1 300 := rg_of_eq ex_1276 (rg_add h_1180 (rg_k (Int32.ofInt 1) 1 rfl) (by decide))
                      have uh_1277 := h_1277.1
                      have vh_1277 := h_1277.2
                      have tx_1276 : (x_1276).toInt = (x_933).toInt + 1 := by rw [ex_1276]; exact i_add_rg (a2 := (x_933).toInt) (b2 := 1) rfl rfl h_1180 (rg_k (Int32.ofInt 1) 1 rfl) (by decide)
                      refine lv_iinc (v := x_1276) (lv' := [(8, .int x_1276), (0, .ref this), (1, .int a0), (2, .int a1), (3, .int a2), (4, .int a3), (5, .int a4), (6, .int x_931), (7, .int x_1222)]) hx hb dX12_isSo_350 hl (k := 8) rfl ex_1276.symm (by decide) rfl (fun ls hl => ?_)
                      have tv1 : vN (ri this_a) bb vf.toInt ((x_1276).toInt) = vN (ri this_a) bb vf.toInt ((x_933).toInt + 1) := by rw [tx_1276]
                      have tv2 : tN (ri this_a) bb vf.toInt ((x_1276).toInt) = tN (ri this_a) bb vf.toInt ((x_933).toInt + 1) := by rw [tx_1276]
                      refine lv_goto (tgt := 16) hx hb dX12_isSo_353 (by decide) ?_
                      exact ih_1153 x_931 x_1222 x_1276 r_1275 rj_935 _ _ _ (rg_w h_1220 (by decide)) (rg_w h_1223 (by decide)) (rg_w h_1277 (by decide)) (by omega) (by omega) (fr_w hrel_1165 er_1275 hT_w_1224) (ms_up 1 hm_1150 ex_1276 rfl (by decide) h_1180 (by decide) (by decide)) hG hP hD hS (lv_sub hl [1, 2, 3, 4, 5, 6, 7, 8, 0] rfl)
                    refine lv_icmp_ne (tgt := 322) hx hb dX12_isSo_289 (by decide) (fun c_1278 => ?_) (fun c_1278 => ?_)
                    · have tc_1279 : (x_1191).toInt ≠ 21 := fun q => c_1278 (Int32.toInt_inj.mp q)
                      have h_1280 : rg x_1191 22 2147483647 := rg_ne c_1278 h_1219 21 rfl (by decide)
                      have uh_1280 := h_1280.1
                      have vh_1280 := h_1280.2
                      refine lv_aload_n hx hb dX12_isSo_322 rfl (lv_at hl 3 rfl) ?_
                      refine pg_f (v := .ref w_1224) (C := RX12) (T := TX12) (N := 31) hx hb hts (tw_i inlX12) hown hK hP hL_this hK_this (by decide) rfl 21 (by decide) (hts _ (tw_c tw_185)) (pq_hv rfl hR_w_1224) dX12_isSo_323 ?_
                      refine lv_iload hx hb dX12_isSo_326 (lv_at hl 0 rfl) ?_
                      refine lv_iconst (v := 1) hx hb dX12_isSo_328 (by decide) ?_
                      refine lv_isub hx hb dX12_isSo_329 ?_
                      refine lv_topi (fun x_1281 ex_1281 => ?_)
                      have h_1282 : rg x_1281 0 298 := rg_of_eq ex_1281 (rg_sub h_1223 (rg_k (1 : Int32) 1 rfl) (by decide))
                      have uh_1282 := h_1282.1
                      have vh_1282 := h_1282.2
                      have tx_1281 : (x_1281).toInt = (x_1222).toInt - 1 := by rw [ex_1281]; exact i_sub_rg (a2 := (x_1222).toInt) (b2 := 1) rfl rfl h_1223 (rg_k (1 : Int32) 1 rfl) (by decide)
                      refine pl_z hx hb hK hP hL_w_1224 hK_w_1224 hN_w_1224 (rg_in h_1282 (by decide)) dX12_isSo_330 ?_
                      refine lv_topi (fun x_1283 ex_1283 => ?_)
                      have h_1284 : rg x_1283 0 1 := rg_of_eq ex_1283 (GM.rR hG hT_w_1224 rfl)
                      have uh_1284 := h_1284.1
                      have vh_1284 := h_1284.2
                      have K_1297 : ∀  (H : Heap) (locs : List Loc) (ls : Array Slot), GM [] tg σ I ri I ri_934 rq → va_P D vwCl (pq_P t σ (I, J, ri_934, rj_935, rq)) H → va_D A (pq_P t σ (I, J, ri_934, rj_935, rq)) → va_S A s.heap H locs → lv_has ls 11 [(0, .ref this), (1, .int a0), (2, .int a1), (3, .int a2), (4, .int a3), (5, .int a4), (6, .int x_931), (7, .int x_1222), (8, .int x_933)] → W p l e ({ frames := 2, cells := 0, slots := 0, locals := 46 } : Room) s m (List.toArray ([.ref this, .int a0, .int a1, .int a2, .int a3, .int a4] : List Value)) below meth c H locs 0 0 Q (F0 m 344 ls [.int x_1225, .ref w_1224]) := by
                        intro H locs ls hG hP hD hS hl
                        refine lv_iconst (v := 1) hx hb dX12_isSo_344 (by decide) ?_
                        refine lv_goto (tgt := 349) hx hb dX12_isSo_345 (by decide) ?_
                        exact K_1274 _ _ _ hG hP hD hS (lv_sub hl [0, 1, 2, 3, 4, 5, 6, 7, 8] rfl)
                      refine lv_if_ne (tgt := 344) hx hb dX12_isSo_331 (by decide) (fun c_1298 => ?_) (fun c_1298 => ?_)
                      · have tc_1299 : (x_1283).toInt ≠ 0 := fun q => c_1298 (Int32.toInt_inj.mp q)
                        have h_1300 : rg x_1283 1 1 := rg_ne c_1298 h_1284 0 rfl (by decide)
                        have uh_1300 := h_1300.1
                        have vh_1300 := h_1300.2
                        exact K_1297 _ _ _ hG hP hD hS (lv_sub hl [3, 4, 5, 6, 7, 8, 9, 0, 10] rfl)
                      · have tc_1301 : (x_1283).toInt = 0 := congrArg Int32.toInt c_1298
                        have h_1302 : rg x_1283 0 0 := rg_and h_1284 (rg_of_eq c_1298 (rg_k (0 : Int32) 0 rfl)) (by decide)
                        have uh_1302 := h_1302.1
                        have vh_1302 := h_1302.2
                        refine lv_aload_n hx hb dX12_isSo_334 rfl (lv_at hl 3 rfl) ?_
                        refine pg_f (v := .ref w_1224) (C := RX12) (T := TX12) (N := 31) hx hb hts (tw_i inlX12) hown hK hP hL_this hK_this (by decide) rfl 21 (by decide) (hts _ (tw_c tw_185)) (pq_hv rfl hR_w_1224) dX12_isSo_335 ?_
                        refine lv_iload hx hb dX12_isSo_338 (lv_at hl 0 rfl) ?_
                        refine pl_z hx hb hK hP hL_w_1224 hK_w_1224 hN_w_1224 (rg_in h_1223 (by decide)) dX12_isSo_340 ?_
                        refine lv_topi (fun x_1303 ex_1303 => ?_)
                        have h_1304 : rg x_1303 0 1 := rg_of_eq ex_1303 (GM.rR hG hT_w_1224 rfl)
                        have uh_1304 := h_1304.1
                        have vh_1304 := h_1304.2
                        refine lv_if_eq (tgt := 348) hx hb dX12_isSo_341 (by decide) (fun c_1305 => ?_) (fun c_1305 => ?_)
                        · have tc_1306 : (x_1303).toInt = 0 := congrArg Int32.toInt c_1305
                          have h_1307 : rg x_1303 0 0 := rg_and h_1304 (rg_of_eq c_1305 (rg_k (0 : Int32) 0 rfl)) (by decide)
                          have uh_1307 := h_1307.1
                          have vh_1307 := h_1307.2
                          refine lv_iconst (v := 0) hx hb dX12_isSo_348 (by decide) ?_
                          exact K_1270 _ _ _ hG hP hD hS (lv_sub hl [3, 4, 5, 6, 7, 8, 9, 0, 10] rfl)
                        · have tc_1308 : (x_1303).toInt ≠ 0 := fun q => c_1305 (Int32.toInt_inj.mp q)
                          have h_1309 : rg x_1303 1 1 := rg_ne c_1305 h_1304 0 rfl (by decide)
                          have uh_1309 := h_1309.1
                          have vh_1309 := h_1309.2
                          exact K_1297 _ _ _ hG hP hD hS (lv_sub hl [3, 4, 5, 6, 7, 8, 9, 0, 10] rfl)
                    · have tc_1310 : (x_1191).toInt = 21 := congrArg Int32.toInt c_1278
                      have h_1311 : rg x_1191 21 21 := rg_and h_1219 (rg_of_eq c_1278 (rg_k (21 : Int32) 21 rfl)) (by decide)
                      have uh_1311 := h_1311.1
                      have vh_1311 := h_1311.2
                      refine lv_aload_n hx hb dX12_isSo_292 rfl (lv_at hl 3 rfl) ?_
                      refine pg_f (v := .ref w_1224) (C := RX12) (T := TX12) (N := 31) hx hb hts (tw_i inlX12) hown hK hP hL_this hK_this (by decide) rfl 21 (by decide) (hts _ (tw_c tw_185)) (pq_hv rfl hR_w_1224) dX12_isSo_293 ?_
                      refine lv_iload hx hb dX12_isSo_296 (lv_at hl 0 rfl) ?_
                      refine lv_iconst (v := 1) hx hb dX12_isSo_298 (by decide) ?_
                      refine lv_isub hx hb dX12_isSo_299 ?_
                      refine lv_topi (fun x_1312 ex_1312 => ?_)
                      have h_1313 : rg x_1312 0 298 := rg_of_eq ex_1312 (rg_sub h_1223 (rg_k (1 : Int32) 1 rfl) (by decide))
                      have uh_1313 := h_1313.1
                      have vh_1313 := h_1313.2
                      have tx_1312 : (x_1312).toInt = (x_1222).toInt - 1 := by rw [ex_1312]; exact i_sub_rg (a2 := (x_1222).toInt) (b2 := 1) rfl rfl h_1223 (rg_k (1 : Int32) 1 rfl) (by decide)
                      refine pl_z hx hb hK hP hL_w_1224 hK_w_1224 hN_w_1224 (rg_in h_1313 (by decide)) dX12_isSo_300 ?_
                      refine lv_topi (fun x_1314 ex_1314 => ?_)
                      have h_1315 : rg x_1314 0 1 := rg_of_eq ex_1314 (GM.rR hG hT_w_1224 rfl)
                      have uh_1315 := h_1315.1
                      have vh_1315 := h_1315.2
                      have K_1328 : ∀  (H : Heap) (locs : List Loc) (ls : Array Slot), GM [] tg σ I ri I ri_934 rq → va_P D vwCl (pq_P t σ (I, J, ri_934, rj_935, rq)) H → va_D A (pq_P t σ (I, J, ri_934, rj_935, rq)) → va_S A s.heap H locs → lv_has ls 11 [(0, .ref this), (1, .int a0), (2, .int a1), (3, .int a2), (4, .int a3), (5, .int a4), (6, .int x_931), (7, .int x_1222), (8, .int x_933)] → W p l e ({ frames := 2, cells := 0, slots := 0, locals := 46 } : Room) s m (List.toArray ([.ref this, .int a0, .int a1, .int a2, .int a3, .int a4] : List Value)) below meth c H locs 0 0 Q (F0 m 318 ls [.int x_1225, .ref w_1224]) := by
                        intro H locs ls hG hP hD hS hl
                        refine lv_iconst (v := 0) hx hb dX12_isSo_318 (by decide) ?_
                        refine lv_goto (tgt := 349) hx hb dX12_isSo_319 (by decide) ?_
                        exact K_1270 _ _ _ hG hP hD hS (lv_sub hl [0, 1, 2, 3, 4, 5, 6, 7, 8] rfl)
                      refine lv_if_eq (tgt := 318) hx hb dX12_isSo_301 (by decide) (fun c_1329 => ?_) (fun c_1329 => ?_)
                      · have tc_1330 : (x_1314).toInt = 0 := congrArg Int32.toInt c_1329
                        have h_1331 : rg x_1314 0 0 := rg_and h_1315 (rg_of_eq c_1329 (rg_k (0 : Int32) 0 rfl)) (by decide)
                        have uh_1331 := h_1331.1
                        have vh_1331 := h_1331.2
                        exact K_1328 _ _ _ hG hP hD hS (lv_sub hl [3, 4, 5, 6, 7, 8, 9, 0, 10] rfl)
                      · have tc_1332 : (x_1314).toInt ≠ 0 := fun q => c_1329 (Int32.toInt_inj.mp q)
                        have h_1333 : rg x_1314 1 1 := rg_ne c_1329 h_1315 0 rfl (by decide)
                        have uh_1333 := h_1333.1
                        have vh_1333 := h_1333.2
                        refine lv_aload_n hx hb dX12_isSo_304 rfl (lv_at hl 3 rfl) ?_
                        refine pg_f (v := .ref w_1224) (C := RX12) (T := TX12) (N := 31) hx hb hts (tw_i inlX12) hown hK hP hL_this hK_this (by decide) rfl 21 (by decide) (hts _ (tw_c tw_185)) (pq_hv rfl hR_w_1224) dX12_isSo_305 ?_
                        refine lv_iload hx hb dX12_isSo_308 (lv_at hl 0 rfl) ?_
                        refine pl_z hx hb hK hP hL_w_1224 hK_w_1224 hN_w_1224 (rg_in h_1223 (by decide)) dX12_isSo_310 ?_
                        refine lv_topi (fun x_1334 ex_1334 => ?_)
                        have h_1335 : rg x_1334 0 1 := rg_of_eq ex_1334 (GM.rR hG hT_w_1224 rfl)
                        have uh_1335 := h_1335.1
                        have vh_1335 := h_1335.2
                        refine lv_if_eq (tgt := 318) hx hb dX12_isSo_311 (by decide) (fun c_1336 => ?_) (fun c_1336 => ?_)
                        · have tc_1337 : (x_1334).toInt = 0 := congrArg Int32.toInt c_1336
                          have h_1338 : rg x_1334 0 0 := rg_and h_1335 (rg_of_eq c_1336 (rg_k (0 : Int32) 0 rfl)) (by decide)
                          have uh_1338 := h_1338.1
                          have vh_1338 := h_1338.2
                          exact K_1328 _ _ _ hG hP hD hS (lv_sub hl [3, 4, 5, 6, 7, 8, 9, 0, 10] rfl)
                        · have tc_1339 : (x_1334).toInt ≠ 0 := fun q => c_1336 (Int32.toInt_inj.mp q)
                          have h_1340 : rg x_1334 1 1 := rg_ne c_1336 h_1335 0 rfl (by decide)
                          have uh_1340 := h_1340.1
                          have vh_1340 := h_1340.2
                          refine lv_iconst (v := 1) hx hb dX12_isSo_314 (by decide) ?_
                          refine lv_goto (tgt := 349) hx hb dX12_isSo_315 (by decide) ?_
                          exact K_1274 _ _ _ hG hP hD hS (lv_sub hl [3, 4, 5, 6, 7, 8, 9, 0, 10] rfl)
                  · have tc_1341 : (x_1191).toInt = 20 := congrArg Int32.toInt c_1217
                    have h_1342 : rg x_1191 20 20 := rg_and h_1216 (rg_of_eq c_1217 (rg_k (20 : Int32) 20 rfl)) (by decide)
                    have uh_1342 := h_1342.1
                    have vh_1342 := h_1342.2
                    have his := is_5 (f := ri this_a) (b := bb) (fr := vf.toInt) (i := (x_933).toInt) (by omega) ho (by omega) hoj
                    have h_1343 : rg x_931 0 300 := ⟨by omega, by omega⟩
                    have uh_1343 := h_1343.1
                    have vh_1343 := h_1343.2
                    have h_1344 : rg x_932 1 300 := ⟨by omega, by omega⟩
                    have uh_1344 := h_1344.1
                    have vh_1344 := h_1344.2
                    refine lv_aload_n hx hb dX12_isSo_245 rfl (lv_at hl 2 rfl) ?_
                    obtain ⟨w_1345, hR_w_1345, hL_w_1345, hK_w_1345, hN_w_1345, hT_w_1345⟩ := sh_a hSH 405 (ci := 12) (kd := 15) (len := 330) rfl (by decide) hL_this hK_this
                    refine pg_f (v := .ref w_1345) (C := RX12) (T := TX12) (N := 31) hx hb hts (tw_i inlX12) hown hK hP hL_this hK_this (by decide) rfl 21 (by decide) (hts _ (tw_c tw_185)) (pq_hv rfl hR_w_1345) dX12_isSo_246 ?_
                    refine lv_iload hx hb dX12_isSo_249 (lv_at hl 9 rfl) ?_
                    refine lv_iconst (v := 1) hx hb dX12_isSo_251 (by decide) ?_
                    refine lv_isub hx hb dX12_isSo_252 ?_
                    refine lv_topi (fun x_1346 ex_1346 => ?_)
                    have h_1347 : rg x_1346 0 299 := rg_of_eq ex_1346 (rg_sub h_1344 (rg_k (1 : Int32) 1 rfl) (by decide))
                    have uh_1347 := h_1347.1
                    have vh_1347 := h_1347.2
                    have tx_1346 : (x_1346).toInt = (x_932).toInt - 1 := by rw [ex_1346]; exact i_sub_rg (a2 := (x_932).toInt) (b2 := 1) rfl rfl h_1344 (rg_k (1 : Int32) 1 rfl) (by decide)
                    refine lv_aload_n hx hb dX12_isSo_253 rfl (lv_at hl 2 rfl) ?_
                    refine pg_f (v := .ref w_1345) (C := RX12) (T := TX12) (N := 31) hx hb hts (tw_i inlX12) hown hK hP hL_this hK_this (by decide) rfl 21 (by decide) (hts _ (tw_c tw_185)) (pq_hv rfl hR_w_1345) dX12_isSo_254 ?_
                    refine lv_iload hx hb dX12_isSo_257 (lv_at hl 9 rfl) ?_
                    refine lv_iconst (v := 1) hx hb dX12_isSo_259 (by decide) ?_
                    refine lv_isub hx hb dX12_isSo_260 ?_
                    refine lv_topi (fun x_1348 ex_1348 => ?_)
                    have h_1349 : rg x_1348 0 299 := rg_of_eq ex_1348 (rg_sub h_1344 (rg_k (1 : Int32) 1 rfl) (by decide))
                    have uh_1349 := h_1349.1
                    have vh_1349 := h_1349.2
                    have tx_1348 : (x_1348).toInt = (x_932).toInt - 1 := by rw [ex_1348]; exact i_sub_rg (a2 := (x_932).toInt) (b2 := 1) rfl rfl h_1344 (rg_k (1 : Int32) 1 rfl) (by decide)
                    refine pl_z hx hb hK hP hL_w_1345 hK_w_1345 hN_w_1345 (rg_in h_1349 (by decide)) dX12_isSo_261 ?_
                    refine lv_topi (fun x_1350 ex_1350 => ?_)
                    have h_1351 : rg x_1350 0 1 := rg_of_eq ex_1350 (GM.rR hG hT_w_1345 rfl)
                    have uh_1351 := h_1351.1
                    have vh_1351 := h_1351.2
                    have K_1365 : ∀  (H : Heap) (locs : List Loc) (ls : Array Slot), rg (x_1350) 1 1 → GM [] tg σ I ri I ri_934 rq → va_P D vwCl (pq_P t σ (I, J, ri_934, rj_935, rq)) H → va_D A (pq_P t σ (I, J, ri_934, rj_935, rq)) → va_S A s.heap H locs → lv_has ls 11 [(0, .ref this), (1, .int a0), (2, .int a1), (3, .int a2), (4, .int a3), (5, .int a4), (6, .int x_931), (7, .int x_932), (8, .int x_933)] → W p l e ({ frames := 2, cells := 0, slots := 0, locals := 46 } : Room) s m (List.toArray ([.ref this, .int a0, .int a1, .int a2, .int a3, .int a4] : List Value)) below meth c H locs 0 0 Q (F0 m 270 ls [.int 0, .int x_1346, .ref w_1345]) := by
                      intro H locs ls h_1367 hG hP hD hS hl
                      have uh_1367 := h_1367.1
                      have vh_1367 := h_1367.2
                      refine pt_z hx hb hK hP hD hS hL_w_1345 hK_w_1345 hN_w_1345 (rg_in h_1347 (by decide)) (rg_w (rg_k (0 : Int32) 0 rfl) (by decide)) dX12_isSo_270 (fun r_1368 H locs er_1368 hP hD hS => ?_)
                      have hG := GM.wR hG hSH hT_w_1345 rfl er_1368 (rg_w (rg_k (0 : Int32) 0 rfl) (by decide)) (by decide)
                      refine lv_goto (tgt := 350) hx hb dX12_isSo_271 (by decide) ?_
                      obtain ⟨x_1369, ex_1369⟩ : ∃ y : Int32, y = x_933 + Int32.ofInt 1 := ⟨_, rfl⟩
                      have h_1370 : rg x_1369 1 300 := rg_of_eq ex_1369 (rg_add h_1180 (rg_k (Int32.ofInt 1) 1 rfl) (by decide))
                      have uh_1370 := h_1370.1
                      have vh_1370 := h_1370.2
                      have tx_1369 : (x_1369).toInt = (x_933).toInt + 1 := by rw [ex_1369]; exact i_add_rg (a2 := (x_933).toInt) (b2 := 1) rfl rfl h_1180 (rg_k (Int32.ofInt 1) 1 rfl) (by decide)
                      refine lv_iinc (v := x_1369) (lv' := [(8, .int x_1369), (0, .ref this), (1, .int a0), (2, .int a1), (3, .int a2), (4, .int a3), (5, .int a4), (6, .int x_931), (7, .int x_932)]) hx hb dX12_isSo_350 hl (k := 8) rfl ex_1369.symm (by decide) rfl (fun ls hl => ?_)
                      have tv1 : vN (ri this_a) bb vf.toInt ((x_1369).toInt) = vN (ri this_a) bb vf.toInt ((x_933).toInt + 1) := by rw [tx_1369]
                      have tv2 : tN (ri this_a) bb vf.toInt ((x_1369).toInt) = tN (ri this_a) bb vf.toInt ((x_933).toInt + 1) := by rw [tx_1369]
                      refine lv_goto (tgt := 16) hx hb dX12_isSo_353 (by decide) ?_
                      exact ih_1153 x_931 x_932 x_1369 r_1368 rj_935 _ _ _ (rg_w h_1343 (by decide)) (rg_w h_1344 (by decide)) (rg_w h_1370 (by decide)) (by omega) (by omega) (fr_w hrel_1165 er_1368 hT_w_1345) (ms_up 1 hm_1150 ex_1369 rfl (by decide) h_1180 (by decide) (by decide)) hG hP hD hS (lv_sub hl [1, 2, 3, 4, 5, 6, 7, 8, 0] rfl)
                    have K_1371 : ∀  (H : Heap) (locs : List Loc) (ls : Array Slot), rg (x_1350) 0 0 → GM [] tg σ I ri I ri_934 rq → va_P D vwCl (pq_P t σ (I, J, ri_934, rj_935, rq)) H → va_D A (pq_P t σ (I, J, ri_934, rj_935, rq)) → va_S A s.heap H locs → lv_has ls 11 [(0, .ref this), (1, .int a0), (2, .int a1), (3, .int a2), (4, .int a3), (5, .int a4), (6, .int x_931), (7, .int x_932), (8, .int x_933)] → W p l e ({ frames := 2, cells := 0, slots := 0, locals := 46 } : Room) s m (List.toArray ([.ref this, .int a0, .int a1, .int a2, .int a3, .int a4] : List Value)) below meth c H locs 0 0 Q (F0 m 270 ls [.int 1, .int x_1346, .ref w_1345]) := by
                      intro H locs ls h_1373 hG hP hD hS hl
                      have uh_1373 := h_1373.1
                      have vh_1373 := h_1373.2
                      refine pt_z hx hb hK hP hD hS hL_w_1345 hK_w_1345 hN_w_1345 (rg_in h_1347 (by decide)) (rg_w (rg_k (1 : Int32) 1 rfl) (by decide)) dX12_isSo_270 (fun r_1374 H locs er_1374 hP hD hS => ?_)
                      have hG := GM.wR hG hSH hT_w_1345 rfl er_1374 (rg_w (rg_k (1 : Int32) 1 rfl) (by decide)) (by decide)
                      refine lv_goto (tgt := 350) hx hb dX12_isSo_271 (by decide) ?_
                      obtain ⟨x_1375, ex_1375⟩ : ∃ y : Int32, y = x_933 + Int32.ofInt 1 := ⟨_, rfl⟩
                      have h_1376 : rg x_1375 1 300 := rg_of_eq ex_1375 (rg_add h_1180 (rg_k (Int32.ofInt 1) 1 rfl) (by decide))
                      have uh_1376 := h_1376.1
                      have vh_1376 := h_1376.2
                      have tx_1375 : (x_1375).toInt = (x_933).toInt + 1 := by rw [ex_1375]; exact i_add_rg (a2 := (x_933).toInt) (b2 := 1) rfl rfl h_1180 (rg_k (Int32.ofInt 1) 1 rfl) (by decide)
                      refine lv_iinc (v := x_1375) (lv' := [(8, .int x_1375), (0, .ref this), (1, .int a0), (2, .int a1), (3, .int a2), (4, .int a3), (5, .int a4), (6, .int x_931), (7, .int x_932)]) hx hb dX12_isSo_350 hl (k := 8) rfl ex_1375.symm (by decide) rfl (fun ls hl => ?_)
                      have tv1 : vN (ri this_a) bb vf.toInt ((x_1375).toInt) = vN (ri this_a) bb vf.toInt ((x_933).toInt + 1) := by rw [tx_1375]
                      have tv2 : tN (ri this_a) bb vf.toInt ((x_1375).toInt) = tN (ri this_a) bb vf.toInt ((x_933).toInt + 1) := by rw [tx_1375]
                      refine lv_goto (tgt := 16) hx hb dX12_isSo_353 (by decide) ?_
                      exact ih_1153 x_931 x_932 x_1375 r_1374 rj_935 _ _ _ (rg_w h_1343 (by decide)) (rg_w h_1344 (by decide)) (rg_w h_1376 (by decide)) (by omega) (by omega) (fr_w hrel_1165 er_1374 hT_w_1345) (ms_up 1 hm_1150 ex_1375 rfl (by decide) h_1180 (by decide) (by decide)) hG hP hD hS (lv_sub hl [1, 2, 3, 4, 5, 6, 7, 8, 0] rfl)
                    refine lv_if_ne (tgt := 269) hx hb dX12_isSo_262 (by decide) (fun c_1377 => ?_) (fun c_1377 => ?_)
                    · have tc_1378 : (x_1350).toInt ≠ 0 := fun q => c_1377 (Int32.toInt_inj.mp q)
                      have h_1379 : rg x_1350 1 1 := rg_ne c_1377 h_1351 0 rfl (by decide)
                      have uh_1379 := h_1379.1
                      have vh_1379 := h_1379.2
                      refine lv_iconst (v := 0) hx hb dX12_isSo_269 (by decide) ?_
                      exact K_1365 _ _ _ (rg_w h_1379 (by decide)) hG hP hD hS (lv_sub hl [2, 3, 4, 5, 6, 7, 8, 9, 10] rfl)
                    · have tc_1380 : (x_1350).toInt = 0 := congrArg Int32.toInt c_1377
                      have h_1381 : rg x_1350 0 0 := rg_and h_1351 (rg_of_eq c_1377 (rg_k (0 : Int32) 0 rfl)) (by decide)
                      have uh_1381 := h_1381.1
                      have vh_1381 := h_1381.2
                      refine lv_iconst (v := 1) hx hb dX12_isSo_265 (by decide) ?_
                      refine lv_goto (tgt := 270) hx hb dX12_isSo_266 (by decide) ?_
                      exact K_1371 _ _ _ (rg_w h_1381 (by decide)) hG hP hD hS (lv_sub hl [2, 3, 4, 5, 6, 7, 8, 9, 10] rfl)
                · have tc_1382 : (x_1191).toInt < 20 := Int32.lt_iff_toInt_lt.mp (nle c_1214)
                  have h_1383 : rg x_1191 10 19 := rg_lt1 (nle c_1214) h_1213 (rg_k (20 : Int32) 20 rfl) (by decide)
                  have uh_1383 := h_1383.1
                  have vh_1383 := h_1383.2
                  have his := is_4 (f := ri this_a) (b := bb) (fr := vf.toInt) (i := (x_933).toInt) (by omega) ho (by omega) hoj
                  have h_1384 : rg x_931 2 300 := ⟨by omega, by omega⟩
                  have uh_1384 := h_1384.1
                  have vh_1384 := h_1384.2
                  have h_1385 : rg x_932 0 300 := ⟨by omega, by omega⟩
                  have uh_1385 := h_1385.1
                  have vh_1385 := h_1385.2
                  obtain ⟨x_1386, ex_1386⟩ : ∃ y : Int32, y = x_931 + Int32.ofInt (-2) := ⟨_, rfl⟩
                  have h_1387 : rg x_1386 0 298 := rg_of_eq ex_1386 (rg_add h_1384 (rg_k (Int32.ofInt (-2)) (-2) rfl) (by decide))
                  have uh_1387 := h_1387.1
                  have vh_1387 := h_1387.2
                  have tx_1386 : (x_1386).toInt = (x_931).toInt + (-2) := by rw [ex_1386]; exact i_add_rg (a2 := (x_931).toInt) (b2 := (-2)) rfl rfl h_1384 (rg_k (Int32.ofInt (-2)) (-2) rfl) (by decide)
                  refine lv_iinc (v := x_1386) (lv' := [(6, .int x_1386), (10, .int x_1204), (9, .int x_1191), (0, .ref this), (1, .int a0), (2, .int a1), (3, .int a2), (4, .int a3), (5, .int a4), (7, .int x_932), (8, .int x_933)]) hx hb dX12_isSo_201 hl (k := 8) rfl ex_1386.symm (by decide) rfl (fun ls hl => ?_)
                  refine lv_aload_n hx hb dX12_isSo_204 rfl (lv_at hl 3 rfl) ?_
                  obtain ⟨w_1388, hR_w_1388, hL_w_1388, hK_w_1388, hN_w_1388, hT_w_1388⟩ := sh_a hSH 405 (ci := 12) (kd := 15) (len := 330) rfl (by decide) hL_this hK_this
                  refine pg_f (v := .ref w_1388) (C := RX12) (T := TX12) (N := 31) hx hb hts (tw_i inlX12) hown hK hP hL_this hK_this (by decide) rfl 21 (by decide) (hts _ (tw_c tw_185)) (pq_hv rfl hR_w_1388) dX12_isSo_205 ?_
                  refine lv_iload hx hb dX12_isSo_208 (lv_at hl 9 rfl) ?_
                  refine lv_iload hx hb dX12_isSo_210 (lv_at hl 2 rfl) ?_
                  refine lv_aload_n hx hb dX12_isSo_212 rfl (lv_at hl 3 rfl) ?_
                  obtain ⟨w_1389, hR_w_1389, hL_w_1389, hK_w_1389, hN_w_1389, hT_w_1389⟩ := sh_a hSH 404 (ci := 12) (kd := 14) (len := 330) rfl (by decide) hL_this hK_this
                  refine pg_f (v := .ref w_1389) (C := RX12) (T := TX12) (N := 31) hx hb hts (tw_i inlX12) hown hK hP hL_this hK_this (by decide) rfl 20 (by decide) (hts _ (tw_c tw_183)) (pq_hv rfl hR_w_1389) dX12_isSo_213 ?_
                  refine lv_iload hx hb dX12_isSo_216 (lv_at hl 0 rfl) ?_
                  refine pl_l hx hb hK hP hL_w_1389 hK_w_1389 hN_w_1389 (rg_in h_1387 (by decide)) dX12_isSo_218 ?_
                  refine lv_topl (fun x_1390 ex_1390 => ?_)
                  refine lv_aload_n hx hb dX12_isSo_219 rfl (lv_at hl 3 rfl) ?_
                  refine pg_f (v := .ref w_1389) (C := RX12) (T := TX12) (N := 31) hx hb hts (tw_i inlX12) hown hK hP hL_this hK_this (by decide) rfl 20 (by decide) (hts _ (tw_c tw_183)) (pq_hv rfl hR_w_1389) dX12_isSo_220 ?_
                  refine lv_iload hx hb dX12_isSo_223 (lv_at hl 0 rfl) ?_
                  refine lv_iconst (v := 1) hx hb dX12_isSo_225 (by decide) ?_
                  refine lv_iadd hx hb dX12_isSo_226 ?_
                  refine lv_topi (fun x_1391 ex_1391 => ?_)
                  have h_1392 : rg x_1391 1 299 := rg_of_eq ex_1391 (rg_add h_1387 (rg_k (1 : Int32) 1 rfl) (by decide))
                  have uh_1392 := h_1392.1
                  have vh_1392 := h_1392.2
                  have tx_1391 : (x_1391).toInt = (x_1386).toInt + 1 := by rw [ex_1391]; exact i_add_rg (a2 := (x_1386).toInt) (b2 := 1) rfl rfl h_1387 (rg_k (1 : Int32) 1 rfl) (by decide)
                  refine pl_l hx hb hK hP hL_w_1389 hK_w_1389 hN_w_1389 (rg_in h_1392 (by decide)) dX12_isSo_227 ?_
                  refine lv_topl (fun x_1393 ex_1393 => ?_)
                  refine pk_i (va_runS (As := [.int x_1191, .long x_1390, .long x_1393]) (rest := [.int x_932, .ref w_1388]) ⟨hx, hb, hml, hown, hts⟩ (s_X12_isAsked l D t σ I J ri_934 rj_935 rq H.size tg hSH hG.1 x_1191 x_1390 x_1393) (va_cwS 3 hts (tw_S tw_613 tw_614 tw_5 tw_615) rfl rfl rfl cd_yX12_isAsked_3 ⟨Nat.le_of_ble_eq_true rfl, Nat.le_of_ble_eq_true rfl⟩) ⟨pq_blind, pq_pre hK hN hP hD⟩ rfl rfl hl.1 rfl (lv_room (Nat.le_of_ble_eq_true rfl)) dX12_isSo_228 ⟨Nat.le_of_ble_eq_true rfl, Nat.le_of_ble_eq_true rfl⟩) hD hS hA (fun x_1394 σ1 μ1 H locs hw_1395 hP hD hS => ?_)
                  obtain ⟨hu_1396, hr_1398⟩ := hw_1395
                  obtain ⟨hu_1396a, hu_1396b⟩ := Prod.mk.inj hu_1396
                  rw [hu_1396a, hu_1396b] at hP hD
                  have h_1399 : rg x_1394 0 1 := by rcases hr_1398 with ⟨q, -⟩ | ⟨q, -⟩ <;> rw [q] <;> exact ⟨by decide, by decide⟩
                  have uh_1399 := h_1399.1
                  have vh_1399 := h_1399.2
                  refine pt_z hx hb hK hP hD hS hL_w_1388 hK_w_1388 hN_w_1388 (rg_in h_1385 (by decide)) (rg_w h_1399 (by decide)) dX12_isSo_231 (fun r_1400 H locs er_1400 hP hD hS => ?_)
                  have hG := GM.wR hG hSH hT_w_1388 rfl er_1400 (rg_w h_1399 (by decide)) (by decide)
                  obtain ⟨x_1401, ex_1401⟩ : ∃ y : Int32, y = x_932 + Int32.ofInt 1 := ⟨_, rfl⟩
                  have h_1402 : rg x_1401 1 301 := rg_of_eq ex_1401 (rg_add h_1385 (rg_k (Int32.ofInt 1) 1 rfl) (by decide))
                  have uh_1402 := h_1402.1
                  have vh_1402 := h_1402.2
                  have tx_1401 : (x_1401).toInt = (x_932).toInt + 1 := by rw [ex_1401]; exact i_add_rg (a2 := (x_932).toInt) (b2 := 1) rfl rfl h_1385 (rg_k (Int32.ofInt 1) 1 rfl) (by decide)
                  refine lv_iinc (v := x_1401) (lv' := [(7, .int x_1401), (6, .int x_1386), (10, .int x_1204), (9, .int x_1191), (0, .ref this), (1, .int a0), (2, .int a1), (3, .int a2), (4, .int a3), (5, .int a4), (8, .int x_933)]) hx hb dX12_isSo_232 hl (k := 9) rfl ex_1401.symm (by decide) rfl (fun ls hl => ?_)
                  refine lv_goto (tgt := 350) hx hb dX12_isSo_235 (by decide) ?_
                  obtain ⟨x_1403, ex_1403⟩ : ∃ y : Int32, y = x_933 + Int32.ofInt 1 := ⟨_, rfl⟩
                  have h_1404 : rg x_1403 1 300 := rg_of_eq ex_1403 (rg_add h_1180 (rg_k (Int32.ofInt 1) 1 rfl) (by decide))
                  have uh_1404 := h_1404.1
                  have vh_1404 := h_1404.2
                  have tx_1403 : (x_1403).toInt = (x_933).toInt + 1 := by rw [ex_1403]; exact i_add_rg (a2 := (x_933).toInt) (b2 := 1) rfl rfl h_1180 (rg_k (Int32.ofInt 1) 1 rfl) (by decide)
                  refine lv_iinc (v := x_1403) (lv' := [(8, .int x_1403), (7, .int x_1401), (6, .int x_1386), (10, .int x_1204), (9, .int x_1191), (0, .ref this), (1, .int a0), (2, .int a1), (3, .int a2), (4, .int a3), (5, .int a4)]) hx hb dX12_isSo_350 hl (k := 10) rfl ex_1403.symm (by decide) rfl (fun ls hl => ?_)
                  have tv1 : vN (ri this_a) bb vf.toInt ((x_1403).toInt) = vN (ri this_a) bb vf.toInt ((x_933).toInt + 1) := by rw [tx_1403]
                  have tv2 : tN (ri this_a) bb vf.toInt ((x_1403).toInt) = tN (ri this_a) bb vf.toInt ((x_933).toInt + 1) := by rw [tx_1403]
                  refine lv_goto (tgt := 16) hx hb dX12_isSo_353 (by decide) ?_
                  exact ih_1153 x_1386 x_1401 x_1403 r_1400 rj_935 _ _ _ (rg_w h_1387 (by decide)) (rg_w h_1402 (by decide)) (rg_w h_1404 (by decide)) (by omega) (by omega) (fr_w hrel_1165 er_1400 hT_w_1388) (ms_up 1 hm_1150 ex_1403 rfl (by decide) h_1180 (by decide) (by decide)) hG hP hD hS (lv_sub hl [5, 6, 7, 8, 9, 10, 2, 1, 0] rfl)
              · have tc_1405 : (x_1191).toInt < 10 := Int32.lt_iff_toInt_lt.mp (nle c_1211)
                have h_1406 : rg x_1191 3 9 := rg_lt1 (nle c_1211) h_1210 (rg_k (10 : Int32) 10 rfl) (by decide)
                have uh_1406 := h_1406.1
                have vh_1406 := h_1406.2
                have his := is_3 (f := ri this_a) (b := bb) (fr := vf.toInt) (i := (x_933).toInt) (by omega) ho (by omega) hoj
                have h_1407 : rg x_931 2 300 := ⟨by omega, by omega⟩
                have uh_1407 := h_1407.1
                have vh_1407 := h_1407.2
                have h_1408 : rg x_932 0 300 := ⟨by omega, by omega⟩
                have uh_1408 := h_1408.1
                have vh_1408 := h_1408.2
                obtain ⟨x_1409, ex_1409⟩ : ∃ y : Int32, y = x_931 + Int32.ofInt (-1) := ⟨_, rfl⟩
                have h_1410 : rg x_1409 1 299 := rg_of_eq ex_1409 (rg_add h_1407 (rg_k (Int32.ofInt (-1)) (-1) rfl) (by decide))
                have uh_1410 := h_1410.1
                have vh_1410 := h_1410.2
                have tx_1409 : (x_1409).toInt = (x_931).toInt + (-1) := by rw [ex_1409]; exact i_add_rg (a2 := (x_931).toInt) (b2 := (-1)) rfl rfl h_1407 (rg_k (Int32.ofInt (-1)) (-1) rfl) (by decide)
                refine lv_iinc (v := x_1409) (lv' := [(6, .int x_1409), (10, .int x_1204), (9, .int x_1191), (0, .ref this), (1, .int a0), (2, .int a1), (3, .int a2), (4, .int a3), (5, .int a4), (7, .int x_932), (8, .int x_933)]) hx hb dX12_isSo_158 hl (k := 8) rfl ex_1409.symm (by decide) rfl (fun ls hl => ?_)
                refine lv_aload_n hx hb dX12_isSo_161 rfl (lv_at hl 3 rfl) ?_
                obtain ⟨w_1411, hR_w_1411, hL_w_1411, hK_w_1411, hN_w_1411, hT_w_1411⟩ := sh_a hSH 404 (ci := 12) (kd := 14) (len := 330) rfl (by decide) hL_this hK_this
                refine pg_f (v := .ref w_1411) (C := RX12) (T := TX12) (N := 31) hx hb hts (tw_i inlX12) hown hK hP hL_this hK_this (by decide) rfl 20 (by decide) (hts _ (tw_c tw_183)) (pq_hv rfl hR_w_1411) dX12_isSo_162 ?_
                refine lv_iload hx hb dX12_isSo_165 (lv_at hl 0 rfl) ?_
                refine lv_iconst (v := 1) hx hb dX12_isSo_167 (by decide) ?_
                refine lv_isub hx hb dX12_isSo_168 ?_
                refine lv_topi (fun x_1412 ex_1412 => ?_)
                have h_1413 : rg x_1412 0 298 := rg_of_eq ex_1412 (rg_sub h_1410 (rg_k (1 : Int32) 1 rfl) (by decide))
                have uh_1413 := h_1413.1
                have vh_1413 := h_1413.2
                have tx_1412 : (x_1412).toInt = (x_1409).toInt - 1 := by rw [ex_1412]; exact i_sub_rg (a2 := (x_1409).toInt) (b2 := 1) rfl rfl h_1410 (rg_k (1 : Int32) 1 rfl) (by decide)
                refine lv_iload hx hb dX12_isSo_169 (lv_at hl 2 rfl) ?_
                refine lv_aload_n hx hb dX12_isSo_171 rfl (lv_at hl 3 rfl) ?_
                refine pg_f (v := .ref w_1411) (C := RX12) (T := TX12) (N := 31) hx hb hts (tw_i inlX12) hown hK hP hL_this hK_this (by decide) rfl 20 (by decide) (hts _ (tw_c tw_183)) (pq_hv rfl hR_w_1411) dX12_isSo_172 ?_
                refine lv_iload hx hb dX12_isSo_175 (lv_at hl 0 rfl) ?_
                refine lv_iconst (v := 1) hx hb dX12_isSo_177 (by decide) ?_
                refine lv_isub hx hb dX12_isSo_178 ?_
                refine lv_topi (fun x_1414 ex_1414 => ?_)
                have h_1415 : rg x_1414 0 298 := rg_of_eq ex_1414 (rg_sub h_1410 (rg_k (1 : Int32) 1 rfl) (by decide))
                have uh_1415 := h_1415.1
                have vh_1415 := h_1415.2
                have tx_1414 : (x_1414).toInt = (x_1409).toInt - 1 := by rw [ex_1414]; exact i_sub_rg (a2 := (x_1409).toInt) (b2 := 1) rfl rfl h_1410 (rg_k (1 : Int32) 1 rfl) (by decide)
                refine pl_l hx hb hK hP hL_w_1411 hK_w_1411 hN_w_1411 (rg_in h_1415 (by decide)) dX12_isSo_179 ?_
                refine lv_topl (fun x_1416 ex_1416 => ?_)
                refine lv_aload_n hx hb dX12_isSo_180 rfl (lv_at hl 3 rfl) ?_
                refine pg_f (v := .ref w_1411) (C := RX12) (T := TX12) (N := 31) hx hb hts (tw_i inlX12) hown hK hP hL_this hK_this (by decide) rfl 20 (by decide) (hts _ (tw_c tw_183)) (pq_hv rfl hR_w_1411) dX12_isSo_181 ?_
                refine lv_iload hx hb dX12_isSo_184 (lv_at hl 0 rfl) ?_
                refine pl_l hx hb hK hP hL_w_1411 hK_w_1411 hN_w_1411 (rg_in h_1410 (by decide)) dX12_isSo_186 ?_
                refine lv_topl (fun x_1417 ex_1417 => ?_)
                refine pk_l (va_runS (As := [.int x_1191, .long x_1416, .long x_1417]) (rest := [.int x_1412, .ref w_1411]) ⟨hx, hb, hml, hown, hts⟩ (s_X12_two l D t σ I J ri_934 rj_935 rq H.size tg hSH hG.1 x_1191 x_1416 x_1417) (va_cwS 3 hts (tw_S tw_605 tw_606 tw_5 tw_607) rfl rfl rfl cd_yX12_two_3 ⟨Nat.le_of_ble_eq_true rfl, Nat.le_of_ble_eq_true rfl⟩) ⟨pq_blind, pq_pre hK hN hP hD⟩ rfl rfl hl.1 rfl (lv_room (Nat.le_of_ble_eq_true rfl)) dX12_isSo_187 ⟨Nat.le_of_ble_eq_true rfl, Nat.le_of_ble_eq_true rfl⟩) hD hS hA (fun x_1418 σ1 μ1 H locs hw_1419 hP hD hS => ?_)
                have hu_1420 := hw_1419
                obtain ⟨hu_1420a, hu_1420b⟩ := Prod.mk.inj hu_1420
                rw [hu_1420a, hu_1420b] at hP hD
                refine pt_l hx hb hK hP hD hS hL_w_1411 hK_w_1411 hN_w_1411 (rg_in h_1413 (by decide)) dX12_isSo_190 (fun r_1423 H locs er_1423 hP hD hS => ?_)
                refine lv_goto (tgt := 350) hx hb dX12_isSo_191 (by decide) ?_
                obtain ⟨x_1424, ex_1424⟩ : ∃ y : Int32, y = x_933 + Int32.ofInt 1 := ⟨_, rfl⟩
                have h_1425 : rg x_1424 1 300 := rg_of_eq ex_1424 (rg_add h_1180 (rg_k (Int32.ofInt 1) 1 rfl) (by decide))
                have uh_1425 := h_1425.1
                have vh_1425 := h_1425.2
                have tx_1424 : (x_1424).toInt = (x_933).toInt + 1 := by rw [ex_1424]; exact i_add_rg (a2 := (x_933).toInt) (b2 := 1) rfl rfl h_1180 (rg_k (Int32.ofInt 1) 1 rfl) (by decide)
                refine lv_iinc (v := x_1424) (lv' := [(8, .int x_1424), (6, .int x_1409), (10, .int x_1204), (9, .int x_1191), (0, .ref this), (1, .int a0), (2, .int a1), (3, .int a2), (4, .int a3), (5, .int a4), (7, .int x_932)]) hx hb dX12_isSo_350 hl (k := 10) rfl ex_1424.symm (by decide) rfl (fun ls hl => ?_)
                have tv1 : vN (ri this_a) bb vf.toInt ((x_1424).toInt) = vN (ri this_a) bb vf.toInt ((x_933).toInt + 1) := by rw [tx_1424]
                have tv2 : tN (ri this_a) bb vf.toInt ((x_1424).toInt) = tN (ri this_a) bb vf.toInt ((x_933).toInt + 1) := by rw [tx_1424]
                refine lv_goto (tgt := 16) hx hb dX12_isSo_353 (by decide) ?_
                exact ih_1153 x_1409 x_932 x_1424 ri_934 r_1423 _ _ _ (rg_w h_1410 (by decide)) (rg_w h_1408 (by decide)) (rg_w h_1425 (by decide)) (by omega) (by omega) hrel_1165 (ms_up 1 hm_1150 ex_1424 rfl (by decide) h_1180 (by decide) (by decide)) hG hP hD hS (lv_sub hl [4, 5, 6, 7, 8, 9, 1, 10, 0] rfl)
            · have tc_1426 : (x_1191).toInt = 2 := congrArg Int32.toInt c_1208
              have h_1427 : rg x_1191 2 2 := rg_and h_1207 (rg_of_eq c_1208 (rg_k (2 : Int32) 2 rfl)) (by decide)
              have uh_1427 := h_1427.1
              have vh_1427 := h_1427.2
              have his := is_2 (f := ri this_a) (b := bb) (fr := vf.toInt) (i := (x_933).toInt) (by omega) ho (by omega) hoj
              have h_1428 : rg x_931 1 300 := ⟨by omega, by omega⟩
              have uh_1428 := h_1428.1
              have vh_1428 := h_1428.2
              have h_1429 : rg x_932 0 300 := ⟨by omega, by omega⟩
              have uh_1429 := h_1429.1
              have vh_1429 := h_1429.2
              refine lv_aload_n hx hb dX12_isSo_129 rfl (lv_at hl 2 rfl) ?_
              obtain ⟨w_1430, hR_w_1430, hL_w_1430, hK_w_1430, hN_w_1430, hT_w_1430⟩ := sh_a hSH 404 (ci := 12) (kd := 14) (len := 330) rfl (by decide) hL_this hK_this
              refine pg_f (v := .ref w_1430) (C := RX12) (T := TX12) (N := 31) hx hb hts (tw_i inlX12) hown hK hP hL_this hK_this (by decide) rfl 20 (by decide) (hts _ (tw_c tw_183)) (pq_hv rfl hR_w_1430) dX12_isSo_130 ?_
              refine lv_iload hx hb dX12_isSo_133 (lv_at hl 8 rfl) ?_
              refine lv_iconst (v := 1) hx hb dX12_isSo_135 (by decide) ?_
              refine lv_isub hx hb dX12_isSo_136 ?_
              refine lv_topi (fun x_1431 ex_1431 => ?_)
              have h_1432 : rg x_1431 0 299 := rg_of_eq ex_1431 (rg_sub h_1428 (rg_k (1 : Int32) 1 rfl) (by decide))
              have uh_1432 := h_1432.1
              have vh_1432 := h_1432.2
              have tx_1431 : (x_1431).toInt = (x_931).toInt - 1 := by rw [ex_1431]; exact i_sub_rg (a2 := (x_931).toInt) (b2 := 1) rfl rfl h_1428 (rg_k (1 : Int32) 1 rfl) (by decide)
              refine lv_aload_n hx hb dX12_isSo_137 rfl (lv_at hl 2 rfl) ?_
              refine pg_f (v := .ref w_1430) (C := RX12) (T := TX12) (N := 31) hx hb hts (tw_i inlX12) hown hK hP hL_this hK_this (by decide) rfl 20 (by decide) (hts _ (tw_c tw_183)) (pq_hv rfl hR_w_1430) dX12_isSo_138 ?_
              refine lv_iload hx hb dX12_isSo_141 (lv_at hl 8 rfl) ?_
              refine lv_iconst (v := 1) hx hb dX12_isSo_143 (by decide) ?_
              refine lv_isub hx hb dX12_isSo_144 ?_
              refine lv_topi (fun x_1433 ex_1433 => ?_)
              have h_1434 : rg x_1433 0 299 := rg_of_eq ex_1433 (rg_sub h_1428 (rg_k (1 : Int32) 1 rfl) (by decide))
              have uh_1434 := h_1434.1
              have vh_1434 := h_1434.2
              have tx_1433 : (x_1433).toInt = (x_931).toInt - 1 := by rw [ex_1433]; exact i_sub_rg (a2 := (x_931).toInt) (b2 := 1) rfl rfl h_1428 (rg_k (1 : Int32) 1 rfl) (by decide)
              refine pl_l hx hb hK hP hL_w_1430 hK_w_1430 hN_w_1430 (rg_in h_1434 (by decide)) dX12_isSo_145 ?_
              refine lv_topl (fun x_1435 ex_1435 => ?_)
              refine lv_lneg hx hb dX12_isSo_146 ?_
              refine lv_topl (fun x_1436 ex_1436 => ?_)
              refine pt_l hx hb hK hP hD hS hL_w_1430 hK_w_1430 hN_w_1430 (rg_in h_1432 (by decide)) dX12_isSo_147 (fun r_1437 H locs er_1437 hP hD hS => ?_)
              refine lv_goto (tgt := 350) hx hb dX12_isSo_148 (by decide) ?_
              obtain ⟨x_1438, ex_1438⟩ : ∃ y : Int32, y = x_933 + Int32.ofInt 1 := ⟨_, rfl⟩
              have h_1439 : rg x_1438 1 300 := rg_of_eq ex_1438 (rg_add h_1180 (rg_k (Int32.ofInt 1) 1 rfl) (by decide))
              have uh_1439 := h_1439.1
              have vh_1439 := h_1439.2
              have tx_1438 : (x_1438).toInt = (x_933).toInt + 1 := by rw [ex_1438]; exact i_add_rg (a2 := (x_933).toInt) (b2 := 1) rfl rfl h_1180 (rg_k (Int32.ofInt 1) 1 rfl) (by decide)
              refine lv_iinc (v := x_1438) (lv' := [(8, .int x_1438), (10, .int x_1204), (9, .int x_1191), (0, .ref this), (1, .int a0), (2, .int a1), (3, .int a2), (4, .int a3), (5, .int a4), (6, .int x_931), (7, .int x_932)]) hx hb dX12_isSo_350 hl (k := 10) rfl ex_1438.symm (by decide) rfl (fun ls hl => ?_)
              have tv1 : vN (ri this_a) bb vf.toInt ((x_1438).toInt) = vN (ri this_a) bb vf.toInt ((x_933).toInt + 1) := by rw [tx_1438]
              have tv2 : tN (ri this_a) bb vf.toInt ((x_1438).toInt) = tN (ri this_a) bb vf.toInt ((x_933).toInt + 1) := by rw [tx_1438]
              refine lv_goto (tgt := 16) hx hb dX12_isSo_353 (by decide) ?_
              exact ih_1153 x_931 x_932 x_1438 ri_934 r_1437 _ _ _ (rg_w h_1428 (by decide)) (rg_w h_1429 (by decide)) (rg_w h_1439 (by decide)) (by omega) (by omega) hrel_1165 (ms_up 1 hm_1150 ex_1438 rfl (by decide) h_1180 (by decide) (by decide)) hG hP hD hS (lv_sub hl [3, 4, 5, 6, 7, 8, 9, 10, 0] rfl)
          · have tc_1440 : (x_1191).toInt ≤ 1 := Int32.le_iff_toInt_le.mp (nlt c_1205)
            have h_1441 : rg x_1191 (-2147483648) 1 := rg_le1 (nlt c_1205) (rg_full _) (rg_k (1 : Int32) 1 rfl) (by decide)
            have uh_1441 := h_1441.1
            have vh_1441 := h_1441.2
            have his := is_1 (f := ri this_a) (b := bb) (fr := vf.toInt) (i := (x_933).toInt) (by omega) ho (by omega)
            have h_1442 : rg x_931 0 300 := ⟨by omega, by omega⟩
            have uh_1442 := h_1442.1
            have vh_1442 := h_1442.2
            have h_1443 : rg x_932 0 300 := ⟨by omega, by omega⟩
            have uh_1443 := h_1443.1
            have vh_1443 := h_1443.2
            refine lv_aload_n hx hb dX12_isSo_87 rfl (lv_at hl 2 rfl) ?_
            obtain ⟨w_1444, hR_w_1444, hL_w_1444, hK_w_1444, hN_w_1444, hT_w_1444⟩ := sh_a hSH 404 (ci := 12) (kd := 14) (len := 330) rfl (by decide) hL_this hK_this
            refine pg_f (v := .ref w_1444) (C := RX12) (T := TX12) (N := 31) hx hb hts (tw_i inlX12) hown hK hP hL_this hK_this (by decide) rfl 20 (by decide) (hts _ (tw_c tw_183)) (pq_hv rfl hR_w_1444) dX12_isSo_88 ?_
            refine lv_iload hx hb dX12_isSo_91 (lv_at hl 8 rfl) ?_
            refine lv_iload hx hb dX12_isSo_93 (lv_at hl 1 rfl) ?_
            have K_1462 : ∀  (x_1456 : Int64) (H : Heap) (locs : List Loc) (ls : Array Slot), GM [] tg σ I ri I ri_934 rq → va_P D vwCl (pq_P t σ (I, J, ri_934, rj_935, rq)) H → va_D A (pq_P t σ (I, J, ri_934, rj_935, rq)) → va_S A s.heap H locs → lv_has ls 11 [(0, .ref this), (1, .int a0), (2, .int a1), (3, .int a2), (4, .int a3), (5, .int a4), (6, .int x_931), (7, .int x_932), (8, .int x_933)] → W p l e ({ frames := 2, cells := 0, slots := 0, locals := 46 } : Room) s m (List.toArray ([.ref this, .int a0, .int a1, .int a2, .int a3, .int a4] : List Value)) below meth c H locs 0 0 Q (F0 m 116 ls [.long x_1456, .int x_931, .ref w_1444]) := by
              intro x_1456 H locs ls hG hP hD hS hl
              refine pt_l hx hb hK hP hD hS hL_w_1444 hK_w_1444 hN_w_1444 (rg_in h_1442 (by decide)) dX12_isSo_116 (fun r_1463 H locs er_1463 hP hD hS => ?_)
              obtain ⟨x_1464, ex_1464⟩ : ∃ y : Int32, y = x_931 + Int32.ofInt 1 := ⟨_, rfl⟩
              have h_1465 : rg x_1464 1 301 := rg_of_eq ex_1464 (rg_add h_1442 (rg_k (Int32.ofInt 1) 1 rfl) (by decide))
              have uh_1465 := h_1465.1
              have vh_1465 := h_1465.2
              have tx_1464 : (x_1464).toInt = (x_931).toInt + 1 := by rw [ex_1464]; exact i_add_rg (a2 := (x_931).toInt) (b2 := 1) rfl rfl h_1442 (rg_k (Int32.ofInt 1) 1 rfl) (by decide)
              refine lv_iinc (v := x_1464) (lv' := [(6, .int x_1464), (0, .ref this), (1, .int a0), (2, .int a1), (3, .int a2), (4, .int a3), (5, .int a4), (7, .int x_932), (8, .int x_933)]) hx hb dX12_isSo_117 hl (k := 6) rfl ex_1464.symm (by decide) rfl (fun ls hl => ?_)
              refine lv_goto (tgt := 350) hx hb dX12_isSo_120 (by decide) ?_
              obtain ⟨x_1466, ex_1466⟩ : ∃ y : Int32, y = x_933 + Int32.ofInt 1 := ⟨_, rfl⟩
              have h_1467 : rg x_1466 1 300 := rg_of_eq ex_1466 (rg_add h_1180 (rg_k (Int32.ofInt 1) 1 rfl) (by decide))
              have uh_1467 := h_1467.1
              have vh_1467 := h_1467.2
              have tx_1466 : (x_1466).toInt = (x_933).toInt + 1 := by rw [ex_1466]; exact i_add_rg (a2 := (x_933).toInt) (b2 := 1) rfl rfl h_1180 (rg_k (Int32.ofInt 1) 1 rfl) (by decide)
              refine lv_iinc (v := x_1466) (lv' := [(8, .int x_1466), (6, .int x_1464), (0, .ref this), (1, .int a0), (2, .int a1), (3, .int a2), (4, .int a3), (5, .int a4), (7, .int x_932)]) hx hb dX12_isSo_350 hl (k := 8) rfl ex_1466.symm (by decide) rfl (fun ls hl => ?_)
              have tv1 : vN (ri this_a) bb vf.toInt ((x_1466).toInt) = vN (ri this_a) bb vf.toInt ((x_933).toInt + 1) := by rw [tx_1466]
              have tv2 : tN (ri this_a) bb vf.toInt ((x_1466).toInt) = tN (ri this_a) bb vf.toInt ((x_933).toInt + 1) := by rw [tx_1466]
              refine lv_goto (tgt := 16) hx hb dX12_isSo_353 (by decide) ?_
              exact ih_1153 x_1464 x_932 x_1466 ri_934 r_1463 _ _ _ (rg_w h_1465 (by decide)) (rg_w h_1443 (by decide)) (rg_w h_1467 (by decide)) (by omega) (by omega) hrel_1165 (ms_up 1 hm_1150 ex_1466 rfl (by decide) h_1180 (by decide) (by decide)) hG hP hD hS (lv_sub hl [2, 3, 4, 5, 6, 7, 1, 8, 0] rfl)
            refine lv_if_ne (tgt := 104) hx hb dX12_isSo_95 (by decide) (fun c_1468 => ?_) (fun c_1468 => ?_)
            · have tc_1469 : (x_1191).toInt ≠ 0 := fun q => c_1468 (Int32.toInt_inj.mp q)
              refine lv_aload_n hx hb dX12_isSo_104 rfl (lv_at hl 2 rfl) ?_
              refine lv_iload_n hx hb dX12_isSo_105 rfl (lv_at hl 5 rfl) ?_
              refine lv_iload hx hb dX12_isSo_106 (lv_at hl 0 rfl) ?_
              refine lv_iload hx hb dX12_isSo_108 (lv_at hl 6 rfl) ?_
              refine lv_iload hx hb dX12_isSo_110 (lv_at hl 7 rfl) ?_
              refine pk_i (va_runV (As := [.int a2, .int x_1204, .int a3, .int a4]) (rest := [.int x_931, .ref w_1444]) ⟨hx, hb, hml, hown, hts⟩ (s_X12_named l D t σ I J ri_934 rj_935 rq H.size tg hSH hG.1 this a2 x_1204 a3 a4 hL_this hK_this (rg_w h_a2 (by decide))) (cwV 4 hts (tw_V tw_528 tw_529 tw_530 tw_5 tw_531) rfl rfl rfl cv_yX12_named_4 ⟨Nat.le_of_ble_eq_true rfl, Nat.le_of_ble_eq_true rfl⟩) ⟨pq_blind, pq_recv hK hP hL_this hK_this (by decide) rfl, pq_pre hK hN hP hD⟩ rfl rfl hl.1 rfl (lv_room (Nat.le_of_ble_eq_true rfl)) dX12_isSo_112 ⟨Nat.le_of_ble_eq_true rfl, Nat.le_of_ble_eq_true rfl⟩) hD hS hA (fun x_1470 σ1 μ1 H locs hw_1471 hP hD hS => ?_)
              have hu_1472 := hw_1471
              obtain ⟨hu_1472a, hu_1472b⟩ := Prod.mk.inj hu_1472
              rw [hu_1472a, hu_1472b] at hP hD
              refine lv_i2l hx hb dX12_isSo_115 rfl ?_
              refine lv_topl (fun x_1475 ex_1475 => ?_)
              exact K_1462 x_1475 _ _ _ hG hP hD hS (lv_sub hl [2, 3, 4, 5, 6, 7, 8, 9, 10] rfl)
            · have tc_1476 : (x_1191).toInt = 0 := congrArg Int32.toInt c_1468
              have h_1477 : rg x_1191 0 0 := rg_and h_1441 (rg_of_eq c_1468 (rg_k (0 : Int32) 0 rfl)) (by decide)
              have uh_1477 := h_1477.1
              have vh_1477 := h_1477.2
              refine lv_iload hx hb dX12_isSo_98 (lv_at hl 0 rfl) ?_
              refine lv_i2l hx hb dX12_isSo_100 rfl ?_
              refine lv_topl (fun x_1478 ex_1478 => ?_)
              refine lv_goto (tgt := 116) hx hb dX12_isSo_101 (by decide) ?_
              exact K_1462 x_1478 _ _ _ hG hP hD hS (lv_sub hl [2, 3, 4, 5, 6, 7, 8, 9, 10] rfl)
    exact L_1152 _ (0 : Int32) (0 : Int32) x_3 ri rj _ _ _ (rg_w (rg_k (0 : Int32) 0 rfl) (by decide)) (rg_w (rg_k (0 : Int32) 0 rfl) (by decide)) (rg_w h_6 (by decide)) (by have k0 : (0 : Int32).toInt = 0 := rfl; omega) (by have k0 : (0 : Int32).toInt = 0 := rfl; omega) (fun _ _ => rfl) (Nat.lt_succ_self _) hG hP hD hS (lv_sub hl [3, 4, 5, 6, 7, 8, 2, 1, 0] rfl)
  exact go _ _ _ hP hD hS hl

set_option maxHeartbeats 4000000 in
set_option maxRecDepth 100000 in
theorem s_X12_firstSo (l : Launch) (D : va_G) (t : pq_T) (σ : pq_S) (I : Nat → Nat → Int32) (J : Nat → Nat → Int64) (ri : Nat → Nat → Int32) (rj : Nat → Nat → Int64) (rq : Nat → Nat → Option Nat) (sz : Nat) (tg : Nat → Nat) (hSH : SH σ tg) (hG0 : GT tg I ri) (this : Nat) (a0 : Int32) (a1 : Int32) (a2 : Int32) (a3 : Int32) (hL_this : this ∈ σ.1) (hK_this : σ.2.1 this = 12) (h_a0 : rg a0 1 4) (h_a1 : rg a1 0 39) (this_a : Nat) (hR_this_a : σ.2.2.1 384 this = some this_a) (hL_this_a : this_a ∈ σ.1) (hK_this_a : σ.2.1 this_a = 13) (hN_this_a : σ.2.2.2 this_a = 12720) (hT_this_a : tg this_a = 384) : MetI l yX12_firstSo (wa yX12_firstSo cX12_firstSo 7 (some .int)) ({ frames := 3, cells := 0, slots := 0, locals := 76 }) [.ref this, .int a0, .int a1, .int a2, .int a3] D t σ (I, J, ri, rj, rq) sz 0 0 (fun (r : Int32) (u : pq_S × pq_M) => ∃ ri' : Nat → Nat → Int32, ∃ rj' : Nat → Nat → Int64, u = (σ, I, J, ri', rj', rq) ∧ GM [] tg σ I ri I ri' rq ∧ (∀ q, tg q ≠ 405 → ri' q = ri q) ∧ rg r (-1) 19) := by
  refine Met.ofW (cc := cX12_firstSo) (maxL := 7) (ret := (some .int)) (by decide) rfl ?_
  intro p e s m args below meth c s₁ B hml hv
  obtain ⟨rfl, hsz, hP, hK, hD0, hN⟩ := hv
  have hx := B.exec
  have hb := B.bytes
  have hr := B.returns
  have hts := atoms_spec (ws := (wa yX12_firstSo cX12_firstSo 7 (some .int))) B.pre
  have hown : s.vm.findClass RX12 = some m.cls := findClass_of_methodNamed B.named
  have hlocks := B.notSynchronized
  subst hsz
  have hD : va_D (pq_B t σ (I, J, ri, rj, rq) s.heap.size) (pq_P t σ (I, J, ri, rj, rq)) := hD0.self
  generalize hAe : pq_B t σ (I, J, ri, rj, rq) s.heap.size = A at hD ⊢
  have hA : ∀ q : Nat, s.heap.size ≤ q → A q := fun q h => by rw [← hAe]; exact Or.inr h
  have hS : va_S A s.heap s.heap [] := va_S.rf
  have hG : GM [] tg σ I ri I ri rq := ⟨hG0, fun _ _ _ => rfl, fun _ _ _ _ _ => rfl, fun _ _ _ _ _ _ => rfl⟩
  have hl := lv_entry ([.ref this, .int a0, .int a1, .int a2, .int a3]) (n := 7) (Nat.le_of_ble_eq_true rfl)
  rw [lg_entry_eq]
  generalize (lg_sl ([.ref this, .int a0, .int a1, .int a2, .int a3]) ++ List.replicate (7 - (lg_sl ([.ref this, .int a0, .int a1, .int a2, .int a3])).length) Slot.unset).toArray = ls at hl ⊢
  have hl : lv_has ls 7 [(0, .ref this), (1, .int a0), (2, .int a1), (3, .int a2), (4, .int a3)] := hl
  refine q_gen (fun Q hQ => ?_)
  have go : ∀ (H : Heap) (locs : List Loc) (ls : Array Slot), va_P D vwCl (pq_P t σ (I, J, ri, rj, rq)) H → va_D A (pq_P t σ (I, J, ri, rj, rq)) → va_S A s.heap H locs → lv_has ls 7 [(0, .ref this), (1, .int a0), (2, .int a1), (3, .int a2), (4, .int a3)] → W p l e ({ frames := 3, cells := 0, slots := 0, locals := 76 } : Room) s m (List.toArray ([.ref this, .int a0, .int a1, .int a2, .int a3] : List Value)) below meth c H locs 0 0 Q (F0 m 0 ls []) := by
    intro H locs ls hP hD hS hl
    refine lv_aload_n hx hb dX12_firstSo_0 rfl (lv_at hl 0 rfl) ?_
    refine lv_iload_n hx hb dX12_firstSo_1 rfl (lv_at hl 1 rfl) ?_
    refine lv_iload_n hx hb dX12_firstSo_2 rfl (lv_at hl 3 rfl) ?_
    refine pk_i (va_runV (As := [.int a0, .int a2]) (rest := []) ⟨hx, hb, hml, hown, hts⟩ (s_X12_textFor l D t σ I J ri rj rq H.size tg hSH hG.1 this a0 a2 hL_this hK_this this_a hR_this_a hL_this_a hK_this_a hN_this_a hT_this_a) (cwV 2 hts (tw_V tw_508 tw_509 tw_510 tw_5 tw_511) rfl rfl rfl cv_yX12_textFor_2 ⟨Nat.le_of_ble_eq_true rfl, Nat.le_of_ble_eq_true rfl⟩) ⟨pq_blind, pq_recv hK hP hL_this hK_this (by decide) rfl, pq_pre hK hN hP hD⟩ rfl rfl hl.1 rfl (lv_room (Nat.le_of_ble_eq_true rfl)) dX12_firstSo_3 ⟨Nat.le_of_ble_eq_true rfl, Nat.le_of_ble_eq_true rfl⟩) hD hS hA (fun x_1 σ1 μ1 H locs hw_2 hP hD hS => ?_)
    obtain ⟨hu_3, hp_6, hr_5⟩ := hw_2
    obtain ⟨hu_3a, hu_3b⟩ := Prod.mk.inj hu_3
    rw [hu_3a, hu_3b] at hP hD
    have tt_7 := hp_6
    refine lv_istore (lv' := [(5, .int x_1), (0, .ref this), (1, .int a0), (2, .int a1), (3, .int a2), (4, .int a3)]) hx hb dX12_firstSo_6 hl (by decide) rfl (fun ls hl => ?_)
    refine lv_iconst (v := 0) hx hb dX12_firstSo_8 (by decide) ?_
    refine lv_istore (lv' := [(6, .int 0), (5, .int x_1), (0, .ref this), (1, .int a0), (2, .int a1), (3, .int a2), (4, .int a3)]) hx hb dX12_firstSo_9 hl (by decide) rfl (fun ls hl => ?_)
    have L_545 : ∀ (n_544 : Nat) (x_483 : Int32) (ri_484 : Nat → Nat → Int32) (rj_485 : Nat → Nat → Int64) (H : Heap) (locs : List Loc) (ls : Array Slot), rg x_483 0 20 → (∀ q, tg q ≠ 405 → ri_484 q = ri q) → (20 - (x_483).toInt).toNat < n_544 → GM [] tg σ I ri I ri_484 rq → va_P D vwCl (pq_P t σ (I, J, ri_484, rj_485, rq)) H → va_D A (pq_P t σ (I, J, ri_484, rj_485, rq)) → va_S A s.heap H locs → lv_has ls 7 [(0, .ref this), (1, .int a0), (2, .int a1), (3, .int a2), (4, .int a3), (5, .int x_1), (6, .int x_483)] → W p l e ({ frames := 3, cells := 0, slots := 0, locals := 76 } : Room) s m (List.toArray ([.ref this, .int a0, .int a1, .int a2, .int a3] : List Value)) below meth c H locs 0 0 Q (F0 m 11 ls []) := by
      intro n_544
      induction n_544 with
      | zero => intro x_483 ri_484 rj_485 H locs ls h_549 hrel_550 hm_543 hG hP hD hS hl; exact absurd hm_543 (Nat.not_lt_zero _)
      | succ n_544 ih_546 =>
        intro x_483 ri_484 rj_485 H locs ls h_549 hrel_550 hm_543 hG hP hD hS hl
        have uh_549 := h_549.1
        have vh_549 := h_549.2
        refine lv_iload hx hb dX12_firstSo_11 (lv_at hl 5 rfl) ?_
        have K_606 : ∀  (H : Heap) (locs : List Loc) (ls : Array Slot), GM [] tg σ I ri I ri_484 rq → va_P D vwCl (pq_P t σ (I, J, ri_484, rj_485, rq)) H → va_D A (pq_P t σ (I, J, ri_484, rj_485, rq)) → va_S A s.heap H locs → lv_has ls 7 [] → W p l e ({ frames := 3, cells := 0, slots := 0, locals := 76 } : Room) s m (List.toArray ([.ref this, .int a0, .int a1, .int a2, .int a3] : List Value)) below meth c H locs 0 0 Q (F0 m 74 ls []) := by
          intro H locs ls hG hP hD hS hl
          refine lv_iconst (v := (-1)) hx hb dX12_firstSo_74 (by decide) ?_
          subst hQ
          exact W.iret (v := (-1)) hx hb hr (fun t1 ht hW => ⟨⟨(-1), (σ, I, J, ri_484, rj_485, rq), rfl, ⟨ri_484, rj_485, rfl, hG, hrel_550, (rg_w (rg_k (-1 : Int32) (-1) rfl) (by decide))⟩, by rw [ht]; exact hP, va_K.moved hW.alike hK, hD⟩, hS.F ht⟩) hS.2.2 dX12_firstSo_75
        refine lv_if_lt (tgt := 74) hx hb dX12_firstSo_13 (by decide) (fun c_607 => ?_) (fun c_607 => ?_)
        · have tc_608 : (x_1).toInt < 0 := Int32.lt_iff_toInt_lt.mp c_607
          have h_609 : rg x_1 (-1) (-1) := rg_lt1 c_607 hr_5 (rg_k (0 : Int32) 0 rfl) (by decide)
          have uh_609 := h_609.1
          have vh_609 := h_609.2
          exact K_606 _ _ _ hG hP hD hS (lv_sub hl [] rfl)
        · have tc_610 : 0 ≤ (x_1).toInt := Int32.le_iff_toInt_le.mp (nlt c_607)
          have h_611 : rg x_1 0 9 := rg_le2 (nlt c_607) (rg_k (0 : Int32) 0 rfl) hr_5 (by decide)
          have uh_611 := h_611.1
          have vh_611 := h_611.2
          refine lv_iload hx hb dX12_firstSo_16 (lv_at hl 6 rfl) ?_
          refine lv_aload_n hx hb dX12_firstSo_18 rfl (lv_at hl 0 rfl) ?_
          refine lv_iload hx hb dX12_firstSo_19 (lv_at hl 5 rfl) ?_
          refine pk_i (va_runV (As := [.int x_1]) (rest := [.int x_483]) ⟨hx, hb, hml, hown, hts⟩ (s_X12_clausesOf l D t σ I J ri_484 rj_485 rq H.size tg hSH hG.1 this x_1 hL_this hK_this (rg_w h_611 (by decide)) this_a hR_this_a hL_this_a hK_this_a hN_this_a hT_this_a) (cwV 1 hts (tw_V tw_516 tw_517 tw_518 tw_5 tw_519) rfl rfl rfl cv_yX12_clausesOf_1 ⟨Nat.le_of_ble_eq_true rfl, Nat.le_of_ble_eq_true rfl⟩) ⟨pq_blind, pq_recv hK hP hL_this hK_this (by decide) rfl, pq_pre hK hN hP hD⟩ rfl rfl hl.1 rfl (lv_room (Nat.le_of_ble_eq_true rfl)) dX12_firstSo_21 ⟨Nat.le_of_ble_eq_true rfl, Nat.le_of_ble_eq_true rfl⟩) hD hS hA (fun x_612 σ1 μ1 H locs hw_613 hP hD hS => ?_)
          obtain ⟨hu_614, hp_617, hr_616⟩ := hw_613
          obtain ⟨hu_614a, hu_614b⟩ := Prod.mk.inj hu_614
          rw [hu_614a, hu_614b] at hP hD
          have tt_618 := congrArg Int32.toInt hp_617
          refine lv_icmp_ge (tgt := 74) hx hb dX12_firstSo_24 (by decide) (fun c_619 => ?_) (fun c_619 => ?_)
          · have tc_620 : (x_612).toInt ≤ (x_483).toInt := Int32.le_iff_toInt_le.mp c_619
            exact K_606 _ _ _ hG hP hD hS (lv_sub hl [] rfl)
          · have tc_621 : (x_483).toInt < (x_612).toInt := Int32.lt_iff_toInt_lt.mp (nle c_619)
            have h_622 : rg x_483 0 19 := rg_lt1 (nle c_619) h_549 hr_616 (by decide)
            have uh_622 := h_622.1
            have vh_622 := h_622.2
            have h_623 : rg x_612 1 20 := rg_lt2 (nle c_619) h_549 hr_616 (by decide)
            have uh_623 := h_623.1
            have vh_623 := h_623.2
            refine lv_aload_n hx hb dX12_firstSo_27 rfl (lv_at hl 0 rfl) ?_
            refine pg_f (v := .ref this_a) (C := RX12) (T := TX12) (N := 31) hx hb hts (tw_i inlX12) hown hK hP hL_this hK_this (by decide) rfl 0 (by decide) (hts _ (tw_c tw_176)) (pq_hv rfl hR_this_a) dX12_firstSo_28 ?_
            refine lv_aload_n hx hb dX12_firstSo_31 rfl (lv_at hl 0 rfl) ?_
            refine lv_iload hx hb dX12_firstSo_32 (lv_at hl 5 rfl) ?_
            refine lv_iload hx hb dX12_firstSo_34 (lv_at hl 6 rfl) ?_
            refine pk_i (va_runV (As := [.int x_1, .int x_483]) (rest := [.ref this_a]) ⟨hx, hb, hml, hown, hts⟩ (s_X12_clauseAt l D t σ I J ri_484 rj_485 rq H.size tg hSH hG.1 this x_1 x_483 hL_this hK_this (rg_w h_611 (by decide)) (rg_w h_622 (by decide))) (cwV 2 hts (tw_V tw_520 tw_521 tw_522 tw_5 tw_523) rfl rfl rfl cv_yX12_clauseAt_2 ⟨Nat.le_of_ble_eq_true rfl, Nat.le_of_ble_eq_true rfl⟩) ⟨pq_blind, pq_recv hK hP hL_this hK_this (by decide) rfl, pq_pre hK hN hP hD⟩ rfl rfl hl.1 rfl (lv_room (Nat.le_of_ble_eq_true rfl)) dX12_firstSo_36 ⟨Nat.le_of_ble_eq_true rfl, Nat.le_of_ble_eq_true rfl⟩) hD hS hA (fun x_624 σ1 μ1 H locs hw_625 hP hD hS => ?_)
            obtain ⟨hu_626, hp_629, hr_628⟩ := hw_625
            obtain ⟨hu_626a, hu_626b⟩ := Prod.mk.inj hu_626
            rw [hu_626a, hu_626b] at hP hD
            have tt_630 := hp_629
            refine pl_i hx hb hK hP hL_this_a hK_this_a hN_this_a (rg_in hr_628 (by decide)) dX12_firstSo_39 ?_
            refine lv_topi (fun x_631 ex_631 => ?_)
            refine lv_iload_n hx hb dX12_firstSo_40 rfl (lv_at hl 1 rfl) ?_
            refine lv_icmp_ne (tgt := 68) hx hb dX12_firstSo_41 (by decide) (fun c_632 => ?_) (fun c_632 => ?_)
            · have tc_633 : (x_631).toInt ≠ (a0).toInt := fun q => c_632 (Int32.toInt_inj.mp q)
              obtain ⟨x_634, ex_634⟩ : ∃ y : Int32, y = x_483 + Int32.ofInt 1 := ⟨_, rfl⟩
              have h_635 : rg x_634 1 20 := rg_of_eq ex_634 (rg_add h_622 (rg_k (Int32.ofInt 1) 1 rfl) (by decide))
              have uh_635 := h_635.1
              have vh_635 := h_635.2
              have tx_634 : (x_634).toInt = (x_483).toInt + 1 := by rw [ex_634]; exact i_add_rg (a2 := (x_483).toInt) (b2 := 1) rfl rfl h_622 (rg_k (Int32.ofInt 1) 1 rfl) (by decide)
              refine lv_iinc (v := x_634) (lv' := [(6, .int x_634), (0, .ref this), (1, .int a0), (2, .int a1), (3, .int a2), (4, .int a3), (5, .int x_1)]) hx hb dX12_firstSo_68 hl (k := 6) rfl ex_634.symm (by decide) rfl (fun ls hl => ?_)
              refine lv_goto (tgt := 11) hx hb dX12_firstSo_71 (by decide) ?_
              exact ih_546 x_634 ri_484 rj_485 _ _ _ (rg_w h_635 (by decide)) hrel_550 (ms_up 1 hm_543 ex_634 rfl (by decide) h_622 (by decide) (by decide)) hG hP hD hS (lv_sub hl [1, 2, 3, 4, 5, 6, 0] rfl)
            · have tc_636 : (x_631).toInt = (a0).toInt := congrArg Int32.toInt c_632
              have h_637 : rg x_631 1 4 := rg_and (rg_full _) (rg_of_eq c_632 h_a0) (by decide)
              have uh_637 := h_637.1
              have vh_637 := h_637.2
              refine lv_aload_n hx hb dX12_firstSo_44 rfl (lv_at hl 0 rfl) ?_
              refine lv_iload hx hb dX12_firstSo_45 (lv_at hl 5 rfl) ?_
              refine lv_aload_n hx hb dX12_firstSo_47 rfl (lv_at hl 0 rfl) ?_
              refine lv_iload hx hb dX12_firstSo_48 (lv_at hl 5 rfl) ?_
              refine lv_iload hx hb dX12_firstSo_50 (lv_at hl 6 rfl) ?_
              refine pk_i (va_runV (As := [.int x_1, .int x_483]) (rest := [.int x_1, .ref this]) ⟨hx, hb, hml, hown, hts⟩ (s_X12_clauseAt l D t σ I J ri_484 rj_485 rq H.size tg hSH hG.1 this x_1 x_483 hL_this hK_this (rg_w h_611 (by decide)) (rg_w h_622 (by decide))) (cwV 2 hts (tw_V tw_520 tw_521 tw_522 tw_5 tw_523) rfl rfl rfl cv_yX12_clauseAt_2 ⟨Nat.le_of_ble_eq_true rfl, Nat.le_of_ble_eq_true rfl⟩) ⟨pq_blind, pq_recv hK hP hL_this hK_this (by decide) rfl, pq_pre hK hN hP hD⟩ rfl rfl hl.1 rfl (lv_room (Nat.le_of_ble_eq_true rfl)) dX12_firstSo_52 ⟨Nat.le_of_ble_eq_true rfl, Nat.le_of_ble_eq_true rfl⟩) hD hS hA (fun x_638 σ1 μ1 H locs hw_639 hP hD hS => ?_)
              obtain ⟨hu_640, hp_643, hr_642⟩ := hw_639
              obtain ⟨hu_640a, hu_640b⟩ := Prod.mk.inj hu_640
              rw [hu_640a, hu_640b] at hP hD
              have tt_644 := hp_643
              refine lv_iload_n hx hb dX12_firstSo_55 rfl (lv_at hl 2 rfl) ?_
              refine lv_iload_n hx hb dX12_firstSo_56 rfl (lv_at hl 3 rfl) ?_
              refine lv_iload hx hb dX12_firstSo_57 (lv_at hl 4 rfl) ?_
              have hsa : ri_484 this_a = ri this_a := (hrel_550 this_a (by rw [hT_this_a]; decide))
              have hw1 : 0 ≤ (x_1).toInt ∧ (x_1).toInt < (ri_484 this_a 6).toInt := by rw [hsa]; omega
              have hw2 : ∃ c : Nat, c < 20 ∧ (c : Int) < (ri_484 this_a (3720 + 900 * (x_1).toNatClampNeg)).toInt ∧ (x_638).toInt = 3721 + 900 * (x_1).toInt + 12 * c := ⟨x_483.toNatClampNeg, by have z0 := clampE x_483; omega, by have z0 := clampE x_483; omega, by have z0 := clampE x_483; omega⟩
              have hwe : x_638 = x_624 := Int32.toInt_inj.mp (by omega)
              have hwz : ri_484 this_a (x_638).toNatClampNeg = x_631 := by rw [hwe]; exact ex_631.symm
              have hw3 : 1 ≤ (ri_484 this_a (x_638).toNatClampNeg).toInt ∧ (ri_484 this_a (x_638).toNatClampNeg).toInt ≤ 4 := by rw [hwz]; omega
              have h_645 : rg x_638 3721 12060 := ⟨by omega, by omega⟩
              have uh_645 := h_645.1
              have vh_645 := h_645.2
              refine pk_i (va_runV (As := [.int x_1, .int x_638, .int a1, .int a2, .int a3]) (rest := []) ⟨hx, hb, hml, hown, hts⟩ (s_X12_isSo l D t σ I J ri_484 rj_485 rq H.size tg hSH hG.1 this x_1 x_638 a1 a2 a3 hL_this hK_this (rg_w h_611 (by decide)) (rg_w h_645 (by decide)) (rg_w h_a1 (by decide)) this_a hR_this_a hL_this_a hK_this_a hN_this_a hT_this_a (by assumption) (by assumption) (by assumption)) (cwV 5 hts (tw_V tw_601 tw_602 tw_603 tw_5 tw_604) rfl rfl rfl cv_yX12_isSo_5 ⟨Nat.le_of_ble_eq_true rfl, Nat.le_of_ble_eq_true rfl⟩) ⟨pq_blind, pq_recv hK hP hL_this hK_this (by decide) rfl, pq_pre hK hN hP hD⟩ rfl rfl hl.1 rfl (lv_room (Nat.le_of_ble_eq_true rfl)) dX12_firstSo_59 ⟨Nat.le_of_ble_eq_true rfl, Nat.le_of_ble_eq_true rfl⟩) hD hS hA (fun x_646 σ1 μ1 H locs hw_647 hP hD hS => ?_)
              obtain ⟨ri_648, rj_649, hu_650, hg_651, hp_653, hr_652⟩ := hw_647
              obtain ⟨hu_650a, hu_650b⟩ := Prod.mk.inj hu_650
              rw [hu_650a, hu_650b] at hP hD
              have hG := GM.tr hG hg_651 (by decide)
              have h_654 : rg x_646 0 1 := by rcases hr_652 with ⟨q, -⟩ | ⟨q, -⟩ <;> rw [q] <;> exact ⟨by decide, by decide⟩
              have uh_654 := h_654.1
              have vh_654 := h_654.2
              refine lv_if_eq (tgt := 68) hx hb dX12_firstSo_62 (by decide) (fun c_655 => ?_) (fun c_655 => ?_)
              · have tc_656 : (x_646).toInt = 0 := congrArg Int32.toInt c_655
                have h_657 : rg x_646 0 0 := rg_and h_654 (rg_of_eq c_655 (rg_k (0 : Int32) 0 rfl)) (by decide)
                have uh_657 := h_657.1
                have vh_657 := h_657.2
                obtain ⟨x_658, ex_658⟩ : ∃ y : Int32, y = x_483 + Int32.ofInt 1 := ⟨_, rfl⟩
                have h_659 : rg x_658 1 20 := rg_of_eq ex_658 (rg_add h_622 (rg_k (Int32.ofInt 1) 1 rfl) (by decide))
                have uh_659 := h_659.1
                have vh_659 := h_659.2
                have tx_658 : (x_658).toInt = (x_483).toInt + 1 := by rw [ex_658]; exact i_add_rg (a2 := (x_483).toInt) (b2 := 1) rfl rfl h_622 (rg_k (Int32.ofInt 1) 1 rfl) (by decide)
                refine lv_iinc (v := x_658) (lv' := [(6, .int x_658), (0, .ref this), (1, .int a0), (2, .int a1), (3, .int a2), (4, .int a3), (5, .int x_1)]) hx hb dX12_firstSo_68 hl (k := 6) rfl ex_658.symm (by decide) rfl (fun ls hl => ?_)
                refine lv_goto (tgt := 11) hx hb dX12_firstSo_71 (by decide) ?_
                exact ih_546 x_658 ri_648 rj_649 _ _ _ (rg_w h_659 (by decide)) (fr_t hrel_550 hp_653) (ms_up 1 hm_543 ex_658 rfl (by decide) h_622 (by decide) (by decide)) hG hP hD hS (lv_sub hl [1, 2, 3, 4, 5, 6, 0] rfl)
              · have tc_660 : (x_646).toInt ≠ 0 := fun q => c_655 (Int32.toInt_inj.mp q)
                have h_661 : rg x_646 1 1 := rg_ne c_655 h_654 0 rfl (by decide)
                have uh_661 := h_661.1
                have vh_661 := h_661.2
                refine lv_iload hx hb dX12_firstSo_65 (lv_at hl 6 rfl) ?_
                subst hQ
                exact W.iret (v := x_483) hx hb hr (fun t1 ht hW => ⟨⟨x_483, (σ, I, J, ri_648, rj_649, rq), rfl, ⟨ri_648, rj_649, rfl, hG, (fr_t hrel_550 hp_653), (rg_w h_622 (by decide))⟩, by rw [ht]; exact hP, va_K.moved hW.alike hK, hD⟩, hS.F ht⟩) hS.2.2 dX12_firstSo_67
    exact L_545 _ (0 : Int32) ri rj _ _ _ (rg_w (rg_k (0 : Int32) 0 rfl) (by decide)) (fun _ _ => rfl) (Nat.lt_succ_self _) hG hP hD hS (lv_sub hl [2, 3, 4, 5, 6, 1, 0] rfl)
  exact go _ _ _ hP hD hS hl
