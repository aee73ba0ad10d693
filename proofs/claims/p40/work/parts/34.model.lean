theorem dX12_textFor_0 : decode cX12_textFor 0 = .ok (.aload_n 0, 1) := oc_42 (by decide +kernel)
theorem dX12_textFor_1 : decode cX12_textFor 1 = .ok (.getfield 7, 3) := oc_180 (a := 0) (b := 7) (by decide +kernel)
theorem dX12_textFor_4 : decode cX12_textFor 4 = .ok (.bipush 7, 2) := oc_16 (a := 7) (by decide +kernel)
theorem dX12_textFor_6 : decode cX12_textFor 6 = .ok (.iaload, 1) := oc_46 (by decide +kernel)
theorem dX12_textFor_7 : decode cX12_textFor 7 = .ok (.iconst 1, 1) := oc_4 (by decide +kernel)
theorem dX12_textFor_8 : decode cX12_textFor 8 = .ok (.isub, 1) := oc_100 (by decide +kernel)
theorem dX12_textFor_9 : decode cX12_textFor 9 = .ok (.istore_n 3, 1) := oc_62 (by decide +kernel)
theorem dX12_textFor_10 : decode cX12_textFor 10 = .ok (.iload_n 3, 1) := oc_29 (by decide +kernel)
theorem dX12_textFor_11 : decode cX12_textFor 11 = .ok (.ifCond .lt 66, 3) := oc_155 (a := 0) (b := 66) (by decide +kernel)
theorem dX12_textFor_77 : decode cX12_textFor 77 = .ok (.iconst (-1), 1) := oc_2 (by decide +kernel)
theorem dX12_textFor_78 : decode cX12_textFor 78 = .ok (.ireturn, 1) := oc_172 (by decide +kernel)
theorem dX12_textFor_14 : decode cX12_textFor 14 = .ok (.sipush 2220, 3) := oc_17 (a := 8) (b := 172) (by decide +kernel)
theorem dX12_textFor_17 : decode cX12_textFor 17 = .ok (.iconst 4, 1) := oc_7 (by decide +kernel)
theorem dX12_textFor_18 : decode cX12_textFor 18 = .ok (.iload_n 3, 1) := oc_29 (by decide +kernel)
theorem dX12_textFor_19 : decode cX12_textFor 19 = .ok (.imul, 1) := oc_104 (by decide +kernel)
theorem dX12_textFor_20 : decode cX12_textFor 20 = .ok (.iadd, 1) := oc_96 (by decide +kernel)
theorem dX12_textFor_21 : decode cX12_textFor 21 = .ok (.istore 4, 2) := oc_54 (by decide +kernel)
theorem dX12_textFor_23 : decode cX12_textFor 23 = .ok (.iload_n 2, 1) := oc_28 (by decide +kernel)
theorem dX12_textFor_24 : decode cX12_textFor 24 = .ok (.aload_n 0, 1) := oc_42 (by decide +kernel)
theorem dX12_textFor_25 : decode cX12_textFor 25 = .ok (.getfield 7, 3) := oc_180 (a := 0) (b := 7) (by decide +kernel)
theorem dX12_textFor_28 : decode cX12_textFor 28 = .ok (.iload 4, 2) := oc_21 (by decide +kernel)
theorem dX12_textFor_30 : decode cX12_textFor 30 = .ok (.iconst 1, 1) := oc_4 (by decide +kernel)
theorem dX12_textFor_31 : decode cX12_textFor 31 = .ok (.iadd, 1) := oc_96 (by decide +kernel)
theorem dX12_textFor_32 : decode cX12_textFor 32 = .ok (.iaload, 1) := oc_46 (by decide +kernel)
theorem dX12_textFor_33 : decode cX12_textFor 33 = .ok (.aload_n 0, 1) := oc_42 (by decide +kernel)
theorem dX12_textFor_34 : decode cX12_textFor 34 = .ok (.getfield 7, 3) := oc_180 (a := 0) (b := 7) (by decide +kernel)
theorem dX12_textFor_37 : decode cX12_textFor 37 = .ok (.iload 4, 2) := oc_21 (by decide +kernel)
theorem dX12_textFor_39 : decode cX12_textFor 39 = .ok (.iconst 2, 1) := oc_5 (by decide +kernel)
theorem dX12_textFor_40 : decode cX12_textFor 40 = .ok (.iadd, 1) := oc_96 (by decide +kernel)
theorem dX12_textFor_41 : decode cX12_textFor 41 = .ok (.iaload, 1) := oc_46 (by decide +kernel)
theorem dX12_textFor_42 : decode cX12_textFor 42 = .ok (.invokestatic 62, 3) := oc_184 (a := 0) (b := 62) (by decide +kernel)
theorem dX12_textFor_71 : decode cX12_textFor 71 = .ok (.iinc 3 (-1), 3) := oc_132 (b := 255) (by decide +kernel)
theorem dX12_textFor_74 : decode cX12_textFor 74 = .ok (.goto (-64), 3) := oc_167 (a := 255) (b := 192) (by decide +kernel)
theorem dX12_textFor_45 : decode cX12_textFor 45 = .ok (.ifCond .eq 26, 3) := oc_153 (a := 0) (b := 26) (by decide +kernel)
theorem dX12_textFor_48 : decode cX12_textFor 48 = .ok (.aload_n 0, 1) := oc_42 (by decide +kernel)
theorem dX12_textFor_49 : decode cX12_textFor 49 = .ok (.aload_n 0, 1) := oc_42 (by decide +kernel)
theorem dX12_textFor_50 : decode cX12_textFor 50 = .ok (.getfield 7, 3) := oc_180 (a := 0) (b := 7) (by decide +kernel)
theorem dX12_textFor_53 : decode cX12_textFor 53 = .ok (.iload 4, 2) := oc_21 (by decide +kernel)
theorem dX12_textFor_55 : decode cX12_textFor 55 = .ok (.iaload, 1) := oc_46 (by decide +kernel)
theorem dX12_textFor_56 : decode cX12_textFor 56 = .ok (.iload_n 1, 1) := oc_27 (by decide +kernel)
theorem tw_512 : Cond.methodLink RX12 272 yX12_firstOf ∈ wsL_law := sg_22 _ (List.mem_of_getElem? (i := 8) rfl)
theorem tw_513 : Cond.instanceMethod yX12_firstOf ∈ wsL_law := sg_22 _ (List.mem_of_getElem? (i := 9) rfl)
theorem tw_514 : Cond.selects RX12 yX12_firstOf yX12_firstOf ∈ wsL_law := sg_22 _ (List.mem_of_getElem? (i := 10) rfl)
theorem tw_515 : Cond.code yX12_firstOf cX12_firstOf 4 (some .int) ∈ wsL_law := sg_22 _ (List.mem_of_getElem? (i := 11) rfl)
theorem dX12_textFor_57 : decode cX12_textFor 57 = .ok (.invokevirtual 272, 3) := oc_182 (a := 1) (b := 16) (by decide +kernel)
theorem dX12_textFor_60 : decode cX12_textFor 60 = .ok (.ifCond .lt 11, 3) := oc_155 (a := 0) (b := 11) (by decide +kernel)
theorem dX12_textFor_63 : decode cX12_textFor 63 = .ok (.aload_n 0, 1) := oc_42 (by decide +kernel)
theorem dX12_textFor_64 : decode cX12_textFor 64 = .ok (.getfield 7, 3) := oc_180 (a := 0) (b := 7) (by decide +kernel)
theorem dX12_textFor_67 : decode cX12_textFor 67 = .ok (.iload 4, 2) := oc_21 (by decide +kernel)
theorem dX12_textFor_69 : decode cX12_textFor 69 = .ok (.iaload, 1) := oc_46 (by decide +kernel)
theorem dX12_textFor_70 : decode cX12_textFor 70 = .ok (.ireturn, 1) := oc_172 (by decide +kernel)
theorem dX12_keysFor_0 : decode cX12_keysFor 0 = .ok (.aload_n 0, 1) := oc_42 (by decide +kernel)
theorem dX12_keysFor_1 : decode cX12_keysFor 1 = .ok (.iload_n 1, 1) := oc_27 (by decide +kernel)
theorem dX12_keysFor_2 : decode cX12_keysFor 2 = .ok (.iload_n 2, 1) := oc_28 (by decide +kernel)
theorem tw_508 : Cond.methodLink RX12 275 yX12_textFor ∈ wsL_law := sg_22 _ (List.mem_of_getElem? (i := 4) rfl)
theorem tw_509 : Cond.instanceMethod yX12_textFor ∈ wsL_law := sg_22 _ (List.mem_of_getElem? (i := 5) rfl)
theorem tw_510 : Cond.selects RX12 yX12_textFor yX12_textFor ∈ wsL_law := sg_22 _ (List.mem_of_getElem? (i := 6) rfl)
theorem tw_511 : Cond.code yX12_textFor cX12_textFor 5 (some .int) ∈ wsL_law := sg_22 _ (List.mem_of_getElem? (i := 7) rfl)
theorem dX12_keysFor_3 : decode cX12_keysFor 3 = .ok (.invokevirtual 275, 3) := oc_182 (a := 1) (b := 19) (by decide +kernel)
theorem dX12_keysFor_6 : decode cX12_keysFor 6 = .ok (.istore_n 3, 1) := oc_62 (by decide +kernel)
theorem dX12_keysFor_7 : decode cX12_keysFor 7 = .ok (.aload_n 0, 1) := oc_42 (by decide +kernel)
theorem dX12_keysFor_8 : decode cX12_keysFor 8 = .ok (.iload_n 3, 1) := oc_29 (by decide +kernel)
theorem dX12_keysFor_9 : decode cX12_keysFor 9 = .ok (.ifCond .ge 7, 3) := oc_156 (a := 0) (b := 7) (by decide +kernel)
theorem dX12_keysFor_16 : decode cX12_keysFor 16 = .ok (.aload_n 0, 1) := oc_42 (by decide +kernel)
theorem dX12_keysFor_17 : decode cX12_keysFor 17 = .ok (.iload_n 3, 1) := oc_29 (by decide +kernel)
theorem dX12_keysFor_18 : decode cX12_keysFor 18 = .ok (.iload_n 1, 1) := oc_27 (by decide +kernel)
theorem dX12_keysFor_19 : decode cX12_keysFor 19 = .ok (.invokevirtual 272, 3) := oc_182 (a := 1) (b := 16) (by decide +kernel)
theorem tw_507 : Cond.fieldLink RX12 307 "RingsUnderModel" "keys0" "I" ∈ wsL_law := sg_22 _ (List.mem_of_getElem? (i := 3) rfl)
theorem dX12_keysFor_22 : decode cX12_keysFor 22 = .ok (.putfield 307, 3) := oc_181 (a := 1) (b := 51) (by decide +kernel)
theorem dX12_keysFor_25 : decode cX12_keysFor 25 = .ok (.iload_n 3, 1) := oc_29 (by decide +kernel)
theorem dX12_keysFor_26 : decode cX12_keysFor 26 = .ok (.ifCond .lt 7, 3) := oc_155 (a := 0) (b := 7) (by decide +kernel)
theorem dX12_keysFor_29 : decode cX12_keysFor 29 = .ok (.iconst 1, 1) := oc_4 (by decide +kernel)
theorem dX12_keysFor_30 : decode cX12_keysFor 30 = .ok (.goto 4, 3) := oc_167 (a := 0) (b := 4) (by decide +kernel)
theorem dX12_keysFor_34 : decode cX12_keysFor 34 = .ok (.ireturn, 1) := oc_172 (by decide +kernel)
theorem dX12_keysFor_12 : decode cX12_keysFor 12 = .ok (.iconst (-1), 1) := oc_2 (by decide +kernel)
theorem dX12_keysFor_13 : decode cX12_keysFor 13 = .ok (.goto 9, 3) := oc_167 (a := 0) (b := 9) (by decide +kernel)
theorem dX12_keysFor_33 : decode cX12_keysFor 33 = .ok (.iconst 0, 1) := oc_3 (by decide +kernel)
theorem dX12_named_0 : decode cX12_named 0 = .ok (.iload_n 2, 1) := oc_28 (by decide +kernel)
theorem dX12_named_1 : decode cX12_named 1 = .ok (.tableswitch 65 0 4 #[35, 42, 49, 56, 63], 35) := by decide +kernel
theorem dX12_named_36 : decode cX12_named 36 = .ok (.aload_n 0, 1) := oc_42 (by decide +kernel)
theorem dX12_named_37 : decode cX12_named 37 = .ok (.iload_n 1, 1) := oc_27 (by decide +kernel)
theorem dX12_named_38 : decode cX12_named 38 = .ok (.iconst 1, 1) := oc_4 (by decide +kernel)
theorem dX12_named_39 : decode cX12_named 39 = .ok (.invokevirtual 94, 3) := oc_182 (a := 0) (b := 94) (by decide +kernel)
theorem dX12_named_42 : decode cX12_named 42 = .ok (.ireturn, 1) := oc_172 (by decide +kernel)
theorem dX12_named_43 : decode cX12_named 43 = .ok (.aload_n 0, 1) := oc_42 (by decide +kernel)
theorem dX12_named_44 : decode cX12_named 44 = .ok (.iload_n 1, 1) := oc_27 (by decide +kernel)
theorem dX12_named_45 : decode cX12_named 45 = .ok (.iconst 0, 1) := oc_3 (by decide +kernel)
theorem dX12_named_46 : decode cX12_named 46 = .ok (.invokevirtual 94, 3) := oc_182 (a := 0) (b := 94) (by decide +kernel)
theorem dX12_named_49 : decode cX12_named 49 = .ok (.ireturn, 1) := oc_172 (by decide +kernel)
theorem dX12_named_50 : decode cX12_named 50 = .ok (.aload_n 0, 1) := oc_42 (by decide +kernel)
theorem dX12_named_51 : decode cX12_named 51 = .ok (.iload_n 1, 1) := oc_27 (by decide +kernel)
theorem dX12_named_52 : decode cX12_named 52 = .ok (.iconst 2, 1) := oc_5 (by decide +kernel)
theorem dX12_named_53 : decode cX12_named 53 = .ok (.invokevirtual 94, 3) := oc_182 (a := 0) (b := 94) (by decide +kernel)
theorem dX12_named_56 : decode cX12_named 56 = .ok (.ireturn, 1) := oc_172 (by decide +kernel)
theorem dX12_named_57 : decode cX12_named 57 = .ok (.aload_n 0, 1) := oc_42 (by decide +kernel)
theorem dX12_named_58 : decode cX12_named 58 = .ok (.iload_n 1, 1) := oc_27 (by decide +kernel)
theorem dX12_named_59 : decode cX12_named 59 = .ok (.iconst 3, 1) := oc_6 (by decide +kernel)
theorem dX12_named_60 : decode cX12_named 60 = .ok (.invokevirtual 94, 3) := oc_182 (a := 0) (b := 94) (by decide +kernel)
theorem dX12_named_63 : decode cX12_named 63 = .ok (.ireturn, 1) := oc_172 (by decide +kernel)
theorem dX12_named_64 : decode cX12_named 64 = .ok (.iload_n 3, 1) := oc_29 (by decide +kernel)
theorem dX12_named_65 : decode cX12_named 65 = .ok (.ireturn, 1) := oc_172 (by decide +kernel)
theorem dX12_named_66 : decode cX12_named 66 = .ok (.iload 4, 2) := oc_21 (by decide +kernel)
theorem dX12_named_68 : decode cX12_named 68 = .ok (.ireturn, 1) := oc_172 (by decide +kernel)
theorem dX12_isAhead_0 : decode cX12_isAhead 0 = .ok (.iconst 0, 1) := oc_3 (by decide +kernel)
theorem dX12_isAhead_1 : decode cX12_isAhead 1 = .ok (.istore 4, 2) := oc_54 (by decide +kernel)
theorem dX12_isAhead_3 : decode cX12_isAhead 3 = .ok (.iload 4, 2) := oc_21 (by decide +kernel)
theorem dX12_isAhead_5 : decode cX12_isAhead 5 = .ok (.aload_n 0, 1) := oc_42 (by decide +kernel)
theorem dX12_isAhead_6 : decode cX12_isAhead 6 = .ok (.getfield 7, 3) := oc_180 (a := 0) (b := 7) (by decide +kernel)
theorem dX12_isAhead_9 : decode cX12_isAhead 9 = .ok (.aload_n 0, 1) := oc_42 (by decide +kernel)
theorem dX12_isAhead_10 : decode cX12_isAhead 10 = .ok (.getfield 307, 3) := oc_180 (a := 1) (b := 51) (by decide +kernel)
theorem dX12_isAhead_13 : decode cX12_isAhead 13 = .ok (.iconst 4, 1) := oc_7 (by decide +kernel)
theorem dX12_isAhead_14 : decode cX12_isAhead 14 = .ok (.iadd, 1) := oc_96 (by decide +kernel)
theorem dX12_isAhead_15 : decode cX12_isAhead 15 = .ok (.iaload, 1) := oc_46 (by decide +kernel)
theorem dX12_isAhead_16 : decode cX12_isAhead 16 = .ok (.if_icmp .ge 101, 3) := oc_162 (a := 0) (b := 101) (by decide +kernel)
theorem dX12_isAhead_117 : decode cX12_isAhead 117 = .ok (.iconst 0, 1) := oc_3 (by decide +kernel)
theorem dX12_isAhead_118 : decode cX12_isAhead 118 = .ok (.ireturn, 1) := oc_172 (by decide +kernel)
theorem dX12_isAhead_19 : decode cX12_isAhead 19 = .ok (.aload_n 0, 1) := oc_42 (by decide +kernel)
theorem dX12_isAhead_20 : decode cX12_isAhead 20 = .ok (.getfield 7, 3) := oc_180 (a := 0) (b := 7) (by decide +kernel)
theorem dX12_isAhead_23 : decode cX12_isAhead 23 = .ok (.aload_n 0, 1) := oc_42 (by decide +kernel)
theorem dX12_isAhead_24 : decode cX12_isAhead 24 = .ok (.getfield 307, 3) := oc_180 (a := 1) (b := 51) (by decide +kernel)
theorem dX12_isAhead_27 : decode cX12_isAhead 27 = .ok (.iconst 5, 1) := oc_8 (by decide +kernel)
theorem dX12_isAhead_28 : decode cX12_isAhead 28 = .ok (.iadd, 1) := oc_96 (by decide +kernel)
theorem dX12_isAhead_29 : decode cX12_isAhead 29 = .ok (.iload 4, 2) := oc_21 (by decide +kernel)
theorem dX12_isAhead_31 : decode cX12_isAhead 31 = .ok (.iadd, 1) := oc_96 (by decide +kernel)
theorem dX12_isAhead_32 : decode cX12_isAhead 32 = .ok (.iaload, 1) := oc_46 (by decide +kernel)
theorem dX12_isAhead_33 : decode cX12_isAhead 33 = .ok (.istore 5, 2) := oc_54 (by decide +kernel)
theorem dX12_isAhead_35 : decode cX12_isAhead 35 = .ok (.iload 5, 2) := oc_21 (by decide +kernel)
theorem dX12_isAhead_49 : decode cX12_isAhead 49 = .ok (.istore 6, 2) := oc_54 (by decide +kernel)
theorem dX12_isAhead_51 : decode cX12_isAhead 51 = .ok (.aload_n 0, 1) := oc_42 (by decide +kernel)
theorem dX12_isAhead_52 : decode cX12_isAhead 52 = .ok (.iload_n 1, 1) := oc_27 (by decide +kernel)
theorem dX12_isAhead_53 : decode cX12_isAhead 53 = .ok (.iload 6, 2) := oc_21 (by decide +kernel)
theorem dX12_isAhead_55 : decode cX12_isAhead 55 = .ok (.iload_n 3, 1) := oc_29 (by decide +kernel)
theorem dX12_isAhead_56 : decode cX12_isAhead 56 = .ok (.iconst 0, 1) := oc_3 (by decide +kernel)
theorem tw_528 : Cond.methodLink RX12 286 yX12_named ∈ wsL_law := sg_23 _ (List.mem_of_getElem? (i := 0) rfl)
theorem tw_529 : Cond.instanceMethod yX12_named ∈ wsL_law := sg_23 _ (List.mem_of_getElem? (i := 1) rfl)
theorem tw_530 : Cond.selects RX12 yX12_named yX12_named ∈ wsL_law := sg_23 _ (List.mem_of_getElem? (i := 2) rfl)
theorem tw_531 : Cond.code yX12_named cX12_named 5 (some .int) ∈ wsL_law := sg_23 _ (List.mem_of_getElem? (i := 3) rfl)
theorem dX12_isAhead_57 : decode cX12_isAhead 57 = .ok (.invokevirtual 286, 3) := oc_182 (a := 1) (b := 30) (by decide +kernel)
theorem dX12_isAhead_60 : decode cX12_isAhead 60 = .ok (.istore 7, 2) := oc_54 (by decide +kernel)
theorem dX12_isAhead_62 : decode cX12_isAhead 62 = .ok (.aload_n 0, 1) := oc_42 (by decide +kernel)
theorem dX12_isAhead_63 : decode cX12_isAhead 63 = .ok (.iload_n 2, 1) := oc_28 (by decide +kernel)
theorem dX12_isAhead_64 : decode cX12_isAhead 64 = .ok (.iload 6, 2) := oc_21 (by decide +kernel)
theorem dX12_isAhead_66 : decode cX12_isAhead 66 = .ok (.iload_n 3, 1) := oc_29 (by decide +kernel)
theorem dX12_isAhead_67 : decode cX12_isAhead 67 = .ok (.iconst 0, 1) := oc_3 (by decide +kernel)
theorem dX12_isAhead_68 : decode cX12_isAhead 68 = .ok (.invokevirtual 286, 3) := oc_182 (a := 1) (b := 30) (by decide +kernel)
theorem dX12_isAhead_71 : decode cX12_isAhead 71 = .ok (.istore 8, 2) := oc_54 (by decide +kernel)
theorem dX12_isAhead_73 : decode cX12_isAhead 73 = .ok (.iload 7, 2) := oc_21 (by decide +kernel)
theorem dX12_isAhead_75 : decode cX12_isAhead 75 = .ok (.iload 8, 2) := oc_21 (by decide +kernel)
theorem dX12_isAhead_77 : decode cX12_isAhead 77 = .ok (.if_icmp .eq 34, 3) := oc_159 (a := 0) (b := 34) (by decide +kernel)
theorem dX12_isAhead_111 : decode cX12_isAhead 111 = .ok (.iinc 4 1, 3) := oc_132 (b := 1) (by decide +kernel)
theorem dX12_isAhead_114 : decode cX12_isAhead 114 = .ok (.goto (-111), 3) := oc_167 (a := 255) (b := 145) (by decide +kernel)
theorem dX12_isAhead_80 : decode cX12_isAhead 80 = .ok (.iload 7, 2) := oc_21 (by decide +kernel)
theorem dX12_isAhead_82 : decode cX12_isAhead 82 = .ok (.iload 8, 2) := oc_21 (by decide +kernel)
theorem dX12_isAhead_92 : decode cX12_isAhead 92 = .ok (.iload 5, 2) := oc_21 (by decide +kernel)
theorem dX12_isAhead_102 : decode cX12_isAhead 102 = .ok (.if_icmp .ne 7, 3) := oc_160 (a := 0) (b := 7) (by decide +kernel)
theorem dX12_isAhead_105 : decode cX12_isAhead 105 = .ok (.iconst 1, 1) := oc_4 (by decide +kernel)
theorem dX12_isAhead_106 : decode cX12_isAhead 106 = .ok (.goto 4, 3) := oc_167 (a := 0) (b := 4) (by decide +kernel)
theorem dX12_isAhead_110 : decode cX12_isAhead 110 = .ok (.ireturn, 1) := oc_172 (by decide +kernel)
theorem dX12_isAhead_109 : decode cX12_isAhead 109 = .ok (.iconst 0, 1) := oc_3 (by decide +kernel)
theorem dX12_isAhead_94 : decode cX12_isAhead 94 = .ok (.ifCond .lt 7, 3) := oc_155 (a := 0) (b := 7) (by decide +kernel)
theorem dX12_isAhead_101 : decode cX12_isAhead 101 = .ok (.iconst 0, 1) := oc_3 (by decide +kernel)
theorem dX12_isAhead_97 : decode cX12_isAhead 97 = .ok (.iconst 1, 1) := oc_4 (by decide +kernel)
theorem dX12_isAhead_98 : decode cX12_isAhead 98 = .ok (.goto 4, 3) := oc_167 (a := 0) (b := 4) (by decide +kernel)
theorem dX12_isAhead_84 : decode cX12_isAhead 84 = .ok (.if_icmp .ge 7, 3) := oc_162 (a := 0) (b := 7) (by decide +kernel)
theorem dX12_isAhead_91 : decode cX12_isAhead 91 = .ok (.iconst 0, 1) := oc_3 (by decide +kernel)
theorem dX12_isAhead_87 : decode cX12_isAhead 87 = .ok (.iconst 1, 1) := oc_4 (by decide +kernel)
theorem dX12_isAhead_88 : decode cX12_isAhead 88 = .ok (.goto 4, 3) := oc_167 (a := 0) (b := 4) (by decide +kernel)
theorem dX12_isAhead_37 : decode cX12_isAhead 37 = .ok (.ifCond .ge 10, 3) := oc_156 (a := 0) (b := 10) (by decide +kernel)
theorem dX12_isAhead_47 : decode cX12_isAhead 47 = .ok (.iload 5, 2) := oc_21 (by decide +kernel)
theorem dX12_isAhead_40 : decode cX12_isAhead 40 = .ok (.iconst (-1), 1) := oc_2 (by decide +kernel)
theorem dX12_isAhead_41 : decode cX12_isAhead 41 = .ok (.iload 5, 2) := oc_21 (by decide +kernel)
theorem dX12_isAhead_43 : decode cX12_isAhead 43 = .ok (.isub, 1) := oc_100 (by decide +kernel)
theorem dX12_isAhead_44 : decode cX12_isAhead 44 = .ok (.goto 5, 3) := oc_167 (a := 0) (b := 5) (by decide +kernel)
theorem dX12_death_0 : decode cX12_death 0 = .ok (.aload_n 0, 1) := oc_42 (by decide +kernel)
theorem dX12_death_1 : decode cX12_death 1 = .ok (.iload_n 1, 1) := oc_27 (by decide +kernel)
theorem dX12_death_2 : decode cX12_death 2 = .ok (.invokevirtual 104, 3) := oc_182 (a := 0) (b := 104) (by decide +kernel)
theorem dX12_death_20 : decode cX12_death 20 = .ok (.iconst (-1), 1) := oc_2 (by decide +kernel)
theorem dX12_death_21 : decode cX12_death 21 = .ok (.ireturn, 1) := oc_172 (by decide +kernel)
theorem dX12_death_5 : decode cX12_death 5 = .ok (.ifCond .eq 15, 3) := oc_153 (a := 0) (b := 15) (by decide +kernel)
theorem dX12_death_8 : decode cX12_death 8 = .ok (.aload_n 0, 1) := oc_42 (by decide +kernel)
theorem dX12_death_9 : decode cX12_death 9 = .ok (.iload_n 1, 1) := oc_27 (by decide +kernel)
theorem dX12_death_10 : decode cX12_death 10 = .ok (.iconst 3, 1) := oc_6 (by decide +kernel)
theorem dX12_death_11 : decode cX12_death 11 = .ok (.invokevirtual 94, 3) := oc_182 (a := 0) (b := 94) (by decide +kernel)
theorem dX12_death_14 : decode cX12_death 14 = .ok (.sipush 300, 3) := oc_17 (a := 1) (b := 44) (by decide +kernel)
theorem dX12_death_17 : decode cX12_death 17 = .ok (.if_icmp .ne 5, 3) := oc_160 (a := 0) (b := 5) (by decide +kernel)
theorem dX12_death_22 : decode cX12_death 22 = .ok (.aload_n 0, 1) := oc_42 (by decide +kernel)
theorem dX12_death_23 : decode cX12_death 23 = .ok (.getfield 7, 3) := oc_180 (a := 0) (b := 7) (by decide +kernel)
theorem dX12_death_26 : decode cX12_death 26 = .ok (.sipush 740, 3) := oc_17 (a := 2) (b := 228) (by decide +kernel)
theorem dX12_death_29 : decode cX12_death 29 = .ok (.bipush 12, 2) := oc_16 (a := 12) (by decide +kernel)
theorem dX12_death_31 : decode cX12_death 31 = .ok (.iload_n 1, 1) := oc_27 (by decide +kernel)
theorem dX12_death_32 : decode cX12_death 32 = .ok (.imul, 1) := oc_104 (by decide +kernel)
theorem dX12_death_33 : decode cX12_death 33 = .ok (.iadd, 1) := oc_96 (by decide +kernel)
theorem dX12_death_34 : decode cX12_death 34 = .ok (.iconst 3, 1) := oc_6 (by decide +kernel)
theorem dX12_death_35 : decode cX12_death 35 = .ok (.iadd, 1) := oc_96 (by decide +kernel)
theorem dX12_death_36 : decode cX12_death 36 = .ok (.sipush 300, 3) := oc_17 (a := 1) (b := 44) (by decide +kernel)
theorem dX12_death_39 : decode cX12_death 39 = .ok (.iastore, 1) := oc_79 (by decide +kernel)
theorem dX12_death_40 : decode cX12_death 40 = .ok (.iconst (-1), 1) := oc_2 (by decide +kernel)
theorem dX12_death_41 : decode cX12_death 41 = .ok (.istore_n 2, 1) := oc_61 (by decide +kernel)
theorem dX12_death_42 : decode cX12_death 42 = .ok (.aload_n 0, 1) := oc_42 (by decide +kernel)
theorem dX12_death_43 : decode cX12_death 43 = .ok (.bipush 6, 2) := oc_16 (a := 6) (by decide +kernel)
theorem dX12_death_45 : decode cX12_death 45 = .ok (.aload_n 0, 1) := oc_42 (by decide +kernel)
theorem dX12_death_46 : decode cX12_death 46 = .ok (.getfield 7, 3) := oc_180 (a := 0) (b := 7) (by decide +kernel)
theorem dX12_death_49 : decode cX12_death 49 = .ok (.iconst 0, 1) := oc_3 (by decide +kernel)
theorem dX12_death_50 : decode cX12_death 50 = .ok (.iaload, 1) := oc_46 (by decide +kernel)
theorem tw_503 : Cond.methodLink RX12 113 yX12_keysFor ∈ wsL_law := sg_21 _ (List.mem_of_getElem? (i := 23) rfl)
theorem tw_504 : Cond.instanceMethod yX12_keysFor ∈ wsL_law := sg_22 _ (List.mem_of_getElem? (i := 0) rfl)
theorem tw_505 : Cond.selects RX12 yX12_keysFor yX12_keysFor ∈ wsL_law := sg_22 _ (List.mem_of_getElem? (i := 1) rfl)
theorem tw_506 : Cond.code yX12_keysFor cX12_keysFor 4 (some .boolean) ∈ wsL_law := sg_22 _ (List.mem_of_getElem? (i := 2) rfl)
theorem dX12_death_51 : decode cX12_death 51 = .ok (.invokevirtual 113, 3) := oc_182 (a := 0) (b := 113) (by decide +kernel)
theorem dX12_death_54 : decode cX12_death 54 = .ok (.istore_n 3, 1) := oc_62 (by decide +kernel)
theorem dX12_death_55 : decode cX12_death 55 = .ok (.iconst 0, 1) := oc_3 (by decide +kernel)
theorem dX12_death_56 : decode cX12_death 56 = .ok (.istore 4, 2) := oc_54 (by decide +kernel)
theorem dX12_death_58 : decode cX12_death 58 = .ok (.iload 4, 2) := oc_21 (by decide +kernel)
theorem dX12_death_60 : decode cX12_death 60 = .ok (.aload_n 0, 1) := oc_42 (by decide +kernel)
theorem dX12_death_61 : decode cX12_death 61 = .ok (.getfield 7, 3) := oc_180 (a := 0) (b := 7) (by decide +kernel)
theorem dX12_death_64 : decode cX12_death 64 = .ok (.iconst 5, 1) := oc_8 (by decide +kernel)
theorem dX12_death_65 : decode cX12_death 65 = .ok (.iaload, 1) := oc_46 (by decide +kernel)
theorem dX12_death_66 : decode cX12_death 66 = .ok (.if_icmp .ge 68, 3) := oc_162 (a := 0) (b := 68) (by decide +kernel)
theorem dX12_death_134 : decode cX12_death 134 = .ok (.iconst 0, 1) := oc_3 (by decide +kernel)
theorem dX12_death_135 : decode cX12_death 135 = .ok (.istore 4, 2) := oc_54 (by decide +kernel)
theorem dX12_death_137 : decode cX12_death 137 = .ok (.iconst 0, 1) := oc_3 (by decide +kernel)
theorem dX12_death_138 : decode cX12_death 138 = .ok (.istore 5, 2) := oc_54 (by decide +kernel)
theorem dX12_death_140 : decode cX12_death 140 = .ok (.iload 5, 2) := oc_21 (by decide +kernel)
theorem dX12_death_142 : decode cX12_death 142 = .ok (.aload_n 0, 1) := oc_42 (by decide +kernel)
theorem dX12_death_143 : decode cX12_death 143 = .ok (.getfield 7, 3) := oc_180 (a := 0) (b := 7) (by decide +kernel)
theorem dX12_death_146 : decode cX12_death 146 = .ok (.iconst 2, 1) := oc_5 (by decide +kernel)
theorem dX12_death_147 : decode cX12_death 147 = .ok (.iaload, 1) := oc_46 (by decide +kernel)
theorem dX12_death_148 : decode cX12_death 148 = .ok (.if_icmp .ge 44, 3) := oc_162 (a := 0) (b := 44) (by decide +kernel)
theorem dX12_death_192 : decode cX12_death 192 = .ok (.iload 4, 2) := oc_21 (by decide +kernel)
theorem dX12_death_194 : decode cX12_death 194 = .ok (.ireturn, 1) := oc_172 (by decide +kernel)
theorem dX12_death_151 : decode cX12_death 151 = .ok (.aload_n 0, 1) := oc_42 (by decide +kernel)
theorem dX12_death_152 : decode cX12_death 152 = .ok (.iload 5, 2) := oc_21 (by decide +kernel)
theorem dX12_death_154 : decode cX12_death 154 = .ok (.bipush 14, 2) := oc_16 (a := 14) (by decide +kernel)
theorem dX12_death_156 : decode cX12_death 156 = .ok (.invokevirtual 91, 3) := oc_182 (a := 0) (b := 91) (by decide +kernel)
theorem dX12_death_159 : decode cX12_death 159 = .ok (.iload_n 1, 1) := oc_27 (by decide +kernel)
theorem dX12_death_186 : decode cX12_death 186 = .ok (.iinc 5 1, 3) := oc_132 (b := 1) (by decide +kernel)
theorem dX12_death_189 : decode cX12_death 189 = .ok (.goto (-49), 3) := oc_167 (a := 255) (b := 207) (by decide +kernel)
theorem dX12_death_160 : decode cX12_death 160 = .ok (.if_icmp .eq 6, 3) := oc_159 (a := 0) (b := 6) (by decide +kernel)
theorem dX12_death_166 : decode cX12_death 166 = .ok (.aload_n 0, 1) := oc_42 (by decide +kernel)
theorem dX12_death_167 : decode cX12_death 167 = .ok (.getfield 7, 3) := oc_180 (a := 0) (b := 7) (by decide +kernel)
theorem dX12_death_170 : decode cX12_death 170 = .ok (.bipush 100, 2) := oc_16 (a := 100) (by decide +kernel)
theorem dX12_death_172 : decode cX12_death 172 = .ok (.bipush 16, 2) := oc_16 (a := 16) (by decide +kernel)
theorem dX12_death_174 : decode cX12_death 174 = .ok (.iload 5, 2) := oc_21 (by decide +kernel)
theorem dX12_death_176 : decode cX12_death 176 = .ok (.imul, 1) := oc_104 (by decide +kernel)
theorem dX12_death_177 : decode cX12_death 177 = .ok (.iadd, 1) := oc_96 (by decide +kernel)
theorem dX12_death_178 : decode cX12_death 178 = .ok (.bipush 14, 2) := oc_16 (a := 14) (by decide +kernel)
theorem dX12_death_180 : decode cX12_death 180 = .ok (.iadd, 1) := oc_96 (by decide +kernel)
theorem dX12_death_181 : decode cX12_death 181 = .ok (.iload_n 2, 1) := oc_28 (by decide +kernel)
theorem dX12_death_182 : decode cX12_death 182 = .ok (.iastore, 1) := oc_79 (by decide +kernel)
theorem dX12_death_183 : decode cX12_death 183 = .ok (.iinc 4 1, 3) := oc_132 (b := 1) (by decide +kernel)
theorem dX12_death_163 : decode cX12_death 163 = .ok (.goto 23, 3) := oc_167 (a := 0) (b := 23) (by decide +kernel)
theorem dX12_death_69 : decode cX12_death 69 = .ok (.aload_n 0, 1) := oc_42 (by decide +kernel)
theorem dX12_death_70 : decode cX12_death 70 = .ok (.iload 4, 2) := oc_21 (by decide +kernel)
theorem dX12_death_72 : decode cX12_death 72 = .ok (.iconst 0, 1) := oc_3 (by decide +kernel)
theorem dX12_death_73 : decode cX12_death 73 = .ok (.invokevirtual 94, 3) := oc_182 (a := 0) (b := 94) (by decide +kernel)
theorem dX12_death_76 : decode cX12_death 76 = .ok (.aload_n 0, 1) := oc_42 (by decide +kernel)
theorem dX12_death_77 : decode cX12_death 77 = .ok (.iload_n 1, 1) := oc_27 (by decide +kernel)
theorem dX12_death_78 : decode cX12_death 78 = .ok (.iconst 0, 1) := oc_3 (by decide +kernel)
theorem dX12_death_79 : decode cX12_death 79 = .ok (.invokevirtual 94, 3) := oc_182 (a := 0) (b := 94) (by decide +kernel)
theorem dX12_death_128 : decode cX12_death 128 = .ok (.iinc 4 1, 3) := oc_132 (b := 1) (by decide +kernel)
theorem dX12_death_131 : decode cX12_death 131 = .ok (.goto (-73), 3) := oc_167 (a := 255) (b := 183) (by decide +kernel)
theorem dX12_death_82 : decode cX12_death 82 = .ok (.if_icmp .ne 46, 3) := oc_160 (a := 0) (b := 46) (by decide +kernel)
theorem dX12_death_85 : decode cX12_death 85 = .ok (.aload_n 0, 1) := oc_42 (by decide +kernel)
theorem dX12_death_86 : decode cX12_death 86 = .ok (.iload 4, 2) := oc_21 (by decide +kernel)
theorem dX12_death_88 : decode cX12_death 88 = .ok (.iconst 3, 1) := oc_6 (by decide +kernel)
theorem dX12_death_89 : decode cX12_death 89 = .ok (.invokevirtual 94, 3) := oc_182 (a := 0) (b := 94) (by decide +kernel)
theorem dX12_death_92 : decode cX12_death 92 = .ok (.sipush 300, 3) := oc_17 (a := 1) (b := 44) (by decide +kernel)
theorem dX12_death_95 : decode cX12_death 95 = .ok (.if_icmp .ne 6, 3) := oc_160 (a := 0) (b := 6) (by decide +kernel)
theorem dX12_death_101 : decode cX12_death 101 = .ok (.iload_n 2, 1) := oc_28 (by decide +kernel)
theorem dX12_death_125 : decode cX12_death 125 = .ok (.iload 4, 2) := oc_21 (by decide +kernel)
theorem dX12_death_127 : decode cX12_death 127 = .ok (.istore_n 2, 1) := oc_61 (by decide +kernel)
theorem dX12_death_102 : decode cX12_death 102 = .ok (.ifCond .lt 23, 3) := oc_155 (a := 0) (b := 23) (by decide +kernel)
theorem dX12_death_105 : decode cX12_death 105 = .ok (.iload_n 3, 1) := oc_29 (by decide +kernel)
theorem dX12_death_106 : decode cX12_death 106 = .ok (.ifCond .eq 22, 3) := oc_153 (a := 0) (b := 22) (by decide +kernel)
theorem dX12_death_109 : decode cX12_death 109 = .ok (.aload_n 0, 1) := oc_42 (by decide +kernel)
theorem dX12_death_110 : decode cX12_death 110 = .ok (.iload 4, 2) := oc_21 (by decide +kernel)
theorem dX12_death_112 : decode cX12_death 112 = .ok (.iload_n 2, 1) := oc_28 (by decide +kernel)
theorem dX12_death_113 : decode cX12_death 113 = .ok (.aload_n 0, 1) := oc_42 (by decide +kernel)
theorem dX12_death_114 : decode cX12_death 114 = .ok (.getfield 7, 3) := oc_180 (a := 0) (b := 7) (by decide +kernel)
theorem dX12_death_117 : decode cX12_death 117 = .ok (.iconst 0, 1) := oc_3 (by decide +kernel)
theorem dX12_death_118 : decode cX12_death 118 = .ok (.iaload, 1) := oc_46 (by decide +kernel)
theorem tw_524 : Cond.methodLink RX12 117 yX12_isAhead ∈ wsL_law := sg_22 _ (List.mem_of_getElem? (i := 20) rfl)
theorem tw_525 : Cond.instanceMethod yX12_isAhead ∈ wsL_law := sg_22 _ (List.mem_of_getElem? (i := 21) rfl)
theorem tw_526 : Cond.selects RX12 yX12_isAhead yX12_isAhead ∈ wsL_law := sg_22 _ (List.mem_of_getElem? (i := 22) rfl)
theorem tw_527 : Cond.code yX12_isAhead cX12_isAhead 9 (some .boolean) ∈ wsL_law := sg_22 _ (List.mem_of_getElem? (i := 23) rfl)
theorem dX12_death_119 : decode cX12_death 119 = .ok (.invokevirtual 117, 3) := oc_182 (a := 0) (b := 117) (by decide +kernel)
theorem dX12_death_122 : decode cX12_death 122 = .ok (.ifCond .eq 6, 3) := oc_153 (a := 0) (b := 6) (by decide +kernel)
theorem dX12_death_98 : decode cX12_death 98 = .ok (.goto 30, 3) := oc_167 (a := 0) (b := 30) (by decide +kernel)
theorem dX12_title_0 : decode cX12_title 0 = .ok (.aload_n 0, 1) := oc_42 (by decide +kernel)
theorem dX12_title_1 : decode cX12_title 1 = .ok (.iload_n 1, 1) := oc_27 (by decide +kernel)
theorem dX12_title_2 : decode cX12_title 2 = .ok (.invokevirtual 88, 3) := oc_182 (a := 0) (b := 88) (by decide +kernel)
theorem dX12_title_33 : decode cX12_title 33 = .ok (.iconst 0, 1) := oc_3 (by decide +kernel)
theorem dX12_title_34 : decode cX12_title 34 = .ok (.ireturn, 1) := oc_172 (by decide +kernel)
theorem dX12_title_5 : decode cX12_title 5 = .ok (.ifCond .eq 28, 3) := oc_153 (a := 0) (b := 28) (by decide +kernel)
theorem dX12_title_8 : decode cX12_title 8 = .ok (.iload_n 2, 1) := oc_28 (by decide +kernel)
theorem dX12_title_9 : decode cX12_title 9 = .ok (.iconst (-1), 1) := oc_2 (by decide +kernel)
theorem dX12_title_35 : decode cX12_title 35 = .ok (.aload_n 0, 1) := oc_42 (by decide +kernel)
theorem dX12_title_36 : decode cX12_title 36 = .ok (.getfield 7, 3) := oc_180 (a := 0) (b := 7) (by decide +kernel)
theorem dX12_title_39 : decode cX12_title 39 = .ok (.bipush 100, 2) := oc_16 (a := 100) (by decide +kernel)
theorem dX12_title_41 : decode cX12_title 41 = .ok (.bipush 16, 2) := oc_16 (a := 16) (by decide +kernel)
theorem dX12_title_43 : decode cX12_title 43 = .ok (.iload_n 1, 1) := oc_27 (by decide +kernel)
theorem dX12_title_44 : decode cX12_title 44 = .ok (.imul, 1) := oc_104 (by decide +kernel)
theorem dX12_title_45 : decode cX12_title 45 = .ok (.iadd, 1) := oc_96 (by decide +kernel)
theorem dX12_title_46 : decode cX12_title 46 = .ok (.bipush 14, 2) := oc_16 (a := 14) (by decide +kernel)
theorem dX12_title_48 : decode cX12_title 48 = .ok (.iadd, 1) := oc_96 (by decide +kernel)
theorem dX12_title_49 : decode cX12_title 49 = .ok (.iload_n 2, 1) := oc_28 (by decide +kernel)
theorem dX12_title_50 : decode cX12_title 50 = .ok (.iastore, 1) := oc_79 (by decide +kernel)
theorem dX12_title_51 : decode cX12_title 51 = .ok (.iconst 1, 1) := oc_4 (by decide +kernel)
theorem dX12_title_52 : decode cX12_title 52 = .ok (.ireturn, 1) := oc_172 (by decide +kernel)
theorem dX12_title_10 : decode cX12_title 10 = .ok (.if_icmp .eq 25, 3) := oc_159 (a := 0) (b := 25) (by decide +kernel)
theorem dX12_title_13 : decode cX12_title 13 = .ok (.aload_n 0, 1) := oc_42 (by decide +kernel)
theorem dX12_title_14 : decode cX12_title 14 = .ok (.iload_n 2, 1) := oc_28 (by decide +kernel)
theorem dX12_title_15 : decode cX12_title 15 = .ok (.invokevirtual 104, 3) := oc_182 (a := 0) (b := 104) (by decide +kernel)
theorem dX12_title_18 : decode cX12_title 18 = .ok (.ifCond .eq 15, 3) := oc_153 (a := 0) (b := 15) (by decide +kernel)
theorem dX12_title_21 : decode cX12_title 21 = .ok (.aload_n 0, 1) := oc_42 (by decide +kernel)
theorem dX12_title_22 : decode cX12_title 22 = .ok (.iload_n 2, 1) := oc_28 (by decide +kernel)
theorem dX12_title_23 : decode cX12_title 23 = .ok (.iconst 3, 1) := oc_6 (by decide +kernel)
theorem dX12_title_24 : decode cX12_title 24 = .ok (.invokevirtual 94, 3) := oc_182 (a := 0) (b := 94) (by decide +kernel)
theorem dX12_title_27 : decode cX12_title 27 = .ok (.sipush 300, 3) := oc_17 (a := 1) (b := 44) (by decide +kernel)
theorem dX12_title_30 : decode cX12_title 30 = .ok (.if_icmp .ne 5, 3) := oc_160 (a := 0) (b := 5) (by decide +kernel)
set_option maxHeartbeats 4000000 in
set_option maxRecDepth 100000 in
theorem s_X12_textFor (l : Launch) (D : va_G) (t : pq_T) (σ : pq_S) (I : Nat → Nat → Int32) (J : Nat → Nat → Int64) (ri : Nat → Nat → Int32) (rj : Nat → Nat → Int64) (rq : Nat → Nat → Option Nat) (sz : Nat) (tg : Nat → Nat) (hSH : SH σ tg) (hG0 : GT tg I ri) (this : Nat) (a0 : Int32) (a1 : Int32) (hL_this : this ∈ σ.1) (hK_this : σ.2.1 this = 12) (this_a : Nat) (hR_this_a : σ.2.2.1 384 this = some this_a) (hL_this_a : this_a ∈ σ.1) (hK_this_a : σ.2.1 this_a = 13) (hN_this_a : σ.2.2.2 this_a = 12720) (hT_this_a : tg this_a = 384) : MetI l yX12_textFor (wa yX12_textFor cX12_textFor 5 (some .int)) ({ frames := 2, cells := 0, slots := 0, locals := 45 }) [.ref this, .int a0, .int a1] D t σ (I, J, ri, rj, rq) sz 0 0 (fun (r : Int32) (u : pq_S × pq_M) => u = (σ, I, J, ri, rj, rq) ∧ (r.toInt = -1 ∨ 0 ≤ r.toInt ∧ r.toInt < (ri this_a 6).toInt) ∧ rg r (-1) 9) := by
  refine Met.ofW (cc := cX12_textFor) (maxL := 5) (ret := (some .int)) (by decide) rfl ?_
  intro p e s m args below meth c s₁ B hml hv
  obtain ⟨rfl, hsz, hP, hK, hD0, hN⟩ := hv
  have hx := B.exec
  have hb := B.bytes
  have hr := B.returns
  have hts := atoms_spec (ws := (wa yX12_textFor cX12_textFor 5 (some .int))) B.pre
  have hown : s.vm.findClass RX12 = some m.cls := findClass_of_methodNamed B.named
  have hlocks := B.notSynchronized
  subst hsz
  have hD : va_D (pq_B t σ (I, J, ri, rj, rq) s.heap.size) (pq_P t σ (I, J, ri, rj, rq)) := hD0.self
  generalize hAe : pq_B t σ (I, J, ri, rj, rq) s.heap.size = A at hD ⊢
  have hA : ∀ q : Nat, s.heap.size ≤ q → A q := fun q h => by rw [← hAe]; exact Or.inr h
  have hS : va_S A s.heap s.heap [] := va_S.rf
  have hG : GM [] tg σ I ri I ri rq := ⟨hG0, fun _ _ _ => rfl, fun _ _ _ _ _ => rfl, fun _ _ _ _ _ _ => rfl⟩
  have hl := lv_entry ([.ref this, .int a0, .int a1]) (n := 5) (Nat.le_of_ble_eq_true rfl)
  rw [lg_entry_eq]
  generalize (lg_sl ([.ref this, .int a0, .int a1]) ++ List.replicate (5 - (lg_sl ([.ref this, .int a0, .int a1])).length) Slot.unset).toArray = ls at hl ⊢
  have hl : lv_has ls 5 [(0, .ref this), (1, .int a0), (2, .int a1)] := hl
  refine q_gen (fun Q hQ => ?_)
  have go : ∀ (H : Heap) (locs : List Loc) (ls : Array Slot), va_P D vwCl (pq_P t σ (I, J, ri, rj, rq)) H → va_D A (pq_P t σ (I, J, ri, rj, rq)) → va_S A s.heap H locs → lv_has ls 5 [(0, .ref this), (1, .int a0), (2, .int a1)] → W p l e ({ frames := 2, cells := 0, slots := 0, locals := 45 } : Room) s m (List.toArray ([.ref this, .int a0, .int a1] : List Value)) below meth c H locs 0 0 Q (F0 m 0 ls []) := by
    intro H locs ls hP hD hS hl
    refine lv_aload_n hx hb dX12_textFor_0 rfl (lv_at hl 0 rfl) ?_
    refine pg_f (v := .ref this_a) (C := RX12) (T := TX12) (N := 31) hx hb hts (tw_i inlX12) hown hK hP hL_this hK_this (by decide) rfl 0 (by decide) (hts _ (tw_c tw_176)) (pq_hv rfl hR_this_a) dX12_textFor_1 ?_
    refine lv_bipush (v := 7) hx hb dX12_textFor_4 (by decide) ?_
    refine pl_i hx hb hK hP hL_this_a hK_this_a hN_this_a (vp_in_iff.mpr (by decide)) dX12_textFor_6 ?_
    refine lv_tov (ri this_a 7) rfl ?_
    have h_1 : rg (ri this_a 7) 0 30 := GM.z0 hG0 (by rw [hT_this_a]; decide) (i := 7) (k := 7) (by decide) rfl
    have uh_1 := h_1.1
    have vh_1 := h_1.2
    refine lv_iconst (v := 1) hx hb dX12_textFor_7 (by decide) ?_
    refine lv_isub hx hb dX12_textFor_8 ?_
    refine lv_topi (fun x_2 ex_2 => ?_)
    have h_3 : rg x_2 (-1) 29 := rg_of_eq ex_2 (rg_sub h_1 (rg_k (1 : Int32) 1 rfl) (by decide))
    have uh_3 := h_3.1
    have vh_3 := h_3.2
    have tx_2 : (x_2).toInt = (ri this_a 7).toInt - 1 := by rw [ex_2]; exact i_sub_rg (a2 := (ri this_a 7).toInt) (b2 := 1) rfl rfl h_1 (rg_k (1 : Int32) 1 rfl) (by decide)
    refine lv_istore_n (lv' := [(3, .int x_2), (0, .ref this), (1, .int a0), (2, .int a1)]) hx hb dX12_textFor_9 rfl hl (by decide) rfl (fun ls hl => ?_)
    have L_200 : ∀ (n_199 : Nat) (x_149 : Int32) (H : Heap) (locs : List Loc) (ls : Array Slot), rg x_149 (-1) 29 → ((x_149).toInt + 1 ≤ (ri this_a 7).toInt) → ((x_149).toInt - (-1)).toNat < n_199 → GM [] tg σ I ri I ri rq → va_P D vwCl (pq_P t σ (I, J, ri, rj, rq)) H → va_D A (pq_P t σ (I, J, ri, rj, rq)) → va_S A s.heap H locs → lv_has ls 5 [(0, .ref this), (1, .int a0), (2, .int a1), (3, .int x_149)] → W p l e ({ frames := 2, cells := 0, slots := 0, locals := 45 } : Room) s m (List.toArray ([.ref this, .int a0, .int a1] : List Value)) below meth c H locs 0 0 Q (F0 m 10 ls []) := by
      intro n_199
      induction n_199 with
      | zero => intro x_149 H locs ls h_204 hrel_205 hm_198 hG hP hD hS hl; exact absurd hm_198 (Nat.not_lt_zero _)
      | succ n_199 ih_201 =>
        intro x_149 H locs ls h_204 hrel_205 hm_198 hG hP hD hS hl
        have uh_204 := h_204.1
        have vh_204 := h_204.2
        refine lv_iload_n hx hb dX12_textFor_10 rfl (lv_at hl 3 rfl) ?_
        refine lv_if_lt (tgt := 77) hx hb dX12_textFor_11 (by decide) (fun c_206 => ?_) (fun c_206 => ?_)
        · have tc_207 : (x_149).toInt < 0 := Int32.lt_iff_toInt_lt.mp c_206
          have h_208 : rg x_149 (-1) (-1) := rg_lt1 c_206 h_204 (rg_k (0 : Int32) 0 rfl) (by decide)
          have uh_208 := h_208.1
          have vh_208 := h_208.2
          refine lv_iconst (v := (-1)) hx hb dX12_textFor_77 (by decide) ?_
          subst hQ
          exact W.iret (v := (-1)) hx hb hr (fun t1 ht hW => ⟨⟨(-1), (σ, I, J, ri, rj, rq), rfl, ⟨rfl, (Or.inl rfl), (rg_w (rg_k (-1 : Int32) (-1) rfl) (by decide))⟩, by rw [ht]; exact hP, va_K.moved hW.alike hK, hD⟩, hS.F ht⟩) hS.2.2 dX12_textFor_78
        · have tc_209 : 0 ≤ (x_149).toInt := Int32.le_iff_toInt_le.mp (nlt c_206)
          have h_210 : rg x_149 0 29 := rg_le2 (nlt c_206) (rg_k (0 : Int32) 0 rfl) h_204 (by decide)
          have uh_210 := h_210.1
          have vh_210 := h_210.2
          refine lv_sipush (v := 2220) hx hb dX12_textFor_14 (by decide) ?_
          refine lv_iconst (v := 4) hx hb dX12_textFor_17 (by decide) ?_
          refine lv_iload_n hx hb dX12_textFor_18 rfl (lv_at hl 3 rfl) ?_
          refine lv_imul hx hb dX12_textFor_19 ?_
          refine lv_topi (fun x_211 ex_211 => ?_)
          have h_212 : rg x_211 0 116 := rg_of_eq ex_211 (rg_mul (rg_k (4 : Int32) 4 rfl) h_210 (by decide))
          have uh_212 := h_212.1
          have vh_212 := h_212.2
          have tx_211 : (x_211).toInt = 4 * (x_149).toInt := by rw [ex_211]; exact i_mul_rg (a2 := 4) (b2 := (x_149).toInt) rfl rfl (rg_k (4 : Int32) 4 rfl) h_210 (by decide)
          refine lv_iadd hx hb dX12_textFor_20 ?_
          refine lv_topi (fun x_213 ex_213 => ?_)
          have h_214 : rg x_213 2220 2336 := rg_of_eq ex_213 (rg_add (rg_k (2220 : Int32) 2220 rfl) h_212 (by decide))
          have uh_214 := h_214.1
          have vh_214 := h_214.2
          have tx_213 : (x_213).toInt = 2220 + (x_211).toInt := by rw [ex_213]; exact i_add_rg (a2 := 2220) (b2 := (x_211).toInt) rfl rfl (rg_k (2220 : Int32) 2220 rfl) h_212 (by decide)
          refine lv_istore (lv' := [(4, .int x_213), (0, .ref this), (1, .int a0), (2, .int a1), (3, .int x_149)]) hx hb dX12_textFor_21 hl (by decide) rfl (fun ls hl => ?_)
          refine lv_iload_n hx hb dX12_textFor_23 rfl (lv_at hl 3 rfl) ?_
          refine lv_aload_n hx hb dX12_textFor_24 rfl (lv_at hl 1 rfl) ?_
          refine pg_f (v := .ref this_a) (C := RX12) (T := TX12) (N := 31) hx hb hts (tw_i inlX12) hown hK hP hL_this hK_this (by decide) rfl 0 (by decide) (hts _ (tw_c tw_176)) (pq_hv rfl hR_this_a) dX12_textFor_25 ?_
          refine lv_iload hx hb dX12_textFor_28 (lv_at hl 0 rfl) ?_
          refine lv_iconst (v := 1) hx hb dX12_textFor_30 (by decide) ?_
          refine lv_iadd hx hb dX12_textFor_31 ?_
          refine lv_topi (fun x_215 ex_215 => ?_)
          have h_216 : rg x_215 2221 2337 := rg_of_eq ex_215 (rg_add h_214 (rg_k (1 : Int32) 1 rfl) (by decide))
          have uh_216 := h_216.1
          have vh_216 := h_216.2
          have tx_215 : (x_215).toInt = (x_213).toInt + 1 := by rw [ex_215]; exact i_add_rg (a2 := (x_213).toInt) (b2 := 1) rfl rfl h_214 (rg_k (1 : Int32) 1 rfl) (by decide)
          refine pl_i hx hb hK hP hL_this_a hK_this_a hN_this_a (rg_in h_216 (by decide)) dX12_textFor_32 ?_
          refine lv_topi (fun x_217 ex_217 => ?_)
          refine lv_aload_n hx hb dX12_textFor_33 rfl (lv_at hl 1 rfl) ?_
          refine pg_f (v := .ref this_a) (C := RX12) (T := TX12) (N := 31) hx hb hts (tw_i inlX12) hown hK hP hL_this hK_this (by decide) rfl 0 (by decide) (hts _ (tw_c tw_176)) (pq_hv rfl hR_this_a) dX12_textFor_34 ?_
          refine lv_iload hx hb dX12_textFor_37 (lv_at hl 0 rfl) ?_
          refine lv_iconst (v := 2) hx hb dX12_textFor_39 (by decide) ?_
          refine lv_iadd hx hb dX12_textFor_40 ?_
          refine lv_topi (fun x_218 ex_218 => ?_)
          have h_219 : rg x_218 2222 2338 := rg_of_eq ex_218 (rg_add h_214 (rg_k (2 : Int32) 2 rfl) (by decide))
          have uh_219 := h_219.1
          have vh_219 := h_219.2
          have tx_218 : (x_218).toInt = (x_213).toInt + 2 := by rw [ex_218]; exact i_add_rg (a2 := (x_213).toInt) (b2 := 2) rfl rfl h_214 (rg_k (2 : Int32) 2 rfl) (by decide)
          refine pl_i hx hb hK hP hL_this_a hK_this_a hN_this_a (rg_in h_219 (by decide)) dX12_textFor_41 ?_
          refine lv_topi (fun x_220 ex_220 => ?_)
          refine pk_i (va_runS (As := [.int a1, .int x_217, .int x_220]) (rest := []) ⟨hx, hb, hml, hown, hts⟩ (s_X12_isIn l D t σ I J ri rj rq H.size tg hSH hG.1 a1 x_217 x_220) (va_cwS 3 hts (tw_S tw_235 tw_236 tw_5 tw_237) rfl rfl rfl cd_yX12_isIn_3 ⟨Nat.le_of_ble_eq_true rfl, Nat.le_of_ble_eq_true rfl⟩) ⟨pq_blind, pq_pre hK hN hP hD⟩ rfl rfl hl.1 rfl (lv_room (Nat.le_of_ble_eq_true rfl)) dX12_textFor_42 ⟨Nat.le_of_ble_eq_true rfl, Nat.le_of_ble_eq_true rfl⟩) hD hS hA (fun x_221 σ1 μ1 H locs hw_222 hP hD hS => ?_)
          obtain ⟨hu_223, hr_225⟩ := hw_222
          obtain ⟨hu_223a, hu_223b⟩ := Prod.mk.inj hu_223
          rw [hu_223a, hu_223b] at hP hD
          have h_226 : rg x_221 0 1 := by rcases hr_225 with ⟨q, -⟩ | ⟨q, -⟩ <;> rw [q] <;> exact ⟨by decide, by decide⟩
          have uh_226 := h_226.1
          have vh_226 := h_226.2
          have K_252 : ∀  (H : Heap) (locs : List Loc) (ls : Array Slot), GM [] tg σ I ri I ri rq → va_P D vwCl (pq_P t σ (I, J, ri, rj, rq)) H → va_D A (pq_P t σ (I, J, ri, rj, rq)) → va_S A s.heap H locs → lv_has ls 5 [(0, .ref this), (1, .int a0), (2, .int a1), (3, .int x_149)] → W p l e ({ frames := 2, cells := 0, slots := 0, locals := 45 } : Room) s m (List.toArray ([.ref this, .int a0, .int a1] : List Value)) below meth c H locs 0 0 Q (F0 m 71 ls []) := by
            intro H locs ls hG hP hD hS hl
            obtain ⟨x_253, ex_253⟩ : ∃ y : Int32, y = x_149 + Int32.ofInt (-1) := ⟨_, rfl⟩
            have h_254 : rg x_253 (-1) 28 := rg_of_eq ex_253 (rg_add h_210 (rg_k (Int32.ofInt (-1)) (-1) rfl) (by decide))
            have uh_254 := h_254.1
            have vh_254 := h_254.2
            have tx_253 : (x_253).toInt = (x_149).toInt + (-1) := by rw [ex_253]; exact i_add_rg (a2 := (x_149).toInt) (b2 := (-1)) rfl rfl h_210 (rg_k (Int32.ofInt (-1)) (-1) rfl) (by decide)
            refine lv_iinc (v := x_253) (lv' := [(3, .int x_253), (0, .ref this), (1, .int a0), (2, .int a1)]) hx hb dX12_textFor_71 hl (k := 3) rfl ex_253.symm (by decide) rfl (fun ls hl => ?_)
            refine lv_goto (tgt := 10) hx hb dX12_textFor_74 (by decide) ?_
            exact ih_201 x_253 _ _ _ (rg_w h_254 (by decide)) (by omega) (ms_dn 1 hm_198 ex_253 rfl (by decide) h_210 (by decide) (by decide)) hG hP hD hS (lv_sub hl [1, 2, 3, 0] rfl)
          refine lv_if_eq (tgt := 71) hx hb dX12_textFor_45 (by decide) (fun c_255 => ?_) (fun c_255 => ?_)
          · have f_256 := (hr_225.resolve_left (fun q => absurd (q.1.symm.trans c_255) (by decide))).2
            have tc_257 : (x_221).toInt = 0 := congrArg Int32.toInt c_255
            have h_258 : rg x_221 0 0 := rg_and h_226 (rg_of_eq c_255 (rg_k (0 : Int32) 0 rfl)) (by decide)
            have uh_258 := h_258.1
            have vh_258 := h_258.2
            exact K_252 _ _ _ hG hP hD hS (lv_sub hl [1, 2, 3, 4] rfl)
          · obtain ⟨f_259, f_260⟩ := (hr_225.resolve_right (fun q => c_255 q.1)).2
            have tc_261 : (x_217).toInt ≤ (a1).toInt := Int32.le_iff_toInt_le.mp f_259
            have tc_262 : (a1).toInt ≤ (x_220).toInt := Int32.le_iff_toInt_le.mp f_260
            have tc_263 : (x_221).toInt ≠ 0 := fun q => c_255 (Int32.toInt_inj.mp q)
            have h_264 : rg x_221 1 1 := rg_ne c_255 h_226 0 rfl (by decide)
            have uh_264 := h_264.1
            have vh_264 := h_264.2
            refine lv_aload_n hx hb dX12_textFor_48 rfl (lv_at hl 1 rfl) ?_
            refine lv_aload_n hx hb dX12_textFor_49 rfl (lv_at hl 1 rfl) ?_
            refine pg_f (v := .ref this_a) (C := RX12) (T := TX12) (N := 31) hx hb hts (tw_i inlX12) hown hK hP hL_this hK_this (by decide) rfl 0 (by decide) (hts _ (tw_c tw_176)) (pq_hv rfl hR_this_a) dX12_textFor_50 ?_
            refine lv_iload hx hb dX12_textFor_53 (lv_at hl 0 rfl) ?_
            refine pl_i hx hb hK hP hL_this_a hK_this_a hN_this_a (rg_in h_214 (by decide)) dX12_textFor_55 ?_
            refine lv_topi (fun x_265 ex_265 => ?_)
            have h_266 : rg x_265 0 9 := rg_of_eq ex_265 (GM.z hG (by rw [hT_this_a]; decide) (zn_FORCE (c := x_149.toNatClampNeg) (k := 0) (by have z_i := clampE x_213; have z_0 := clampE x_149; omega) (rg_cl1 h_210 (by decide)) (by decide)) rfl)
            have uh_266 := h_266.1
            have vh_266 := h_266.2
            refine lv_iload_n hx hb dX12_textFor_56 rfl (lv_at hl 2 rfl) ?_
            refine pk_i (va_runV (As := [.int x_265, .int a0]) (rest := []) ⟨hx, hb, hml, hown, hts⟩ (s_X12_firstOf l D t σ I J ri rj rq H.size tg hSH hG.1 this x_265 a0 hL_this hK_this (rg_w h_266 (by decide)) this_a hR_this_a hL_this_a hK_this_a hN_this_a hT_this_a) (cwV 2 hts (tw_V tw_512 tw_513 tw_514 tw_5 tw_515) rfl rfl rfl cv_yX12_firstOf_2 ⟨Nat.le_of_ble_eq_true rfl, Nat.le_of_ble_eq_true rfl⟩) ⟨pq_blind, pq_recv hK hP hL_this hK_this (by decide) rfl, pq_pre hK hN hP hD⟩ rfl rfl hl.1 rfl (lv_room (Nat.le_of_ble_eq_true rfl)) dX12_textFor_57 ⟨Nat.le_of_ble_eq_true rfl, Nat.le_of_ble_eq_true rfl⟩) hD hS hA (fun x_267 σ1 μ1 H locs hw_268 hP hD hS => ?_)
            obtain ⟨hu_269, hp_272, hr_271⟩ := hw_268
            obtain ⟨hu_269a, hu_269b⟩ := Prod.mk.inj hu_269
            rw [hu_269a, hu_269b] at hP hD
            refine lv_if_lt (tgt := 71) hx hb dX12_textFor_60 (by decide) (fun c_273 => ?_) (fun c_273 => ?_)
            · have tc_274 : (x_267).toInt < 0 := Int32.lt_iff_toInt_lt.mp c_273
              have h_275 : rg x_267 (-1) (-1) := rg_lt1 c_273 hr_271 (rg_k (0 : Int32) 0 rfl) (by decide)
              have uh_275 := h_275.1
              have vh_275 := h_275.2
              exact K_252 _ _ _ hG hP hD hS (lv_sub hl [1, 2, 3, 4] rfl)
            · have tc_276 : 0 ≤ (x_267).toInt := Int32.le_iff_toInt_le.mp (nlt c_273)
              have h_277 : rg x_267 0 12061 := rg_le2 (nlt c_273) (rg_k (0 : Int32) 0 rfl) hr_271 (by decide)
              have uh_277 := h_277.1
              have vh_277 := h_277.2
              refine lv_aload_n hx hb dX12_textFor_63 rfl (lv_at hl 1 rfl) ?_
              refine pg_f (v := .ref this_a) (C := RX12) (T := TX12) (N := 31) hx hb hts (tw_i inlX12) hown hK hP hL_this hK_this (by decide) rfl 0 (by decide) (hts _ (tw_c tw_176)) (pq_hv rfl hR_this_a) dX12_textFor_64 ?_
              refine lv_iload hx hb dX12_textFor_67 (lv_at hl 0 rfl) ?_
              refine pl_i hx hb hK hP hL_this_a hK_this_a hN_this_a (rg_in h_214 (by decide)) dX12_textFor_69 ?_
              refine lv_tov x_265 ex_265.symm ?_
              have tz : (x_265).toInt = (ri this_a (2220 + 4 * x_149.toNatClampNeg)).toInt := congrArg Int32.toInt (show x_265 = ri this_a (2220 + 4 * x_149.toNatClampNeg) from ex_265.trans (congrArg (ri this_a) (by have z0 := clampE x_149; have z1 := clampE x_213; omega)))
              have tf := GT.frc hG0 (q := this_a) (by rw [hT_this_a]; decide) x_149.toNatClampNeg (by have z0 := clampE x_149; omega)
              subst hQ
              exact W.iret (v := x_265) hx hb hr (fun t1 ht hW => ⟨⟨x_265, (σ, I, J, ri, rj, rq), rfl, ⟨rfl, (by omega), (rg_w h_266 (by decide))⟩, by rw [ht]; exact hP, va_K.moved hW.alike hK, hD⟩, hS.F ht⟩) hS.2.2 dX12_textFor_70
    exact L_200 _ x_2 _ _ _ (rg_w h_3 (by decide)) (by omega) (Nat.lt_succ_self _) hG hP hD hS (lv_sub hl [1, 2, 3, 0] rfl)
  exact go _ _ _ hP hD hS hl

set_option maxHeartbeats 4000000 in
set_option maxRecDepth 100000 in
theorem s_X12_keysFor (l : Launch) (D : va_G) (t : pq_T) (σ : pq_S) (I : Nat → Nat → Int32) (J : Nat → Nat → Int64) (ri : Nat → Nat → Int32) (rj : Nat → Nat → Int64) (rq : Nat → Nat → Option Nat) (sz : Nat) (tg : Nat → Nat) (hSH : SH σ tg) (hG0 : GT tg I ri) (this : Nat) (a0 : Int32) (a1 : Int32) (hL_this : this ∈ σ.1) (hK_this : σ.2.1 this = 12) (this_a : Nat) (hR_this_a : σ.2.2.1 384 this = some this_a) (hL_this_a : this_a ∈ σ.1) (hK_this_a : σ.2.1 this_a = 13) (hN_this_a : σ.2.2.2 this_a = 12720) (hT_this_a : tg this_a = 384) : MetI l yX12_keysFor (wa yX12_keysFor cX12_keysFor 4 (some .boolean)) ({ frames := 3, cells := 0, slots := 0, locals := 69 }) [.ref this, .int a0, .int a1] D t σ (I, J, ri, rj, rq) sz 0 0 (fun (r : Int32) (u : pq_S × pq_M) => ∃ I' : Nat → Nat → Int32, u = (σ, I', J, ri, rj, rq) ∧ GM [] tg σ I ri I' ri rq ∧ ((r = 1 ∧ True) ∨ (r = 0 ∧ True))) := by
  refine Met.ofW (cc := cX12_keysFor) (maxL := 4) (ret := (some .boolean)) (by decide) rfl ?_
  intro p e s m args below meth c s₁ B hml hv
  obtain ⟨rfl, hsz, hP, hK, hD0, hN⟩ := hv
  have hx := B.exec
  have hb := B.bytes
  have hr := B.returns
  have hts := atoms_spec (ws := (wa yX12_keysFor cX12_keysFor 4 (some .boolean))) B.pre
  have hown : s.vm.findClass RX12 = some m.cls := findClass_of_methodNamed B.named
  have hlocks := B.notSynchronized
  subst hsz
  have hD : va_D (pq_B t σ (I, J, ri, rj, rq) s.heap.size) (pq_P t σ (I, J, ri, rj, rq)) := hD0.self
  generalize hAe : pq_B t σ (I, J, ri, rj, rq) s.heap.size = A at hD ⊢
  have hA : ∀ q : Nat, s.heap.size ≤ q → A q := fun q h => by rw [← hAe]; exact Or.inr h
  have hS : va_S A s.heap s.heap [] := va_S.rf
  have hG : GM [] tg σ I ri I ri rq := ⟨hG0, fun _ _ _ => rfl, fun _ _ _ _ _ => rfl, fun _ _ _ _ _ _ => rfl⟩
  have hl := lv_entry ([.ref this, .int a0, .int a1]) (n := 4) (Nat.le_of_ble_eq_true rfl)
  rw [lg_entry_eq]
  generalize (lg_sl ([.ref this, .int a0, .int a1]) ++ List.replicate (4 - (lg_sl ([.ref this, .int a0, .int a1])).length) Slot.unset).toArray = ls at hl ⊢
  have hl : lv_has ls 4 [(0, .ref this), (1, .int a0), (2, .int a1)] := hl
  refine q_gen (fun Q hQ => ?_)
  have go : ∀ (H : Heap) (locs : List Loc) (ls : Array Slot), va_P D vwCl (pq_P t σ (I, J, ri, rj, rq)) H → va_D A (pq_P t σ (I, J, ri, rj, rq)) → va_S A s.heap H locs → lv_has ls 4 [(0, .ref this), (1, .int a0), (2, .int a1)] → W p l e ({ frames := 3, cells := 0, slots := 0, locals := 69 } : Room) s m (List.toArray ([.ref this, .int a0, .int a1] : List Value)) below meth c H locs 0 0 Q (F0 m 0 ls []) := by
    intro H locs ls hP hD hS hl
    refine lv_aload_n hx hb dX12_keysFor_0 rfl (lv_at hl 0 rfl) ?_
    refine lv_iload_n hx hb dX12_keysFor_1 rfl (lv_at hl 1 rfl) ?_
    refine lv_iload_n hx hb dX12_keysFor_2 rfl (lv_at hl 2 rfl) ?_
    refine pk_i (va_runV (As := [.int a0, .int a1]) (rest := []) ⟨hx, hb, hml, hown, hts⟩ (s_X12_textFor l D t σ I J ri rj rq H.size tg hSH hG.1 this a0 a1 hL_this hK_this this_a hR_this_a hL_this_a hK_this_a hN_this_a hT_this_a) (cwV 2 hts (tw_V tw_508 tw_509 tw_510 tw_5 tw_511) rfl rfl rfl cv_yX12_textFor_2 ⟨Nat.le_of_ble_eq_true rfl, Nat.le_of_ble_eq_true rfl⟩) ⟨pq_blind, pq_recv hK hP hL_this hK_this (by decide) rfl, pq_pre hK hN hP hD⟩ rfl rfl hl.1 rfl (lv_room (Nat.le_of_ble_eq_true rfl)) dX12_keysFor_3 ⟨Nat.le_of_ble_eq_true rfl, Nat.le_of_ble_eq_true rfl⟩) hD hS hA (fun x_1 σ1 μ1 H locs hw_2 hP hD hS => ?_)
    obtain ⟨hu_3, hp_6, hr_5⟩ := hw_2
    obtain ⟨hu_3a, hu_3b⟩ := Prod.mk.inj hu_3
    rw [hu_3a, hu_3b] at hP hD
    have tt_7 := hp_6
    refine lv_istore_n (lv' := [(3, .int x_1), (0, .ref this), (1, .int a0), (2, .int a1)]) hx hb dX12_keysFor_6 rfl hl (by decide) rfl (fun ls hl => ?_)
    refine lv_aload_n hx hb dX12_keysFor_7 rfl (lv_at hl 1 rfl) ?_
    refine lv_iload_n hx hb dX12_keysFor_8 rfl (lv_at hl 0 rfl) ?_
    refine lv_if_ge (tgt := 16) hx hb dX12_keysFor_9 (by decide) (fun c_8 => ?_) (fun c_8 => ?_)
    · have tc_9 : 0 ≤ (x_1).toInt := Int32.le_iff_toInt_le.mp c_8
      have h_10 : rg x_1 0 9 := rg_le2 c_8 (rg_k (0 : Int32) 0 rfl) hr_5 (by decide)
      have uh_10 := h_10.1
      have vh_10 := h_10.2
      refine lv_aload_n hx hb dX12_keysFor_16 rfl (lv_at hl 1 rfl) ?_
      refine lv_iload_n hx hb dX12_keysFor_17 rfl (lv_at hl 0 rfl) ?_
      refine lv_iload_n hx hb dX12_keysFor_18 rfl (lv_at hl 2 rfl) ?_
      refine pk_i (va_runV (As := [.int x_1, .int a0]) (rest := [.ref this]) ⟨hx, hb, hml, hown, hts⟩ (s_X12_firstOf l D t σ I J ri rj rq H.size tg hSH hG.1 this x_1 a0 hL_this hK_this (rg_w h_10 (by decide)) this_a hR_this_a hL_this_a hK_this_a hN_this_a hT_this_a) (cwV 2 hts (tw_V tw_512 tw_513 tw_514 tw_5 tw_515) rfl rfl rfl cv_yX12_firstOf_2 ⟨Nat.le_of_ble_eq_true rfl, Nat.le_of_ble_eq_true rfl⟩) ⟨pq_blind, pq_recv hK hP hL_this hK_this (by decide) rfl, pq_pre hK hN hP hD⟩ rfl rfl hl.1 rfl (lv_room (Nat.le_of_ble_eq_true rfl)) dX12_keysFor_19 ⟨Nat.le_of_ble_eq_true rfl, Nat.le_of_ble_eq_true rfl⟩) hD hS hA (fun x_11 σ1 μ1 H locs hw_12 hP hD hS => ?_)
      obtain ⟨hu_13, hp_16, hr_15⟩ := hw_12
      obtain ⟨hu_13a, hu_13b⟩ := Prod.mk.inj hu_13
      rw [hu_13a, hu_13b] at hP hD
      refine pp_i (v := x_11) (ty := .int) (C := RX12) (T := TX12) (N := 31) hx hb hts (tw_i inlX12) tyX12 tyX12_ok nmX12 hown hK hP hD hS hL_this hK_this (by decide) rfl 22 406 (by decide) (hts _ (tw_c tw_507)) rfl (tyX12_ok 22 (by decide)) rfl rfl (Nat.le_of_ble_eq_true rfl) (ps_406 _ _ _ _ _) dX12_keysFor_22 (fun I_17 H locs eI_17 hP hD hS => ?_)
      have h_18 : rg x_11 (-1) 12060 := ⟨by omega, by omega⟩
      have uh_18 := h_18.1
      have vh_18 := h_18.2
      have hG := GM.wK hG rfl eI_17 (rg_w h_18 (by decide)) (by rcases hp_16 with q | ⟨c, hc, -, q⟩; exact Or.inl q; exact Or.inr (Or.inr ⟨x_1.toNatClampNeg, c, by have z0 := clampE x_1; omega, hc, by have z0 := clampE x_1; omega⟩)) (by decide)
      refine lv_iload_n hx hb dX12_keysFor_25 rfl (lv_at hl 0 rfl) ?_
      refine lv_if_lt (tgt := 33) hx hb dX12_keysFor_26 (by decide) (fun c_19 => ?_) (fun c_19 => ?_)
      · have tc_20 : (x_1).toInt < 0 := Int32.lt_iff_toInt_lt.mp c_19
        exact (rg_empty (rg_lt1 c_19 h_10 (rg_k (0 : Int32) 0 rfl) (lo := 0) (hi := (-1)) (by decide)) (by decide)).elim
      · have tc_21 : 0 ≤ (x_1).toInt := Int32.le_iff_toInt_le.mp (nlt c_19)
        refine lv_iconst (v := 1) hx hb dX12_keysFor_29 (by decide) ?_
        refine lv_goto (tgt := 34) hx hb dX12_keysFor_30 (by decide) ?_
        subst hQ
        exact W.zret (v := 1) hx hb hr (by decide) (fun t1 ht hW => ⟨⟨1, (σ, I_17, J, ri, rj, rq), rfl, ⟨I_17, rfl, hG, (Or.inl ⟨rfl, trivial⟩)⟩, by rw [ht]; exact hP, va_K.moved hW.alike hK, hD⟩, hS.F ht⟩) hS.2.2 dX12_keysFor_34
    · have tc_22 : (x_1).toInt < 0 := Int32.lt_iff_toInt_lt.mp (nle c_8)
      have h_23 : rg x_1 (-1) (-1) := rg_lt1 (nle c_8) hr_5 (rg_k (0 : Int32) 0 rfl) (by decide)
      have uh_23 := h_23.1
      have vh_23 := h_23.2
      refine lv_iconst (v := (-1)) hx hb dX12_keysFor_12 (by decide) ?_
      refine lv_goto (tgt := 22) hx hb dX12_keysFor_13 (by decide) ?_
      refine pp_i (v := (-1)) (ty := .int) (C := RX12) (T := TX12) (N := 31) hx hb hts (tw_i inlX12) tyX12 tyX12_ok nmX12 hown hK hP hD hS hL_this hK_this (by decide) rfl 22 406 (by decide) (hts _ (tw_c tw_507)) rfl (tyX12_ok 22 (by decide)) rfl rfl (Nat.le_of_ble_eq_true rfl) (ps_406 _ _ _ _ _) dX12_keysFor_22 (fun I_24 H locs eI_24 hP hD hS => ?_)
      have hG := GM.wK hG rfl eI_24 (rg_w (rg_k (-1 : Int32) (-1) rfl) (by decide)) (Or.inl rfl) (by decide)
      refine lv_iload_n hx hb dX12_keysFor_25 rfl (lv_at hl 0 rfl) ?_
      refine lv_if_lt (tgt := 33) hx hb dX12_keysFor_26 (by decide) (fun c_25 => ?_) (fun c_25 => ?_)
      · have tc_26 : (x_1).toInt < 0 := Int32.lt_iff_toInt_lt.mp c_25
        refine lv_iconst (v := 0) hx hb dX12_keysFor_33 (by decide) ?_
        subst hQ
        exact W.zret (v := 0) hx hb hr (by decide) (fun t1 ht hW => ⟨⟨0, (σ, I_24, J, ri, rj, rq), rfl, ⟨I_24, rfl, hG, (Or.inr ⟨rfl, trivial⟩)⟩, by rw [ht]; exact hP, va_K.moved hW.alike hK, hD⟩, hS.F ht⟩) hS.2.2 dX12_keysFor_34
      · have tc_27 : 0 ≤ (x_1).toInt := Int32.le_iff_toInt_le.mp (nlt c_25)
        exact (rg_empty (rg_le2 (nlt c_25) (rg_k (0 : Int32) 0 rfl) h_23 (lo := 0) (hi := (-1)) (by decide)) (by decide)).elim
  exact go _ _ _ hP hD hS hl

set_option maxHeartbeats 4000000 in
set_option maxRecDepth 100000 in
theorem s_X12_cellAt_c14 (l : Launch) (D : va_G) (t : pq_T) (σ : pq_S) (I : Nat → Nat → Int32) (J : Nat → Nat → Int64) (ri : Nat → Nat → Int32) (rj : Nat → Nat → Int64) (rq : Nat → Nat → Option Nat) (sz : Nat) (tg : Nat → Nat) (hSH : SH σ tg) (hG0 : GT tg I ri) (this : Nat) (a0 : Int32) (hL_this : this ∈ σ.1) (hK_this : σ.2.1 this = 12) (h_a0 : rg a0 0 39) : MetI l yX12_cellAt (wa yX12_cellAt cX12_cellAt 3 (some .int)) ({ frames := 0, cells := 0, slots := 0, locals := 0 }) [.ref this, .int a0, .int 14] D t σ (I, J, ri, rj, rq) sz 0 0 (fun (r : Int32) (u : pq_S × pq_M) => u = (σ, I, J, ri, rj, rq) ∧ rg r (-1) 39) := by
  refine Met.ofW (cc := cX12_cellAt) (maxL := 3) (ret := (some .int)) (by decide) rfl ?_
  intro p e s m args below meth c s₁ B hml hv
  obtain ⟨rfl, hsz, hP, hK, hD0, hN⟩ := hv
  have hx := B.exec
  have hb := B.bytes
  have hr := B.returns
  have hts := atoms_spec (ws := (wa yX12_cellAt cX12_cellAt 3 (some .int))) B.pre
  have hown : s.vm.findClass RX12 = some m.cls := findClass_of_methodNamed B.named
  have hlocks := B.notSynchronized
  subst hsz
  have hD : va_D (pq_B t σ (I, J, ri, rj, rq) s.heap.size) (pq_P t σ (I, J, ri, rj, rq)) := hD0.self
  generalize hAe : pq_B t σ (I, J, ri, rj, rq) s.heap.size = A at hD ⊢
  have hA : ∀ q : Nat, s.heap.size ≤ q → A q := fun q h => by rw [← hAe]; exact Or.inr h
  have hS : va_S A s.heap s.heap [] := va_S.rf
  have hG : GM [] tg σ I ri I ri rq := ⟨hG0, fun _ _ _ => rfl, fun _ _ _ _ _ => rfl, fun _ _ _ _ _ _ => rfl⟩
  have hl := lv_entry ([.ref this, .int a0, .int 14]) (n := 3) (Nat.le_of_ble_eq_true rfl)
  rw [lg_entry_eq]
  generalize (lg_sl ([.ref this, .int a0, .int 14]) ++ List.replicate (3 - (lg_sl ([.ref this, .int a0, .int 14])).length) Slot.unset).toArray = ls at hl ⊢
  have hl : lv_has ls 3 [(0, .ref this), (1, .int a0), (2, .int 14)] := hl
  refine q_gen (fun Q hQ => ?_)
  have go : ∀ (H : Heap) (locs : List Loc) (ls : Array Slot), va_P D vwCl (pq_P t σ (I, J, ri, rj, rq)) H → va_D A (pq_P t σ (I, J, ri, rj, rq)) → va_S A s.heap H locs → lv_has ls 3 [(0, .ref this), (1, .int a0), (2, .int 14)] → W p l e ({ frames := 0, cells := 0, slots := 0, locals := 0 } : Room) s m (List.toArray ([.ref this, .int a0, .int 14] : List Value)) below meth c H locs 0 0 Q (F0 m 0 ls []) := by
    intro H locs ls hP hD hS hl
    refine lv_aload_n hx hb dX12_cellAt_0 rfl (lv_at hl 0 rfl) ?_
    obtain ⟨w_1, hR_w_1, hL_w_1, hK_w_1, hN_w_1, hT_w_1⟩ := sh_a hSH 384 (ci := 12) (kd := 13) (len := 12720) rfl (by decide) hL_this hK_this
    refine pg_f (v := .ref w_1) (C := RX12) (T := TX12) (N := 31) hx hb hts (tw_i inlX12) hown hK hP hL_this hK_this (by decide) rfl 0 (by decide) (hts _ (tw_c tw_176)) (pq_hv rfl hR_w_1) dX12_cellAt_1 ?_
    refine lv_bipush (v := 100) hx hb dX12_cellAt_4 (by decide) ?_
    refine lv_bipush (v := 16) hx hb dX12_cellAt_6 (by decide) ?_
    refine lv_iload_n hx hb dX12_cellAt_8 rfl (lv_at hl 1 rfl) ?_
    refine lv_imul hx hb dX12_cellAt_9 ?_
    refine lv_topi (fun x_2 ex_2 => ?_)
    have h_3 : rg x_2 0 624 := rg_of_eq ex_2 (rg_mul (rg_k (16 : Int32) 16 rfl) h_a0 (by decide))
    have uh_3 := h_3.1
    have vh_3 := h_3.2
    have tx_2 : (x_2).toInt = 16 * (a0).toInt := by rw [ex_2]; exact i_mul_rg (a2 := 16) (b2 := (a0).toInt) rfl rfl (rg_k (16 : Int32) 16 rfl) h_a0 (by decide)
    refine lv_iadd hx hb dX12_cellAt_10 ?_
    refine lv_topi (fun x_4 ex_4 => ?_)
    have h_5 : rg x_4 100 724 := rg_of_eq ex_4 (rg_add (rg_k (100 : Int32) 100 rfl) h_3 (by decide))
    have uh_5 := h_5.1
    have vh_5 := h_5.2
    have tx_4 : (x_4).toInt = 100 + (x_2).toInt := by rw [ex_4]; exact i_add_rg (a2 := 100) (b2 := (x_2).toInt) rfl rfl (rg_k (100 : Int32) 100 rfl) h_3 (by decide)
    refine lv_iload_n hx hb dX12_cellAt_11 rfl (lv_at hl 2 rfl) ?_
    refine lv_iadd hx hb dX12_cellAt_12 ?_
    refine lv_topi (fun x_6 ex_6 => ?_)
    have h_7 : rg x_6 114 738 := rg_of_eq ex_6 (rg_add h_5 (rg_k (14 : Int32) 14 rfl) (by decide))
    have uh_7 := h_7.1
    have vh_7 := h_7.2
    have tx_6 : (x_6).toInt = (x_4).toInt + 14 := by rw [ex_6]; exact i_add_rg (a2 := (x_4).toInt) (b2 := 14) rfl rfl h_5 (rg_k (14 : Int32) 14 rfl) (by decide)
    refine pl_i hx hb hK hP hL_w_1 hK_w_1 hN_w_1 (rg_in h_7 (by decide)) dX12_cellAt_13 ?_
    refine lv_topi (fun x_8 ex_8 => ?_)
    have h_9 : rg x_8 (-1) 39 := rg_of_eq ex_8 (GM.z hG (by rw [hT_w_1]; decide) (zn_CELL (c := a0.toNatClampNeg) (k := 14) (by have z_i := clampE x_6; have z_0 := clampE a0; omega) (rg_cl1 h_a0 (by decide)) (by decide)) rfl)
    have uh_9 := h_9.1
    have vh_9 := h_9.2
    subst hQ
    exact W.iret (v := x_8) hx hb hr (fun t1 ht hW => ⟨⟨x_8, (σ, I, J, ri, rj, rq), rfl, ⟨rfl, (rg_w h_9 (by decide))⟩, by rw [ht]; exact hP, va_K.moved hW.alike hK, hD⟩, hS.F ht⟩) hS.2.2 dX12_cellAt_14
  exact go _ _ _ hP hD hS hl

set_option maxHeartbeats 4000000 in
set_option maxRecDepth 100000 in
theorem s_X12_personAt_c0 (l : Launch) (D : va_G) (t : pq_T) (σ : pq_S) (I : Nat → Nat → Int32) (J : Nat → Nat → Int64) (ri : Nat → Nat → Int32) (rj : Nat → Nat → Int64) (rq : Nat → Nat → Option Nat) (sz : Nat) (tg : Nat → Nat) (hSH : SH σ tg) (hG0 : GT tg I ri) (this : Nat) (a0 : Int32) (hL_this : this ∈ σ.1) (hK_this : σ.2.1 this = 12) (h_a0 : rg a0 0 39) (this_a : Nat) (hR_this_a : σ.2.2.1 384 this = some this_a) (hL_this_a : this_a ∈ σ.1) (hK_this_a : σ.2.1 this_a = 13) (hN_this_a : σ.2.2.2 this_a = 12720) (hT_this_a : tg this_a = 384) : MetI l yX12_personAt (wa yX12_personAt cX12_personAt 3 (some .int)) ({ frames := 0, cells := 0, slots := 0, locals := 0 }) [.ref this, .int a0, .int 0] D t σ (I, J, ri, rj, rq) sz 0 0 (fun (r : Int32) (u : pq_S × pq_M) => u = (σ, I, J, ri, rj, rq) ∧ (r = ri this_a (740 + 12 * a0.toNatClampNeg))) := by
  refine Met.ofW (cc := cX12_personAt) (maxL := 3) (ret := (some .int)) (by decide) rfl ?_
  intro p e s m args below meth c s₁ B hml hv
  obtain ⟨rfl, hsz, hP, hK, hD0, hN⟩ := hv
  have hx := B.exec
  have hb := B.bytes
  have hr := B.returns
  have hts := atoms_spec (ws := (wa yX12_personAt cX12_personAt 3 (some .int))) B.pre
  have hown : s.vm.findClass RX12 = some m.cls := findClass_of_methodNamed B.named
  have hlocks := B.notSynchronized
  subst hsz
  have hD : va_D (pq_B t σ (I, J, ri, rj, rq) s.heap.size) (pq_P t σ (I, J, ri, rj, rq)) := hD0.self
  generalize hAe : pq_B t σ (I, J, ri, rj, rq) s.heap.size = A at hD ⊢
  have hA : ∀ q : Nat, s.heap.size ≤ q → A q := fun q h => by rw [← hAe]; exact Or.inr h
  have hS : va_S A s.heap s.heap [] := va_S.rf
  have hG : GM [] tg σ I ri I ri rq := ⟨hG0, fun _ _ _ => rfl, fun _ _ _ _ _ => rfl, fun _ _ _ _ _ _ => rfl⟩
  have hl := lv_entry ([.ref this, .int a0, .int 0]) (n := 3) (Nat.le_of_ble_eq_true rfl)
  rw [lg_entry_eq]
  generalize (lg_sl ([.ref this, .int a0, .int 0]) ++ List.replicate (3 - (lg_sl ([.ref this, .int a0, .int 0])).length) Slot.unset).toArray = ls at hl ⊢
  have hl : lv_has ls 3 [(0, .ref this), (1, .int a0), (2, .int 0)] := hl
  refine q_gen (fun Q hQ => ?_)
  have go : ∀ (H : Heap) (locs : List Loc) (ls : Array Slot), va_P D vwCl (pq_P t σ (I, J, ri, rj, rq)) H → va_D A (pq_P t σ (I, J, ri, rj, rq)) → va_S A s.heap H locs → lv_has ls 3 [(0, .ref this), (1, .int a0), (2, .int 0)] → W p l e ({ frames := 0, cells := 0, slots := 0, locals := 0 } : Room) s m (List.toArray ([.ref this, .int a0, .int 0] : List Value)) below meth c H locs 0 0 Q (F0 m 0 ls []) := by
    intro H locs ls hP hD hS hl
    refine lv_aload_n hx hb dX12_personAt_0 rfl (lv_at hl 0 rfl) ?_
    refine pg_f (v := .ref this_a) (C := RX12) (T := TX12) (N := 31) hx hb hts (tw_i inlX12) hown hK hP hL_this hK_this (by decide) rfl 0 (by decide) (hts _ (tw_c tw_176)) (pq_hv rfl hR_this_a) dX12_personAt_1 ?_
    refine lv_sipush (v := 740) hx hb dX12_personAt_4 (by decide) ?_
    refine lv_bipush (v := 12) hx hb dX12_personAt_7 (by decide) ?_
    refine lv_iload_n hx hb dX12_personAt_9 rfl (lv_at hl 1 rfl) ?_
    refine lv_imul hx hb dX12_personAt_10 ?_
    refine lv_topi (fun x_1 ex_1 => ?_)
    have h_2 : rg x_1 0 468 := rg_of_eq ex_1 (rg_mul (rg_k (12 : Int32) 12 rfl) h_a0 (by decide))
    have uh_2 := h_2.1
    have vh_2 := h_2.2
    have tx_1 : (x_1).toInt = 12 * (a0).toInt := by rw [ex_1]; exact i_mul_rg (a2 := 12) (b2 := (a0).toInt) rfl rfl (rg_k (12 : Int32) 12 rfl) h_a0 (by decide)
    refine lv_iadd hx hb dX12_personAt_11 ?_
    refine lv_topi (fun x_3 ex_3 => ?_)
    have h_4 : rg x_3 740 1208 := rg_of_eq ex_3 (rg_add (rg_k (740 : Int32) 740 rfl) h_2 (by decide))
    have uh_4 := h_4.1
    have vh_4 := h_4.2
    have tx_3 : (x_3).toInt = 740 + (x_1).toInt := by rw [ex_3]; exact i_add_rg (a2 := 740) (b2 := (x_1).toInt) rfl rfl (rg_k (740 : Int32) 740 rfl) h_2 (by decide)
    refine lv_iload_n hx hb dX12_personAt_12 rfl (lv_at hl 2 rfl) ?_
    refine lv_iadd hx hb dX12_personAt_13 ?_
    refine lv_topi (fun x_5 ex_5 => ?_)
    have h_6 : rg x_5 740 1208 := rg_of_eq ex_5 (rg_add h_4 (rg_k (0 : Int32) 0 rfl) (by decide))
    have uh_6 := h_6.1
    have vh_6 := h_6.2
    have tx_5 : (x_5).toInt = (x_3).toInt + 0 := by rw [ex_5]; exact i_add_rg (a2 := (x_3).toInt) (b2 := 0) rfl rfl h_4 (rg_k (0 : Int32) 0 rfl) (by decide)
    refine pl_i hx hb hK hP hL_this_a hK_this_a hN_this_a (rg_in h_6 (by decide)) dX12_personAt_14 ?_
    refine lv_topi (fun x_7 ex_7 => ?_)
    subst hQ
    exact W.iret (v := x_7) hx hb hr (fun t1 ht hW => ⟨⟨x_7, (σ, I, J, ri, rj, rq), rfl, ⟨rfl, (show x_7 = ri this_a (740 + 12 * a0.toNatClampNeg) from ex_7.trans (congrArg (ri this_a) (by have z0 := clampE a0; have z1 := clampE x_5; omega)))⟩, by rw [ht]; exact hP, va_K.moved hW.alike hK, hD⟩, hS.F ht⟩) hS.2.2 dX12_personAt_15
  exact go _ _ _ hP hD hS hl

set_option maxHeartbeats 4000000 in
set_option maxRecDepth 100000 in
theorem s_X12_personAt_c1 (l : Launch) (D : va_G) (t : pq_T) (σ : pq_S) (I : Nat → Nat → Int32) (J : Nat → Nat → Int64) (ri : Nat → Nat → Int32) (rj : Nat → Nat → Int64) (rq : Nat → Nat → Option Nat) (sz : Nat) (tg : Nat → Nat) (hSH : SH σ tg) (hG0 : GT tg I ri) (this : Nat) (a0 : Int32) (hL_this : this ∈ σ.1) (hK_this : σ.2.1 this = 12) (h_a0 : rg a0 0 39) (this_a : Nat) (hR_this_a : σ.2.2.1 384 this = some this_a) (hL_this_a : this_a ∈ σ.1) (hK_this_a : σ.2.1 this_a = 13) (hN_this_a : σ.2.2.2 this_a = 12720) (hT_this_a : tg this_a = 384) : MetI l yX12_personAt (wa yX12_personAt cX12_personAt 3 (some .int)) ({ frames := 0, cells := 0, slots := 0, locals := 0 }) [.ref this, .int a0, .int 1] D t σ (I, J, ri, rj, rq) sz 0 0 (fun (r : Int32) (u : pq_S × pq_M) => u = (σ, I, J, ri, rj, rq) ∧ (r = ri this_a (741 + 12 * a0.toNatClampNeg))) := by
  refine Met.ofW (cc := cX12_personAt) (maxL := 3) (ret := (some .int)) (by decide) rfl ?_
  intro p e s m args below meth c s₁ B hml hv
  obtain ⟨rfl, hsz, hP, hK, hD0, hN⟩ := hv
  have hx := B.exec
  have hb := B.bytes
  have hr := B.returns
  have hts := atoms_spec (ws := (wa yX12_personAt cX12_personAt 3 (some .int))) B.pre
  have hown : s.vm.findClass RX12 = some m.cls := findClass_of_methodNamed B.named
  have hlocks := B.notSynchronized
  subst hsz
  have hD : va_D (pq_B t σ (I, J, ri, rj, rq) s.heap.size) (pq_P t σ (I, J, ri, rj, rq)) := hD0.self
  generalize hAe : pq_B t σ (I, J, ri, rj, rq) s.heap.size = A at hD ⊢
  have hA : ∀ q : Nat, s.heap.size ≤ q → A q := fun q h => by rw [← hAe]; exact Or.inr h
  have hS : va_S A s.heap s.heap [] := va_S.rf
  have hG : GM [] tg σ I ri I ri rq := ⟨hG0, fun _ _ _ => rfl, fun _ _ _ _ _ => rfl, fun _ _ _ _ _ _ => rfl⟩
  have hl := lv_entry ([.ref this, .int a0, .int 1]) (n := 3) (Nat.le_of_ble_eq_true rfl)
  rw [lg_entry_eq]
  generalize (lg_sl ([.ref this, .int a0, .int 1]) ++ List.replicate (3 - (lg_sl ([.ref this, .int a0, .int 1])).length) Slot.unset).toArray = ls at hl ⊢
  have hl : lv_has ls 3 [(0, .ref this), (1, .int a0), (2, .int 1)] := hl
  refine q_gen (fun Q hQ => ?_)
  have go : ∀ (H : Heap) (locs : List Loc) (ls : Array Slot), va_P D vwCl (pq_P t σ (I, J, ri, rj, rq)) H → va_D A (pq_P t σ (I, J, ri, rj, rq)) → va_S A s.heap H locs → lv_has ls 3 [(0, .ref this), (1, .int a0), (2, .int 1)] → W p l e ({ frames := 0, cells := 0, slots := 0, locals := 0 } : Room) s m (List.toArray ([.ref this, .int a0, .int 1] : List Value)) below meth c H locs 0 0 Q (F0 m 0 ls []) := by
    intro H locs ls hP hD hS hl
    refine lv_aload_n hx hb dX12_personAt_0 rfl (lv_at hl 0 rfl) ?_
    refine pg_f (v := .ref this_a) (C := RX12) (T := TX12) (N := 31) hx hb hts (tw_i inlX12) hown hK hP hL_this hK_this (by decide) rfl 0 (by decide) (hts _ (tw_c tw_176)) (pq_hv rfl hR_this_a) dX12_personAt_1 ?_
    refine lv_sipush (v := 740) hx hb dX12_personAt_4 (by decide) ?_
    refine lv_bipush (v := 12) hx hb dX12_personAt_7 (by decide) ?_
    refine lv_iload_n hx hb dX12_personAt_9 rfl (lv_at hl 1 rfl) ?_
    refine lv_imul hx hb dX12_personAt_10 ?_
    refine lv_topi (fun x_1 ex_1 => ?_)
    have h_2 : rg x_1 0 468 := rg_of_eq ex_1 (rg_mul (rg_k (12 : Int32) 12 rfl) h_a0 (by decide))
    have uh_2 := h_2.1
    have vh_2 := h_2.2
    have tx_1 : (x_1).toInt = 12 * (a0).toInt := by rw [ex_1]; exact i_mul_rg (a2 := 12) (b2 := (a0).toInt) rfl rfl (rg_k (12 : Int32) 12 rfl) h_a0 (by decide)
    refine lv_iadd hx hb dX12_personAt_11 ?_
    refine lv_topi (fun x_3 ex_3 => ?_)
    have h_4 : rg x_3 740 1208 := rg_of_eq ex_3 (rg_add (rg_k (740 : Int32) 740 rfl) h_2 (by decide))
    have uh_4 := h_4.1
    have vh_4 := h_4.2
    have tx_3 : (x_3).toInt = 740 + (x_1).toInt := by rw [ex_3]; exact i_add_rg (a2 := 740) (b2 := (x_1).toInt) rfl rfl (rg_k (740 : Int32) 740 rfl) h_2 (by decide)
    refine lv_iload_n hx hb dX12_personAt_12 rfl (lv_at hl 2 rfl) ?_
    refine lv_iadd hx hb dX12_personAt_13 ?_
    refine lv_topi (fun x_5 ex_5 => ?_)
    have h_6 : rg x_5 741 1209 := rg_of_eq ex_5 (rg_add h_4 (rg_k (1 : Int32) 1 rfl) (by decide))
    have uh_6 := h_6.1
    have vh_6 := h_6.2
    have tx_5 : (x_5).toInt = (x_3).toInt + 1 := by rw [ex_5]; exact i_add_rg (a2 := (x_3).toInt) (b2 := 1) rfl rfl h_4 (rg_k (1 : Int32) 1 rfl) (by decide)
    refine pl_i hx hb hK hP hL_this_a hK_this_a hN_this_a (rg_in h_6 (by decide)) dX12_personAt_14 ?_
    refine lv_topi (fun x_7 ex_7 => ?_)
    subst hQ
    exact W.iret (v := x_7) hx hb hr (fun t1 ht hW => ⟨⟨x_7, (σ, I, J, ri, rj, rq), rfl, ⟨rfl, (show x_7 = ri this_a (741 + 12 * a0.toNatClampNeg) from ex_7.trans (congrArg (ri this_a) (by have z0 := clampE a0; have z1 := clampE x_5; omega)))⟩, by rw [ht]; exact hP, va_K.moved hW.alike hK, hD⟩, hS.F ht⟩) hS.2.2 dX12_personAt_15
  exact go _ _ _ hP hD hS hl

set_option maxHeartbeats 4000000 in
set_option maxRecDepth 100000 in
theorem s_X12_personAt_c2 (l : Launch) (D : va_G) (t : pq_T) (σ : pq_S) (I : Nat → Nat → Int32) (J : Nat → Nat → Int64) (ri : Nat → Nat → Int32) (rj : Nat → Nat → Int64) (rq : Nat → Nat → Option Nat) (sz : Nat) (tg : Nat → Nat) (hSH : SH σ tg) (hG0 : GT tg I ri) (this : Nat) (a0 : Int32) (hL_this : this ∈ σ.1) (hK_this : σ.2.1 this = 12) (h_a0 : rg a0 0 39) (this_a : Nat) (hR_this_a : σ.2.2.1 384 this = some this_a) (hL_this_a : this_a ∈ σ.1) (hK_this_a : σ.2.1 this_a = 13) (hN_this_a : σ.2.2.2 this_a = 12720) (hT_this_a : tg this_a = 384) : MetI l yX12_personAt (wa yX12_personAt cX12_personAt 3 (some .int)) ({ frames := 0, cells := 0, slots := 0, locals := 0 }) [.ref this, .int a0, .int 2] D t σ (I, J, ri, rj, rq) sz 0 0 (fun (r : Int32) (u : pq_S × pq_M) => u = (σ, I, J, ri, rj, rq) ∧ (r = ri this_a (742 + 12 * a0.toNatClampNeg))) := by
  refine Met.ofW (cc := cX12_personAt) (maxL := 3) (ret := (some .int)) (by decide) rfl ?_
  intro p e s m args below meth c s₁ B hml hv
  obtain ⟨rfl, hsz, hP, hK, hD0, hN⟩ := hv
  have hx := B.exec
  have hb := B.bytes
  have hr := B.returns
  have hts := atoms_spec (ws := (wa yX12_personAt cX12_personAt 3 (some .int))) B.pre
  have hown : s.vm.findClass RX12 = some m.cls := findClass_of_methodNamed B.named
  have hlocks := B.notSynchronized
  subst hsz
  have hD : va_D (pq_B t σ (I, J, ri, rj, rq) s.heap.size) (pq_P t σ (I, J, ri, rj, rq)) := hD0.self
  generalize hAe : pq_B t σ (I, J, ri, rj, rq) s.heap.size = A at hD ⊢
  have hA : ∀ q : Nat, s.heap.size ≤ q → A q := fun q h => by rw [← hAe]; exact Or.inr h
  have hS : va_S A s.heap s.heap [] := va_S.rf
  have hG : GM [] tg σ I ri I ri rq := ⟨hG0, fun _ _ _ => rfl, fun _ _ _ _ _ => rfl, fun _ _ _ _ _ _ => rfl⟩
  have hl := lv_entry ([.ref this, .int a0, .int 2]) (n := 3) (Nat.le_of_ble_eq_true rfl)
  rw [lg_entry_eq]
  generalize (lg_sl ([.ref this, .int a0, .int 2]) ++ List.replicate (3 - (lg_sl ([.ref this, .int a0, .int 2])).length) Slot.unset).toArray = ls at hl ⊢
  have hl : lv_has ls 3 [(0, .ref this), (1, .int a0), (2, .int 2)] := hl
  refine q_gen (fun Q hQ => ?_)
  have go : ∀ (H : Heap) (locs : List Loc) (ls : Array Slot), va_P D vwCl (pq_P t σ (I, J, ri, rj, rq)) H → va_D A (pq_P t σ (I, J, ri, rj, rq)) → va_S A s.heap H locs → lv_has ls 3 [(0, .ref this), (1, .int a0), (2, .int 2)] → W p l e ({ frames := 0, cells := 0, slots := 0, locals := 0 } : Room) s m (List.toArray ([.ref this, .int a0, .int 2] : List Value)) below meth c H locs 0 0 Q (F0 m 0 ls []) := by
    intro H locs ls hP hD hS hl
    refine lv_aload_n hx hb dX12_personAt_0 rfl (lv_at hl 0 rfl) ?_
    refine pg_f (v := .ref this_a) (C := RX12) (T := TX12) (N := 31) hx hb hts (tw_i inlX12) hown hK hP hL_this hK_this (by decide) rfl 0 (by decide) (hts _ (tw_c tw_176)) (pq_hv rfl hR_this_a) dX12_personAt_1 ?_
    refine lv_sipush (v := 740) hx hb dX12_personAt_4 (by decide) ?_
    refine lv_bipush (v := 12) hx hb dX12_personAt_7 (by decide) ?_
    refine lv_iload_n hx hb dX12_personAt_9 rfl (lv_at hl 1 rfl) ?_
    refine lv_imul hx hb dX12_personAt_10 ?_
    refine lv_topi (fun x_1 ex_1 => ?_)
    have h_2 : rg x_1 0 468 := rg_of_eq ex_1 (rg_mul (rg_k (12 : Int32) 12 rfl) h_a0 (by decide))
    have uh_2 := h_2.1
    have vh_2 := h_2.2
    have tx_1 : (x_1).toInt = 12 * (a0).toInt := by rw [ex_1]; exact i_mul_rg (a2 := 12) (b2 := (a0).toInt) rfl rfl (rg_k (12 : Int32) 12 rfl) h_a0 (by decide)
    refine lv_iadd hx hb dX12_personAt_11 ?_
    refine lv_topi (fun x_3 ex_3 => ?_)
    have h_4 : rg x_3 740 1208 := rg_of_eq ex_3 (rg_add (rg_k (740 : Int32) 740 rfl) h_2 (by decide))
    have uh_4 := h_4.1
    have vh_4 := h_4.2
    have tx_3 : (x_3).toInt = 740 + (x_1).toInt := by rw [ex_3]; exact i_add_rg (a2 := 740) (b2 := (x_1).toInt) rfl rfl (rg_k (740 : Int32) 740 rfl) h_2 (by decide)
    refine lv_iload_n hx hb dX12_personAt_12 rfl (lv_at hl 2 rfl) ?_
    refine lv_iadd hx hb dX12_personAt_13 ?_
    refine lv_topi (fun x_5 ex_5 => ?_)
    have h_6 : rg x_5 742 1210 := rg_of_eq ex_5 (rg_add h_4 (rg_k (2 : Int32) 2 rfl) (by decide))
    have uh_6 := h_6.1
    have vh_6 := h_6.2
    have tx_5 : (x_5).toInt = (x_3).toInt + 2 := by rw [ex_5]; exact i_add_rg (a2 := (x_3).toInt) (b2 := 2) rfl rfl h_4 (rg_k (2 : Int32) 2 rfl) (by decide)
    refine pl_i hx hb hK hP hL_this_a hK_this_a hN_this_a (rg_in h_6 (by decide)) dX12_personAt_14 ?_
    refine lv_topi (fun x_7 ex_7 => ?_)
    subst hQ
    exact W.iret (v := x_7) hx hb hr (fun t1 ht hW => ⟨⟨x_7, (σ, I, J, ri, rj, rq), rfl, ⟨rfl, (show x_7 = ri this_a (742 + 12 * a0.toNatClampNeg) from ex_7.trans (congrArg (ri this_a) (by have z0 := clampE a0; have z1 := clampE x_5; omega)))⟩, by rw [ht]; exact hP, va_K.moved hW.alike hK, hD⟩, hS.F ht⟩) hS.2.2 dX12_personAt_15
  exact go _ _ _ hP hD hS hl

set_option maxHeartbeats 4000000 in
set_option maxRecDepth 100000 in
theorem s_X12_named (l : Launch) (D : va_G) (t : pq_T) (σ : pq_S) (I : Nat → Nat → Int32) (J : Nat → Nat → Int64) (ri : Nat → Nat → Int32) (rj : Nat → Nat → Int64) (rq : Nat → Nat → Option Nat) (sz : Nat) (tg : Nat → Nat) (hSH : SH σ tg) (hG0 : GT tg I ri) (this : Nat) (a0 : Int32) (a1 : Int32) (a2 : Int32) (a3 : Int32) (hL_this : this ∈ σ.1) (hK_this : σ.2.1 this = 12) (h_a0 : rg a0 0 39) : MetI l yX12_named (wa yX12_named cX12_named 5 (some .int)) ({ frames := 1, cells := 0, slots := 0, locals := 22 }) [.ref this, .int a0, .int a1, .int a2, .int a3] D t σ (I, J, ri, rj, rq) sz 0 0 (fun (r : Int32) (u : pq_S × pq_M) => u = (σ, I, J, ri, rj, rq)) := by
  refine Met.ofW (cc := cX12_named) (maxL := 5) (ret := (some .int)) (by decide) rfl ?_
  intro p e s m args below meth c s₁ B hml hv
  obtain ⟨rfl, hsz, hP, hK, hD0, hN⟩ := hv
  have hx := B.exec
  have hb := B.bytes
  have hr := B.returns
  have hts := atoms_spec (ws := (wa yX12_named cX12_named 5 (some .int))) B.pre
  have hown : s.vm.findClass RX12 = some m.cls := findClass_of_methodNamed B.named
  have hlocks := B.notSynchronized
  subst hsz
  have hD : va_D (pq_B t σ (I, J, ri, rj, rq) s.heap.size) (pq_P t σ (I, J, ri, rj, rq)) := hD0.self
  generalize hAe : pq_B t σ (I, J, ri, rj, rq) s.heap.size = A at hD ⊢
  have hA : ∀ q : Nat, s.heap.size ≤ q → A q := fun q h => by rw [← hAe]; exact Or.inr h
  have hS : va_S A s.heap s.heap [] := va_S.rf
  have hG : GM [] tg σ I ri I ri rq := ⟨hG0, fun _ _ _ => rfl, fun _ _ _ _ _ => rfl, fun _ _ _ _ _ _ => rfl⟩
  have hl := lv_entry ([.ref this, .int a0, .int a1, .int a2, .int a3]) (n := 5) (Nat.le_of_ble_eq_true rfl)
  rw [lg_entry_eq]
  generalize (lg_sl ([.ref this, .int a0, .int a1, .int a2, .int a3]) ++ List.replicate (5 - (lg_sl ([.ref this, .int a0, .int a1, .int a2, .int a3])).length) Slot.unset).toArray = ls at hl ⊢
  have hl : lv_has ls 5 [(0, .ref this), (1, .int a0), (2, .int a1), (3, .int a2), (4, .int a3)] := hl
  refine q_gen (fun Q hQ => ?_)
  have go : ∀ (H : Heap) (locs : List Loc) (ls : Array Slot), va_P D vwCl (pq_P t σ (I, J, ri, rj, rq)) H → va_D A (pq_P t σ (I, J, ri, rj, rq)) → va_S A s.heap H locs → lv_has ls 5 [(0, .ref this), (1, .int a0), (2, .int a1), (3, .int a2), (4, .int a3)] → W p l e ({ frames := 1, cells := 0, slots := 0, locals := 22 } : Room) s m (List.toArray ([.ref this, .int a0, .int a1, .int a2, .int a3] : List Value)) below meth c H locs 0 0 Q (F0 m 0 ls []) := by
    intro H locs ls hP hD hS hl
    refine lv_iload_n hx hb dX12_named_0 rfl (lv_at hl 2 rfl) ?_
    by_cases k_1 : a1 = (0 : Int32)
    · have tc_2 : (a1).toInt = 0 := congrArg Int32.toInt k_1
      have h_3 : rg a1 0 0 := rg_and (rg_full _) (rg_of_eq k_1 (rg_k (0 : Int32) 0 rfl)) (by decide)
      have uh_3 := h_3.1
      have vh_3 := h_3.2
      refine lv_tov 0 k_1 ?_
      refine lv_tableIn (tgt := 36) hx hb dX12_named_1 (by decide) (by decide) rfl (by decide) ?_
      refine lv_aload_n hx hb dX12_named_36 rfl (lv_at hl 0 rfl) ?_
      refine lv_iload_n hx hb dX12_named_37 rfl (lv_at hl 1 rfl) ?_
      refine lv_iconst (v := 1) hx hb dX12_named_38 (by decide) ?_
      obtain ⟨w_4, hR_w_4, hL_w_4, hK_w_4, hN_w_4, hT_w_4⟩ := sh_a hSH 384 (ci := 12) (kd := 13) (len := 12720) rfl (by decide) hL_this hK_this
      refine pk_i (va_runV (As := [.int a0, .int 1]) (rest := []) ⟨hx, hb, hml, hown, hts⟩ (s_X12_personAt_c1 l D t σ I J ri rj rq H.size tg hSH hG.1 this a0 hL_this hK_this (rg_w h_a0 (by decide)) w_4 hR_w_4 hL_w_4 hK_w_4 hN_w_4 hT_w_4) (cwV 2 hts (tw_V tw_437 tw_438 tw_439 tw_5 tw_440) rfl rfl rfl cv_yX12_personAt_2 ⟨Nat.le_of_ble_eq_true rfl, Nat.le_of_ble_eq_true rfl⟩) ⟨pq_blind, pq_recv hK hP hL_this hK_this (by decide) rfl, pq_pre hK hN hP hD⟩ rfl rfl hl.1 rfl (lv_room (Nat.le_of_ble_eq_true rfl)) dX12_named_39 ⟨Nat.le_of_ble_eq_true rfl, Nat.le_of_ble_eq_true rfl⟩) hD hS hA (fun x_5 σ1 μ1 H locs hw_6 hP hD hS => ?_)
      obtain ⟨hu_7, hp_10⟩ := hw_6
      obtain ⟨hu_7a, hu_7b⟩ := Prod.mk.inj hu_7
      rw [hu_7a, hu_7b] at hP hD
      subst hQ
      exact W.iret (v := x_5) hx hb hr (fun t1 ht hW => ⟨⟨x_5, (σ, I, J, ri, rj, rq), rfl, rfl, by rw [ht]; exact hP, va_K.moved hW.alike hK, hD⟩, hS.F ht⟩) hS.2.2 dX12_named_42
    by_cases k_11 : a1 = (1 : Int32)
    · have tc_12 : (a1).toInt = 1 := congrArg Int32.toInt k_11
      have h_13 : rg a1 1 1 := rg_and (rg_full _) (rg_of_eq k_11 (rg_k (1 : Int32) 1 rfl)) (by decide)
      have uh_13 := h_13.1
      have vh_13 := h_13.2
      refine lv_tov 1 k_11 ?_
      refine lv_tableIn (tgt := 43) hx hb dX12_named_1 (by decide) (by decide) rfl (by decide) ?_
      refine lv_aload_n hx hb dX12_named_43 rfl (lv_at hl 0 rfl) ?_
      refine lv_iload_n hx hb dX12_named_44 rfl (lv_at hl 1 rfl) ?_
      refine lv_iconst (v := 0) hx hb dX12_named_45 (by decide) ?_
      obtain ⟨w_14, hR_w_14, hL_w_14, hK_w_14, hN_w_14, hT_w_14⟩ := sh_a hSH 384 (ci := 12) (kd := 13) (len := 12720) rfl (by decide) hL_this hK_this
      refine pk_i (va_runV (As := [.int a0, .int 0]) (rest := []) ⟨hx, hb, hml, hown, hts⟩ (s_X12_personAt_c0 l D t σ I J ri rj rq H.size tg hSH hG.1 this a0 hL_this hK_this (rg_w h_a0 (by decide)) w_14 hR_w_14 hL_w_14 hK_w_14 hN_w_14 hT_w_14) (cwV 2 hts (tw_V tw_437 tw_438 tw_439 tw_5 tw_440) rfl rfl rfl cv_yX12_personAt_2 ⟨Nat.le_of_ble_eq_true rfl, Nat.le_of_ble_eq_true rfl⟩) ⟨pq_blind, pq_recv hK hP hL_this hK_this (by decide) rfl, pq_pre hK hN hP hD⟩ rfl rfl hl.1 rfl (lv_room (Nat.le_of_ble_eq_true rfl)) dX12_named_46 ⟨Nat.le_of_ble_eq_true rfl, Nat.le_of_ble_eq_true rfl⟩) hD hS hA (fun x_15 σ1 μ1 H locs hw_16 hP hD hS => ?_)
      obtain ⟨hu_17, hp_20⟩ := hw_16
      obtain ⟨hu_17a, hu_17b⟩ := Prod.mk.inj hu_17
      rw [hu_17a, hu_17b] at hP hD
      subst hQ
      exact W.iret (v := x_15) hx hb hr (fun t1 ht hW => ⟨⟨x_15, (σ, I, J, ri, rj, rq), rfl, rfl, by rw [ht]; exact hP, va_K.moved hW.alike hK, hD⟩, hS.F ht⟩) hS.2.2 dX12_named_49
    by_cases k_21 : a1 = (2 : Int32)
    · have tc_22 : (a1).toInt = 2 := congrArg Int32.toInt k_21
      have h_23 : rg a1 2 2 := rg_and (rg_full _) (rg_of_eq k_21 (rg_k (2 : Int32) 2 rfl)) (by decide)
      have uh_23 := h_23.1
      have vh_23 := h_23.2
      refine lv_tov 2 k_21 ?_
      refine lv_tableIn (tgt := 50) hx hb dX12_named_1 (by decide) (by decide) rfl (by decide) ?_
      refine lv_aload_n hx hb dX12_named_50 rfl (lv_at hl 0 rfl) ?_
      refine lv_iload_n hx hb dX12_named_51 rfl (lv_at hl 1 rfl) ?_
      refine lv_iconst (v := 2) hx hb dX12_named_52 (by decide) ?_
      obtain ⟨w_24, hR_w_24, hL_w_24, hK_w_24, hN_w_24, hT_w_24⟩ := sh_a hSH 384 (ci := 12) (kd := 13) (len := 12720) rfl (by decide) hL_this hK_this
      refine pk_i (va_runV (As := [.int a0, .int 2]) (rest := []) ⟨hx, hb, hml, hown, hts⟩ (s_X12_personAt_c2 l D t σ I J ri rj rq H.size tg hSH hG.1 this a0 hL_this hK_this (rg_w h_a0 (by decide)) w_24 hR_w_24 hL_w_24 hK_w_24 hN_w_24 hT_w_24) (cwV 2 hts (tw_V tw_437 tw_438 tw_439 tw_5 tw_440) rfl rfl rfl cv_yX12_personAt_2 ⟨Nat.le_of_ble_eq_true rfl, Nat.le_of_ble_eq_true rfl⟩) ⟨pq_blind, pq_recv hK hP hL_this hK_this (by decide) rfl, pq_pre hK hN hP hD⟩ rfl rfl hl.1 rfl (lv_room (Nat.le_of_ble_eq_true rfl)) dX12_named_53 ⟨Nat.le_of_ble_eq_true rfl, Nat.le_of_ble_eq_true rfl⟩) hD hS hA (fun x_25 σ1 μ1 H locs hw_26 hP hD hS => ?_)
      obtain ⟨hu_27, hp_30⟩ := hw_26
      obtain ⟨hu_27a, hu_27b⟩ := Prod.mk.inj hu_27
      rw [hu_27a, hu_27b] at hP hD
      subst hQ
      exact W.iret (v := x_25) hx hb hr (fun t1 ht hW => ⟨⟨x_25, (σ, I, J, ri, rj, rq), rfl, rfl, by rw [ht]; exact hP, va_K.moved hW.alike hK, hD⟩, hS.F ht⟩) hS.2.2 dX12_named_56
    by_cases k_31 : a1 = (3 : Int32)
    · have tc_32 : (a1).toInt = 3 := congrArg Int32.toInt k_31
      have h_33 : rg a1 3 3 := rg_and (rg_full _) (rg_of_eq k_31 (rg_k (3 : Int32) 3 rfl)) (by decide)
      have uh_33 := h_33.1
      have vh_33 := h_33.2
      refine lv_tov 3 k_31 ?_
      refine lv_tableIn (tgt := 57) hx hb dX12_named_1 (by decide) (by decide) rfl (by decide) ?_
      refine lv_aload_n hx hb dX12_named_57 rfl (lv_at hl 0 rfl) ?_
      refine lv_iload_n hx hb dX12_named_58 rfl (lv_at hl 1 rfl) ?_
      refine lv_iconst (v := 3) hx hb dX12_named_59 (by decide) ?_
      obtain ⟨w_34, hR_w_34, hL_w_34, hK_w_34, hN_w_34, hT_w_34⟩ := sh_a hSH 384 (ci := 12) (kd := 13) (len := 12720) rfl (by decide) hL_this hK_this
      refine pk_i (va_runV (As := [.int a0, .int 3]) (rest := []) ⟨hx, hb, hml, hown, hts⟩ (s_X12_personAt_c3 l D t σ I J ri rj rq H.size tg hSH hG.1 this a0 hL_this hK_this (rg_w h_a0 (by decide)) w_34 hR_w_34 hL_w_34 hK_w_34 hN_w_34 hT_w_34) (cwV 2 hts (tw_V tw_437 tw_438 tw_439 tw_5 tw_440) rfl rfl rfl cv_yX12_personAt_2 ⟨Nat.le_of_ble_eq_true rfl, Nat.le_of_ble_eq_true rfl⟩) ⟨pq_blind, pq_recv hK hP hL_this hK_this (by decide) rfl, pq_pre hK hN hP hD⟩ rfl rfl hl.1 rfl (lv_room (Nat.le_of_ble_eq_true rfl)) dX12_named_60 ⟨Nat.le_of_ble_eq_true rfl, Nat.le_of_ble_eq_true rfl⟩) hD hS hA (fun x_35 σ1 μ1 H locs hw_36 hP hD hS => ?_)
      obtain ⟨hu_37, hp_40, hp_41, hr_39⟩ := hw_36
      obtain ⟨hu_37a, hu_37b⟩ := Prod.mk.inj hu_37
      rw [hu_37a, hu_37b] at hP hD
      have tt_42 := hp_41
      subst hQ
      exact W.iret (v := x_35) hx hb hr (fun t1 ht hW => ⟨⟨x_35, (σ, I, J, ri, rj, rq), rfl, rfl, by rw [ht]; exact hP, va_K.moved hW.alike hK, hD⟩, hS.F ht⟩) hS.2.2 dX12_named_63
    by_cases k_43 : a1 = (4 : Int32)
    · have tc_44 : (a1).toInt = 4 := congrArg Int32.toInt k_43
      have h_45 : rg a1 4 4 := rg_and (rg_full _) (rg_of_eq k_43 (rg_k (4 : Int32) 4 rfl)) (by decide)
      have uh_45 := h_45.1
      have vh_45 := h_45.2
      refine lv_tov 4 k_43 ?_
      refine lv_tableIn (tgt := 64) hx hb dX12_named_1 (by decide) (by decide) rfl (by decide) ?_
      refine lv_iload_n hx hb dX12_named_64 rfl (lv_at hl 3 rfl) ?_
      subst hQ
      exact W.iret (v := a2) hx hb hr (fun t1 ht hW => ⟨⟨a2, (σ, I, J, ri, rj, rq), rfl, rfl, by rw [ht]; exact hP, va_K.moved hW.alike hK, hD⟩, hS.F ht⟩) hS.2.2 dX12_named_65
    refine lv_tableOut (tgt := 66) hx hb dX12_named_1 (by have z_k_1 := sw_ne k_1 (n := 0) rfl; have z_k_11 := sw_ne k_11 (n := 1) rfl; have z_k_21 := sw_ne k_21 (n := 2) rfl; have z_k_31 := sw_ne k_31 (n := 3) rfl; have z_k_43 := sw_ne k_43 (n := 4) rfl; omega) (by decide) ?_
    refine lv_iload hx hb dX12_named_66 (lv_at hl 4 rfl) ?_
    subst hQ
    exact W.iret (v := a3) hx hb hr (fun t1 ht hW => ⟨⟨a3, (σ, I, J, ri, rj, rq), rfl, rfl, by rw [ht]; exact hP, va_K.moved hW.alike hK, hD⟩, hS.F ht⟩) hS.2.2 dX12_named_68
  exact go _ _ _ hP hD hS hl

set_option maxHeartbeats 4000000 in
set_option maxRecDepth 100000 in
theorem s_X12_isAhead (l : Launch) (D : va_G) (t : pq_T) (σ : pq_S) (I : Nat → Nat → Int32) (J : Nat → Nat → Int64) (ri : Nat → Nat → Int32) (rj : Nat → Nat → Int64) (rq : Nat → Nat → Option Nat) (sz : Nat) (tg : Nat → Nat) (hSH : SH σ tg) (hG0 : GT tg I ri) (this : Nat) (a0 : Int32) (a1 : Int32) (a2 : Int32) (hL_this : this ∈ σ.1) (hK_this : σ.2.1 this = 12) (h_a0 : rg a0 0 39) (h_a1 : rg a1 0 39) (this_a : Nat) (hR_this_a : σ.2.2.1 384 this = some this_a) (hL_this_a : this_a ∈ σ.1) (hK_this_a : σ.2.1 this_a = 13) (hN_this_a : σ.2.2.2 this_a = 12720) (hT_this_a : tg this_a = 384) : MetI l yX12_isAhead (wa yX12_isAhead cX12_isAhead 9 (some .boolean)) ({ frames := 2, cells := 0, slots := 0, locals := 46 }) [.ref this, .int a0, .int a1, .int a2] D t σ (I, J, ri, rj, rq) sz 0 0 (fun (r : Int32) (u : pq_S × pq_M) => u = (σ, I, J, ri, rj, rq) ∧ ((r = 1 ∧ True) ∨ (r = 0 ∧ True))) := by
  refine Met.ofW (cc := cX12_isAhead) (maxL := 9) (ret := (some .boolean)) (by decide) rfl ?_
  intro p e s m args below meth c s₁ B hml hv
  obtain ⟨rfl, hsz, hP, hK, hD0, hN⟩ := hv
  have hx := B.exec
  have hb := B.bytes
  have hr := B.returns
  have hts := atoms_spec (ws := (wa yX12_isAhead cX12_isAhead 9 (some .boolean))) B.pre
  have hown : s.vm.findClass RX12 = some m.cls := findClass_of_methodNamed B.named
  have hlocks := B.notSynchronized
  subst hsz
  have hD : va_D (pq_B t σ (I, J, ri, rj, rq) s.heap.size) (pq_P t σ (I, J, ri, rj, rq)) := hD0.self
  generalize hAe : pq_B t σ (I, J, ri, rj, rq) s.heap.size = A at hD ⊢
  have hA : ∀ q : Nat, s.heap.size ≤ q → A q := fun q h => by rw [← hAe]; exact Or.inr h
  have hS : va_S A s.heap s.heap [] := va_S.rf
  have hG : GM [] tg σ I ri I ri rq := ⟨hG0, fun _ _ _ => rfl, fun _ _ _ _ _ => rfl, fun _ _ _ _ _ _ => rfl⟩
  have hl := lv_entry ([.ref this, .int a0, .int a1, .int a2]) (n := 9) (Nat.le_of_ble_eq_true rfl)
  rw [lg_entry_eq]
  generalize (lg_sl ([.ref this, .int a0, .int a1, .int a2]) ++ List.replicate (9 - (lg_sl ([.ref this, .int a0, .int a1, .int a2])).length) Slot.unset).toArray = ls at hl ⊢
  have hl : lv_has ls 9 [(0, .ref this), (1, .int a0), (2, .int a1), (3, .int a2)] := hl
  refine q_gen (fun Q hQ => ?_)
  have go : ∀ (H : Heap) (locs : List Loc) (ls : Array Slot), va_P D vwCl (pq_P t σ (I, J, ri, rj, rq)) H → va_D A (pq_P t σ (I, J, ri, rj, rq)) → va_S A s.heap H locs → lv_has ls 9 [(0, .ref this), (1, .int a0), (2, .int a1), (3, .int a2)] → W p l e ({ frames := 2, cells := 0, slots := 0, locals := 46 } : Room) s m (List.toArray ([.ref this, .int a0, .int a1, .int a2] : List Value)) below meth c H locs 0 0 Q (F0 m 0 ls []) := by
    intro H locs ls hP hD hS hl
    refine lv_iconst (v := 0) hx hb dX12_isAhead_0 (by decide) ?_
    refine lv_istore (lv' := [(4, .int 0), (0, .ref this), (1, .int a0), (2, .int a1), (3, .int a2)]) hx hb dX12_isAhead_1 hl (by decide) rfl (fun ls hl => ?_)
    have L_1189 : ∀ (n_1188 : Nat) (x_1121 : Int32) (H : Heap) (locs : List Loc) (ls : Array Slot), rg x_1121 0 200 → (200 - (x_1121).toInt).toNat < n_1188 → GM [] tg σ I ri I ri rq → va_P D vwCl (pq_P t σ (I, J, ri, rj, rq)) H → va_D A (pq_P t σ (I, J, ri, rj, rq)) → va_S A s.heap H locs → lv_has ls 9 [(0, .ref this), (1, .int a0), (2, .int a1), (3, .int a2), (4, .int x_1121)] → W p l e ({ frames := 2, cells := 0, slots := 0, locals := 46 } : Room) s m (List.toArray ([.ref this, .int a0, .int a1, .int a2] : List Value)) below meth c H locs 0 0 Q (F0 m 3 ls []) := by
      intro n_1188
      induction n_1188 with
      | zero => intro x_1121 H locs ls h_1192 hm_1187 hG hP hD hS hl; exact absurd hm_1187 (Nat.not_lt_zero _)
      | succ n_1188 ih_1190 =>
        intro x_1121 H locs ls h_1192 hm_1187 hG hP hD hS hl
        have uh_1192 := h_1192.1
        have vh_1192 := h_1192.2
        refine lv_iload hx hb dX12_isAhead_3 (lv_at hl 4 rfl) ?_
        refine lv_aload_n hx hb dX12_isAhead_5 rfl (lv_at hl 0 rfl) ?_
        refine pg_f (v := .ref this_a) (C := RX12) (T := TX12) (N := 31) hx hb hts (tw_i inlX12) hown hK hP hL_this hK_this (by decide) rfl 0 (by decide) (hts _ (tw_c tw_176)) (pq_hv rfl hR_this_a) dX12_isAhead_6 ?_
        refine lv_aload_n hx hb dX12_isAhead_9 rfl (lv_at hl 0 rfl) ?_
        refine pg_f (v := .int (I 406 this)) (C := RX12) (T := TX12) (N := 31) hx hb hts (tw_i inlX12) hown hK hP hL_this hK_this (by decide) rfl 22 (by decide) (hts _ (tw_c tw_507)) rfl dX12_isAhead_10 ?_
        have h_1193 : rg (I 406 this) (-1) 12060 := GM.rI hG 406 rfl
        have uh_1193 := h_1193.1
        have vh_1193 := h_1193.2
        refine lv_iconst (v := 4) hx hb dX12_isAhead_13 (by decide) ?_
        refine lv_iadd hx hb dX12_isAhead_14 ?_
        refine lv_topi (fun x_1194 ex_1194 => ?_)
        have h_1195 : rg x_1194 3 12064 := rg_of_eq ex_1194 (rg_add h_1193 (rg_k (4 : Int32) 4 rfl) (by decide))
        have uh_1195 := h_1195.1
        have vh_1195 := h_1195.2
        have tx_1194 : (x_1194).toInt = (I 406 this).toInt + 4 := by rw [ex_1194]; exact i_add_rg (a2 := (I 406 this).toInt) (b2 := 4) rfl rfl h_1193 (rg_k (4 : Int32) 4 rfl) (by decide)
        refine pl_i hx hb hK hP hL_this_a hK_this_a hN_this_a (rg_in h_1195 (by decide)) dX12_isAhead_15 ?_
        refine lv_topi (fun x_1196 ex_1196 => ?_)
        have h_1197 : rg x_1196 0 200 := rg_of_eq ex_1196 (GT.kv4 hG0 (a := this) (by rw [hT_this_a]; decide) (by omega))
        have uh_1197 := h_1197.1
        have vh_1197 := h_1197.2
        refine lv_icmp_ge (tgt := 117) hx hb dX12_isAhead_16 (by decide) (fun c_1198 => ?_) (fun c_1198 => ?_)
        · have tc_1199 : (x_1196).toInt ≤ (x_1121).toInt := Int32.le_iff_toInt_le.mp c_1198
          refine lv_iconst (v := 0) hx hb dX12_isAhead_117 (by decide) ?_
          subst hQ
          exact W.zret (v := 0) hx hb hr (by decide) (fun t1 ht hW => ⟨⟨0, (σ, I, J, ri, rj, rq), rfl, ⟨rfl, (Or.inr ⟨rfl, trivial⟩)⟩, by rw [ht]; exact hP, va_K.moved hW.alike hK, hD⟩, hS.F ht⟩) hS.2.2 dX12_isAhead_118
        · have tc_1200 : (x_1121).toInt < (x_1196).toInt := Int32.lt_iff_toInt_lt.mp (nle c_1198)
          have h_1201 : rg x_1121 0 199 := rg_lt1 (nle c_1198) h_1192 h_1197 (by decide)
          have uh_1201 := h_1201.1
          have vh_1201 := h_1201.2
          have h_1202 : rg x_1196 1 200 := rg_lt2 (nle c_1198) h_1192 h_1197 (by decide)
          have uh_1202 := h_1202.1
          have vh_1202 := h_1202.2
          refine lv_aload_n hx hb dX12_isAhead_19 rfl (lv_at hl 0 rfl) ?_
          refine pg_f (v := .ref this_a) (C := RX12) (T := TX12) (N := 31) hx hb hts (tw_i inlX12) hown hK hP hL_this hK_this (by decide) rfl 0 (by decide) (hts _ (tw_c tw_176)) (pq_hv rfl hR_this_a) dX12_isAhead_20 ?_
          refine lv_aload_n hx hb dX12_isAhead_23 rfl (lv_at hl 0 rfl) ?_
          refine pg_f (v := .int (I 406 this)) (C := RX12) (T := TX12) (N := 31) hx hb hts (tw_i inlX12) hown hK hP hL_this hK_this (by decide) rfl 22 (by decide) (hts _ (tw_c tw_507)) rfl dX12_isAhead_24 ?_
          refine lv_iconst (v := 5) hx hb dX12_isAhead_27 (by decide) ?_
          refine lv_iadd hx hb dX12_isAhead_28 ?_
          refine lv_topi (fun x_1203 ex_1203 => ?_)
          have h_1204 : rg x_1203 4 12065 := rg_of_eq ex_1203 (rg_add h_1193 (rg_k (5 : Int32) 5 rfl) (by decide))
          have uh_1204 := h_1204.1
          have vh_1204 := h_1204.2
          have tx_1203 : (x_1203).toInt = (I 406 this).toInt + 5 := by rw [ex_1203]; exact i_add_rg (a2 := (I 406 this).toInt) (b2 := 5) rfl rfl h_1193 (rg_k (5 : Int32) 5 rfl) (by decide)
          refine lv_iload hx hb dX12_isAhead_29 (lv_at hl 4 rfl) ?_
          refine lv_iadd hx hb dX12_isAhead_31 ?_
          refine lv_topi (fun x_1205 ex_1205 => ?_)
          have h_1206 : rg x_1205 4 12264 := rg_of_eq ex_1205 (rg_add h_1204 h_1201 (by decide))
          have uh_1206 := h_1206.1
          have vh_1206 := h_1206.2
          have tx_1205 : (x_1205).toInt = (x_1203).toInt + (x_1121).toInt := by rw [ex_1205]; exact i_add_rg (a2 := (x_1203).toInt) (b2 := (x_1121).toInt) rfl rfl h_1204 h_1201 (by decide)
          refine pl_i hx hb hK hP hL_this_a hK_this_a hN_this_a (rg_in h_1206 (by decide)) dX12_isAhead_32 ?_
          refine lv_topi (fun x_1207 ex_1207 => ?_)
          refine lv_istore (lv' := [(5, .int x_1207), (0, .ref this), (1, .int a0), (2, .int a1), (3, .int a2), (4, .int x_1121)]) hx hb dX12_isAhead_33 hl (by decide) rfl (fun ls hl => ?_)
          refine lv_iload hx hb dX12_isAhead_35 (lv_at hl 0 rfl) ?_
          have K_1257 : ∀  (x_1215 : Int32) (H : Heap) (locs : List Loc) (ls : Array Slot), rg x_1215 0 2147483647 → GM [] tg σ I ri I ri rq → va_P D vwCl (pq_P t σ (I, J, ri, rj, rq)) H → va_D A (pq_P t σ (I, J, ri, rj, rq)) → va_S A s.heap H locs → lv_has ls 9 [(0, .ref this), (1, .int a0), (2, .int a1), (3, .int a2), (4, .int x_1121), (5, .int x_1207)] → W p l e ({ frames := 2, cells := 0, slots := 0, locals := 46 } : Room) s m (List.toArray ([.ref this, .int a0, .int a1, .int a2] : List Value)) below meth c H locs 0 0 Q (F0 m 49 ls [.int x_1215]) := by
            intro x_1215 H locs ls h_1259 hG hP hD hS hl
            have uh_1259 := h_1259.1
            have vh_1259 := h_1259.2
            refine lv_istore (lv' := [(6, .int x_1215), (0, .ref this), (1, .int a0), (2, .int a1), (3, .int a2), (4, .int x_1121), (5, .int x_1207)]) hx hb dX12_isAhead_49 hl (by decide) rfl (fun ls hl => ?_)
            refine lv_aload_n hx hb dX12_isAhead_51 rfl (lv_at hl 1 rfl) ?_
            refine lv_iload_n hx hb dX12_isAhead_52 rfl (lv_at hl 2 rfl) ?_
            refine lv_iload hx hb dX12_isAhead_53 (lv_at hl 0 rfl) ?_
            refine lv_iload_n hx hb dX12_isAhead_55 rfl (lv_at hl 4 rfl) ?_
            refine lv_iconst (v := 0) hx hb dX12_isAhead_56 (by decide) ?_
            refine pk_i (va_runV (As := [.int a0, .int x_1215, .int a2, .int 0]) (rest := []) ⟨hx, hb, hml, hown, hts⟩ (s_X12_named l D t σ I J ri rj rq H.size tg hSH hG.1 this a0 x_1215 a2 (0 : Int32) hL_this hK_this (rg_w h_a0 (by decide))) (cwV 4 hts (tw_V tw_528 tw_529 tw_530 tw_5 tw_531) rfl rfl rfl cv_yX12_named_4 ⟨Nat.le_of_ble_eq_true rfl, Nat.le_of_ble_eq_true rfl⟩) ⟨pq_blind, pq_recv hK hP hL_this hK_this (by decide) rfl, pq_pre hK hN hP hD⟩ rfl rfl hl.1 rfl (lv_room (Nat.le_of_ble_eq_true rfl)) dX12_isAhead_57 ⟨Nat.le_of_ble_eq_true rfl, Nat.le_of_ble_eq_true rfl⟩) hD hS hA (fun x_1260 σ1 μ1 H locs hw_1261 hP hD hS => ?_)
            have hu_1262 := hw_1261
            obtain ⟨hu_1262a, hu_1262b⟩ := Prod.mk.inj hu_1262
            rw [hu_1262a, hu_1262b] at hP hD
            refine lv_istore (lv' := [(7, .int x_1260), (6, .int x_1215), (0, .ref this), (1, .int a0), (2, .int a1), (3, .int a2), (4, .int x_1121), (5, .int x_1207)]) hx hb dX12_isAhead_60 hl (by decide) rfl (fun ls hl => ?_)
            refine lv_aload_n hx hb dX12_isAhead_62 rfl (lv_at hl 2 rfl) ?_
            refine lv_iload_n hx hb dX12_isAhead_63 rfl (lv_at hl 4 rfl) ?_
            refine lv_iload hx hb dX12_isAhead_64 (lv_at hl 1 rfl) ?_
            refine lv_iload_n hx hb dX12_isAhead_66 rfl (lv_at hl 5 rfl) ?_
            refine lv_iconst (v := 0) hx hb dX12_isAhead_67 (by decide) ?_
            refine pk_i (va_runV (As := [.int a1, .int x_1215, .int a2, .int 0]) (rest := []) ⟨hx, hb, hml, hown, hts⟩ (s_X12_named l D t σ I J ri rj rq H.size tg hSH hG.1 this a1 x_1215 a2 (0 : Int32) hL_this hK_this (rg_w h_a1 (by decide))) (cwV 4 hts (tw_V tw_528 tw_529 tw_530 tw_5 tw_531) rfl rfl rfl cv_yX12_named_4 ⟨Nat.le_of_ble_eq_true rfl, Nat.le_of_ble_eq_true rfl⟩) ⟨pq_blind, pq_recv hK hP hL_this hK_this (by decide) rfl, pq_pre hK hN hP hD⟩ rfl rfl hl.1 rfl (lv_room (Nat.le_of_ble_eq_true rfl)) dX12_isAhead_68 ⟨Nat.le_of_ble_eq_true rfl, Nat.le_of_ble_eq_true rfl⟩) hD hS hA (fun x_1265 σ1 μ1 H locs hw_1266 hP hD hS => ?_)
            have hu_1267 := hw_1266
            obtain ⟨hu_1267a, hu_1267b⟩ := Prod.mk.inj hu_1267
            rw [hu_1267a, hu_1267b] at hP hD
            refine lv_istore (lv' := [(8, .int x_1265), (7, .int x_1260), (6, .int x_1215), (0, .ref this), (1, .int a0), (2, .int a1), (3, .int a2), (4, .int x_1121), (5, .int x_1207)]) hx hb dX12_isAhead_71 hl (by decide) rfl (fun ls hl => ?_)
            refine lv_iload hx hb dX12_isAhead_73 (lv_at hl 1 rfl) ?_
            refine lv_iload hx hb dX12_isAhead_75 (lv_at hl 0 rfl) ?_
            refine lv_icmp_eq (tgt := 111) hx hb dX12_isAhead_77 (by decide) (fun c_1270 => ?_) (fun c_1270 => ?_)
            · have tc_1271 : (x_1260).toInt = (x_1265).toInt := congrArg Int32.toInt c_1270
              obtain ⟨x_1272, ex_1272⟩ : ∃ y : Int32, y = x_1121 + Int32.ofInt 1 := ⟨_, rfl⟩
              have h_1273 : rg x_1272 1 200 := rg_of_eq ex_1272 (rg_add h_1201 (rg_k (Int32.ofInt 1) 1 rfl) (by decide))
              have uh_1273 := h_1273.1
              have vh_1273 := h_1273.2
              have tx_1272 : (x_1272).toInt = (x_1121).toInt + 1 := by rw [ex_1272]; exact i_add_rg (a2 := (x_1121).toInt) (b2 := 1) rfl rfl h_1201 (rg_k (Int32.ofInt 1) 1 rfl) (by decide)
              refine lv_iinc (v := x_1272) (lv' := [(4, .int x_1272), (8, .int x_1265), (7, .int x_1260), (6, .int x_1215), (0, .ref this), (1, .int a0), (2, .int a1), (3, .int a2), (5, .int x_1207)]) hx hb dX12_isAhead_111 hl (k := 7) rfl ex_1272.symm (by decide) rfl (fun ls hl => ?_)
              refine lv_goto (tgt := 3) hx hb dX12_isAhead_114 (by decide) ?_
              exact ih_1190 x_1272 _ _ _ (rg_w h_1273 (by decide)) (ms_up 1 hm_1187 ex_1272 rfl (by decide) h_1201 (by decide) (by decide)) hG hP hD hS (lv_sub hl [4, 5, 6, 7, 0] rfl)
            · have tc_1274 : (x_1260).toInt ≠ (x_1265).toInt := fun q => c_1270 (Int32.toInt_inj.mp q)
              refine lv_iload hx hb dX12_isAhead_80 (lv_at hl 1 rfl) ?_
              refine lv_iload hx hb dX12_isAhead_82 (lv_at hl 0 rfl) ?_
              have K_1300 : ∀  (H : Heap) (locs : List Loc) (ls : Array Slot), GM [] tg σ I ri I ri rq → va_P D vwCl (pq_P t σ (I, J, ri, rj, rq)) H → va_D A (pq_P t σ (I, J, ri, rj, rq)) → va_S A s.heap H locs → lv_has ls 9 [(5, .int x_1207)] → W p l e ({ frames := 2, cells := 0, slots := 0, locals := 46 } : Room) s m (List.toArray ([.ref this, .int a0, .int a1, .int a2] : List Value)) below meth c H locs 0 0 Q (F0 m 92 ls [.int 0]) := by
                intro H locs ls hG hP hD hS hl
                refine lv_iload hx hb dX12_isAhead_92 (lv_at hl 0 rfl) ?_
                have K_1310 : ∀  (H : Heap) (locs : List Loc) (ls : Array Slot), rg (x_1207) (-2147483648) (-1) → GM [] tg σ I ri I ri rq → va_P D vwCl (pq_P t σ (I, J, ri, rj, rq)) H → va_D A (pq_P t σ (I, J, ri, rj, rq)) → va_S A s.heap H locs → lv_has ls 9 [] → W p l e ({ frames := 2, cells := 0, slots := 0, locals := 46 } : Room) s m (List.toArray ([.ref this, .int a0, .int a1, .int a2] : List Value)) below meth c H locs 0 0 Q (F0 m 102 ls [.int 0, .int 0]) := by
                  intro H locs ls h_1312 hG hP hD hS hl
                  have uh_1312 := h_1312.1
                  have vh_1312 := h_1312.2
                  refine lv_icmp_ne (tgt := 109) hx hb dX12_isAhead_102 (by decide) (fun c_1313 => absurd c_1313 (by decide)) (fun c_1313 => ?_)
                  refine lv_iconst (v := 1) hx hb dX12_isAhead_105 (by decide) ?_
                  refine lv_goto (tgt := 110) hx hb dX12_isAhead_106 (by decide) ?_
                  subst hQ
                  exact W.zret (v := 1) hx hb hr (by decide) (fun t1 ht hW => ⟨⟨1, (σ, I, J, ri, rj, rq), rfl, ⟨rfl, (Or.inl ⟨rfl, trivial⟩)⟩, by rw [ht]; exact hP, va_K.moved hW.alike hK, hD⟩, hS.F ht⟩) hS.2.2 dX12_isAhead_110
                have K_1314 : ∀  (H : Heap) (locs : List Loc) (ls : Array Slot), rg (x_1207) 0 2147483647 → GM [] tg σ I ri I ri rq → va_P D vwCl (pq_P t σ (I, J, ri, rj, rq)) H → va_D A (pq_P t σ (I, J, ri, rj, rq)) → va_S A s.heap H locs → lv_has ls 9 [] → W p l e ({ frames := 2, cells := 0, slots := 0, locals := 46 } : Room) s m (List.toArray ([.ref this, .int a0, .int a1, .int a2] : List Value)) below meth c H locs 0 0 Q (F0 m 102 ls [.int 1, .int 0]) := by
                  intro H locs ls h_1316 hG hP hD hS hl
                  have uh_1316 := h_1316.1
                  have vh_1316 := h_1316.2
                  refine lv_icmp_ne (tgt := 109) hx hb dX12_isAhead_102 (by decide) (fun c_1317 => ?_) (fun c_1317 => absurd c_1317 (by decide))
                  refine lv_iconst (v := 0) hx hb dX12_isAhead_109 (by decide) ?_
                  subst hQ
                  exact W.zret (v := 0) hx hb hr (by decide) (fun t1 ht hW => ⟨⟨0, (σ, I, J, ri, rj, rq), rfl, ⟨rfl, (Or.inr ⟨rfl, trivial⟩)⟩, by rw [ht]; exact hP, va_K.moved hW.alike hK, hD⟩, hS.F ht⟩) hS.2.2 dX12_isAhead_110
                refine lv_if_lt (tgt := 101) hx hb dX12_isAhead_94 (by decide) (fun c_1318 => ?_) (fun c_1318 => ?_)
                · have tc_1319 : (x_1207).toInt < 0 := Int32.lt_iff_toInt_lt.mp c_1318
                  have h_1320 : rg x_1207 (-2147483648) (-1) := rg_lt1 c_1318 (rg_full _) (rg_k (0 : Int32) 0 rfl) (by decide)
                  have uh_1320 := h_1320.1
                  have vh_1320 := h_1320.2
                  refine lv_iconst (v := 0) hx hb dX12_isAhead_101 (by decide) ?_
                  exact K_1310 _ _ _ (rg_w h_1320 (by decide)) hG hP hD hS (lv_sub hl [] rfl)
                · have tc_1321 : 0 ≤ (x_1207).toInt := Int32.le_iff_toInt_le.mp (nlt c_1318)
                  have h_1322 : rg x_1207 0 2147483647 := rg_le2 (nlt c_1318) (rg_k (0 : Int32) 0 rfl) (rg_full _) (by decide)
                  have uh_1322 := h_1322.1
                  have vh_1322 := h_1322.2
                  refine lv_iconst (v := 1) hx hb dX12_isAhead_97 (by decide) ?_
                  refine lv_goto (tgt := 102) hx hb dX12_isAhead_98 (by decide) ?_
                  exact K_1314 _ _ _ (rg_w h_1322 (by decide)) hG hP hD hS (lv_sub hl [] rfl)
              have K_1323 : ∀  (H : Heap) (locs : List Loc) (ls : Array Slot), rg (x_1260) (-2147483648) 2147483646 → rg (x_1265) (-2147483647) 2147483647 → GM [] tg σ I ri I ri rq → va_P D vwCl (pq_P t σ (I, J, ri, rj, rq)) H → va_D A (pq_P t σ (I, J, ri, rj, rq)) → va_S A s.heap H locs → lv_has ls 9 [(5, .int x_1207)] → W p l e ({ frames := 2, cells := 0, slots := 0, locals := 46 } : Room) s m (List.toArray ([.ref this, .int a0, .int a1, .int a2] : List Value)) below meth c H locs 0 0 Q (F0 m 92 ls [.int 1]) := by
                intro H locs ls h_1326 h_1327 hG hP hD hS hl
                have uh_1326 := h_1326.1
                have vh_1326 := h_1326.2
                have uh_1327 := h_1327.1
                have vh_1327 := h_1327.2
                refine lv_iload hx hb dX12_isAhead_92 (lv_at hl 0 rfl) ?_
                have K_1337 : ∀  (H : Heap) (locs : List Loc) (ls : Array Slot), rg (x_1207) (-2147483648) (-1) → GM [] tg σ I ri I ri rq → va_P D vwCl (pq_P t σ (I, J, ri, rj, rq)) H → va_D A (pq_P t σ (I, J, ri, rj, rq)) → va_S A s.heap H locs → lv_has ls 9 [] → W p l e ({ frames := 2, cells := 0, slots := 0, locals := 46 } : Room) s m (List.toArray ([.ref this, .int a0, .int a1, .int a2] : List Value)) below meth c H locs 0 0 Q (F0 m 102 ls [.int 0, .int 1]) := by
                  intro H locs ls h_1339 hG hP hD hS hl
                  have uh_1339 := h_1339.1
                  have vh_1339 := h_1339.2
                  refine lv_icmp_ne (tgt := 109) hx hb dX12_isAhead_102 (by decide) (fun c_1340 => ?_) (fun c_1340 => absurd c_1340 (by decide))
                  refine lv_iconst (v := 0) hx hb dX12_isAhead_109 (by decide) ?_
                  subst hQ
                  exact W.zret (v := 0) hx hb hr (by decide) (fun t1 ht hW => ⟨⟨0, (σ, I, J, ri, rj, rq), rfl, ⟨rfl, (Or.inr ⟨rfl, trivial⟩)⟩, by rw [ht]; exact hP, va_K.moved hW.alike hK, hD⟩, hS.F ht⟩) hS.2.2 dX12_isAhead_110
                have K_1341 : ∀  (H : Heap) (locs : List Loc) (ls : Array Slot), rg (x_1207) 0 2147483647 → GM [] tg σ I ri I ri rq → va_P D vwCl (pq_P t σ (I, J, ri, rj, rq)) H → va_D A (pq_P t σ (I, J, ri, rj, rq)) → va_S A s.heap H locs → lv_has ls 9 [] → W p l e ({ frames := 2, cells := 0, slots := 0, locals := 46 } : Room) s m (List.toArray ([.ref this, .int a0, .int a1, .int a2] : List Value)) below meth c H locs 0 0 Q (F0 m 102 ls [.int 1, .int 1]) := by
                  intro H locs ls h_1343 hG hP hD hS hl
                  have uh_1343 := h_1343.1
                  have vh_1343 := h_1343.2
                  refine lv_icmp_ne (tgt := 109) hx hb dX12_isAhead_102 (by decide) (fun c_1344 => absurd c_1344 (by decide)) (fun c_1344 => ?_)
                  refine lv_iconst (v := 1) hx hb dX12_isAhead_105 (by decide) ?_
                  refine lv_goto (tgt := 110) hx hb dX12_isAhead_106 (by decide) ?_
                  subst hQ
                  exact W.zret (v := 1) hx hb hr (by decide) (fun t1 ht hW => ⟨⟨1, (σ, I, J, ri, rj, rq), rfl, ⟨rfl, (Or.inl ⟨rfl, trivial⟩)⟩, by rw [ht]; exact hP, va_K.moved hW.alike hK, hD⟩, hS.F ht⟩) hS.2.2 dX12_isAhead_110
                refine lv_if_lt (tgt := 101) hx hb dX12_isAhead_94 (by decide) (fun c_1345 => ?_) (fun c_1345 => ?_)
                · have tc_1346 : (x_1207).toInt < 0 := Int32.lt_iff_toInt_lt.mp c_1345
                  have h_1347 : rg x_1207 (-2147483648) (-1) := rg_lt1 c_1345 (rg_full _) (rg_k (0 : Int32) 0 rfl) (by decide)
                  have uh_1347 := h_1347.1
                  have vh_1347 := h_1347.2
                  refine lv_iconst (v := 0) hx hb dX12_isAhead_101 (by decide) ?_
                  exact K_1337 _ _ _ (rg_w h_1347 (by decide)) hG hP hD hS (lv_sub hl [] rfl)
                · have tc_1348 : 0 ≤ (x_1207).toInt := Int32.le_iff_toInt_le.mp (nlt c_1345)
                  have h_1349 : rg x_1207 0 2147483647 := rg_le2 (nlt c_1345) (rg_k (0 : Int32) 0 rfl) (rg_full _) (by decide)
                  have uh_1349 := h_1349.1
                  have vh_1349 := h_1349.2
                  refine lv_iconst (v := 1) hx hb dX12_isAhead_97 (by decide) ?_
                  refine lv_goto (tgt := 102) hx hb dX12_isAhead_98 (by decide) ?_
                  exact K_1341 _ _ _ (rg_w h_1349 (by decide)) hG hP hD hS (lv_sub hl [] rfl)
              refine lv_icmp_ge (tgt := 91) hx hb dX12_isAhead_84 (by decide) (fun c_1350 => ?_) (fun c_1350 => ?_)
              · have tc_1351 : (x_1265).toInt ≤ (x_1260).toInt := Int32.le_iff_toInt_le.mp c_1350
                refine lv_iconst (v := 0) hx hb dX12_isAhead_91 (by decide) ?_
                exact K_1300 _ _ _ hG hP hD hS (lv_sub hl [8] rfl)
              · have tc_1352 : (x_1260).toInt < (x_1265).toInt := Int32.lt_iff_toInt_lt.mp (nle c_1350)
                have h_1353 : rg x_1260 (-2147483648) 2147483646 := rg_lt1 (nle c_1350) (rg_full _) (rg_full _) (by decide)
                have uh_1353 := h_1353.1
                have vh_1353 := h_1353.2
                have h_1354 : rg x_1265 (-2147483647) 2147483647 := rg_lt2 (nle c_1350) (rg_full _) (rg_full _) (by decide)
                have uh_1354 := h_1354.1
                have vh_1354 := h_1354.2
                refine lv_iconst (v := 1) hx hb dX12_isAhead_87 (by decide) ?_
                refine lv_goto (tgt := 92) hx hb dX12_isAhead_88 (by decide) ?_
                exact K_1323 _ _ _ (rg_w h_1353 (by decide)) (rg_w h_1354 (by decide)) hG hP hD hS (lv_sub hl [8] rfl)
          refine lv_if_ge (tgt := 47) hx hb dX12_isAhead_37 (by decide) (fun c_1355 => ?_) (fun c_1355 => ?_)
          · have tc_1356 : 0 ≤ (x_1207).toInt := Int32.le_iff_toInt_le.mp c_1355
            have h_1357 : rg x_1207 0 2147483647 := rg_le2 c_1355 (rg_k (0 : Int32) 0 rfl) (rg_full _) (by decide)
            have uh_1357 := h_1357.1
            have vh_1357 := h_1357.2
            refine lv_iload hx hb dX12_isAhead_47 (lv_at hl 0 rfl) ?_
            exact K_1257 x_1207 _ _ _ (rg_w h_1357 (by decide)) hG hP hD hS (lv_sub hl [1, 2, 3, 4, 5, 0] rfl)
          · have tc_1358 : (x_1207).toInt < 0 := Int32.lt_iff_toInt_lt.mp (nle c_1355)
            have h_1359 : rg x_1207 (-2147483648) (-1) := rg_lt1 (nle c_1355) (rg_full _) (rg_k (0 : Int32) 0 rfl) (by decide)
            have uh_1359 := h_1359.1
            have vh_1359 := h_1359.2
            refine lv_iconst (v := (-1)) hx hb dX12_isAhead_40 (by decide) ?_
            refine lv_iload hx hb dX12_isAhead_41 (lv_at hl 0 rfl) ?_
            refine lv_isub hx hb dX12_isAhead_43 ?_
            refine lv_topi (fun x_1360 ex_1360 => ?_)
            have h_1361 : rg x_1360 0 2147483647 := rg_of_eq ex_1360 (rg_sub (rg_k (-1 : Int32) (-1) rfl) h_1359 (by decide))
            have uh_1361 := h_1361.1
            have vh_1361 := h_1361.2
            have tx_1360 : (x_1360).toInt = (-1) - (x_1207).toInt := by rw [ex_1360]; exact i_sub_rg (a2 := (-1)) (b2 := (x_1207).toInt) rfl rfl (rg_k (-1 : Int32) (-1) rfl) h_1359 (by decide)
            refine lv_goto (tgt := 49) hx hb dX12_isAhead_44 (by decide) ?_
            exact K_1257 x_1360 _ _ _ (rg_w h_1361 (by decide)) hG hP hD hS (lv_sub hl [1, 2, 3, 4, 5, 0] rfl)
    exact L_1189 _ (0 : Int32) _ _ _ (rg_w (rg_k (0 : Int32) 0 rfl) (by decide)) (Nat.lt_succ_self _) hG hP hD hS (lv_sub hl [1, 2, 3, 4, 0] rfl)
  exact go _ _ _ hP hD hS hl

set_option maxHeartbeats 4000000 in
set_option maxRecDepth 100000 in
theorem s_X12_death (l : Launch) (D : va_G) (t : pq_T) (σ : pq_S) (I : Nat → Nat → Int32) (J : Nat → Nat → Int64) (ri : Nat → Nat → Int32) (rj : Nat → Nat → Int64) (rq : Nat → Nat → Option Nat) (sz : Nat) (tg : Nat → Nat) (hSH : SH σ tg) (hG0 : GT tg I ri) (this : Nat) (a0 : Int32) (hL_this : this ∈ σ.1) (hK_this : σ.2.1 this = 12) : MetI l yX12_death (wa yX12_death cX12_death 6 (some .int)) ({ frames := 4, cells := 0, slots := 0, locals := 92 }) [.ref this, .int a0] D t σ (I, J, ri, rj, rq) sz 0 0 (fun (r : Int32) (u : pq_S × pq_M) => ∃ I' : Nat → Nat → Int32, ∃ ri' : Nat → Nat → Int32, u = (σ, I', J, ri', rj, rq) ∧ GM [1403] tg σ I ri I' ri' rq) := by
  refine Met.ofW (cc := cX12_death) (maxL := 6) (ret := (some .int)) (by decide) rfl ?_
  intro p e s m args below meth c s₁ B hml hv
  obtain ⟨rfl, hsz, hP, hK, hD0, hN⟩ := hv
  have hx := B.exec
  have hb := B.bytes
  have hr := B.returns
  have hts := atoms_spec (ws := (wa yX12_death cX12_death 6 (some .int))) B.pre
  have hown : s.vm.findClass RX12 = some m.cls := findClass_of_methodNamed B.named
  have hlocks := B.notSynchronized
  subst hsz
  have hD : va_D (pq_B t σ (I, J, ri, rj, rq) s.heap.size) (pq_P t σ (I, J, ri, rj, rq)) := hD0.self
  generalize hAe : pq_B t σ (I, J, ri, rj, rq) s.heap.size = A at hD ⊢
  have hA : ∀ q : Nat, s.heap.size ≤ q → A q := fun q h => by rw [← hAe]; exact Or.inr h
  have hS : va_S A s.heap s.heap [] := va_S.rf
  have hG : GM [1403] tg σ I ri I ri rq := ⟨hG0, fun _ _ _ => rfl, fun _ _ _ _ _ => rfl, fun _ _ _ _ _ _ => rfl⟩
  have hl := lv_entry ([.ref this, .int a0]) (n := 6) (Nat.le_of_ble_eq_true rfl)
  rw [lg_entry_eq]
  generalize (lg_sl ([.ref this, .int a0]) ++ List.replicate (6 - (lg_sl ([.ref this, .int a0])).length) Slot.unset).toArray = ls at hl ⊢
  have hl : lv_has ls 6 [(0, .ref this), (1, .int a0)] := hl
  refine q_gen (fun Q hQ => ?_)
  have go : ∀ (H : Heap) (locs : List Loc) (ls : Array Slot), va_P D vwCl (pq_P t σ (I, J, ri, rj, rq)) H → va_D A (pq_P t σ (I, J, ri, rj, rq)) → va_S A s.heap H locs → lv_has ls 6 [(0, .ref this), (1, .int a0)] → W p l e ({ frames := 4, cells := 0, slots := 0, locals := 92 } : Room) s m (List.toArray ([.ref this, .int a0] : List Value)) below meth c H locs 0 0 Q (F0 m 0 ls []) := by
    intro H locs ls hP hD hS hl
    refine lv_aload_n hx hb dX12_death_0 rfl (lv_at hl 0 rfl) ?_
    refine lv_iload_n hx hb dX12_death_1 rfl (lv_at hl 1 rfl) ?_
    refine pk_i (va_runV (As := [.int a0]) (rest := []) ⟨hx, hb, hml, hown, hts⟩ (s_X12_isPerson l D t σ I J ri rj rq H.size tg hSH hG.1 this a0 hL_this hK_this) (cwV 1 hts (tw_V tw_425 tw_426 tw_427 tw_5 tw_428) rfl rfl rfl cv_yX12_isPerson_1 ⟨Nat.le_of_ble_eq_true rfl, Nat.le_of_ble_eq_true rfl⟩) ⟨pq_blind, pq_recv hK hP hL_this hK_this (by decide) rfl, pq_pre hK hN hP hD⟩ rfl rfl hl.1 rfl (lv_room (Nat.le_of_ble_eq_true rfl)) dX12_death_2 ⟨Nat.le_of_ble_eq_true rfl, Nat.le_of_ble_eq_true rfl⟩) hD hS hA (fun x_1 σ1 μ1 H locs hw_2 hP hD hS => ?_)
    obtain ⟨hu_3, hr_5⟩ := hw_2
    obtain ⟨hu_3a, hu_3b⟩ := Prod.mk.inj hu_3
    rw [hu_3a, hu_3b] at hP hD
    have h_6 : rg x_1 0 1 := by rcases hr_5 with ⟨q, -⟩ | ⟨q, -⟩ <;> rw [q] <;> exact ⟨by decide, by decide⟩
    have uh_6 := h_6.1
    have vh_6 := h_6.2
    have K_12895 : ∀  (H : Heap) (locs : List Loc) (ls : Array Slot), GM [1403] tg σ I ri I ri rq → va_P D vwCl (pq_P t σ (I, J, ri, rj, rq)) H → va_D A (pq_P t σ (I, J, ri, rj, rq)) → va_S A s.heap H locs → lv_has ls 6 [] → W p l e ({ frames := 4, cells := 0, slots := 0, locals := 92 } : Room) s m (List.toArray ([.ref this, .int a0] : List Value)) below meth c H locs 0 0 Q (F0 m 20 ls []) := by
      intro H locs ls hG hP hD hS hl
      refine lv_iconst (v := (-1)) hx hb dX12_death_20 (by decide) ?_
      subst hQ
      exact W.iret (v := (-1)) hx hb hr (fun t1 ht hW => ⟨⟨(-1), (σ, I, J, ri, rj, rq), rfl, ⟨I, ri, rfl, hG⟩, by rw [ht]; exact hP, va_K.moved hW.alike hK, hD⟩, hS.F ht⟩) hS.2.2 dX12_death_21
    refine lv_if_eq (tgt := 20) hx hb dX12_death_5 (by decide) (fun c_12896 => ?_) (fun c_12896 => ?_)
    · have f_12897 := (hr_5.resolve_left (fun q => absurd (q.1.symm.trans c_12896) (by decide))).2
      have tc_12898 : (x_1).toInt = 0 := congrArg Int32.toInt c_12896
      have h_12899 : rg x_1 0 0 := rg_and h_6 (rg_of_eq c_12896 (rg_k (0 : Int32) 0 rfl)) (by decide)
      have uh_12899 := h_12899.1
      have vh_12899 := h_12899.2
      exact K_12895 _ _ _ hG hP hD hS (lv_sub hl [] rfl)
    · have f_12900 := (hr_5.resolve_right (fun q => c_12896 q.1)).2
      have uf_12900 := f_12900.1
      have vf_12900 := f_12900.2
      have tc_12901 : (x_1).toInt ≠ 0 := fun q => c_12896 (Int32.toInt_inj.mp q)
      have h_12902 : rg x_1 1 1 := rg_ne c_12896 h_6 0 rfl (by decide)
      have uh_12902 := h_12902.1
      have vh_12902 := h_12902.2
      refine lv_aload_n hx hb dX12_death_8 rfl (lv_at hl 0 rfl) ?_
      refine lv_iload_n hx hb dX12_death_9 rfl (lv_at hl 1 rfl) ?_
      refine lv_iconst (v := 3) hx hb dX12_death_10 (by decide) ?_
      obtain ⟨w_12903, hR_w_12903, hL_w_12903, hK_w_12903, hN_w_12903, hT_w_12903⟩ := sh_a hSH 384 (ci := 12) (kd := 13) (len := 12720) rfl (by decide) hL_this hK_this
      refine pk_i (va_runV (As := [.int a0, .int 3]) (rest := []) ⟨hx, hb, hml, hown, hts⟩ (s_X12_personAt_c3 l D t σ I J ri rj rq H.size tg hSH hG.1 this a0 hL_this hK_this (rg_w f_12900 (by decide)) w_12903 hR_w_12903 hL_w_12903 hK_w_12903 hN_w_12903 hT_w_12903) (cwV 2 hts (tw_V tw_437 tw_438 tw_439 tw_5 tw_440) rfl rfl rfl cv_yX12_personAt_2 ⟨Nat.le_of_ble_eq_true rfl, Nat.le_of_ble_eq_true rfl⟩) ⟨pq_blind, pq_recv hK hP hL_this hK_this (by decide) rfl, pq_pre hK hN hP hD⟩ rfl rfl hl.1 rfl (lv_room (Nat.le_of_ble_eq_true rfl)) dX12_death_11 ⟨Nat.le_of_ble_eq_true rfl, Nat.le_of_ble_eq_true rfl⟩) hD hS hA (fun x_12904 σ1 μ1 H locs hw_12905 hP hD hS => ?_)
      obtain ⟨hu_12906, hp_12909, hp_12910, hr_12908⟩ := hw_12905
      obtain ⟨hu_12906a, hu_12906b⟩ := Prod.mk.inj hu_12906
      rw [hu_12906a, hu_12906b] at hP hD
      have tt_12911 := hp_12910
      refine lv_sipush (v := 300) hx hb dX12_death_14 (by decide) ?_
      refine lv_icmp_ne (tgt := 22) hx hb dX12_death_17 (by decide) (fun c_12912 => ?_) (fun c_12912 => ?_)
      · have tc_12913 : (x_12904).toInt ≠ 300 := fun q => c_12912 (Int32.toInt_inj.mp q)
        have h_12914 : rg x_12904 0 299 := rg_ne c_12912 hr_12908 300 rfl (by decide)
        have uh_12914 := h_12914.1
        have vh_12914 := h_12914.2
        refine lv_aload_n hx hb dX12_death_22 rfl (lv_at hl 0 rfl) ?_
        refine pg_f (v := .ref w_12903) (C := RX12) (T := TX12) (N := 31) hx hb hts (tw_i inlX12) hown hK hP hL_this hK_this (by decide) rfl 0 (by decide) (hts _ (tw_c tw_176)) (pq_hv rfl hR_w_12903) dX12_death_23 ?_
        refine lv_sipush (v := 740) hx hb dX12_death_26 (by decide) ?_
        refine lv_bipush (v := 12) hx hb dX12_death_29 (by decide) ?_
        refine lv_iload_n hx hb dX12_death_31 rfl (lv_at hl 1 rfl) ?_
        refine lv_imul hx hb dX12_death_32 ?_
        refine lv_topi (fun x_12915 ex_12915 => ?_)
        have h_12916 : rg x_12915 0 468 := rg_of_eq ex_12915 (rg_mul (rg_k (12 : Int32) 12 rfl) f_12900 (by decide))
        have uh_12916 := h_12916.1
        have vh_12916 := h_12916.2
        have tx_12915 : (x_12915).toInt = 12 * (a0).toInt := by rw [ex_12915]; exact i_mul_rg (a2 := 12) (b2 := (a0).toInt) rfl rfl (rg_k (12 : Int32) 12 rfl) f_12900 (by decide)
        refine lv_iadd hx hb dX12_death_33 ?_
        refine lv_topi (fun x_12917 ex_12917 => ?_)
        have h_12918 : rg x_12917 740 1208 := rg_of_eq ex_12917 (rg_add (rg_k (740 : Int32) 740 rfl) h_12916 (by decide))
        have uh_12918 := h_12918.1
        have vh_12918 := h_12918.2
        have tx_12917 : (x_12917).toInt = 740 + (x_12915).toInt := by rw [ex_12917]; exact i_add_rg (a2 := 740) (b2 := (x_12915).toInt) rfl rfl (rg_k (740 : Int32) 740 rfl) h_12916 (by decide)
        refine lv_iconst (v := 3) hx hb dX12_death_34 (by decide) ?_
        refine lv_iadd hx hb dX12_death_35 ?_
        refine lv_topi (fun x_12919 ex_12919 => ?_)
        have h_12920 : rg x_12919 743 1211 := rg_of_eq ex_12919 (rg_add h_12918 (rg_k (3 : Int32) 3 rfl) (by decide))
        have uh_12920 := h_12920.1
        have vh_12920 := h_12920.2
        have tx_12919 : (x_12919).toInt = (x_12917).toInt + 3 := by rw [ex_12919]; exact i_add_rg (a2 := (x_12917).toInt) (b2 := 3) rfl rfl h_12918 (rg_k (3 : Int32) 3 rfl) (by decide)
        refine lv_sipush (v := 300) hx hb dX12_death_36 (by decide) ?_
        refine pt_i hx hb hK hP hD hS hL_w_12903 hK_w_12903 hN_w_12903 (rg_in h_12920 (by decide)) dX12_death_39 (fun r_12921 H locs er_12921 hP hD hS => ?_)
        have hG := GM.wp hG hT_w_12903 (by decide) er_12921 (zn_PERSON (c := a0.toNatClampNeg) (k := 3) (by have z_i := clampE x_12919; have z_0 := clampE a0; omega) (rg_cl1 f_12900 (by decide)) (by decide)) (rg_w (rg_k (300 : Int32) 300 rfl) (by decide)) (by decide) (by decide)
        refine lv_iconst (v := (-1)) hx hb dX12_death_40 (by decide) ?_
        refine lv_istore_n (lv' := [(2, .int (-1)), (0, .ref this), (1, .int a0)]) hx hb dX12_death_41 rfl hl (by decide) rfl (fun ls hl => ?_)
        refine lv_aload_n hx hb dX12_death_42 rfl (lv_at hl 1 rfl) ?_
        refine lv_bipush (v := 6) hx hb dX12_death_43 (by decide) ?_
        refine lv_aload_n hx hb dX12_death_45 rfl (lv_at hl 1 rfl) ?_
        refine pg_f (v := .ref w_12903) (C := RX12) (T := TX12) (N := 31) hx hb hts (tw_i inlX12) hown hK hP hL_this hK_this (by decide) rfl 0 (by decide) (hts _ (tw_c tw_176)) (pq_hv rfl hR_w_12903) dX12_death_46 ?_
        refine lv_iconst (v := 0) hx hb dX12_death_49 (by decide) ?_
        refine pl_i hx hb hK hP hL_w_12903 hK_w_12903 hN_w_12903 (vp_in_iff.mpr (by decide)) dX12_death_50 ?_
        refine lv_tov (ri w_12903 0) (hG.2.2.1 w_12903 hT_w_12903 0 (by decide) (by decide)) ?_
        have h_12922 : rg (ri w_12903 0) 0 600 := GM.z0 hG0 (by rw [hT_w_12903]; decide) (i := 0) (k := 0) (by decide) rfl
        have uh_12922 := h_12922.1
        have vh_12922 := h_12922.2
        refine pk_i (va_runV (As := [.int 6, .int (ri w_12903 0)]) (rest := []) ⟨hx, hb, hml, hown, hts⟩ (s_X12_keysFor l D t σ I J r_12921 rj rq H.size tg hSH hG.1 this (6 : Int32) (ri w_12903 0) hL_this hK_this w_12903 hR_w_12903 hL_w_12903 hK_w_12903 hN_w_12903 hT_w_12903) (cwV 2 hts (tw_V tw_503 tw_504 tw_505 tw_5 tw_506) rfl rfl rfl cv_yX12_keysFor_2 ⟨Nat.le_of_ble_eq_true rfl, Nat.le_of_ble_eq_true rfl⟩) ⟨pq_blind, pq_recv hK hP hL_this hK_this (by decide) rfl, pq_pre hK hN hP hD⟩ rfl rfl hl.1 rfl (lv_room (Nat.le_of_ble_eq_true rfl)) dX12_death_51 ⟨Nat.le_of_ble_eq_true rfl, Nat.le_of_ble_eq_true rfl⟩) hD hS hA (fun x_12923 σ1 μ1 H locs hw_12924 hP hD hS => ?_)
        obtain ⟨I_12925, hu_12926, hg_12927, hr_12928⟩ := hw_12924
        obtain ⟨hu_12926a, hu_12926b⟩ := Prod.mk.inj hu_12926
        rw [hu_12926a, hu_12926b] at hP hD
        have hG := GM.tr hG hg_12927 (by decide)
        have h_12929 : rg x_12923 0 1 := by rcases hr_12928 with ⟨q, -⟩ | ⟨q, -⟩ <;> rw [q] <;> exact ⟨by decide, by decide⟩
        have uh_12929 := h_12929.1
        have vh_12929 := h_12929.2
        refine lv_istore_n (lv' := [(3, .int x_12923), (2, .int (-1)), (0, .ref this), (1, .int a0)]) hx hb dX12_death_54 rfl hl (by decide) rfl (fun ls hl => ?_)
        refine lv_iconst (v := 0) hx hb dX12_death_55 (by decide) ?_
        refine lv_istore (lv' := [(4, .int 0), (3, .int x_12923), (2, .int (-1)), (0, .ref this), (1, .int a0)]) hx hb dX12_death_56 hl (by decide) rfl (fun ls hl => ?_)
        have L_24863 : ∀ (n_24862 : Nat) (x_23940 : Int32) (x_23941 : Int32) (H : Heap) (locs : List Loc) (ls : Array Slot), rg x_23940 (-1) 39 → rg x_23941 0 40 → (40 - (x_23941).toInt).toNat < n_24862 → GM [1403] tg σ I ri I_12925 r_12921 rq → va_P D vwCl (pq_P t σ (I_12925, J, r_12921, rj, rq)) H → va_D A (pq_P t σ (I_12925, J, r_12921, rj, rq)) → va_S A s.heap H locs → lv_has ls 6 [(0, .ref this), (1, .int a0), (2, .int x_23940), (3, .int x_12923), (4, .int x_23941)] → W p l e ({ frames := 4, cells := 0, slots := 0, locals := 92 } : Room) s m (List.toArray ([.ref this, .int a0] : List Value)) below meth c H locs 0 0 Q (F0 m 58 ls []) := by
          intro n_24862
          induction n_24862 with
          | zero => intro x_23940 x_23941 H locs ls h_24867 h_24868 hm_24861 hG hP hD hS hl; exact absurd hm_24861 (Nat.not_lt_zero _)
          | succ n_24862 ih_24864 =>
            intro x_23940 x_23941 H locs ls h_24867 h_24868 hm_24861 hG hP hD hS hl
            have uh_24867 := h_24867.1
            have vh_24867 := h_24867.2
            have uh_24868 := h_24868.1
            have vh_24868 := h_24868.2
            refine lv_iload hx hb dX12_death_58 (lv_at hl 4 rfl) ?_
            refine lv_aload_n hx hb dX12_death_60 rfl (lv_at hl 0 rfl) ?_
            refine pg_f (v := .ref w_12903) (C := RX12) (T := TX12) (N := 31) hx hb hts (tw_i inlX12) hown hK hP hL_this hK_this (by decide) rfl 0 (by decide) (hts _ (tw_c tw_176)) (pq_hv rfl hR_w_12903) dX12_death_61 ?_
            refine lv_iconst (v := 5) hx hb dX12_death_64 (by decide) ?_
            refine pl_i hx hb hK hP hL_w_12903 hK_w_12903 hN_w_12903 (vp_in_iff.mpr (by decide)) dX12_death_65 ?_
            refine lv_tov (ri w_12903 5) (hG.2.2.1 w_12903 hT_w_12903 5 (by decide) (by decide)) ?_
            have h_24869 : rg (ri w_12903 5) 0 40 := GM.z0 hG0 (by rw [hT_w_12903]; decide) (i := 5) (k := 5) (by decide) rfl
            have uh_24869 := h_24869.1
            have vh_24869 := h_24869.2
            refine lv_icmp_ge (tgt := 134) hx hb dX12_death_66 (by decide) (fun c_24870 => ?_) (fun c_24870 => ?_)
            · have tc_24871 : (ri w_12903 5).toInt ≤ (x_23941).toInt := Int32.le_iff_toInt_le.mp c_24870
              refine lv_iconst (v := 0) hx hb dX12_death_134 (by decide) ?_
              refine lv_istore (lv' := [(4, .int 0), (0, .ref this), (1, .int a0), (2, .int x_23940), (3, .int x_12923)]) hx hb dX12_death_135 hl (by decide) rfl (fun ls hl => ?_)
              refine lv_iconst (v := 0) hx hb dX12_death_137 (by decide) ?_
              refine lv_istore (lv' := [(5, .int 0), (4, .int 0), (0, .ref this), (1, .int a0), (2, .int x_23940), (3, .int x_12923)]) hx hb dX12_death_138 hl (by decide) rfl (fun ls hl => ?_)
              have L_25702 : ∀ (n_25701 : Nat) (x_25669 : Int32) (x_25670 : Int32) (ri_25671 : Nat → Nat → Int32) (H : Heap) (locs : List Loc) (ls : Array Slot), rg x_25670 0 40 → (40 - (x_25670).toInt).toNat < n_25701 → GM [1403] tg σ I ri I_12925 ri_25671 rq → va_P D vwCl (pq_P t σ (I_12925, J, ri_25671, rj, rq)) H → va_D A (pq_P t σ (I_12925, J, ri_25671, rj, rq)) → va_S A s.heap H locs → lv_has ls 6 [(0, .ref this), (1, .int a0), (2, .int x_23940), (4, .int x_25669), (5, .int x_25670)] → W p l e ({ frames := 4, cells := 0, slots := 0, locals := 92 } : Room) s m (List.toArray ([.ref this, .int a0] : List Value)) below meth c H locs 0 0 Q (F0 m 140 ls []) := by
                intro n_25701
                induction n_25701 with
                | zero => intro x_25669 x_25670 ri_25671 H locs ls h_25705 hm_25700 hG hP hD hS hl; exact absurd hm_25700 (Nat.not_lt_zero _)
                | succ n_25701 ih_25703 =>
                  intro x_25669 x_25670 ri_25671 H locs ls h_25705 hm_25700 hG hP hD hS hl
                  have uh_25705 := h_25705.1
                  have vh_25705 := h_25705.2
                  refine lv_iload hx hb dX12_death_140 (lv_at hl 4 rfl) ?_
                  refine lv_aload_n hx hb dX12_death_142 rfl (lv_at hl 0 rfl) ?_
                  refine pg_f (v := .ref w_12903) (C := RX12) (T := TX12) (N := 31) hx hb hts (tw_i inlX12) hown hK hP hL_this hK_this (by decide) rfl 0 (by decide) (hts _ (tw_c tw_176)) (pq_hv rfl hR_w_12903) dX12_death_143 ?_
                  refine lv_iconst (v := 2) hx hb dX12_death_146 (by decide) ?_
                  refine pl_i hx hb hK hP hL_w_12903 hK_w_12903 hN_w_12903 (vp_in_iff.mpr (by decide)) dX12_death_147 ?_
                  refine lv_tov (ri w_12903 2) (hG.2.2.1 w_12903 hT_w_12903 2 (by decide) (by decide)) ?_
                  have h_25706 : rg (ri w_12903 2) 0 40 := GM.z0 hG0 (by rw [hT_w_12903]; decide) (i := 2) (k := 2) (by decide) rfl
                  have uh_25706 := h_25706.1
                  have vh_25706 := h_25706.2
                  refine lv_icmp_ge (tgt := 192) hx hb dX12_death_148 (by decide) (fun c_25707 => ?_) (fun c_25707 => ?_)
                  · have tc_25708 : (ri w_12903 2).toInt ≤ (x_25670).toInt := Int32.le_iff_toInt_le.mp c_25707
                    refine lv_iload hx hb dX12_death_192 (lv_at hl 3 rfl) ?_
                    subst hQ
                    exact W.iret (v := x_25669) hx hb hr (fun t1 ht hW => ⟨⟨x_25669, (σ, I_12925, J, ri_25671, rj, rq), rfl, ⟨I_12925, ri_25671, rfl, hG⟩, by rw [ht]; exact hP, va_K.moved hW.alike hK, hD⟩, hS.F ht⟩) hS.2.2 dX12_death_194
                  · have tc_25709 : (x_25670).toInt < (ri w_12903 2).toInt := Int32.lt_iff_toInt_lt.mp (nle c_25707)
                    have h_25710 : rg x_25670 0 39 := rg_lt1 (nle c_25707) h_25705 h_25706 (by decide)
                    have uh_25710 := h_25710.1
                    have vh_25710 := h_25710.2
                    have h_25711 : rg (ri w_12903 2) 1 40 := rg_lt2 (nle c_25707) h_25705 h_25706 (by decide)
                    have uh_25711 := h_25711.1
                    have vh_25711 := h_25711.2
                    refine lv_aload_n hx hb dX12_death_151 rfl (lv_at hl 0 rfl) ?_
                    refine lv_iload hx hb dX12_death_152 (lv_at hl 4 rfl) ?_
                    refine lv_bipush (v := 14) hx hb dX12_death_154 (by decide) ?_
                    refine pk_i (va_runV (As := [.int x_25670, .int 14]) (rest := []) ⟨hx, hb, hml, hown, hts⟩ (s_X12_cellAt_c14 l D t σ I_12925 J ri_25671 rj rq H.size tg hSH hG.1 this x_25670 hL_this hK_this (rg_w h_25710 (by decide))) (cwV 2 hts (tw_V tw_361 tw_362 tw_363 tw_5 tw_364) rfl rfl rfl cv_yX12_cellAt_2 ⟨Nat.le_of_ble_eq_true rfl, Nat.le_of_ble_eq_true rfl⟩) ⟨pq_blind, pq_recv hK hP hL_this hK_this (by decide) rfl, pq_pre hK hN hP hD⟩ rfl rfl hl.1 rfl (lv_room (Nat.le_of_ble_eq_true rfl)) dX12_death_156 ⟨Nat.le_of_ble_eq_true rfl, Nat.le_of_ble_eq_true rfl⟩) hD hS hA (fun x_25712 σ1 μ1 H locs hw_25713 hP hD hS => ?_)
                    obtain ⟨hu_25714, hr_25716⟩ := hw_25713
                    obtain ⟨hu_25714a, hu_25714b⟩ := Prod.mk.inj hu_25714
                    rw [hu_25714a, hu_25714b] at hP hD
                    refine lv_iload_n hx hb dX12_death_159 rfl (lv_at hl 1 rfl) ?_
                    have K_25733 : ∀  (x_25729 : Int32) (ri_25730 : Nat → Nat → Int32) (H : Heap) (locs : List Loc) (ls : Array Slot), GM [1403] tg σ I ri I_12925 ri_25730 rq → va_P D vwCl (pq_P t σ (I_12925, J, ri_25730, rj, rq)) H → va_D A (pq_P t σ (I_12925, J, ri_25730, rj, rq)) → va_S A s.heap H locs → lv_has ls 6 [(0, .ref this), (1, .int a0), (2, .int x_23940), (4, .int x_25729), (5, .int x_25670)] → W p l e ({ frames := 4, cells := 0, slots := 0, locals := 92 } : Room) s m (List.toArray ([.ref this, .int a0] : List Value)) below meth c H locs 0 0 Q (F0 m 186 ls []) := by
                      intro x_25729 ri_25730 H locs ls hG hP hD hS hl
                      obtain ⟨x_25734, ex_25734⟩ : ∃ y : Int32, y = x_25670 + Int32.ofInt 1 := ⟨_, rfl⟩
                      have h_25735 : rg x_25734 1 40 := rg_of_eq ex_25734 (rg_add h_25710 (rg_k (Int32.ofInt 1) 1 rfl) (by decide))
                      have uh_25735 := h_25735.1
                      have vh_25735 := h_25735.2
                      have tx_25734 : (x_25734).toInt = (x_25670).toInt + 1 := by rw [ex_25734]; exact i_add_rg (a2 := (x_25670).toInt) (b2 := 1) rfl rfl h_25710 (rg_k (Int32.ofInt 1) 1 rfl) (by decide)
                      refine lv_iinc (v := x_25734) (lv' := [(5, .int x_25734), (0, .ref this), (1, .int a0), (2, .int x_23940), (4, .int x_25729)]) hx hb dX12_death_186 hl (k := 4) rfl ex_25734.symm (by decide) rfl (fun ls hl => ?_)
                      refine lv_goto (tgt := 140) hx hb dX12_death_189 (by decide) ?_
                      exact ih_25703 x_25729 x_25734 ri_25730 _ _ _ (rg_w h_25735 (by decide)) (ms_up 1 hm_25700 ex_25734 rfl (by decide) h_25710 (by decide) (by decide)) hG hP hD hS (lv_sub hl [1, 2, 3, 4, 0] rfl)
                    refine lv_icmp_eq (tgt := 166) hx hb dX12_death_160 (by decide) (fun c_25736 => ?_) (fun c_25736 => ?_)
                    · have tc_25737 : (x_25712).toInt = (a0).toInt := congrArg Int32.toInt c_25736
                      have h_25738 : rg x_25712 0 39 := rg_and hr_25716 (rg_of_eq c_25736 f_12900) (by decide)
                      have uh_25738 := h_25738.1
                      have vh_25738 := h_25738.2
                      refine lv_aload_n hx hb dX12_death_166 rfl (lv_at hl 0 rfl) ?_
                      refine pg_f (v := .ref w_12903) (C := RX12) (T := TX12) (N := 31) hx hb hts (tw_i inlX12) hown hK hP hL_this hK_this (by decide) rfl 0 (by decide) (hts _ (tw_c tw_176)) (pq_hv rfl hR_w_12903) dX12_death_167 ?_
                      refine lv_bipush (v := 100) hx hb dX12_death_170 (by decide) ?_
                      refine lv_bipush (v := 16) hx hb dX12_death_172 (by decide) ?_
                      refine lv_iload hx hb dX12_death_174 (lv_at hl 4 rfl) ?_
                      refine lv_imul hx hb dX12_death_176 ?_
                      refine lv_topi (fun x_25739 ex_25739 => ?_)
                      have h_25740 : rg x_25739 0 624 := rg_of_eq ex_25739 (rg_mul (rg_k (16 : Int32) 16 rfl) h_25710 (by decide))
                      have uh_25740 := h_25740.1
                      have vh_25740 := h_25740.2
                      have tx_25739 : (x_25739).toInt = 16 * (x_25670).toInt := by rw [ex_25739]; exact i_mul_rg (a2 := 16) (b2 := (x_25670).toInt) rfl rfl (rg_k (16 : Int32) 16 rfl) h_25710 (by decide)
                      refine lv_iadd hx hb dX12_death_177 ?_
                      refine lv_topi (fun x_25741 ex_25741 => ?_)
                      have h_25742 : rg x_25741 100 724 := rg_of_eq ex_25741 (rg_add (rg_k (100 : Int32) 100 rfl) h_25740 (by decide))
                      have uh_25742 := h_25742.1
                      have vh_25742 := h_25742.2
                      have tx_25741 : (x_25741).toInt = 100 + (x_25739).toInt := by rw [ex_25741]; exact i_add_rg (a2 := 100) (b2 := (x_25739).toInt) rfl rfl (rg_k (100 : Int32) 100 rfl) h_25740 (by decide)
                      refine lv_bipush (v := 14) hx hb dX12_death_178 (by decide) ?_
                      refine lv_iadd hx hb dX12_death_180 ?_
                      refine lv_topi (fun x_25743 ex_25743 => ?_)
                      have h_25744 : rg x_25743 114 738 := rg_of_eq ex_25743 (rg_add h_25742 (rg_k (14 : Int32) 14 rfl) (by decide))
                      have uh_25744 := h_25744.1
                      have vh_25744 := h_25744.2
                      have tx_25743 : (x_25743).toInt = (x_25741).toInt + 14 := by rw [ex_25743]; exact i_add_rg (a2 := (x_25741).toInt) (b2 := 14) rfl rfl h_25742 (rg_k (14 : Int32) 14 rfl) (by decide)
                      refine lv_iload_n hx hb dX12_death_181 rfl (lv_at hl 2 rfl) ?_
                      refine pt_i hx hb hK hP hD hS hL_w_12903 hK_w_12903 hN_w_12903 (rg_in h_25744 (by decide)) dX12_death_182 (fun r_25745 H locs er_25745 hP hD hS => ?_)
                      have hG := GM.wz hG hT_w_12903 (by decide) er_25745 (zn_CELL (c := x_25670.toNatClampNeg) (k := 14) (by have z_i := clampE x_25743; have z_0 := clampE x_25670; omega) (rg_cl1 h_25710 (by decide)) (by decide)) rfl (rg_w h_24867 (by decide)) (by decide)
                      obtain ⟨x_25746, ex_25746⟩ : ∃ y : Int32, y = x_25669 + Int32.ofInt 1 := ⟨_, rfl⟩
                      refine lv_iinc (v := x_25746) (lv' := [(4, .int x_25746), (0, .ref this), (1, .int a0), (2, .int x_23940), (5, .int x_25670)]) hx hb dX12_death_183 hl (k := 3) rfl ex_25746.symm (by decide) rfl (fun ls hl => ?_)
                      exact K_25733 x_25746 r_25745 _ _ _ hG hP hD hS (lv_sub hl [1, 2, 3, 0, 4] rfl)
                    · have tc_25747 : (x_25712).toInt ≠ (a0).toInt := fun q => c_25736 (Int32.toInt_inj.mp q)
                      refine lv_goto (tgt := 186) hx hb dX12_death_163 (by decide) ?_
                      exact K_25733 x_25669 ri_25671 _ _ _ hG hP hD hS (lv_sub hl [0, 1, 2, 3, 4] rfl)
              exact L_25702 _ (0 : Int32) (0 : Int32) r_12921 _ _ _ (rg_w (rg_k (0 : Int32) 0 rfl) (by decide)) (Nat.lt_succ_self _) hG hP hD hS (lv_sub hl [2, 3, 4, 1, 0] rfl)
            · have tc_25748 : (x_23941).toInt < (ri w_12903 5).toInt := Int32.lt_iff_toInt_lt.mp (nle c_24870)
              have h_25749 : rg x_23941 0 39 := rg_lt1 (nle c_24870) h_24868 h_24869 (by decide)
              have uh_25749 := h_25749.1
              have vh_25749 := h_25749.2
              have h_25750 : rg (ri w_12903 5) 1 40 := rg_lt2 (nle c_24870) h_24868 h_24869 (by decide)
              have uh_25750 := h_25750.1
              have vh_25750 := h_25750.2
              refine lv_aload_n hx hb dX12_death_69 rfl (lv_at hl 0 rfl) ?_
              refine lv_iload hx hb dX12_death_70 (lv_at hl 4 rfl) ?_
              refine lv_iconst (v := 0) hx hb dX12_death_72 (by decide) ?_
              refine pk_i (va_runV (As := [.int x_23941, .int 0]) (rest := []) ⟨hx, hb, hml, hown, hts⟩ (s_X12_personAt_c0 l D t σ I_12925 J r_12921 rj rq H.size tg hSH hG.1 this x_23941 hL_this hK_this (rg_w h_25749 (by decide)) w_12903 hR_w_12903 hL_w_12903 hK_w_12903 hN_w_12903 hT_w_12903) (cwV 2 hts (tw_V tw_437 tw_438 tw_439 tw_5 tw_440) rfl rfl rfl cv_yX12_personAt_2 ⟨Nat.le_of_ble_eq_true rfl, Nat.le_of_ble_eq_true rfl⟩) ⟨pq_blind, pq_recv hK hP hL_this hK_this (by decide) rfl, pq_pre hK hN hP hD⟩ rfl rfl hl.1 rfl (lv_room (Nat.le_of_ble_eq_true rfl)) dX12_death_73 ⟨Nat.le_of_ble_eq_true rfl, Nat.le_of_ble_eq_true rfl⟩) hD hS hA (fun x_25751 σ1 μ1 H locs hw_25752 hP hD hS => ?_)
              obtain ⟨hu_25753, hp_25756⟩ := hw_25752
              obtain ⟨hu_25753a, hu_25753b⟩ := Prod.mk.inj hu_25753
              rw [hu_25753a, hu_25753b] at hP hD
              refine lv_aload_n hx hb dX12_death_76 rfl (lv_at hl 0 rfl) ?_
              refine lv_iload_n hx hb dX12_death_77 rfl (lv_at hl 1 rfl) ?_
              refine lv_iconst (v := 0) hx hb dX12_death_78 (by decide) ?_
              refine pk_i (va_runV (As := [.int a0, .int 0]) (rest := [.int x_25751]) ⟨hx, hb, hml, hown, hts⟩ (s_X12_personAt_c0 l D t σ I_12925 J r_12921 rj rq H.size tg hSH hG.1 this a0 hL_this hK_this (rg_w f_12900 (by decide)) w_12903 hR_w_12903 hL_w_12903 hK_w_12903 hN_w_12903 hT_w_12903) (cwV 2 hts (tw_V tw_437 tw_438 tw_439 tw_5 tw_440) rfl rfl rfl cv_yX12_personAt_2 ⟨Nat.le_of_ble_eq_true rfl, Nat.le_of_ble_eq_true rfl⟩) ⟨pq_blind, pq_recv hK hP hL_this hK_this (by decide) rfl, pq_pre hK hN hP hD⟩ rfl rfl hl.1 rfl (lv_room (Nat.le_of_ble_eq_true rfl)) dX12_death_79 ⟨Nat.le_of_ble_eq_true rfl, Nat.le_of_ble_eq_true rfl⟩) hD hS hA (fun x_25757 σ1 μ1 H locs hw_25758 hP hD hS => ?_)
              obtain ⟨hu_25759, hp_25762⟩ := hw_25758
              obtain ⟨hu_25759a, hu_25759b⟩ := Prod.mk.inj hu_25759
              rw [hu_25759a, hu_25759b] at hP hD
              have K_25804 : ∀  (x_25800 : Int32) (H : Heap) (locs : List Loc) (ls : Array Slot), rg x_25800 (-1) 39 → GM [1403] tg σ I ri I_12925 r_12921 rq → va_P D vwCl (pq_P t σ (I_12925, J, r_12921, rj, rq)) H → va_D A (pq_P t σ (I_12925, J, r_12921, rj, rq)) → va_S A s.heap H locs → lv_has ls 6 [(0, .ref this), (1, .int a0), (2, .int x_25800), (3, .int x_12923), (4, .int x_23941)] → W p l e ({ frames := 4, cells := 0, slots := 0, locals := 92 } : Room) s m (List.toArray ([.ref this, .int a0] : List Value)) below meth c H locs 0 0 Q (F0 m 128 ls []) := by
                intro x_25800 H locs ls h_25806 hG hP hD hS hl
                have uh_25806 := h_25806.1
                have vh_25806 := h_25806.2
                obtain ⟨x_25807, ex_25807⟩ : ∃ y : Int32, y = x_23941 + Int32.ofInt 1 := ⟨_, rfl⟩
                have h_25808 : rg x_25807 1 40 := rg_of_eq ex_25807 (rg_add h_25749 (rg_k (Int32.ofInt 1) 1 rfl) (by decide))
                have uh_25808 := h_25808.1
                have vh_25808 := h_25808.2
                have tx_25807 : (x_25807).toInt = (x_23941).toInt + 1 := by rw [ex_25807]; exact i_add_rg (a2 := (x_23941).toInt) (b2 := 1) rfl rfl h_25749 (rg_k (Int32.ofInt 1) 1 rfl) (by decide)
                refine lv_iinc (v := x_25807) (lv' := [(4, .int x_25807), (0, .ref this), (1, .int a0), (2, .int x_25800), (3, .int x_12923)]) hx hb dX12_death_128 hl (k := 4) rfl ex_25807.symm (by decide) rfl (fun ls hl => ?_)
                refine lv_goto (tgt := 58) hx hb dX12_death_131 (by decide) ?_
                exact ih_24864 x_25800 x_25807 _ _ _ (rg_w h_25806 (by decide)) (rg_w h_25808 (by decide)) (ms_up 1 hm_24861 ex_25807 rfl (by decide) h_25749 (by decide) (by decide)) hG hP hD hS (lv_sub hl [1, 2, 3, 4, 0] rfl)
              refine lv_icmp_ne (tgt := 128) hx hb dX12_death_82 (by decide) (fun c_25809 => ?_) (fun c_25809 => ?_)
              · have tc_25810 : (x_25751).toInt ≠ (x_25757).toInt := fun q => c_25809 (Int32.toInt_inj.mp q)
                exact K_25804 x_23940 _ _ _ (rg_w h_24867 (by decide)) hG hP hD hS (lv_sub hl [0, 1, 2, 3, 4] rfl)
              · have tc_25811 : (x_25751).toInt = (x_25757).toInt := congrArg Int32.toInt c_25809
                refine lv_aload_n hx hb dX12_death_85 rfl (lv_at hl 0 rfl) ?_
                refine lv_iload hx hb dX12_death_86 (lv_at hl 4 rfl) ?_
                refine lv_iconst (v := 3) hx hb dX12_death_88 (by decide) ?_
                refine pk_i (va_runV (As := [.int x_23941, .int 3]) (rest := []) ⟨hx, hb, hml, hown, hts⟩ (s_X12_personAt_c3 l D t σ I_12925 J r_12921 rj rq H.size tg hSH hG.1 this x_23941 hL_this hK_this (rg_w h_25749 (by decide)) w_12903 hR_w_12903 hL_w_12903 hK_w_12903 hN_w_12903 hT_w_12903) (cwV 2 hts (tw_V tw_437 tw_438 tw_439 tw_5 tw_440) rfl rfl rfl cv_yX12_personAt_2 ⟨Nat.le_of_ble_eq_true rfl, Nat.le_of_ble_eq_true rfl⟩) ⟨pq_blind, pq_recv hK hP hL_this hK_this (by decide) rfl, pq_pre hK hN hP hD⟩ rfl rfl hl.1 rfl (lv_room (Nat.le_of_ble_eq_true rfl)) dX12_death_89 ⟨Nat.le_of_ble_eq_true rfl, Nat.le_of_ble_eq_true rfl⟩) hD hS hA (fun x_25812 σ1 μ1 H locs hw_25813 hP hD hS => ?_)
                obtain ⟨hu_25814, hp_25817, hp_25818, hr_25816⟩ := hw_25813
                obtain ⟨hu_25814a, hu_25814b⟩ := Prod.mk.inj hu_25814
                rw [hu_25814a, hu_25814b] at hP hD
                have tt_25819 := hp_25818
                refine lv_sipush (v := 300) hx hb dX12_death_92 (by decide) ?_
                refine lv_icmp_ne (tgt := 101) hx hb dX12_death_95 (by decide) (fun c_25820 => ?_) (fun c_25820 => ?_)
                · have tc_25821 : (x_25812).toInt ≠ 300 := fun q => c_25820 (Int32.toInt_inj.mp q)
                  have h_25822 : rg x_25812 0 299 := rg_ne c_25820 hr_25816 300 rfl (by decide)
                  have uh_25822 := h_25822.1
                  have vh_25822 := h_25822.2
                  refine lv_iload_n hx hb dX12_death_101 rfl (lv_at hl 2 rfl) ?_
                  have K_25844 : ∀  (H : Heap) (locs : List Loc) (ls : Array Slot), GM [1403] tg σ I ri I_12925 r_12921 rq → va_P D vwCl (pq_P t σ (I_12925, J, r_12921, rj, rq)) H → va_D A (pq_P t σ (I_12925, J, r_12921, rj, rq)) → va_S A s.heap H locs → lv_has ls 6 [(0, .ref this), (1, .int a0), (3, .int x_12923), (4, .int x_23941)] → W p l e ({ frames := 4, cells := 0, slots := 0, locals := 92 } : Room) s m (List.toArray ([.ref this, .int a0] : List Value)) below meth c H locs 0 0 Q (F0 m 125 ls []) := by
                    intro H locs ls hG hP hD hS hl
                    refine lv_iload hx hb dX12_death_125 (lv_at hl 3 rfl) ?_
                    refine lv_istore_n (lv' := [(2, .int x_23941), (0, .ref this), (1, .int a0), (3, .int x_12923), (4, .int x_23941)]) hx hb dX12_death_127 rfl hl (by decide) rfl (fun ls hl => ?_)
                    exact K_25804 x_23941 _ _ _ (rg_w h_25749 (by decide)) hG hP hD hS (lv_sub hl [1, 2, 0, 3, 4] rfl)
                  refine lv_if_lt (tgt := 125) hx hb dX12_death_102 (by decide) (fun c_25845 => ?_) (fun c_25845 => ?_)
                  · have tc_25846 : (x_23940).toInt < 0 := Int32.lt_iff_toInt_lt.mp c_25845
                    have h_25847 : rg x_23940 (-1) (-1) := rg_lt1 c_25845 h_24867 (rg_k (0 : Int32) 0 rfl) (by decide)
                    have uh_25847 := h_25847.1
                    have vh_25847 := h_25847.2
                    exact K_25844 _ _ _ hG hP hD hS (lv_sub hl [0, 1, 3, 4] rfl)
                  · have tc_25848 : 0 ≤ (x_23940).toInt := Int32.le_iff_toInt_le.mp (nlt c_25845)
                    have h_25849 : rg x_23940 0 39 := rg_le2 (nlt c_25845) (rg_k (0 : Int32) 0 rfl) h_24867 (by decide)
                    have uh_25849 := h_25849.1
                    have vh_25849 := h_25849.2
                    refine lv_iload_n hx hb dX12_death_105 rfl (lv_at hl 3 rfl) ?_
                    refine lv_if_eq (tgt := 128) hx hb dX12_death_106 (by decide) (fun c_25850 => ?_) (fun c_25850 => ?_)
                    · have tc_25851 : (x_12923).toInt = 0 := congrArg Int32.toInt c_25850
                      have h_25852 : rg x_12923 0 0 := rg_and h_12929 (rg_of_eq c_25850 (rg_k (0 : Int32) 0 rfl)) (by decide)
                      have uh_25852 := h_25852.1
                      have vh_25852 := h_25852.2
                      exact K_25804 x_23940 _ _ _ (rg_w h_25849 (by decide)) hG hP hD hS (lv_sub hl [0, 1, 2, 3, 4] rfl)
                    · have tc_25853 : (x_12923).toInt ≠ 0 := fun q => c_25850 (Int32.toInt_inj.mp q)
                      have h_25854 : rg x_12923 1 1 := rg_ne c_25850 h_12929 0 rfl (by decide)
                      have uh_25854 := h_25854.1
                      have vh_25854 := h_25854.2
                      refine lv_aload_n hx hb dX12_death_109 rfl (lv_at hl 0 rfl) ?_
                      refine lv_iload hx hb dX12_death_110 (lv_at hl 4 rfl) ?_
                      refine lv_iload_n hx hb dX12_death_112 rfl (lv_at hl 2 rfl) ?_
                      refine lv_aload_n hx hb dX12_death_113 rfl (lv_at hl 0 rfl) ?_
                      refine pg_f (v := .ref w_12903) (C := RX12) (T := TX12) (N := 31) hx hb hts (tw_i inlX12) hown hK hP hL_this hK_this (by decide) rfl 0 (by decide) (hts _ (tw_c tw_176)) (pq_hv rfl hR_w_12903) dX12_death_114 ?_
                      refine lv_iconst (v := 0) hx hb dX12_death_117 (by decide) ?_
                      refine pl_i hx hb hK hP hL_w_12903 hK_w_12903 hN_w_12903 (vp_in_iff.mpr (by decide)) dX12_death_118 ?_
                      refine lv_tov (ri w_12903 0) (hG.2.2.1 w_12903 hT_w_12903 0 (by decide) (by decide)) ?_
                      refine pk_i (va_runV (As := [.int x_23941, .int x_23940, .int (ri w_12903 0)]) (rest := []) ⟨hx, hb, hml, hown, hts⟩ (s_X12_isAhead l D t σ I_12925 J r_12921 rj rq H.size tg hSH hG.1 this x_23941 x_23940 (ri w_12903 0) hL_this hK_this (rg_w h_25749 (by decide)) (rg_w h_25849 (by decide)) w_12903 hR_w_12903 hL_w_12903 hK_w_12903 hN_w_12903 hT_w_12903) (cwV 3 hts (tw_V tw_524 tw_525 tw_526 tw_5 tw_527) rfl rfl rfl cv_yX12_isAhead_3 ⟨Nat.le_of_ble_eq_true rfl, Nat.le_of_ble_eq_true rfl⟩) ⟨pq_blind, pq_recv hK hP hL_this hK_this (by decide) rfl, pq_pre hK hN hP hD⟩ rfl rfl hl.1 rfl (lv_room (Nat.le_of_ble_eq_true rfl)) dX12_death_119 ⟨Nat.le_of_ble_eq_true rfl, Nat.le_of_ble_eq_true rfl⟩) hD hS hA (fun x_25855 σ1 μ1 H locs hw_25856 hP hD hS => ?_)
                      obtain ⟨hu_25857, hr_25859⟩ := hw_25856
                      obtain ⟨hu_25857a, hu_25857b⟩ := Prod.mk.inj hu_25857
                      rw [hu_25857a, hu_25857b] at hP hD
                      have h_25860 : rg x_25855 0 1 := by rcases hr_25859 with ⟨q, -⟩ | ⟨q, -⟩ <;> rw [q] <;> exact ⟨by decide, by decide⟩
                      have uh_25860 := h_25860.1
                      have vh_25860 := h_25860.2
                      refine lv_if_eq (tgt := 128) hx hb dX12_death_122 (by decide) (fun c_25861 => ?_) (fun c_25861 => ?_)
                      · have tc_25862 : (x_25855).toInt = 0 := congrArg Int32.toInt c_25861
                        have h_25863 : rg x_25855 0 0 := rg_and h_25860 (rg_of_eq c_25861 (rg_k (0 : Int32) 0 rfl)) (by decide)
                        have uh_25863 := h_25863.1
                        have vh_25863 := h_25863.2
                        exact K_25804 x_23940 _ _ _ (rg_w h_25849 (by decide)) hG hP hD hS (lv_sub hl [0, 1, 2, 3, 4] rfl)
                      · have tc_25864 : (x_25855).toInt ≠ 0 := fun q => c_25861 (Int32.toInt_inj.mp q)
                        have h_25865 : rg x_25855 1 1 := rg_ne c_25861 h_25860 0 rfl (by decide)
                        have uh_25865 := h_25865.1
                        have vh_25865 := h_25865.2
                        exact K_25844 _ _ _ hG hP hD hS (lv_sub hl [0, 1, 3, 4] rfl)
                · have tc_25866 : (x_25812).toInt = 300 := congrArg Int32.toInt c_25820
                  have h_25867 : rg x_25812 300 300 := rg_and hr_25816 (rg_of_eq c_25820 (rg_k (300 : Int32) 300 rfl)) (by decide)
                  have uh_25867 := h_25867.1
                  have vh_25867 := h_25867.2
                  refine lv_goto (tgt := 128) hx hb dX12_death_98 (by decide) ?_
                  exact K_25804 x_23940 _ _ _ (rg_w h_24867 (by decide)) hG hP hD hS (lv_sub hl [0, 1, 2, 3, 4] rfl)
        exact L_24863 _ (-1 : Int32) (0 : Int32) _ _ _ (rg_w (rg_k (-1 : Int32) (-1) rfl) (by decide)) (rg_w (rg_k (0 : Int32) 0 rfl) (by decide)) (Nat.lt_succ_self _) hG hP hD hS (lv_sub hl [3, 4, 2, 1, 0] rfl)
      · have tc_25868 : (x_12904).toInt = 300 := congrArg Int32.toInt c_12912
        have h_25869 : rg x_12904 300 300 := rg_and hr_12908 (rg_of_eq c_12912 (rg_k (300 : Int32) 300 rfl)) (by decide)
        have uh_25869 := h_25869.1
        have vh_25869 := h_25869.2
        exact K_12895 _ _ _ hG hP hD hS (lv_sub hl [] rfl)
  exact go _ _ _ hP hD hS hl

set_option maxHeartbeats 4000000 in
set_option maxRecDepth 100000 in
theorem s_X12_title (l : Launch) (D : va_G) (t : pq_T) (σ : pq_S) (I : Nat → Nat → Int32) (J : Nat → Nat → Int64) (ri : Nat → Nat → Int32) (rj : Nat → Nat → Int64) (rq : Nat → Nat → Option Nat) (sz : Nat) (tg : Nat → Nat) (hSH : SH σ tg) (hG0 : GT tg I ri) (this : Nat) (a0 : Int32) (a1 : Int32) (hL_this : this ∈ σ.1) (hK_this : σ.2.1 this = 12) : MetI l yX12_title (wa yX12_title cX12_title 3 (some .boolean)) ({ frames := 2, cells := 0, slots := 0, locals := 43 }) [.ref this, .int a0, .int a1] D t σ (I, J, ri, rj, rq) sz 0 0 (fun (r : Int32) (u : pq_S × pq_M) => ∃ ri' : Nat → Nat → Int32, u = (σ, I, J, ri', rj, rq) ∧ GM [] tg σ I ri I ri' rq ∧ ((r = 1 ∧ rg a0 0 39 ∧ rg a1 (-1) 39) ∨ (r = 0 ∧ True))) := by
  refine Met.ofW (cc := cX12_title) (maxL := 3) (ret := (some .boolean)) (by decide) rfl ?_
  intro p e s m args below meth c s₁ B hml hv
  obtain ⟨rfl, hsz, hP, hK, hD0, hN⟩ := hv
  have hx := B.exec
  have hb := B.bytes
  have hr := B.returns
  have hts := atoms_spec (ws := (wa yX12_title cX12_title 3 (some .boolean))) B.pre
  have hown : s.vm.findClass RX12 = some m.cls := findClass_of_methodNamed B.named
  have hlocks := B.notSynchronized
  subst hsz
  have hD : va_D (pq_B t σ (I, J, ri, rj, rq) s.heap.size) (pq_P t σ (I, J, ri, rj, rq)) := hD0.self
  generalize hAe : pq_B t σ (I, J, ri, rj, rq) s.heap.size = A at hD ⊢
  have hA : ∀ q : Nat, s.heap.size ≤ q → A q := fun q h => by rw [← hAe]; exact Or.inr h
  have hS : va_S A s.heap s.heap [] := va_S.rf
  have hG : GM [] tg σ I ri I ri rq := ⟨hG0, fun _ _ _ => rfl, fun _ _ _ _ _ => rfl, fun _ _ _ _ _ _ => rfl⟩
  have hl := lv_entry ([.ref this, .int a0, .int a1]) (n := 3) (Nat.le_of_ble_eq_true rfl)
  rw [lg_entry_eq]
  generalize (lg_sl ([.ref this, .int a0, .int a1]) ++ List.replicate (3 - (lg_sl ([.ref this, .int a0, .int a1])).length) Slot.unset).toArray = ls at hl ⊢
  have hl : lv_has ls 3 [(0, .ref this), (1, .int a0), (2, .int a1)] := hl
  refine q_gen (fun Q hQ => ?_)
  have go : ∀ (H : Heap) (locs : List Loc) (ls : Array Slot), va_P D vwCl (pq_P t σ (I, J, ri, rj, rq)) H → va_D A (pq_P t σ (I, J, ri, rj, rq)) → va_S A s.heap H locs → lv_has ls 3 [(0, .ref this), (1, .int a0), (2, .int a1)] → W p l e ({ frames := 2, cells := 0, slots := 0, locals := 43 } : Room) s m (List.toArray ([.ref this, .int a0, .int a1] : List Value)) below meth c H locs 0 0 Q (F0 m 0 ls []) := by
    intro H locs ls hP hD hS hl
    refine lv_aload_n hx hb dX12_title_0 rfl (lv_at hl 0 rfl) ?_
    refine lv_iload_n hx hb dX12_title_1 rfl (lv_at hl 1 rfl) ?_
    refine pk_i (va_runV (As := [.int a0]) (rest := []) ⟨hx, hb, hml, hown, hts⟩ (s_X12_isCell l D t σ I J ri rj rq H.size tg hSH hG.1 this a0 hL_this hK_this) (cwV 1 hts (tw_V tw_340 tw_341 tw_342 tw_5 tw_343) rfl rfl rfl cv_yX12_isCell_1 ⟨Nat.le_of_ble_eq_true rfl, Nat.le_of_ble_eq_true rfl⟩) ⟨pq_blind, pq_recv hK hP hL_this hK_this (by decide) rfl, pq_pre hK hN hP hD⟩ rfl rfl hl.1 rfl (lv_room (Nat.le_of_ble_eq_true rfl)) dX12_title_2 ⟨Nat.le_of_ble_eq_true rfl, Nat.le_of_ble_eq_true rfl⟩) hD hS hA (fun x_1 σ1 μ1 H locs hw_2 hP hD hS => ?_)
    obtain ⟨hu_3, hr_5⟩ := hw_2
    obtain ⟨hu_3a, hu_3b⟩ := Prod.mk.inj hu_3
    rw [hu_3a, hu_3b] at hP hD
    have h_6 : rg x_1 0 1 := by rcases hr_5 with ⟨q, -⟩ | ⟨q, -⟩ <;> rw [q] <;> exact ⟨by decide, by decide⟩
    have uh_6 := h_6.1
    have vh_6 := h_6.2
    have K_54 : ∀  (H : Heap) (locs : List Loc) (ls : Array Slot), GM [] tg σ I ri I ri rq → va_P D vwCl (pq_P t σ (I, J, ri, rj, rq)) H → va_D A (pq_P t σ (I, J, ri, rj, rq)) → va_S A s.heap H locs → lv_has ls 3 [] → W p l e ({ frames := 2, cells := 0, slots := 0, locals := 43 } : Room) s m (List.toArray ([.ref this, .int a0, .int a1] : List Value)) below meth c H locs 0 0 Q (F0 m 33 ls []) := by
      intro H locs ls hG hP hD hS hl
      refine lv_iconst (v := 0) hx hb dX12_title_33 (by decide) ?_
      subst hQ
      exact W.zret (v := 0) hx hb hr (by decide) (fun t1 ht hW => ⟨⟨0, (σ, I, J, ri, rj, rq), rfl, ⟨ri, rfl, hG, (Or.inr ⟨rfl, trivial⟩)⟩, by rw [ht]; exact hP, va_K.moved hW.alike hK, hD⟩, hS.F ht⟩) hS.2.2 dX12_title_34
    refine lv_if_eq (tgt := 33) hx hb dX12_title_5 (by decide) (fun c_55 => ?_) (fun c_55 => ?_)
    · have f_56 := (hr_5.resolve_left (fun q => absurd (q.1.symm.trans c_55) (by decide))).2
      have tc_57 : (x_1).toInt = 0 := congrArg Int32.toInt c_55
      have h_58 : rg x_1 0 0 := rg_and h_6 (rg_of_eq c_55 (rg_k (0 : Int32) 0 rfl)) (by decide)
      have uh_58 := h_58.1
      have vh_58 := h_58.2
      exact K_54 _ _ _ hG hP hD hS (lv_sub hl [] rfl)
    · have f_59 := (hr_5.resolve_right (fun q => c_55 q.1)).2
      have uf_59 := f_59.1
      have vf_59 := f_59.2
      have tc_60 : (x_1).toInt ≠ 0 := fun q => c_55 (Int32.toInt_inj.mp q)
      have h_61 : rg x_1 1 1 := rg_ne c_55 h_6 0 rfl (by decide)
      have uh_61 := h_61.1
      have vh_61 := h_61.2
      refine lv_iload_n hx hb dX12_title_8 rfl (lv_at hl 2 rfl) ?_
      refine lv_iconst (v := (-1)) hx hb dX12_title_9 (by decide) ?_
      have K_102 : ∀  (H : Heap) (locs : List Loc) (ls : Array Slot), rg (a1) (-1) 39 → GM [] tg σ I ri I ri rq → va_P D vwCl (pq_P t σ (I, J, ri, rj, rq)) H → va_D A (pq_P t σ (I, J, ri, rj, rq)) → va_S A s.heap H locs → lv_has ls 3 [(0, .ref this), (1, .int a0), (2, .int a1)] → W p l e ({ frames := 2, cells := 0, slots := 0, locals := 43 } : Room) s m (List.toArray ([.ref this, .int a0, .int a1] : List Value)) below meth c H locs 0 0 Q (F0 m 35 ls []) := by
        intro H locs ls h_104 hG hP hD hS hl
        have uh_104 := h_104.1
        have vh_104 := h_104.2
        refine lv_aload_n hx hb dX12_title_35 rfl (lv_at hl 0 rfl) ?_
        obtain ⟨w_105, hR_w_105, hL_w_105, hK_w_105, hN_w_105, hT_w_105⟩ := sh_a hSH 384 (ci := 12) (kd := 13) (len := 12720) rfl (by decide) hL_this hK_this
        refine pg_f (v := .ref w_105) (C := RX12) (T := TX12) (N := 31) hx hb hts (tw_i inlX12) hown hK hP hL_this hK_this (by decide) rfl 0 (by decide) (hts _ (tw_c tw_176)) (pq_hv rfl hR_w_105) dX12_title_36 ?_
        refine lv_bipush (v := 100) hx hb dX12_title_39 (by decide) ?_
        refine lv_bipush (v := 16) hx hb dX12_title_41 (by decide) ?_
        refine lv_iload_n hx hb dX12_title_43 rfl (lv_at hl 1 rfl) ?_
        refine lv_imul hx hb dX12_title_44 ?_
        refine lv_topi (fun x_106 ex_106 => ?_)
        have h_107 : rg x_106 0 624 := rg_of_eq ex_106 (rg_mul (rg_k (16 : Int32) 16 rfl) f_59 (by decide))
        have uh_107 := h_107.1
        have vh_107 := h_107.2
        have tx_106 : (x_106).toInt = 16 * (a0).toInt := by rw [ex_106]; exact i_mul_rg (a2 := 16) (b2 := (a0).toInt) rfl rfl (rg_k (16 : Int32) 16 rfl) f_59 (by decide)
        refine lv_iadd hx hb dX12_title_45 ?_
        refine lv_topi (fun x_108 ex_108 => ?_)
        have h_109 : rg x_108 100 724 := rg_of_eq ex_108 (rg_add (rg_k (100 : Int32) 100 rfl) h_107 (by decide))
        have uh_109 := h_109.1
        have vh_109 := h_109.2
        have tx_108 : (x_108).toInt = 100 + (x_106).toInt := by rw [ex_108]; exact i_add_rg (a2 := 100) (b2 := (x_106).toInt) rfl rfl (rg_k (100 : Int32) 100 rfl) h_107 (by decide)
        refine lv_bipush (v := 14) hx hb dX12_title_46 (by decide) ?_
        refine lv_iadd hx hb dX12_title_48 ?_
        refine lv_topi (fun x_110 ex_110 => ?_)
        have h_111 : rg x_110 114 738 := rg_of_eq ex_110 (rg_add h_109 (rg_k (14 : Int32) 14 rfl) (by decide))
        have uh_111 := h_111.1
        have vh_111 := h_111.2
        have tx_110 : (x_110).toInt = (x_108).toInt + 14 := by rw [ex_110]; exact i_add_rg (a2 := (x_108).toInt) (b2 := 14) rfl rfl h_109 (rg_k (14 : Int32) 14 rfl) (by decide)
        refine lv_iload_n hx hb dX12_title_49 rfl (lv_at hl 2 rfl) ?_
        refine pt_i hx hb hK hP hD hS hL_w_105 hK_w_105 hN_w_105 (rg_in h_111 (by decide)) dX12_title_50 (fun r_112 H locs er_112 hP hD hS => ?_)
        have hG := GM.wz hG hT_w_105 (by decide) er_112 (zn_CELL (c := a0.toNatClampNeg) (k := 14) (by have z_i := clampE x_110; have z_0 := clampE a0; omega) (rg_cl1 f_59 (by decide)) (by decide)) rfl (rg_w h_104 (by decide)) (by decide)
        refine lv_iconst (v := 1) hx hb dX12_title_51 (by decide) ?_
        subst hQ
        exact W.zret (v := 1) hx hb hr (by decide) (fun t1 ht hW => ⟨⟨1, (σ, I, J, r_112, rj, rq), rfl, ⟨r_112, rfl, hG, (Or.inl ⟨rfl, (rg_w f_59 (by decide)), (rg_w h_104 (by decide))⟩)⟩, by rw [ht]; exact hP, va_K.moved hW.alike hK, hD⟩, hS.F ht⟩) hS.2.2 dX12_title_52
      refine lv_icmp_eq (tgt := 35) hx hb dX12_title_10 (by decide) (fun c_113 => ?_) (fun c_113 => ?_)
      · have tc_114 : (a1).toInt = (-1) := congrArg Int32.toInt c_113
        have h_115 : rg a1 (-1) (-1) := rg_and (rg_full _) (rg_of_eq c_113 (rg_k (-1 : Int32) (-1) rfl)) (by decide)
        have uh_115 := h_115.1
        have vh_115 := h_115.2
        exact K_102 _ _ _ (rg_w h_115 (by decide)) hG hP hD hS (lv_sub hl [0, 1, 2] rfl)
      · have tc_116 : (a1).toInt ≠ (-1) := fun q => c_113 (Int32.toInt_inj.mp q)
        refine lv_aload_n hx hb dX12_title_13 rfl (lv_at hl 0 rfl) ?_
        refine lv_iload_n hx hb dX12_title_14 rfl (lv_at hl 2 rfl) ?_
        refine pk_i (va_runV (As := [.int a1]) (rest := []) ⟨hx, hb, hml, hown, hts⟩ (s_X12_isPerson l D t σ I J ri rj rq H.size tg hSH hG.1 this a1 hL_this hK_this) (cwV 1 hts (tw_V tw_425 tw_426 tw_427 tw_5 tw_428) rfl rfl rfl cv_yX12_isPerson_1 ⟨Nat.le_of_ble_eq_true rfl, Nat.le_of_ble_eq_true rfl⟩) ⟨pq_blind, pq_recv hK hP hL_this hK_this (by decide) rfl, pq_pre hK hN hP hD⟩ rfl rfl hl.1 rfl (lv_room (Nat.le_of_ble_eq_true rfl)) dX12_title_15 ⟨Nat.le_of_ble_eq_true rfl, Nat.le_of_ble_eq_true rfl⟩) hD hS hA (fun x_117 σ1 μ1 H locs hw_118 hP hD hS => ?_)
        obtain ⟨hu_119, hr_121⟩ := hw_118
        obtain ⟨hu_119a, hu_119b⟩ := Prod.mk.inj hu_119
        rw [hu_119a, hu_119b] at hP hD
        have h_122 : rg x_117 0 1 := by rcases hr_121 with ⟨q, -⟩ | ⟨q, -⟩ <;> rw [q] <;> exact ⟨by decide, by decide⟩
        have uh_122 := h_122.1
        have vh_122 := h_122.2
        refine lv_if_eq (tgt := 33) hx hb dX12_title_18 (by decide) (fun c_123 => ?_) (fun c_123 => ?_)
        · have f_124 := (hr_121.resolve_left (fun q => absurd (q.1.symm.trans c_123) (by decide))).2
          have tc_125 : (x_117).toInt = 0 := congrArg Int32.toInt c_123
          have h_126 : rg x_117 0 0 := rg_and h_122 (rg_of_eq c_123 (rg_k (0 : Int32) 0 rfl)) (by decide)
          have uh_126 := h_126.1
          have vh_126 := h_126.2
          exact K_54 _ _ _ hG hP hD hS (lv_sub hl [] rfl)
        · have f_127 := (hr_121.resolve_right (fun q => c_123 q.1)).2
          have uf_127 := f_127.1
          have vf_127 := f_127.2
          have tc_128 : (x_117).toInt ≠ 0 := fun q => c_123 (Int32.toInt_inj.mp q)
          have h_129 : rg x_117 1 1 := rg_ne c_123 h_122 0 rfl (by decide)
          have uh_129 := h_129.1
          have vh_129 := h_129.2
          refine lv_aload_n hx hb dX12_title_21 rfl (lv_at hl 0 rfl) ?_
          refine lv_iload_n hx hb dX12_title_22 rfl (lv_at hl 2 rfl) ?_
          refine lv_iconst (v := 3) hx hb dX12_title_23 (by decide) ?_
          obtain ⟨w_130, hR_w_130, hL_w_130, hK_w_130, hN_w_130, hT_w_130⟩ := sh_a hSH 384 (ci := 12) (kd := 13) (len := 12720) rfl (by decide) hL_this hK_this
          refine pk_i (va_runV (As := [.int a1, .int 3]) (rest := []) ⟨hx, hb, hml, hown, hts⟩ (s_X12_personAt_c3 l D t σ I J ri rj rq H.size tg hSH hG.1 this a1 hL_this hK_this (rg_w f_127 (by decide)) w_130 hR_w_130 hL_w_130 hK_w_130 hN_w_130 hT_w_130) (cwV 2 hts (tw_V tw_437 tw_438 tw_439 tw_5 tw_440) rfl rfl rfl cv_yX12_personAt_2 ⟨Nat.le_of_ble_eq_true rfl, Nat.le_of_ble_eq_true rfl⟩) ⟨pq_blind, pq_recv hK hP hL_this hK_this (by decide) rfl, pq_pre hK hN hP hD⟩ rfl rfl hl.1 rfl (lv_room (Nat.le_of_ble_eq_true rfl)) dX12_title_24 ⟨Nat.le_of_ble_eq_true rfl, Nat.le_of_ble_eq_true rfl⟩) hD hS hA (fun x_131 σ1 μ1 H locs hw_132 hP hD hS => ?_)
          obtain ⟨hu_133, hp_136, hp_137, hr_135⟩ := hw_132
          obtain ⟨hu_133a, hu_133b⟩ := Prod.mk.inj hu_133
          rw [hu_133a, hu_133b] at hP hD
          have tt_138 := hp_137
          refine lv_sipush (v := 300) hx hb dX12_title_27 (by decide) ?_
          refine lv_icmp_ne (tgt := 35) hx hb dX12_title_30 (by decide) (fun c_139 => ?_) (fun c_139 => ?_)
          · have tc_140 : (x_131).toInt ≠ 300 := fun q => c_139 (Int32.toInt_inj.mp q)
            have h_141 : rg x_131 0 299 := rg_ne c_139 hr_135 300 rfl (by decide)
            have uh_141 := h_141.1
            have vh_141 := h_141.2
            exact K_102 _ _ _ (rg_w f_127 (by decide)) hG hP hD hS (lv_sub hl [0, 1, 2] rfl)
          · have tc_142 : (x_131).toInt = 300 := congrArg Int32.toInt c_139
            have h_143 : rg x_131 300 300 := rg_and hr_135 (rg_of_eq c_139 (rg_k (300 : Int32) 300 rfl)) (by decide)
            have uh_143 := h_143.1
            have vh_143 := h_143.2
            exact K_54 _ _ _ hG hP hD hS (lv_sub hl [] rfl)
  exact go _ _ _ hP hD hS hl
