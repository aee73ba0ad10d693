theorem dX12_emit_0 : decode cX12_emit 0 = .ok (.aload_n 0, 1) := by decide +kernel
theorem dX12_emit_1 : decode cX12_emit 1 = .ok (.getfield 7, 3) := by decide +kernel
theorem dX12_emit_4 : decode cX12_emit 4 = .ok (.aload_n 0, 1) := by decide +kernel
theorem tw_821 : Cond.fieldLink RX12 172 "RingsUnderModel" "text0" "I" ∈ wsL_law := List.mem_of_getElem? (i := 821) (by decide +kernel)
theorem dX12_emit_5 : decode cX12_emit 5 = .ok (.getfield 172, 3) := by decide +kernel
theorem dX12_emit_8 : decode cX12_emit 8 = .ok (.sipush 250, 3) := by decide +kernel
theorem dX12_emit_11 : decode cX12_emit 11 = .ok (.iadd, 1) := by decide +kernel
theorem dX12_emit_12 : decode cX12_emit 12 = .ok (.iconst 2, 1) := by decide +kernel
theorem dX12_emit_13 : decode cX12_emit 13 = .ok (.aload_n 0, 1) := by decide +kernel
theorem tw_827 : Cond.fieldLink RX12 175 "RingsUnderModel" "written" "I" ∈ wsL_law := List.mem_of_getElem? (i := 827) (by decide +kernel)
theorem dX12_emit_14 : decode cX12_emit 14 = .ok (.getfield 175, 3) := by decide +kernel
theorem dX12_emit_17 : decode cX12_emit 17 = .ok (.imul, 1) := by decide +kernel
theorem dX12_emit_18 : decode cX12_emit 18 = .ok (.iadd, 1) := by decide +kernel
theorem dX12_emit_19 : decode cX12_emit 19 = .ok (.iload_n 1, 1) := by decide +kernel
theorem dX12_emit_20 : decode cX12_emit 20 = .ok (.iastore, 1) := by decide +kernel
theorem dX12_emit_21 : decode cX12_emit 21 = .ok (.aload_n 0, 1) := by decide +kernel
theorem dX12_emit_22 : decode cX12_emit 22 = .ok (.getfield 7, 3) := by decide +kernel
theorem dX12_emit_25 : decode cX12_emit 25 = .ok (.aload_n 0, 1) := by decide +kernel
theorem dX12_emit_26 : decode cX12_emit 26 = .ok (.getfield 172, 3) := by decide +kernel
theorem dX12_emit_29 : decode cX12_emit 29 = .ok (.sipush 250, 3) := by decide +kernel
theorem dX12_emit_32 : decode cX12_emit 32 = .ok (.iadd, 1) := by decide +kernel
theorem dX12_emit_33 : decode cX12_emit 33 = .ok (.iconst 2, 1) := by decide +kernel
theorem dX12_emit_34 : decode cX12_emit 34 = .ok (.aload_n 0, 1) := by decide +kernel
theorem dX12_emit_35 : decode cX12_emit 35 = .ok (.getfield 175, 3) := by decide +kernel
theorem dX12_emit_38 : decode cX12_emit 38 = .ok (.imul, 1) := by decide +kernel
theorem dX12_emit_39 : decode cX12_emit 39 = .ok (.iadd, 1) := by decide +kernel
theorem dX12_emit_40 : decode cX12_emit 40 = .ok (.iconst 1, 1) := by decide +kernel
theorem dX12_emit_41 : decode cX12_emit 41 = .ok (.iadd, 1) := by decide +kernel
theorem dX12_emit_42 : decode cX12_emit 42 = .ok (.iload_n 2, 1) := by decide +kernel
theorem dX12_emit_43 : decode cX12_emit 43 = .ok (.iastore, 1) := by decide +kernel
theorem dX12_emit_44 : decode cX12_emit 44 = .ok (.aload_n 0, 1) := by decide +kernel
theorem dX12_emit_45 : decode cX12_emit 45 = .ok (.dup, 1) := by decide +kernel
theorem dX12_emit_46 : decode cX12_emit 46 = .ok (.getfield 175, 3) := by decide +kernel
theorem dX12_emit_49 : decode cX12_emit 49 = .ok (.iconst 1, 1) := by decide +kernel
theorem dX12_emit_50 : decode cX12_emit 50 = .ok (.iadd, 1) := by decide +kernel
theorem dX12_emit_51 : decode cX12_emit 51 = .ok (.putfield 175, 3) := by decide +kernel
theorem dX12_emit_54 : decode cX12_emit 54 = .ok (.return_, 1) := by decide +kernel
theorem dX12_push_0 : decode cX12_push 0 = .ok (.aload_n 0, 1) := by decide +kernel
theorem tw_182 : Cond.fieldLink RX12 29 "RingsUnderModel" "pile" "[I" ∈ wsL_law := List.mem_of_getElem? (i := 182) (by decide +kernel)
theorem dX12_push_1 : decode cX12_push 1 = .ok (.getfield 29, 3) := by decide +kernel
theorem dX12_push_4 : decode cX12_push 4 = .ok (.aload_n 0, 1) := by decide +kernel
theorem tw_887 : Cond.fieldLink RX12 178 "RingsUnderModel" "piled" "I" ∈ wsL_law := List.mem_of_getElem? (i := 887) (by decide +kernel)
theorem dX12_push_5 : decode cX12_push 5 = .ok (.getfield 178, 3) := by decide +kernel
theorem dX12_push_8 : decode cX12_push 8 = .ok (.iload_n 1, 1) := by decide +kernel
theorem dX12_push_9 : decode cX12_push 9 = .ok (.iastore, 1) := by decide +kernel
theorem dX12_push_10 : decode cX12_push 10 = .ok (.aload_n 0, 1) := by decide +kernel
theorem dX12_push_11 : decode cX12_push 11 = .ok (.dup, 1) := by decide +kernel
theorem dX12_push_12 : decode cX12_push 12 = .ok (.getfield 178, 3) := by decide +kernel
theorem dX12_push_15 : decode cX12_push 15 = .ok (.iconst 1, 1) := by decide +kernel
theorem dX12_push_16 : decode cX12_push 16 = .ok (.iadd, 1) := by decide +kernel
theorem dX12_push_17 : decode cX12_push 17 = .ok (.putfield 178, 3) := by decide +kernel
theorem dX12_push_20 : decode cX12_push 20 = .ok (.return_, 1) := by decide +kernel
theorem dX12_whole_0 : decode cX12_whole 0 = .ok (.aload_n 0, 1) := by decide +kernel
theorem dX12_whole_1 : decode cX12_whole 1 = .ok (.iconst 1, 1) := by decide +kernel
theorem tw_888 : Cond.fieldLink RX12 181 "RingsUnderModel" "isWhole" "Z" ∈ wsL_law := List.mem_of_getElem? (i := 888) (by decide +kernel)
theorem dX12_whole_2 : decode cX12_whole 2 = .ok (.putfield 181, 3) := by decide +kernel
theorem dX12_whole_5 : decode cX12_whole 5 = .ok (.aload_n 0, 1) := by decide +kernel
theorem dX12_whole_6 : decode cX12_whole 6 = .ok (.getfield 178, 3) := by decide +kernel
theorem dX12_whole_9 : decode cX12_whole 9 = .ok (.ifCond .le 47, 3) := by decide +kernel
theorem dX12_whole_56 : decode cX12_whole 56 = .ok (.return_, 1) := by decide +kernel
theorem dX12_whole_12 : decode cX12_whole 12 = .ok (.aload_n 0, 1) := by decide +kernel
theorem dX12_whole_13 : decode cX12_whole 13 = .ok (.getfield 29, 3) := by decide +kernel
theorem dX12_whole_16 : decode cX12_whole 16 = .ok (.aload_n 0, 1) := by decide +kernel
theorem dX12_whole_17 : decode cX12_whole 17 = .ok (.getfield 178, 3) := by decide +kernel
theorem dX12_whole_20 : decode cX12_whole 20 = .ok (.iconst 1, 1) := by decide +kernel
theorem dX12_whole_21 : decode cX12_whole 21 = .ok (.isub, 1) := by decide +kernel
theorem dX12_whole_22 : decode cX12_whole 22 = .ok (.iaload, 1) := by decide +kernel
theorem dX12_whole_23 : decode cX12_whole 23 = .ok (.iconst 2, 1) := by decide +kernel
theorem dX12_whole_24 : decode cX12_whole 24 = .ok (.if_icmp .ne 32, 3) := by decide +kernel
theorem dX12_whole_27 : decode cX12_whole 27 = .ok (.aload_n 0, 1) := by decide +kernel
theorem dX12_whole_28 : decode cX12_whole 28 = .ok (.dup, 1) := by decide +kernel
theorem dX12_whole_29 : decode cX12_whole 29 = .ok (.getfield 178, 3) := by decide +kernel
theorem dX12_whole_32 : decode cX12_whole 32 = .ok (.iconst 1, 1) := by decide +kernel
theorem dX12_whole_33 : decode cX12_whole 33 = .ok (.isub, 1) := by decide +kernel
theorem dX12_whole_34 : decode cX12_whole 34 = .ok (.putfield 178, 3) := by decide +kernel
theorem dX12_whole_37 : decode cX12_whole 37 = .ok (.aload_n 0, 1) := by decide +kernel
theorem dX12_whole_38 : decode cX12_whole 38 = .ok (.dup, 1) := by decide +kernel
theorem tw_828 : Cond.fieldLink RX12 185 "RingsUnderModel" "opens" "I" ∈ wsL_law := List.mem_of_getElem? (i := 828) (by decide +kernel)
theorem dX12_whole_39 : decode cX12_whole 39 = .ok (.getfield 185, 3) := by decide +kernel
theorem dX12_whole_42 : decode cX12_whole 42 = .ok (.iconst 1, 1) := by decide +kernel
theorem dX12_whole_43 : decode cX12_whole 43 = .ok (.isub, 1) := by decide +kernel
theorem dX12_whole_44 : decode cX12_whole 44 = .ok (.putfield 185, 3) := by decide +kernel
theorem dX12_whole_47 : decode cX12_whole 47 = .ok (.aload_n 0, 1) := by decide +kernel
theorem dX12_whole_48 : decode cX12_whole 48 = .ok (.iconst 2, 1) := by decide +kernel
theorem dX12_whole_49 : decode cX12_whole 49 = .ok (.iconst 0, 1) := by decide +kernel
theorem tw_905 : Cond.methodLink RX12 188 yX12_emit ∈ wsL_law := List.mem_of_getElem? (i := 905) (by decide +kernel)
theorem tw_906 : Cond.instanceMethod yX12_emit ∈ wsL_law := List.mem_of_getElem? (i := 906) (by decide +kernel)
theorem tw_907 : Cond.selects RX12 yX12_emit yX12_emit ∈ wsL_law := List.mem_of_getElem? (i := 907) (by decide +kernel)
theorem tw_908 : Cond.code yX12_emit cX12_emit 3 none ∈ wsL_law := List.mem_of_getElem? (i := 908) (by decide +kernel)
theorem dX12_whole_50 : decode cX12_whole 50 = .ok (.invokevirtual 188, 3) := by decide +kernel
theorem dX12_whole_53 : decode cX12_whole 53 = .ok (.goto (-48), 3) := by decide +kernel
theorem dX12_settle_0 : decode cX12_settle 0 = .ok (.aload_n 0, 1) := by decide +kernel
theorem dX12_settle_1 : decode cX12_settle 1 = .ok (.getfield 178, 3) := by decide +kernel
theorem dX12_settle_4 : decode cX12_settle 4 = .ok (.ifCond .le 50, 3) := by decide +kernel
theorem dX12_settle_54 : decode cX12_settle 54 = .ok (.return_, 1) := by decide +kernel
theorem dX12_settle_7 : decode cX12_settle 7 = .ok (.aload_n 0, 1) := by decide +kernel
theorem dX12_settle_8 : decode cX12_settle 8 = .ok (.getfield 29, 3) := by decide +kernel
theorem dX12_settle_11 : decode cX12_settle 11 = .ok (.aload_n 0, 1) := by decide +kernel
theorem dX12_settle_12 : decode cX12_settle 12 = .ok (.getfield 178, 3) := by decide +kernel
theorem dX12_settle_15 : decode cX12_settle 15 = .ok (.iconst 1, 1) := by decide +kernel
theorem dX12_settle_16 : decode cX12_settle 16 = .ok (.isub, 1) := by decide +kernel
theorem dX12_settle_17 : decode cX12_settle 17 = .ok (.iaload, 1) := by decide +kernel
theorem dX12_settle_18 : decode cX12_settle 18 = .ok (.iload_n 1, 1) := by decide +kernel
theorem dX12_settle_19 : decode cX12_settle 19 = .ok (.bipush 6, 2) := by decide +kernel
theorem dX12_settle_21 : decode cX12_settle 21 = .ok (.invokestatic 62, 3) := by decide +kernel
theorem dX12_settle_24 : decode cX12_settle 24 = .ok (.ifCond .eq 30, 3) := by decide +kernel
theorem dX12_settle_27 : decode cX12_settle 27 = .ok (.aload_n 0, 1) := by decide +kernel
theorem dX12_settle_28 : decode cX12_settle 28 = .ok (.dup, 1) := by decide +kernel
theorem dX12_settle_29 : decode cX12_settle 29 = .ok (.getfield 178, 3) := by decide +kernel
theorem dX12_settle_32 : decode cX12_settle 32 = .ok (.iconst 1, 1) := by decide +kernel
theorem dX12_settle_33 : decode cX12_settle 33 = .ok (.isub, 1) := by decide +kernel
theorem dX12_settle_34 : decode cX12_settle 34 = .ok (.putfield 178, 3) := by decide +kernel
theorem dX12_settle_37 : decode cX12_settle 37 = .ok (.aload_n 0, 1) := by decide +kernel
theorem dX12_settle_38 : decode cX12_settle 38 = .ok (.aload_n 0, 1) := by decide +kernel
theorem dX12_settle_39 : decode cX12_settle 39 = .ok (.getfield 29, 3) := by decide +kernel
theorem dX12_settle_42 : decode cX12_settle 42 = .ok (.aload_n 0, 1) := by decide +kernel
theorem dX12_settle_43 : decode cX12_settle 43 = .ok (.getfield 178, 3) := by decide +kernel
theorem dX12_settle_46 : decode cX12_settle 46 = .ok (.iaload, 1) := by decide +kernel
theorem dX12_settle_47 : decode cX12_settle 47 = .ok (.iconst 0, 1) := by decide +kernel
theorem dX12_settle_48 : decode cX12_settle 48 = .ok (.invokevirtual 188, 3) := by decide +kernel
theorem dX12_settle_51 : decode cX12_settle 51 = .ok (.goto (-51), 3) := by decide +kernel
theorem dX12_hasParen_0 : decode cX12_hasParen 0 = .ok (.iconst 0, 1) := by decide +kernel
theorem dX12_hasParen_1 : decode cX12_hasParen 1 = .ok (.istore_n 1, 1) := by decide +kernel
theorem dX12_hasParen_2 : decode cX12_hasParen 2 = .ok (.iload_n 1, 1) := by decide +kernel
theorem dX12_hasParen_3 : decode cX12_hasParen 3 = .ok (.aload_n 0, 1) := by decide +kernel
theorem dX12_hasParen_4 : decode cX12_hasParen 4 = .ok (.getfield 178, 3) := by decide +kernel
theorem dX12_hasParen_7 : decode cX12_hasParen 7 = .ok (.if_icmp .ge 22, 3) := by decide +kernel
theorem dX12_hasParen_29 : decode cX12_hasParen 29 = .ok (.iconst 0, 1) := by decide +kernel
theorem dX12_hasParen_30 : decode cX12_hasParen 30 = .ok (.ireturn, 1) := by decide +kernel
theorem dX12_hasParen_10 : decode cX12_hasParen 10 = .ok (.aload_n 0, 1) := by decide +kernel
theorem dX12_hasParen_11 : decode cX12_hasParen 11 = .ok (.getfield 29, 3) := by decide +kernel
theorem dX12_hasParen_14 : decode cX12_hasParen 14 = .ok (.iload_n 1, 1) := by decide +kernel
theorem dX12_hasParen_15 : decode cX12_hasParen 15 = .ok (.iaload, 1) := by decide +kernel
theorem dX12_hasParen_16 : decode cX12_hasParen 16 = .ok (.bipush 40, 2) := by decide +kernel
theorem dX12_hasParen_18 : decode cX12_hasParen 18 = .ok (.if_icmp .ne 5, 3) := by decide +kernel
theorem dX12_hasParen_23 : decode cX12_hasParen 23 = .ok (.iinc 1 1, 3) := by decide +kernel
theorem dX12_hasParen_26 : decode cX12_hasParen 26 = .ok (.goto (-24), 3) := by decide +kernel
theorem dX12_hasParen_21 : decode cX12_hasParen 21 = .ok (.iconst 1, 1) := by decide +kernel
theorem dX12_hasParen_22 : decode cX12_hasParen 22 = .ok (.ireturn, 1) := by decide +kernel
theorem dX12_goesOn_0 : decode cX12_goesOn 0 = .ok (.aload_n 0, 1) := by decide +kernel
theorem dX12_goesOn_1 : decode cX12_goesOn 1 = .ok (.getfield 143, 3) := by decide +kernel
theorem dX12_goesOn_4 : decode cX12_goesOn 4 = .ok (.bipush 43, 2) := by decide +kernel
theorem dX12_goesOn_52 : decode cX12_goesOn 52 = .ok (.iconst 1, 1) := by decide +kernel
theorem dX12_goesOn_53 : decode cX12_goesOn 53 = .ok (.goto 4, 3) := by decide +kernel
theorem dX12_goesOn_57 : decode cX12_goesOn 57 = .ok (.ireturn, 1) := by decide +kernel
theorem dX12_goesOn_6 : decode cX12_goesOn 6 = .ok (.if_icmp .eq 46, 3) := by decide +kernel
theorem dX12_goesOn_9 : decode cX12_goesOn 9 = .ok (.aload_n 0, 1) := by decide +kernel
theorem dX12_goesOn_10 : decode cX12_goesOn 10 = .ok (.getfield 143, 3) := by decide +kernel
theorem dX12_goesOn_13 : decode cX12_goesOn 13 = .ok (.bipush 45, 2) := by decide +kernel
theorem dX12_goesOn_15 : decode cX12_goesOn 15 = .ok (.if_icmp .eq 37, 3) := by decide +kernel
theorem dX12_goesOn_18 : decode cX12_goesOn 18 = .ok (.aload_n 0, 1) := by decide +kernel
theorem dX12_goesOn_19 : decode cX12_goesOn 19 = .ok (.getfield 143, 3) := by decide +kernel
theorem dX12_goesOn_22 : decode cX12_goesOn 22 = .ok (.bipush 42, 2) := by decide +kernel
theorem dX12_goesOn_24 : decode cX12_goesOn 24 = .ok (.if_icmp .eq 28, 3) := by decide +kernel
theorem dX12_goesOn_27 : decode cX12_goesOn 27 = .ok (.aload_n 0, 1) := by decide +kernel
theorem dX12_goesOn_28 : decode cX12_goesOn 28 = .ok (.getfield 143, 3) := by decide +kernel
theorem dX12_goesOn_31 : decode cX12_goesOn 31 = .ok (.bipush 47, 2) := by decide +kernel
theorem dX12_goesOn_33 : decode cX12_goesOn 33 = .ok (.if_icmp .eq 19, 3) := by decide +kernel
theorem dX12_goesOn_36 : decode cX12_goesOn 36 = .ok (.aload_n 0, 1) := by decide +kernel
theorem dX12_goesOn_37 : decode cX12_goesOn 37 = .ok (.getfield 143, 3) := by decide +kernel
theorem dX12_goesOn_40 : decode cX12_goesOn 40 = .ok (.bipush 41, 2) := by decide +kernel
theorem dX12_goesOn_56 : decode cX12_goesOn 56 = .ok (.iconst 0, 1) := by decide +kernel
theorem dX12_goesOn_42 : decode cX12_goesOn 42 = .ok (.if_icmp .ne 14, 3) := by decide +kernel
theorem dX12_goesOn_45 : decode cX12_goesOn 45 = .ok (.aload_n 0, 1) := by decide +kernel
theorem tw_893 : Cond.methodLink RX12 205 yX12_hasParen ∈ wsL_law := List.mem_of_getElem? (i := 893) (by decide +kernel)
theorem tw_894 : Cond.instanceMethod yX12_hasParen ∈ wsL_law := List.mem_of_getElem? (i := 894) (by decide +kernel)
theorem tw_895 : Cond.selects RX12 yX12_hasParen yX12_hasParen ∈ wsL_law := List.mem_of_getElem? (i := 895) (by decide +kernel)
theorem tw_896 : Cond.code yX12_hasParen cX12_hasParen 2 (some .boolean) ∈ wsL_law := List.mem_of_getElem? (i := 896) (by decide +kernel)
theorem dX12_goesOn_46 : decode cX12_goesOn 46 = .ok (.invokevirtual 205, 3) := by decide +kernel
theorem dX12_goesOn_49 : decode cX12_goesOn 49 = .ok (.ifCond .eq 7, 3) := by decide +kernel
theorem dX12_beginOne_0 : decode cX12_beginOne 0 = .ok (.aload_n 0, 1) := by decide +kernel
theorem dX12_beginOne_1 : decode cX12_beginOne 1 = .ok (.getfield 143, 3) := by decide +kernel
theorem dX12_beginOne_4 : decode cX12_beginOne 4 = .ok (.iconst 1, 1) := by decide +kernel
theorem dX12_beginOne_20 : decode cX12_beginOne 20 = .ok (.aload_n 0, 1) := by decide +kernel
theorem dX12_beginOne_21 : decode cX12_beginOne 21 = .ok (.getfield 143, 3) := by decide +kernel
theorem dX12_beginOne_24 : decode cX12_beginOne 24 = .ok (.iconst 1, 1) := by decide +kernel
theorem dX12_beginOne_35 : decode cX12_beginOne 35 = .ok (.aload_n 0, 1) := by decide +kernel
theorem dX12_beginOne_36 : decode cX12_beginOne 36 = .ok (.aload_n 0, 1) := by decide +kernel
theorem dX12_beginOne_37 : decode cX12_beginOne 37 = .ok (.getfield 143, 3) := by decide +kernel
theorem dX12_beginOne_40 : decode cX12_beginOne 40 = .ok (.iconst 1, 1) := by decide +kernel
theorem dX12_beginOne_49 : decode cX12_beginOne 49 = .ok (.aload_n 0, 1) := by decide +kernel
theorem dX12_beginOne_50 : decode cX12_beginOne 50 = .ok (.getfield 143, 3) := by decide +kernel
theorem dX12_beginOne_53 : decode cX12_beginOne 53 = .ok (.iconst 1, 1) := by decide +kernel
theorem dX12_beginOne_68 : decode cX12_beginOne 68 = .ok (.invokevirtual 188, 3) := by decide +kernel
theorem dX12_beginOne_71 : decode cX12_beginOne 71 = .ok (.aload_n 0, 1) := by decide +kernel
theorem tw_832 : Cond.methodLink RX12 196 yX12_nextToken ∈ wsL_law := List.mem_of_getElem? (i := 832) (by decide +kernel)
theorem tw_833 : Cond.instanceMethod yX12_nextToken ∈ wsL_law := List.mem_of_getElem? (i := 833) (by decide +kernel)
theorem tw_834 : Cond.selects RX12 yX12_nextToken yX12_nextToken ∈ wsL_law := List.mem_of_getElem? (i := 834) (by decide +kernel)
theorem tw_835 : Cond.code yX12_nextToken cX12_nextToken 3 none ∈ wsL_law := List.mem_of_getElem? (i := 835) (by decide +kernel)
theorem dX12_beginOne_72 : decode cX12_beginOne 72 = .ok (.invokevirtual 196, 3) := by decide +kernel
theorem dX12_beginOne_75 : decode cX12_beginOne 75 = .ok (.aload_n 0, 1) := by decide +kernel
theorem tw_909 : Cond.methodLink RX12 199 yX12_whole ∈ wsL_law := List.mem_of_getElem? (i := 909) (by decide +kernel)
theorem tw_910 : Cond.instanceMethod yX12_whole ∈ wsL_law := List.mem_of_getElem? (i := 910) (by decide +kernel)
theorem tw_911 : Cond.selects RX12 yX12_whole yX12_whole ∈ wsL_law := List.mem_of_getElem? (i := 911) (by decide +kernel)
theorem tw_912 : Cond.code yX12_whole cX12_whole 1 none ∈ wsL_law := List.mem_of_getElem? (i := 912) (by decide +kernel)
theorem dX12_beginOne_76 : decode cX12_beginOne 76 = .ok (.invokevirtual 199, 3) := by decide +kernel
theorem dX12_beginOne_79 : decode cX12_beginOne 79 = .ok (.iconst 0, 1) := by decide +kernel
theorem dX12_beginOne_80 : decode cX12_beginOne 80 = .ok (.ireturn, 1) := by decide +kernel
theorem dX12_beginOne_54 : decode cX12_beginOne 54 = .ok (.if_icmp .ne 10, 3) := by decide +kernel
theorem dX12_beginOne_64 : decode cX12_beginOne 64 = .ok (.aload_n 0, 1) := by decide +kernel
theorem tw_921 : Cond.methodLink RX12 192 yX12_nameOf ∈ wsL_law := List.mem_of_getElem? (i := 921) (by decide +kernel)
theorem tw_922 : Cond.instanceMethod yX12_nameOf ∈ wsL_law := List.mem_of_getElem? (i := 922) (by decide +kernel)
theorem tw_923 : Cond.selects RX12 yX12_nameOf yX12_nameOf ∈ wsL_law := List.mem_of_getElem? (i := 923) (by decide +kernel)
theorem tw_924 : Cond.code yX12_nameOf cX12_nameOf 1 (some .int) ∈ wsL_law := List.mem_of_getElem? (i := 924) (by decide +kernel)
theorem dX12_beginOne_65 : decode cX12_beginOne 65 = .ok (.invokevirtual 192, 3) := by decide +kernel
theorem dX12_beginOne_57 : decode cX12_beginOne 57 = .ok (.aload_n 0, 1) := by decide +kernel
theorem dX12_beginOne_58 : decode cX12_beginOne 58 = .ok (.getfield 149, 3) := by decide +kernel
theorem dX12_beginOne_61 : decode cX12_beginOne 61 = .ok (.goto 7, 3) := by decide +kernel
theorem dX12_beginOne_41 : decode cX12_beginOne 41 = .ok (.if_icmp .ne 7, 3) := by decide +kernel
theorem dX12_beginOne_48 : decode cX12_beginOne 48 = .ok (.iconst 1, 1) := by decide +kernel
theorem dX12_beginOne_44 : decode cX12_beginOne 44 = .ok (.iconst 0, 1) := by decide +kernel
theorem dX12_beginOne_45 : decode cX12_beginOne 45 = .ok (.goto 4, 3) := by decide +kernel
theorem dX12_beginOne_25 : decode cX12_beginOne 25 = .ok (.if_icmp .eq 10, 3) := by decide +kernel
theorem dX12_beginOne_28 : decode cX12_beginOne 28 = .ok (.aload_n 0, 1) := by decide +kernel
theorem dX12_beginOne_29 : decode cX12_beginOne 29 = .ok (.invokevirtual 192, 3) := by decide +kernel
theorem dX12_beginOne_32 : decode cX12_beginOne 32 = .ok (.ifCond .lt 49, 3) := by decide +kernel
theorem dX12_beginOne_81 : decode cX12_beginOne 81 = .ok (.aload_n 0, 1) := by decide +kernel
theorem dX12_beginOne_82 : decode cX12_beginOne 82 = .ok (.getfield 143, 3) := by decide +kernel
theorem dX12_beginOne_85 : decode cX12_beginOne 85 = .ok (.bipush 40, 2) := by decide +kernel
theorem dX12_beginOne_101 : decode cX12_beginOne 101 = .ok (.aload_n 0, 1) := by decide +kernel
theorem dX12_beginOne_102 : decode cX12_beginOne 102 = .ok (.getfield 185, 3) := by decide +kernel
theorem dX12_beginOne_105 : decode cX12_beginOne 105 = .ok (.bipush 8, 2) := by decide +kernel
theorem dX12_beginOne_107 : decode cX12_beginOne 107 = .ok (.if_icmp .ne 5, 3) := by decide +kernel
theorem dX12_beginOne_112 : decode cX12_beginOne 112 = .ok (.aload_n 0, 1) := by decide +kernel
theorem dX12_beginOne_113 : decode cX12_beginOne 113 = .ok (.dup, 1) := by decide +kernel
theorem dX12_beginOne_114 : decode cX12_beginOne 114 = .ok (.getfield 185, 3) := by decide +kernel
theorem dX12_beginOne_117 : decode cX12_beginOne 117 = .ok (.iconst 1, 1) := by decide +kernel
theorem dX12_beginOne_118 : decode cX12_beginOne 118 = .ok (.iadd, 1) := by decide +kernel
theorem dX12_beginOne_119 : decode cX12_beginOne 119 = .ok (.putfield 185, 3) := by decide +kernel
theorem dX12_beginOne_122 : decode cX12_beginOne 122 = .ok (.aload_n 0, 1) := by decide +kernel
theorem dX12_beginOne_123 : decode cX12_beginOne 123 = .ok (.aload_n 0, 1) := by decide +kernel
theorem dX12_beginOne_124 : decode cX12_beginOne 124 = .ok (.getfield 143, 3) := by decide +kernel
theorem dX12_beginOne_127 : decode cX12_beginOne 127 = .ok (.bipush 40, 2) := by decide +kernel
theorem tw_913 : Cond.methodLink RX12 202 yX12_push ∈ wsL_law := List.mem_of_getElem? (i := 913) (by decide +kernel)
theorem tw_914 : Cond.instanceMethod yX12_push ∈ wsL_law := List.mem_of_getElem? (i := 914) (by decide +kernel)
theorem tw_915 : Cond.selects RX12 yX12_push yX12_push ∈ wsL_law := List.mem_of_getElem? (i := 915) (by decide +kernel)
theorem tw_916 : Cond.code yX12_push cX12_push 2 none ∈ wsL_law := List.mem_of_getElem? (i := 916) (by decide +kernel)
theorem dX12_beginOne_138 : decode cX12_beginOne 138 = .ok (.invokevirtual 202, 3) := by decide +kernel
theorem dX12_beginOne_141 : decode cX12_beginOne 141 = .ok (.aload_n 0, 1) := by decide +kernel
theorem dX12_beginOne_142 : decode cX12_beginOne 142 = .ok (.invokevirtual 196, 3) := by decide +kernel
theorem dX12_beginOne_145 : decode cX12_beginOne 145 = .ok (.iconst 0, 1) := by decide +kernel
theorem dX12_beginOne_146 : decode cX12_beginOne 146 = .ok (.ireturn, 1) := by decide +kernel
theorem dX12_beginOne_129 : decode cX12_beginOne 129 = .ok (.if_icmp .ne 8, 3) := by decide +kernel
theorem dX12_beginOne_137 : decode cX12_beginOne 137 = .ok (.iconst 2, 1) := by decide +kernel
theorem dX12_beginOne_132 : decode cX12_beginOne 132 = .ok (.bipush 40, 2) := by decide +kernel
theorem dX12_beginOne_134 : decode cX12_beginOne 134 = .ok (.goto 4, 3) := by decide +kernel
theorem dX12_beginOne_110 : decode cX12_beginOne 110 = .ok (.iconst 3, 1) := by decide +kernel
theorem dX12_beginOne_111 : decode cX12_beginOne 111 = .ok (.ireturn, 1) := by decide +kernel
theorem dX12_beginOne_87 : decode cX12_beginOne 87 = .ok (.if_icmp .eq 14, 3) := by decide +kernel
theorem dX12_beginOne_90 : decode cX12_beginOne 90 = .ok (.aload_n 0, 1) := by decide +kernel
theorem dX12_beginOne_91 : decode cX12_beginOne 91 = .ok (.getfield 143, 3) := by decide +kernel
theorem dX12_beginOne_94 : decode cX12_beginOne 94 = .ok (.bipush 45, 2) := by decide +kernel
theorem dX12_beginOne_96 : decode cX12_beginOne 96 = .ok (.if_icmp .eq 5, 3) := by decide +kernel
theorem dX12_beginOne_99 : decode cX12_beginOne 99 = .ok (.iconst 1, 1) := by decide +kernel
theorem dX12_beginOne_100 : decode cX12_beginOne 100 = .ok (.ireturn, 1) := by decide +kernel
theorem dX12_beginOne_5 : decode cX12_beginOne 5 = .ok (.if_icmp .ne 15, 3) := by decide +kernel
theorem dX12_beginOne_8 : decode cX12_beginOne 8 = .ok (.aload_n 0, 1) := by decide +kernel
theorem dX12_beginOne_9 : decode cX12_beginOne 9 = .ok (.getfield 149, 3) := by decide +kernel
theorem dX12_beginOne_12 : decode cX12_beginOne 12 = .ok (.sipush 9999, 3) := by decide +kernel
theorem dX12_beginOne_15 : decode cX12_beginOne 15 = .ok (.if_icmp .le 5, 3) := by decide +kernel
theorem dX12_beginOne_18 : decode cX12_beginOne 18 = .ok (.iconst 2, 1) := by decide +kernel
theorem dX12_beginOne_19 : decode cX12_beginOne 19 = .ok (.ireturn, 1) := by decide +kernel
theorem dX12_behindOne_0 : decode cX12_behindOne 0 = .ok (.aload_n 0, 1) := by decide +kernel
theorem dX12_behindOne_1 : decode cX12_behindOne 1 = .ok (.getfield 143, 3) := by decide +kernel
theorem dX12_behindOne_4 : decode cX12_behindOne 4 = .ok (.istore_n 1, 1) := by decide +kernel
theorem dX12_behindOne_5 : decode cX12_behindOne 5 = .ok (.aload_n 0, 1) := by decide +kernel
theorem dX12_behindOne_6 : decode cX12_behindOne 6 = .ok (.invokevirtual 196, 3) := by decide +kernel
theorem dX12_behindOne_9 : decode cX12_behindOne 9 = .ok (.iload_n 1, 1) := by decide +kernel
theorem dX12_behindOne_10 : decode cX12_behindOne 10 = .ok (.bipush 41, 2) := by decide +kernel
theorem dX12_behindOne_12 : decode cX12_behindOne 12 = .ok (.if_icmp .ne 33, 3) := by decide +kernel
theorem dX12_behindOne_45 : decode cX12_behindOne 45 = .ok (.iload_n 1, 1) := by decide +kernel
theorem dX12_behindOne_46 : decode cX12_behindOne 46 = .ok (.bipush 43, 2) := by decide +kernel
theorem dX12_behindOne_62 : decode cX12_behindOne 62 = .ok (.istore_n 2, 1) := by decide +kernel
theorem dX12_behindOne_63 : decode cX12_behindOne 63 = .ok (.aload_n 0, 1) := by decide +kernel
theorem dX12_behindOne_64 : decode cX12_behindOne 64 = .ok (.iload_n 2, 1) := by decide +kernel
theorem tw_901 : Cond.methodLink RX12 209 yX12_settle ∈ wsL_law := List.mem_of_getElem? (i := 901) (by decide +kernel)
theorem tw_902 : Cond.instanceMethod yX12_settle ∈ wsL_law := List.mem_of_getElem? (i := 902) (by decide +kernel)
theorem tw_903 : Cond.selects RX12 yX12_settle yX12_settle ∈ wsL_law := List.mem_of_getElem? (i := 903) (by decide +kernel)
theorem tw_904 : Cond.code yX12_settle cX12_settle 2 none ∈ wsL_law := List.mem_of_getElem? (i := 904) (by decide +kernel)
theorem dX12_behindOne_73 : decode cX12_behindOne 73 = .ok (.invokevirtual 209, 3) := by decide +kernel
theorem dX12_behindOne_76 : decode cX12_behindOne 76 = .ok (.aload_n 0, 1) := by decide +kernel
theorem dX12_behindOne_77 : decode cX12_behindOne 77 = .ok (.iload_n 1, 1) := by decide +kernel
theorem dX12_behindOne_78 : decode cX12_behindOne 78 = .ok (.bipush 43, 2) := by decide +kernel
theorem dX12_behindOne_109 : decode cX12_behindOne 109 = .ok (.invokevirtual 202, 3) := by decide +kernel
theorem dX12_behindOne_112 : decode cX12_behindOne 112 = .ok (.aload_n 0, 1) := by decide +kernel
theorem dX12_behindOne_113 : decode cX12_behindOne 113 = .ok (.iconst 0, 1) := by decide +kernel
theorem dX12_behindOne_114 : decode cX12_behindOne 114 = .ok (.putfield 181, 3) := by decide +kernel
theorem dX12_behindOne_117 : decode cX12_behindOne 117 = .ok (.return_, 1) := by decide +kernel
theorem dX12_behindOne_80 : decode cX12_behindOne 80 = .ok (.if_icmp .ne 7, 3) := by decide +kernel
theorem dX12_behindOne_87 : decode cX12_behindOne 87 = .ok (.iload_n 1, 1) := by decide +kernel
theorem dX12_behindOne_88 : decode cX12_behindOne 88 = .ok (.bipush 45, 2) := by decide +kernel
theorem dX12_behindOne_90 : decode cX12_behindOne 90 = .ok (.if_icmp .ne 7, 3) := by decide +kernel
theorem dX12_behindOne_97 : decode cX12_behindOne 97 = .ok (.iload_n 1, 1) := by decide +kernel
theorem dX12_behindOne_98 : decode cX12_behindOne 98 = .ok (.bipush 42, 2) := by decide +kernel
theorem dX12_behindOne_100 : decode cX12_behindOne 100 = .ok (.if_icmp .ne 7, 3) := by decide +kernel
theorem dX12_behindOne_107 : decode cX12_behindOne 107 = .ok (.bipush 6, 2) := by decide +kernel
theorem dX12_behindOne_103 : decode cX12_behindOne 103 = .ok (.iconst 5, 1) := by decide +kernel
theorem dX12_behindOne_104 : decode cX12_behindOne 104 = .ok (.goto 5, 3) := by decide +kernel
theorem dX12_behindOne_93 : decode cX12_behindOne 93 = .ok (.iconst 4, 1) := by decide +kernel
theorem dX12_behindOne_94 : decode cX12_behindOne 94 = .ok (.goto 15, 3) := by decide +kernel
theorem dX12_behindOne_83 : decode cX12_behindOne 83 = .ok (.iconst 3, 1) := by decide +kernel
theorem dX12_behindOne_84 : decode cX12_behindOne 84 = .ok (.goto 25, 3) := by decide +kernel
theorem dX12_behindOne_65 : decode cX12_behindOne 65 = .ok (.ifCond .eq 7, 3) := by decide +kernel
theorem dX12_behindOne_72 : decode cX12_behindOne 72 = .ok (.iconst 5, 1) := by decide +kernel
theorem dX12_behindOne_68 : decode cX12_behindOne 68 = .ok (.iconst 3, 1) := by decide +kernel
theorem dX12_behindOne_69 : decode cX12_behindOne 69 = .ok (.goto 4, 3) := by decide +kernel
theorem dX12_behindOne_57 : decode cX12_behindOne 57 = .ok (.iconst 1, 1) := by decide +kernel
theorem dX12_behindOne_58 : decode cX12_behindOne 58 = .ok (.goto 4, 3) := by decide +kernel
theorem dX12_behindOne_48 : decode cX12_behindOne 48 = .ok (.if_icmp .eq 9, 3) := by decide +kernel
theorem dX12_behindOne_51 : decode cX12_behindOne 51 = .ok (.iload_n 1, 1) := by decide +kernel
theorem dX12_behindOne_52 : decode cX12_behindOne 52 = .ok (.bipush 45, 2) := by decide +kernel
theorem dX12_behindOne_54 : decode cX12_behindOne 54 = .ok (.if_icmp .ne 7, 3) := by decide +kernel
theorem dX12_behindOne_61 : decode cX12_behindOne 61 = .ok (.iconst 0, 1) := by decide +kernel
theorem dX12_behindOne_15 : decode cX12_behindOne 15 = .ok (.aload_n 0, 1) := by decide +kernel
theorem dX12_behindOne_16 : decode cX12_behindOne 16 = .ok (.iconst 3, 1) := by decide +kernel
theorem dX12_behindOne_17 : decode cX12_behindOne 17 = .ok (.invokevirtual 209, 3) := by decide +kernel
theorem dX12_behindOne_20 : decode cX12_behindOne 20 = .ok (.aload_n 0, 1) := by decide +kernel
theorem dX12_behindOne_21 : decode cX12_behindOne 21 = .ok (.dup, 1) := by decide +kernel
theorem dX12_behindOne_22 : decode cX12_behindOne 22 = .ok (.getfield 178, 3) := by decide +kernel
theorem dX12_behindOne_25 : decode cX12_behindOne 25 = .ok (.iconst 1, 1) := by decide +kernel
theorem dX12_behindOne_26 : decode cX12_behindOne 26 = .ok (.isub, 1) := by decide +kernel
theorem dX12_behindOne_27 : decode cX12_behindOne 27 = .ok (.putfield 178, 3) := by decide +kernel
theorem dX12_behindOne_30 : decode cX12_behindOne 30 = .ok (.aload_n 0, 1) := by decide +kernel
theorem dX12_behindOne_31 : decode cX12_behindOne 31 = .ok (.dup, 1) := by decide +kernel
theorem dX12_behindOne_32 : decode cX12_behindOne 32 = .ok (.getfield 185, 3) := by decide +kernel
theorem dX12_behindOne_35 : decode cX12_behindOne 35 = .ok (.iconst 1, 1) := by decide +kernel
theorem dX12_behindOne_36 : decode cX12_behindOne 36 = .ok (.isub, 1) := by decide +kernel
theorem dX12_behindOne_37 : decode cX12_behindOne 37 = .ok (.putfield 185, 3) := by decide +kernel
theorem dX12_behindOne_40 : decode cX12_behindOne 40 = .ok (.aload_n 0, 1) := by decide +kernel
theorem dX12_behindOne_41 : decode cX12_behindOne 41 = .ok (.invokevirtual 199, 3) := by decide +kernel
theorem dX12_behindOne_44 : decode cX12_behindOne 44 = .ok (.return_, 1) := by decide +kernel
set_option maxHeartbeats 4000000 in
set_option maxRecDepth 100000 in
theorem s_X12_emit (l : Launch) (D : va_G) (t : pq_T) (σ : pq_S) (I : Nat → Nat → Int32) (J : Nat → Nat → Int64) (ri : Nat → Nat → Int32) (rj : Nat → Nat → Int64) (rq : Nat → Nat → Option Nat) (sz : Nat) (tg : Nat → Nat) (hSH : SH σ tg) (hG0 : GT tg I ri) (this : Nat) (a0 : Int32) (a1 : Int32) (hL_this : this ∈ σ.1) (hK_this : σ.2.1 this = 12) (this_a : Nat) (hR_this_a : σ.2.2.1 384 this = some this_a) (hL_this_a : this_a ∈ σ.1) (hK_this_a : σ.2.1 this_a = 13) (hN_this_a : σ.2.2.2 this_a = 12720) (hT_this_a : tg this_a = 384) (this_pile : Nat) (hR_this_pile : σ.2.2.1 400 this = some this_pile) (hL_this_pile : this_pile ∈ σ.1) (hK_this_pile : σ.2.1 this_pile = 13) (hN_this_pile : σ.2.2.2 this_pile = 160) (hT_this_pile : tg this_pile = 400) (fr : Int) (bb : Nat) (ht0 : (I 396 this).toInt = 3720 + 900 * (ri this_a 6).toInt ∧ 0 ≤ (ri this_a 6).toInt ∧ (ri this_a 6).toInt ≤ 9) (hbb : (bb : Int) = 3970 + 900 * (ri this_a 6).toInt + 2 * fr ∧ 0 ≤ fr ∧ fr ≤ (I 398 this).toInt) (hok : oN (ri this_a) bb fr (I 398 this).toInt) (hwr : (I 398 this).toInt ≤ 299) (hrq : (a0.toInt = 2 → 1 ≤ vN (ri this_a) bb fr (I 398 this).toInt) ∧ (2 < a0.toInt ∧ a0.toInt < 20 → 2 ≤ vN (ri this_a) bb fr (I 398 this).toInt) ∧ (a0.toInt = 20 → 1 ≤ tN (ri this_a) bb fr (I 398 this).toInt) ∧ (20 < a0.toInt → 2 ≤ tN (ri this_a) bb fr (I 398 this).toInt)) : MetV l yX12_emit (wa yX12_emit cX12_emit 3 none) ({ frames := 0, cells := 0, slots := 0, locals := 0 }) [.ref this, .int a0, .int a1] D t σ (I, J, ri, rj, rq) sz 0 0 (fun (u : pq_S × pq_M) => ∃ I' : Nat → Nat → Int32, ∃ ri' : Nat → Nat → Int32, u = (σ, I', J, ri', rj, rq) ∧ GM [398] tg σ I ri I' ri' rq ∧ ((I' 398 this).toInt = (I 398 this).toInt + 1 ∧ oN (ri' this_a) bb fr (I' 398 this).toInt ∧ (a0.toInt ≤ 1 → vN (ri' this_a) bb fr (I' 398 this).toInt = vN (ri this_a) bb fr (I 398 this).toInt + 1 ∧ tN (ri' this_a) bb fr (I' 398 this).toInt = tN (ri this_a) bb fr (I 398 this).toInt) ∧ (a0.toInt = 2 → vN (ri' this_a) bb fr (I' 398 this).toInt = vN (ri this_a) bb fr (I 398 this).toInt ∧ tN (ri' this_a) bb fr (I' 398 this).toInt = tN (ri this_a) bb fr (I 398 this).toInt) ∧ (2 < a0.toInt ∧ a0.toInt < 10 → vN (ri' this_a) bb fr (I' 398 this).toInt = vN (ri this_a) bb fr (I 398 this).toInt - 1 ∧ tN (ri' this_a) bb fr (I' 398 this).toInt = tN (ri this_a) bb fr (I 398 this).toInt) ∧ (10 ≤ a0.toInt ∧ a0.toInt < 20 → vN (ri' this_a) bb fr (I' 398 this).toInt = vN (ri this_a) bb fr (I 398 this).toInt - 2 ∧ tN (ri' this_a) bb fr (I' 398 this).toInt = tN (ri this_a) bb fr (I 398 this).toInt + 1) ∧ (a0.toInt = 20 → vN (ri' this_a) bb fr (I' 398 this).toInt = vN (ri this_a) bb fr (I 398 this).toInt ∧ tN (ri' this_a) bb fr (I' 398 this).toInt = tN (ri this_a) bb fr (I 398 this).toInt) ∧ (20 < a0.toInt → vN (ri' this_a) bb fr (I' 398 this).toInt = vN (ri this_a) bb fr (I 398 this).toInt ∧ tN (ri' this_a) bb fr (I' 398 this).toInt = tN (ri this_a) bb fr (I 398 this).toInt - 1)) ∧ (ri' this_pile = ri this_pile)) := by
  refine Met.ofW (cc := cX12_emit) (maxL := 3) (ret := none) (by decide) rfl ?_
  intro p e s m args below meth c s₁ B hml hv
  obtain ⟨rfl, hsz, hP, hK, hD0, hN⟩ := hv
  have hx := B.exec
  have hb := B.bytes
  have hr := B.returns
  have hts := atoms_spec (ws := (wa yX12_emit cX12_emit 3 none)) B.pre
  have hown : s.vm.findClass RX12 = some m.cls := findClass_of_methodNamed B.named
  have hlocks := B.notSynchronized
  subst hsz
  have hD : va_D (pq_B t σ (I, J, ri, rj, rq) s.heap.size) (pq_P t σ (I, J, ri, rj, rq)) := hD0.self
  generalize hAe : pq_B t σ (I, J, ri, rj, rq) s.heap.size = A at hD ⊢
  have hA : ∀ q : Nat, s.heap.size ≤ q → A q := fun q h => by rw [← hAe]; exact Or.inr h
  have hS : va_S A s.heap s.heap [] := va_S.rf
  have hG : GM [398] tg σ I ri I ri rq := ⟨hG0, fun _ _ _ => rfl, fun _ _ _ _ _ => rfl, fun _ _ _ _ _ _ => rfl⟩
  have hl := lv_entry ([.ref this, .int a0, .int a1]) (n := 3) (Nat.le_of_ble_eq_true rfl)
  rw [lg_entry_eq]
  generalize (lg_sl ([.ref this, .int a0, .int a1]) ++ List.replicate (3 - (lg_sl ([.ref this, .int a0, .int a1])).length) Slot.unset).toArray = ls at hl ⊢
  have hl : lv_has ls 3 [(0, .ref this), (1, .int a0), (2, .int a1)] := hl
  refine q_gen (fun Q hQ => ?_)
  have go : ∀ (H : Heap) (locs : List Loc) (ls : Array Slot), va_P D vwCl (pq_P t σ (I, J, ri, rj, rq)) H → va_D A (pq_P t σ (I, J, ri, rj, rq)) → va_S A s.heap H locs → lv_has ls 3 [(0, .ref this), (1, .int a0), (2, .int a1)] → W p l e ({ frames := 0, cells := 0, slots := 0, locals := 0 } : Room) s m (List.toArray ([.ref this, .int a0, .int a1] : List Value)) below meth c H locs 0 0 Q (F0 m 0 ls []) := by
    intro H locs ls hP hD hS hl
    have ce6 := clampE (ri this_a 6)
    refine lv_aload_n hx hb dX12_emit_0 rfl (lv_at hl 0 rfl) ?_
    refine pg_f (v := .ref this_a) (C := RX12) (T := TX12) (N := 31) hx hb hts (tw_i inlX12) hown hK hP hL_this hK_this (by decide) rfl 0 (by decide) (hts _ (tw_c tw_176)) (pq_hv rfl hR_this_a) dX12_emit_1 ?_
    refine lv_aload_n hx hb dX12_emit_4 rfl (lv_at hl 0 rfl) ?_
    refine pg_f (v := .int (I 396 this)) (C := RX12) (T := TX12) (N := 31) hx hb hts (tw_i inlX12) hown hK hP hL_this hK_this (by decide) rfl 12 (by decide) (hts _ (tw_c tw_821)) rfl dX12_emit_5 ?_
    have h_1 : rg (I 396 this) 0 11820 := GM.rI hG 396 rfl
    have uh_1 := h_1.1
    have vh_1 := h_1.2
    refine lv_sipush (v := 250) hx hb dX12_emit_8 (by decide) ?_
    refine lv_iadd hx hb dX12_emit_11 ?_
    refine lv_topi (fun x_2 ex_2 => ?_)
    have h_3 : rg x_2 250 12070 := rg_of_eq ex_2 (rg_add h_1 (rg_k (250 : Int32) 250 rfl) (by decide))
    have uh_3 := h_3.1
    have vh_3 := h_3.2
    have tx_2 : (x_2).toInt = (I 396 this).toInt + 250 := by rw [ex_2]; exact i_add_rg (a2 := (I 396 this).toInt) (b2 := 250) rfl rfl h_1 (rg_k (250 : Int32) 250 rfl) (by decide)
    refine lv_iconst (v := 2) hx hb dX12_emit_12 (by decide) ?_
    refine lv_aload_n hx hb dX12_emit_13 rfl (lv_at hl 0 rfl) ?_
    refine pg_f (v := .int (I 398 this)) (C := RX12) (T := TX12) (N := 31) hx hb hts (tw_i inlX12) hown hK hP hL_this hK_this (by decide) rfl 14 (by decide) (hts _ (tw_c tw_827)) rfl dX12_emit_14 ?_
    have h_4 : rg (I 398 this) 0 300 := GM.rI hG 398 rfl
    have uh_4 := h_4.1
    have vh_4 := h_4.2
    refine lv_imul hx hb dX12_emit_17 ?_
    refine lv_topi (fun x_5 ex_5 => ?_)
    have h_6 : rg x_5 0 600 := rg_of_eq ex_5 (rg_mul (rg_k (2 : Int32) 2 rfl) h_4 (by decide))
    have uh_6 := h_6.1
    have vh_6 := h_6.2
    have tx_5 : (x_5).toInt = 2 * (I 398 this).toInt := by rw [ex_5]; exact i_mul_rg (a2 := 2) (b2 := (I 398 this).toInt) rfl rfl (rg_k (2 : Int32) 2 rfl) h_4 (by decide)
    refine lv_iadd hx hb dX12_emit_18 ?_
    refine lv_topi (fun x_7 ex_7 => ?_)
    have h_8 : rg x_7 250 12670 := rg_of_eq ex_7 (rg_add h_3 h_6 (by decide))
    have uh_8 := h_8.1
    have vh_8 := h_8.2
    have tx_7 : (x_7).toInt = (x_2).toInt + (x_5).toInt := by rw [ex_7]; exact i_add_rg (a2 := (x_2).toInt) (b2 := (x_5).toInt) rfl rfl h_3 h_6 (by decide)
    refine lv_iload_n hx hb dX12_emit_19 rfl (lv_at hl 1 rfl) ?_
    refine pt_i hx hb hK hP hD hS hL_this_a hK_this_a hN_this_a (rg_in h_8 (by decide)) dX12_emit_20 (fun r_9 H locs er_9 hP hD hS => ?_)
    have hG := GM.wt hG hT_this_a (by decide) er_9 (zn_tk (t := (ri this_a 6).toNatClampNeg) (c := (I 398 this).toNatClampNeg) (k := 0) (by have z_i := clampE x_7; have z_0 := clampE (ri this_a 6); have z_1 := clampE (I 398 this); omega) (rg_cl1 ⟨ht0.2.1, ht0.2.2⟩ (by decide)) (rg_cl1 h_4 (by decide)) (by decide)) rfl (rg_w (rg_full _) (by decide)) (by have z6 := congrArg Int32.toInt (hG.2.2.1 this_a hT_this_a 6 (by decide) (by decide)); have z_i := clampE x_7; omega) (by decide)
    refine lv_aload_n hx hb dX12_emit_21 rfl (lv_at hl 0 rfl) ?_
    refine pg_f (v := .ref this_a) (C := RX12) (T := TX12) (N := 31) hx hb hts (tw_i inlX12) hown hK hP hL_this hK_this (by decide) rfl 0 (by decide) (hts _ (tw_c tw_176)) (pq_hv rfl hR_this_a) dX12_emit_22 ?_
    refine lv_aload_n hx hb dX12_emit_25 rfl (lv_at hl 0 rfl) ?_
    refine pg_f (v := .int (I 396 this)) (C := RX12) (T := TX12) (N := 31) hx hb hts (tw_i inlX12) hown hK hP hL_this hK_this (by decide) rfl 12 (by decide) (hts _ (tw_c tw_821)) rfl dX12_emit_26 ?_
    refine lv_sipush (v := 250) hx hb dX12_emit_29 (by decide) ?_
    refine lv_iadd hx hb dX12_emit_32 ?_
    refine lv_topi (fun x_10 ex_10 => ?_)
    have h_11 : rg x_10 250 12070 := rg_of_eq ex_10 (rg_add h_1 (rg_k (250 : Int32) 250 rfl) (by decide))
    have uh_11 := h_11.1
    have vh_11 := h_11.2
    have tx_10 : (x_10).toInt = (I 396 this).toInt + 250 := by rw [ex_10]; exact i_add_rg (a2 := (I 396 this).toInt) (b2 := 250) rfl rfl h_1 (rg_k (250 : Int32) 250 rfl) (by decide)
    refine lv_iconst (v := 2) hx hb dX12_emit_33 (by decide) ?_
    refine lv_aload_n hx hb dX12_emit_34 rfl (lv_at hl 0 rfl) ?_
    refine pg_f (v := .int (I 398 this)) (C := RX12) (T := TX12) (N := 31) hx hb hts (tw_i inlX12) hown hK hP hL_this hK_this (by decide) rfl 14 (by decide) (hts _ (tw_c tw_827)) rfl dX12_emit_35 ?_
    refine lv_imul hx hb dX12_emit_38 ?_
    refine lv_topi (fun x_12 ex_12 => ?_)
    have h_13 : rg x_12 0 600 := rg_of_eq ex_12 (rg_mul (rg_k (2 : Int32) 2 rfl) h_4 (by decide))
    have uh_13 := h_13.1
    have vh_13 := h_13.2
    have tx_12 : (x_12).toInt = 2 * (I 398 this).toInt := by rw [ex_12]; exact i_mul_rg (a2 := 2) (b2 := (I 398 this).toInt) rfl rfl (rg_k (2 : Int32) 2 rfl) h_4 (by decide)
    refine lv_iadd hx hb dX12_emit_39 ?_
    refine lv_topi (fun x_14 ex_14 => ?_)
    have h_15 : rg x_14 250 12670 := rg_of_eq ex_14 (rg_add h_11 h_13 (by decide))
    have uh_15 := h_15.1
    have vh_15 := h_15.2
    have tx_14 : (x_14).toInt = (x_10).toInt + (x_12).toInt := by rw [ex_14]; exact i_add_rg (a2 := (x_10).toInt) (b2 := (x_12).toInt) rfl rfl h_11 h_13 (by decide)
    refine lv_iconst (v := 1) hx hb dX12_emit_40 (by decide) ?_
    refine lv_iadd hx hb dX12_emit_41 ?_
    refine lv_topi (fun x_16 ex_16 => ?_)
    have h_17 : rg x_16 251 12671 := rg_of_eq ex_16 (rg_add h_15 (rg_k (1 : Int32) 1 rfl) (by decide))
    have uh_17 := h_17.1
    have vh_17 := h_17.2
    have tx_16 : (x_16).toInt = (x_14).toInt + 1 := by rw [ex_16]; exact i_add_rg (a2 := (x_14).toInt) (b2 := 1) rfl rfl h_15 (rg_k (1 : Int32) 1 rfl) (by decide)
    refine lv_iload_n hx hb dX12_emit_42 rfl (lv_at hl 2 rfl) ?_
    refine pt_i hx hb hK hP hD hS hL_this_a hK_this_a hN_this_a (rg_in h_17 (by decide)) dX12_emit_43 (fun r_18 H locs er_18 hP hD hS => ?_)
    have hG := GM.wt hG hT_this_a (by decide) er_18 (zn_tk (t := (ri this_a 6).toNatClampNeg) (c := (I 398 this).toNatClampNeg) (k := 1) (by have z_i := clampE x_16; have z_0 := clampE (ri this_a 6); have z_1 := clampE (I 398 this); omega) (rg_cl1 ⟨ht0.2.1, ht0.2.2⟩ (by decide)) (rg_cl1 h_4 (by decide)) (by decide)) rfl (rg_w (rg_full _) (by decide)) (by have z6 := congrArg Int32.toInt (hG.2.2.1 this_a hT_this_a 6 (by decide) (by decide)); have z_i := clampE x_16; omega) (by decide)
    refine lv_aload_n hx hb dX12_emit_44 rfl (lv_at hl 0 rfl) ?_
    refine lv_dup hx hb dX12_emit_45 rfl ?_
    refine pg_f (v := .int (I 398 this)) (C := RX12) (T := TX12) (N := 31) hx hb hts (tw_i inlX12) hown hK hP hL_this hK_this (by decide) rfl 14 (by decide) (hts _ (tw_c tw_827)) rfl dX12_emit_46 ?_
    refine lv_iconst (v := 1) hx hb dX12_emit_49 (by decide) ?_
    refine lv_iadd hx hb dX12_emit_50 ?_
    refine lv_topi (fun x_19 ex_19 => ?_)
    have h_20 : rg x_19 1 301 := rg_of_eq ex_19 (rg_add h_4 (rg_k (1 : Int32) 1 rfl) (by decide))
    have uh_20 := h_20.1
    have vh_20 := h_20.2
    have tx_19 : (x_19).toInt = (I 398 this).toInt + 1 := by rw [ex_19]; exact i_add_rg (a2 := (I 398 this).toInt) (b2 := 1) rfl rfl h_4 (rg_k (1 : Int32) 1 rfl) (by decide)
    refine pp_i (v := x_19) (ty := .int) (C := RX12) (T := TX12) (N := 31) hx hb hts (tw_i inlX12) tyX12 tyX12_ok nmX12 hown hK hP hD hS hL_this hK_this (by decide) rfl 14 398 (by decide) (hts _ (tw_c tw_827)) rfl (by decide +kernel) rfl rfl (Nat.le_of_ble_eq_true rfl) (ps_398 _ _ _ _ _) dX12_emit_51 (fun I_21 H locs eI_21 hP hD hS => ?_)
    have h_22 : rg x_19 1 300 := ⟨by omega, by omega⟩
    have uh_22 := h_22.1
    have vh_22 := h_22.2
    have hG := GM.wI hG 398 rfl eI_21 (rg_w h_22 (by decide)) (by decide)
    have tt_23 : (I_21 398 this).toInt = (x_19).toInt := by rw [eI_21, pq_us]
    subst hQ
    exact W.vret hx hb hr (fun t1 ht hW => ⟨⟨(σ, I_21, J, r_18, rj, rq), rfl, ⟨I_21, r_18, rfl, hG, (by have ew : (I_21 398 this).toInt = (I 398 this).toInt + 1 := by omega; refine ⟨ew, ?_⟩; rw [ew]; exact em_all (by omega) (fun j hj => by rw [er_18, er_9, va_up_self, va_up_self]; unfold upd; rw [if_neg (by have z0 := clampE x_7; have z1 := clampE x_16; have z2 := clampE (I 398 this); have z3 := clampE (I 396 this); omega), if_neg (by have z0 := clampE x_7; have z1 := clampE x_16; have z2 := clampE (I 398 this); have z3 := clampE (I 396 this); omega)]) (by rw [er_18, er_9, va_up_self, va_up_self]; unfold upd; rw [if_neg (by have z0 := clampE x_7; have z1 := clampE x_16; have z2 := clampE (I 398 this); have z3 := clampE (I 396 this); omega), if_pos (by have z0 := clampE x_7; have z1 := clampE x_16; have z2 := clampE (I 398 this); have z3 := clampE (I 396 this); omega)]) hok hrq), ((ro_ne er_18 (tg_ne hT_this_pile hT_this_a (by decide))).trans (ro_ne er_9 (tg_ne hT_this_pile hT_this_a (by decide))))⟩, by rw [ht]; exact hP, va_K.moved hW.alike hK, hD⟩, hS.F ht⟩) hS.2.2 dX12_emit_54
  exact go _ _ _ hP hD hS hl

set_option maxHeartbeats 4000000 in
set_option maxRecDepth 100000 in
theorem s_X12_push (l : Launch) (D : va_G) (t : pq_T) (σ : pq_S) (I : Nat → Nat → Int32) (J : Nat → Nat → Int64) (ri : Nat → Nat → Int32) (rj : Nat → Nat → Int64) (rq : Nat → Nat → Option Nat) (sz : Nat) (tg : Nat → Nat) (hSH : SH σ tg) (hG0 : GT tg I ri) (this : Nat) (a0 : Int32) (hL_this : this ∈ σ.1) (hK_this : σ.2.1 this = 12) (h_a0 : rg a0 2 40) (this_pile : Nat) (hR_this_pile : σ.2.2.1 400 this = some this_pile) (hL_this_pile : this_pile ∈ σ.1) (hK_this_pile : σ.2.1 this_pile = 13) (hN_this_pile : σ.2.2.2 this_pile = 160) (hT_this_pile : tg this_pile = 400) (hpl : (I 401 this).toInt ≤ 158) : MetV l yX12_push (wa yX12_push cX12_push 2 none) ({ frames := 0, cells := 0, slots := 0, locals := 0 }) [.ref this, .int a0] D t σ (I, J, ri, rj, rq) sz 0 0 (fun (u : pq_S × pq_M) => ∃ I' : Nat → Nat → Int32, ∃ ri' : Nat → Nat → Int32, u = (σ, I', J, ri', rj, rq) ∧ GM [401] tg σ I ri I' ri' rq ∧ ((I' 401 this).toInt = (I 401 this).toInt + 1) ∧ (ri' this_pile = upd (ri this_pile) (I 401 this).toNatClampNeg a0) ∧ (∀ q, q ≠ this_pile → ri' q = ri q)) := by
  refine Met.ofW (cc := cX12_push) (maxL := 2) (ret := none) (by decide) rfl ?_
  intro p e s m args below meth c s₁ B hml hv
  obtain ⟨rfl, hsz, hP, hK, hD0, hN⟩ := hv
  have hx := B.exec
  have hb := B.bytes
  have hr := B.returns
  have hts := atoms_spec (ws := (wa yX12_push cX12_push 2 none)) B.pre
  have hown : s.vm.findClass RX12 = some m.cls := findClass_of_methodNamed B.named
  have hlocks := B.notSynchronized
  subst hsz
  have hD : va_D (pq_B t σ (I, J, ri, rj, rq) s.heap.size) (pq_P t σ (I, J, ri, rj, rq)) := hD0.self
  generalize hAe : pq_B t σ (I, J, ri, rj, rq) s.heap.size = A at hD ⊢
  have hA : ∀ q : Nat, s.heap.size ≤ q → A q := fun q h => by rw [← hAe]; exact Or.inr h
  have hS : va_S A s.heap s.heap [] := va_S.rf
  have hG : GM [401] tg σ I ri I ri rq := ⟨hG0, fun _ _ _ => rfl, fun _ _ _ _ _ => rfl, fun _ _ _ _ _ _ => rfl⟩
  have hl := lv_entry ([.ref this, .int a0]) (n := 2) (Nat.le_of_ble_eq_true rfl)
  rw [lg_entry_eq]
  generalize (lg_sl ([.ref this, .int a0]) ++ List.replicate (2 - (lg_sl ([.ref this, .int a0])).length) Slot.unset).toArray = ls at hl ⊢
  have hl : lv_has ls 2 [(0, .ref this), (1, .int a0)] := hl
  refine q_gen (fun Q hQ => ?_)
  have go : ∀ (H : Heap) (locs : List Loc) (ls : Array Slot), va_P D vwCl (pq_P t σ (I, J, ri, rj, rq)) H → va_D A (pq_P t σ (I, J, ri, rj, rq)) → va_S A s.heap H locs → lv_has ls 2 [(0, .ref this), (1, .int a0)] → W p l e ({ frames := 0, cells := 0, slots := 0, locals := 0 } : Room) s m (List.toArray ([.ref this, .int a0] : List Value)) below meth c H locs 0 0 Q (F0 m 0 ls []) := by
    intro H locs ls hP hD hS hl
    refine lv_aload_n hx hb dX12_push_0 rfl (lv_at hl 0 rfl) ?_
    refine pg_f (v := .ref this_pile) (C := RX12) (T := TX12) (N := 31) hx hb hts (tw_i inlX12) hown hK hP hL_this hK_this (by decide) rfl 16 (by decide) (hts _ (tw_c tw_182)) (pq_hv rfl hR_this_pile) dX12_push_1 ?_
    refine lv_aload_n hx hb dX12_push_4 rfl (lv_at hl 0 rfl) ?_
    refine pg_f (v := .int (I 401 this)) (C := RX12) (T := TX12) (N := 31) hx hb hts (tw_i inlX12) hown hK hP hL_this hK_this (by decide) rfl 17 (by decide) (hts _ (tw_c tw_887)) rfl dX12_push_5 ?_
    have h_1 : rg (I 401 this) 0 160 := GM.rI hG 401 rfl
    have uh_1 := h_1.1
    have vh_1 := h_1.2
    refine lv_iload_n hx hb dX12_push_8 rfl (lv_at hl 1 rfl) ?_
    have h_3 : rg (I 401 this) 0 159 := ⟨by omega, by omega⟩
    have uh_3 := h_3.1
    have vh_3 := h_3.2
    refine pt_i hx hb hK hP hD hS hL_this_pile hK_this_pile hN_this_pile (rg_in h_3 (by decide)) dX12_push_9 (fun r_2 H locs er_2 hP hD hS => ?_)
    have hG := GM.wR hG hSH hT_this_pile rfl er_2 (rg_w h_a0 (by decide)) (by decide)
    refine lv_aload_n hx hb dX12_push_10 rfl (lv_at hl 0 rfl) ?_
    refine lv_dup hx hb dX12_push_11 rfl ?_
    refine pg_f (v := .int (I 401 this)) (C := RX12) (T := TX12) (N := 31) hx hb hts (tw_i inlX12) hown hK hP hL_this hK_this (by decide) rfl 17 (by decide) (hts _ (tw_c tw_887)) rfl dX12_push_12 ?_
    refine lv_iconst (v := 1) hx hb dX12_push_15 (by decide) ?_
    refine lv_iadd hx hb dX12_push_16 ?_
    refine lv_topi (fun x_4 ex_4 => ?_)
    have h_5 : rg x_4 1 160 := rg_of_eq ex_4 (rg_add h_3 (rg_k (1 : Int32) 1 rfl) (by decide))
    have uh_5 := h_5.1
    have vh_5 := h_5.2
    have tx_4 : (x_4).toInt = (I 401 this).toInt + 1 := by rw [ex_4]; exact i_add_rg (a2 := (I 401 this).toInt) (b2 := 1) rfl rfl h_3 (rg_k (1 : Int32) 1 rfl) (by decide)
    refine pp_i (v := x_4) (ty := .int) (C := RX12) (T := TX12) (N := 31) hx hb hts (tw_i inlX12) tyX12 tyX12_ok nmX12 hown hK hP hD hS hL_this hK_this (by decide) rfl 17 401 (by decide) (hts _ (tw_c tw_887)) rfl (by decide +kernel) rfl rfl (Nat.le_of_ble_eq_true rfl) (ps_401 _ _ _ _ _) dX12_push_17 (fun I_6 H locs eI_6 hP hD hS => ?_)
    have hG := GM.wI hG 401 rfl eI_6 (rg_w h_5 (by decide)) (by decide)
    have tt_7 : (I_6 401 this).toInt = (x_4).toInt := by rw [eI_6, pq_us]
    subst hQ
    exact W.vret hx hb hr (fun t1 ht hW => ⟨⟨(σ, I_6, J, r_2, rj, rq), rfl, ⟨I_6, r_2, rfl, hG, (by omega), (by rw [er_2, va_up_self]), (fun q hq => ro_ne er_2 hq)⟩, by rw [ht]; exact hP, va_K.moved hW.alike hK, hD⟩, hS.F ht⟩) hS.2.2 dX12_push_20
  exact go _ _ _ hP hD hS hl

set_option maxHeartbeats 4000000 in
set_option maxRecDepth 100000 in
theorem s_X12_whole (l : Launch) (D : va_G) (t : pq_T) (σ : pq_S) (I : Nat → Nat → Int32) (J : Nat → Nat → Int64) (ri : Nat → Nat → Int32) (rj : Nat → Nat → Int64) (rq : Nat → Nat → Option Nat) (sz : Nat) (tg : Nat → Nat) (hSH : SH σ tg) (hG0 : GT tg I ri) (this : Nat) (hL_this : this ∈ σ.1) (hK_this : σ.2.1 this = 12) (this_a : Nat) (hR_this_a : σ.2.2.1 384 this = some this_a) (hL_this_a : this_a ∈ σ.1) (hK_this_a : σ.2.1 this_a = 13) (hN_this_a : σ.2.2.2 this_a = 12720) (hT_this_a : tg this_a = 384) (this_pile : Nat) (hR_this_pile : σ.2.2.1 400 this = some this_pile) (hL_this_pile : this_pile ∈ σ.1) (hK_this_pile : σ.2.1 this_pile = 13) (hN_this_pile : σ.2.2.2 this_pile = 160) (hT_this_pile : tg this_pile = 400) (fr : Int) (bb : Nat) (ba : Int) (nn : Int) (ht0 : (I 396 this).toInt = 3720 + 900 * (ri this_a 6).toInt ∧ 0 ≤ (ri this_a 6).toInt ∧ (ri this_a 6).toInt ≤ 9) (hbb : (bb : Int) = 3970 + 900 * (ri this_a 6).toInt + 2 * fr ∧ 0 ≤ fr ∧ fr ≤ (I 398 this).toInt) (hok : oN (ri this_a) bb fr (I 398 this).toInt) (hlp : LPs (ri this_pile) (I 401 this).toNatClampNeg) (hdp : vN (ri this_a) bb fr (I 398 this).toInt = ba + ((I 401 this).toInt - cO (ri this_pile) (I 401 this).toNatClampNeg) + 1 ∧ 0 ≤ ba) (hon : (I 402 this).toInt = nn + cO (ri this_pile) (I 401 this).toNatClampNeg) (hkk : (I 398 this).toInt + (I 401 this).toInt ≤ 300 ∧ 0 ≤ (I 401 this).toInt) : MetV l yX12_whole (wa yX12_whole cX12_whole 1 none) ({ frames := 1, cells := 0, slots := 0, locals := 22 }) [.ref this] D t σ (I, J, ri, rj, rq) sz 0 0 (fun (u : pq_S × pq_M) => ∃ I' : Nat → Nat → Int32, ∃ ri' : Nat → Nat → Int32, u = (σ, I', J, ri', rj, rq) ∧ GM [401, 402, 398] tg σ I ri I' ri' rq ∧ ((I' 398 this).toInt + (I' 401 this).toInt = (I 398 this).toInt + (I 401 this).toInt ∧ 0 ≤ (I' 401 this).toInt ∧ (I' 401 this).toInt ≤ (I 401 this).toInt ∧ vN (ri' this_a) bb fr (I' 398 this).toInt = ba + ((I' 401 this).toInt - cO (ri' this_pile) (I' 401 this).toNatClampNeg) + 1 ∧ (I' 402 this).toInt = nn + cO (ri' this_pile) (I' 401 this).toNatClampNeg ∧ tN (ri' this_a) bb fr (I' 398 this).toInt = tN (ri this_a) bb fr (I 398 this).toInt ∧ fr ≤ (I' 398 this).toInt) ∧ (LPs (ri' this_pile) (I' 401 this).toNatClampNeg) ∧ (oN (ri' this_a) bb fr (I' 398 this).toInt) ∧ (ri' this_pile = ri this_pile)) := by
  refine Met.ofW (cc := cX12_whole) (maxL := 1) (ret := none) (by decide) rfl ?_
  intro p e s m args below meth c s₁ B hml hv
  obtain ⟨rfl, hsz, hP, hK, hD0, hN⟩ := hv
  have hx := B.exec
  have hb := B.bytes
  have hr := B.returns
  have hts := atoms_spec (ws := (wa yX12_whole cX12_whole 1 none)) B.pre
  have hown : s.vm.findClass RX12 = some m.cls := findClass_of_methodNamed B.named
  have hlocks := B.notSynchronized
  subst hsz
  have hD : va_D (pq_B t σ (I, J, ri, rj, rq) s.heap.size) (pq_P t σ (I, J, ri, rj, rq)) := hD0.self
  generalize hAe : pq_B t σ (I, J, ri, rj, rq) s.heap.size = A at hD ⊢
  have hA : ∀ q : Nat, s.heap.size ≤ q → A q := fun q h => by rw [← hAe]; exact Or.inr h
  have hS : va_S A s.heap s.heap [] := va_S.rf
  have hG : GM [401, 402, 398] tg σ I ri I ri rq := ⟨hG0, fun _ _ _ => rfl, fun _ _ _ _ _ => rfl, fun _ _ _ _ _ _ => rfl⟩
  have hl := lv_entry ([.ref this]) (n := 1) (Nat.le_of_ble_eq_true rfl)
  rw [lg_entry_eq]
  generalize (lg_sl ([.ref this]) ++ List.replicate (1 - (lg_sl ([.ref this])).length) Slot.unset).toArray = ls at hl ⊢
  have hl : lv_has ls 1 [(0, .ref this)] := hl
  refine q_gen (fun Q hQ => ?_)
  have go : ∀ (H : Heap) (locs : List Loc) (ls : Array Slot), va_P D vwCl (pq_P t σ (I, J, ri, rj, rq)) H → va_D A (pq_P t σ (I, J, ri, rj, rq)) → va_S A s.heap H locs → lv_has ls 1 [(0, .ref this)] → W p l e ({ frames := 1, cells := 0, slots := 0, locals := 22 } : Room) s m (List.toArray ([.ref this] : List Value)) below meth c H locs 0 0 Q (F0 m 0 ls []) := by
    intro H locs ls hP hD hS hl
    have ce6 := clampE (ri this_a 6)
    refine lv_aload_n hx hb dX12_whole_0 rfl (lv_at hl 0 rfl) ?_
    refine lv_iconst (v := 1) hx hb dX12_whole_1 (by decide) ?_
    refine pp_i (v := 1) (ty := .boolean) (C := RX12) (T := TX12) (N := 31) hx hb hts (tw_i inlX12) tyX12 tyX12_ok nmX12 hown hK hP hD hS hL_this hK_this (by decide) rfl 19 403 (by decide) (hts _ (tw_c tw_888)) rfl (by decide +kernel) rfl (by decide) (Nat.le_of_ble_eq_true rfl) (ps_403 _ _ _ _ _) dX12_whole_2 (fun I_1 H locs eI_1 hP hD hS => ?_)
    have hG := GM.wI hG 403 rfl eI_1 (rg_w (rg_k (1 : Int32) 1 rfl) (by decide)) (by decide)
    have tt_2 : (I_1 401 this).toInt = (I 401 this).toInt := by rw [eI_1, pq_uf _ _ _ (by decide)]
    have tt_3 : (I_1 402 this).toInt = (I 402 this).toInt := by rw [eI_1, pq_uf _ _ _ (by decide)]
    have tt_4 : (I_1 398 this).toInt = (I 398 this).toInt := by rw [eI_1, pq_uf _ _ _ (by decide)]
    have tt_5 : (I_1 396 this).toInt = (I 396 this).toInt := by rw [eI_1, pq_uf _ _ _ (by decide)]
    have L_182 : ∀ (n_181 : Nat) (I_136 : Nat → Nat → Int32) (ri_137 : Nat → Nat → Int32) (H : Heap) (locs : List Loc) (ls : Array Slot), ((I_136 398 this).toInt + (I_136 401 this).toInt = (I 398 this).toInt + (I 401 this).toInt ∧ 0 ≤ (I_136 401 this).toInt ∧ (I_136 401 this).toInt ≤ (I 401 this).toInt ∧ vN (ri_137 this_a) bb fr (I_136 398 this).toInt = ba + ((I_136 401 this).toInt - cO (ri this_pile) (I_136 401 this).toNatClampNeg) + 1 ∧ (I_136 402 this).toInt = nn + cO (ri this_pile) (I_136 401 this).toNatClampNeg ∧ tN (ri_137 this_a) bb fr (I_136 398 this).toInt = tN (ri this_a) bb fr (I 398 this).toInt ∧ fr ≤ (I_136 398 this).toInt ∧ (I_136 396 this).toInt = (I 396 this).toInt) → (ri_137 this_pile = ri this_pile) → (oN (ri_137 this_a) bb fr (I_136 398 this).toInt) → ((I_136 401 this).toInt - 0).toNat < n_181 → GM [401, 402, 398] tg σ I ri I_136 ri_137 rq → va_P D vwCl (pq_P t σ (I_136, J, ri_137, rj, rq)) H → va_D A (pq_P t σ (I_136, J, ri_137, rj, rq)) → va_S A s.heap H locs → lv_has ls 1 [(0, .ref this)] → W p l e ({ frames := 1, cells := 0, slots := 0, locals := 22 } : Room) s m (List.toArray ([.ref this] : List Value)) below meth c H locs 0 0 Q (F0 m 5 ls []) := by
      intro n_181
      induction n_181 with
      | zero => intro I_136 ri_137 H locs ls hrel_187 hrel_188 hrel_189 hm_180 hG hP hD hS hl; exact absurd hm_180 (Nat.not_lt_zero _)
      | succ n_181 ih_183 =>
        intro I_136 ri_137 H locs ls hrel_187 hrel_188 hrel_189 hm_180 hG hP hD hS hl
        refine lv_aload_n hx hb dX12_whole_5 rfl (lv_at hl 0 rfl) ?_
        refine pg_f (v := .int (I_136 401 this)) (C := RX12) (T := TX12) (N := 31) hx hb hts (tw_i inlX12) hown hK hP hL_this hK_this (by decide) rfl 17 (by decide) (hts _ (tw_c tw_887)) rfl dX12_whole_6 ?_
        have h_190 : rg (I_136 401 this) 0 160 := GM.rI hG 401 rfl
        have uh_190 := h_190.1
        have vh_190 := h_190.2
        refine lv_if_le (tgt := 56) hx hb dX12_whole_9 (by decide) (fun c_191 => ?_) (fun c_191 => ?_)
        · have tc_192 : (I_136 401 this).toInt ≤ 0 := Int32.le_iff_toInt_le.mp c_191
          have h_193 : rg (I_136 401 this) 0 0 := rg_le1 c_191 h_190 (rg_k (0 : Int32) 0 rfl) (by decide)
          have uh_193 := h_193.1
          have vh_193 := h_193.2
          subst hQ
          exact W.vret hx hb hr (fun t1 ht hW => ⟨⟨(σ, I_136, J, ri_137, rj, rq), rfl, ⟨I_136, ri_137, rfl, hG, (by rw [hrel_188]; omega), (by rw [hrel_188]; exact LP_le hlp (by have z0 := clampE (I 401 this); have z1 := clampE (I_136 401 this); omega)), hrel_189, hrel_188⟩, by rw [ht]; exact hP, va_K.moved hW.alike hK, hD⟩, hS.F ht⟩) hS.2.2 dX12_whole_56
        · have tc_194 : 0 < (I_136 401 this).toInt := Int32.lt_iff_toInt_lt.mp (nle c_191)
          have h_195 : rg (I_136 401 this) 1 160 := rg_lt2 (nle c_191) (rg_k (0 : Int32) 0 rfl) h_190 (by decide)
          have uh_195 := h_195.1
          have vh_195 := h_195.2
          refine lv_aload_n hx hb dX12_whole_12 rfl (lv_at hl 0 rfl) ?_
          refine pg_f (v := .ref this_pile) (C := RX12) (T := TX12) (N := 31) hx hb hts (tw_i inlX12) hown hK hP hL_this hK_this (by decide) rfl 16 (by decide) (hts _ (tw_c tw_182)) (pq_hv rfl hR_this_pile) dX12_whole_13 ?_
          refine lv_aload_n hx hb dX12_whole_16 rfl (lv_at hl 0 rfl) ?_
          refine pg_f (v := .int (I_136 401 this)) (C := RX12) (T := TX12) (N := 31) hx hb hts (tw_i inlX12) hown hK hP hL_this hK_this (by decide) rfl 17 (by decide) (hts _ (tw_c tw_887)) rfl dX12_whole_17 ?_
          refine lv_iconst (v := 1) hx hb dX12_whole_20 (by decide) ?_
          refine lv_isub hx hb dX12_whole_21 ?_
          refine lv_topi (fun x_196 ex_196 => ?_)
          have h_197 : rg x_196 0 159 := rg_of_eq ex_196 (rg_sub h_195 (rg_k (1 : Int32) 1 rfl) (by decide))
          have uh_197 := h_197.1
          have vh_197 := h_197.2
          have tx_196 : (x_196).toInt = (I_136 401 this).toInt - 1 := by rw [ex_196]; exact i_sub_rg (a2 := (I_136 401 this).toInt) (b2 := 1) rfl rfl h_195 (rg_k (1 : Int32) 1 rfl) (by decide)
          refine pl_i hx hb hK hP hL_this_pile hK_this_pile hN_this_pile (rg_in h_197 (by decide)) dX12_whole_22 ?_
          refine lv_topi (fun x_198 ex_198 => ?_)
          have h_199 : rg x_198 0 40 := rg_of_eq ex_198 (GM.rR hG hT_this_pile rfl)
          have uh_199 := h_199.1
          have vh_199 := h_199.2
          refine lv_iconst (v := 2) hx hb dX12_whole_23 (by decide) ?_
          refine lv_icmp_ne (tgt := 56) hx hb dX12_whole_24 (by decide) (fun c_200 => ?_) (fun c_200 => ?_)
          · have tc_201 : (x_198).toInt ≠ 2 := fun q => c_200 (Int32.toInt_inj.mp q)
            subst hQ
            exact W.vret hx hb hr (fun t1 ht hW => ⟨⟨(σ, I_136, J, ri_137, rj, rq), rfl, ⟨I_136, ri_137, rfl, hG, (by rw [hrel_188]; omega), (by rw [hrel_188]; exact LP_le hlp (by have z0 := clampE (I 401 this); have z1 := clampE (I_136 401 this); omega)), hrel_189, hrel_188⟩, by rw [ht]; exact hP, va_K.moved hW.alike hK, hD⟩, hS.F ht⟩) hS.2.2 dX12_whole_56
          · have tc_202 : (x_198).toInt = 2 := congrArg Int32.toInt c_200
            have h_203 : rg x_198 2 2 := rg_and h_199 (rg_of_eq c_200 (rg_k (2 : Int32) 2 rfl)) (by decide)
            have uh_203 := h_203.1
            have vh_203 := h_203.2
            refine lv_aload_n hx hb dX12_whole_27 rfl (lv_at hl 0 rfl) ?_
            refine lv_dup hx hb dX12_whole_28 rfl ?_
            refine pg_f (v := .int (I_136 401 this)) (C := RX12) (T := TX12) (N := 31) hx hb hts (tw_i inlX12) hown hK hP hL_this hK_this (by decide) rfl 17 (by decide) (hts _ (tw_c tw_887)) rfl dX12_whole_29 ?_
            refine lv_iconst (v := 1) hx hb dX12_whole_32 (by decide) ?_
            refine lv_isub hx hb dX12_whole_33 ?_
            refine lv_topi (fun x_204 ex_204 => ?_)
            have h_205 : rg x_204 0 159 := rg_of_eq ex_204 (rg_sub h_195 (rg_k (1 : Int32) 1 rfl) (by decide))
            have uh_205 := h_205.1
            have vh_205 := h_205.2
            have tx_204 : (x_204).toInt = (I_136 401 this).toInt - 1 := by rw [ex_204]; exact i_sub_rg (a2 := (I_136 401 this).toInt) (b2 := 1) rfl rfl h_195 (rg_k (1 : Int32) 1 rfl) (by decide)
            refine pp_i (v := x_204) (ty := .int) (C := RX12) (T := TX12) (N := 31) hx hb hts (tw_i inlX12) tyX12 tyX12_ok nmX12 hown hK hP hD hS hL_this hK_this (by decide) rfl 17 401 (by decide) (hts _ (tw_c tw_887)) rfl (by decide +kernel) rfl rfl (Nat.le_of_ble_eq_true rfl) (ps_401 _ _ _ _ _) dX12_whole_34 (fun I_206 H locs eI_206 hP hD hS => ?_)
            have hG := GM.wI hG 401 rfl eI_206 (rg_w h_205 (by decide)) (by decide)
            have tt_207 : (I_206 401 this).toInt = (x_204).toInt := by rw [eI_206, pq_us]
            have tt_208 : (I_206 402 this).toInt = (I_136 402 this).toInt := by rw [eI_206, pq_uf _ _ _ (by decide)]
            have tt_209 : (I_206 398 this).toInt = (I_136 398 this).toInt := by rw [eI_206, pq_uf _ _ _ (by decide)]
            have tt_210 : (I_206 396 this).toInt = (I_136 396 this).toInt := by rw [eI_206, pq_uf _ _ _ (by decide)]
            refine lv_aload_n hx hb dX12_whole_37 rfl (lv_at hl 0 rfl) ?_
            refine lv_dup hx hb dX12_whole_38 rfl ?_
            refine pg_f (v := .int (I_206 402 this)) (C := RX12) (T := TX12) (N := 31) hx hb hts (tw_i inlX12) hown hK hP hL_this hK_this (by decide) rfl 18 (by decide) (hts _ (tw_c tw_828)) rfl dX12_whole_39 ?_
            refine lv_iconst (v := 1) hx hb dX12_whole_42 (by decide) ?_
            refine lv_isub hx hb dX12_whole_43 ?_
            refine lv_topi (fun x_211 ex_211 => ?_)
            refine pp_i (v := x_211) (ty := .int) (C := RX12) (T := TX12) (N := 31) hx hb hts (tw_i inlX12) tyX12 tyX12_ok nmX12 hown hK hP hD hS hL_this hK_this (by decide) rfl 18 402 (by decide) (hts _ (tw_c tw_828)) rfl (by decide +kernel) rfl rfl (Nat.le_of_ble_eq_true rfl) (ps_402 _ _ _ _ _) dX12_whole_44 (fun I_212 H locs eI_212 hP hD hS => ?_)
            have hG := GM.wI hG 402 rfl eI_212 (rg_w (rg_full _) (by decide)) (by decide)
            have tt_213 : (I_212 401 this).toInt = (I_206 401 this).toInt := by rw [eI_212, pq_uf _ _ _ (by decide)]
            have tt_214 : (I_212 402 this).toInt = (x_211).toInt := by rw [eI_212, pq_us]
            have tt_215 : (I_212 398 this).toInt = (I_206 398 this).toInt := by rw [eI_212, pq_uf _ _ _ (by decide)]
            have tt_216 : (I_212 396 this).toInt = (I_206 396 this).toInt := by rw [eI_212, pq_uf _ _ _ (by decide)]
            refine lv_aload_n hx hb dX12_whole_47 rfl (lv_at hl 0 rfl) ?_
            refine lv_iconst (v := 2) hx hb dX12_whole_48 (by decide) ?_
            refine lv_iconst (v := 0) hx hb dX12_whole_49 (by decide) ?_
            have hix : (x_196).toNatClampNeg = (I_212 401 this).toNatClampNeg := by have z0 := clampE x_196; have z1 := clampE (I_212 401 this); have z2 := clampE (I_136 401 this); omega
            have hiz : (ri this_pile (I_212 401 this).toNatClampNeg).toInt = (x_198).toInt := by rw [← hix, ← hrel_188]; exact (congrArg Int32.toInt ex_198).symm
            have hc : cO (ri this_pile) (I_136 401 this).toNatClampNeg = cO (ri this_pile) (I_212 401 this).toNatClampNeg + 1 := by rw [show (I_136 401 this).toNatClampNeg = (I_212 401 this).toNatClampNeg + 1 from by have z0 := clampE (I_212 401 this); have z1 := clampE (I_136 401 this); omega]; exact cO_o (Or.inl (by omega))
            have hcb := cO_b (ri this_pile) (I_212 401 this).toNatClampNeg
            have hcz := clampE (I_212 401 this)
            refine pk_v (va_runV (As := [.int 2, .int 0]) (rest := []) ⟨hx, hb, hml, hown, hts⟩ (s_X12_emit l D t σ I_212 J ri_137 rj rq H.size tg hSH hG.1 this (2 : Int32) (0 : Int32) hL_this hK_this this_a hR_this_a hL_this_a hK_this_a hN_this_a hT_this_a this_pile hR_this_pile hL_this_pile hK_this_pile hN_this_pile hT_this_pile fr bb (by omega) (by omega) (by assumption) (by omega) (by omega)) (cwV 2 hts (tw_V tw_905 tw_906 tw_907 tw_5 tw_908) rfl rfl rfl (by decide +kernel) ⟨Nat.le_of_ble_eq_true rfl, Nat.le_of_ble_eq_true rfl⟩) ⟨pq_blind, pq_recv hK hP hL_this hK_this (by decide) rfl, pq_pre hK hN hP hD⟩ rfl rfl hl.1 rfl (lv_room (Nat.le_of_ble_eq_true rfl)) dX12_whole_50 ⟨Nat.le_of_ble_eq_true rfl, Nat.le_of_ble_eq_true rfl⟩) hD hS hA (fun σ1 μ1 H locs hw_218 hP hD hS => ?_)
            obtain ⟨I_219, ri_220, hu_221, hg_222, hp_224, hp_225⟩ := hw_218
            obtain ⟨hu_221a, hu_221b⟩ := Prod.mk.inj hu_221
            rw [hu_221a, hu_221b] at hP hD
            obtain ⟨twhp_224, tokhp_224, te1, te2, te3, te4, te5, te6⟩ := hp_224
            have hpe : ri_220 this_pile = ri this_pile := hp_225.trans hrel_188
            have hG := GM.tr hG hg_222 (by decide)
            have tt_226 : (I_219 401 this).toInt = (I_212 401 this).toInt := by rw [hg_222.2.1 401 (by decide) (by decide)]
            have tt_227 : (I_219 402 this).toInt = (I_212 402 this).toInt := by rw [hg_222.2.1 402 (by decide) (by decide)]
            have tt_228 : (I_219 396 this).toInt = (I_212 396 this).toInt := by rw [hg_222.2.1 396 (by decide) (by decide)]
            refine lv_goto (tgt := 5) hx hb dX12_whole_53 (by decide) ?_
            exact ih_183 I_219 ri_220 _ _ _ (by omega) (hp_225.trans hrel_188) tokhp_224 (ms_fd_isub hm_180 ((congrFun (hg_222.2.1 401 (by decide) (by decide)) this).trans ((congrFun (show I_212 401 = I_206 401 from by rw [eI_212]; exact pq_uf _ _ _ (by decide)) this).trans (by rw [eI_206]; exact pq_us _ _ _ _))) ex_204 rfl (kk := 1) rfl (by decide) h_195 (by decide) (by decide)) hG hP hD hS (lv_sub hl [0] rfl)
    exact L_182 _ I_1 ri _ _ _ (by omega) rfl hok (Nat.lt_succ_self _) hG hP hD hS (lv_sub hl [0] rfl)
  exact go _ _ _ hP hD hS hl

set_option maxHeartbeats 4000000 in
set_option maxRecDepth 100000 in
theorem s_X12_settle (l : Launch) (D : va_G) (t : pq_T) (σ : pq_S) (I : Nat → Nat → Int32) (J : Nat → Nat → Int64) (ri : Nat → Nat → Int32) (rj : Nat → Nat → Int64) (rq : Nat → Nat → Option Nat) (sz : Nat) (tg : Nat → Nat) (hSH : SH σ tg) (hG0 : GT tg I ri) (this : Nat) (a0 : Int32) (hL_this : this ∈ σ.1) (hK_this : σ.2.1 this = 12) (this_a : Nat) (hR_this_a : σ.2.2.1 384 this = some this_a) (hL_this_a : this_a ∈ σ.1) (hK_this_a : σ.2.1 this_a = 13) (hN_this_a : σ.2.2.2 this_a = 12720) (hT_this_a : tg this_a = 384) (this_pile : Nat) (hR_this_pile : σ.2.2.1 400 this = some this_pile) (hL_this_pile : this_pile ∈ σ.1) (hK_this_pile : σ.2.1 this_pile = 13) (hN_this_pile : σ.2.2.2 this_pile = 160) (hT_this_pile : tg this_pile = 400) (fr : Int) (bb : Nat) (ba : Int) (nn : Int) (ht0 : (I 396 this).toInt = 3720 + 900 * (ri this_a 6).toInt ∧ 0 ≤ (ri this_a 6).toInt ∧ (ri this_a 6).toInt ≤ 9) (hbb : (bb : Int) = 3970 + 900 * (ri this_a 6).toInt + 2 * fr ∧ 0 ≤ fr ∧ fr ≤ (I 398 this).toInt) (hok : oN (ri this_a) bb fr (I 398 this).toInt) (hlp : LPs (ri this_pile) (I 401 this).toNatClampNeg) (hdp : vN (ri this_a) bb fr (I 398 this).toInt = ba + ((I 401 this).toInt - cO (ri this_pile) (I 401 this).toNatClampNeg) + 1 ∧ 0 ≤ ba) (hon : (I 402 this).toInt = nn + cO (ri this_pile) (I 401 this).toNatClampNeg) (hkk : (I 398 this).toInt + (I 401 this).toInt ≤ 300 ∧ 0 ≤ (I 401 this).toInt) : MetV l yX12_settle (wa yX12_settle cX12_settle 2 none) ({ frames := 1, cells := 0, slots := 0, locals := 22 }) [.ref this, .int a0] D t σ (I, J, ri, rj, rq) sz 0 0 (fun (u : pq_S × pq_M) => ∃ I' : Nat → Nat → Int32, ∃ ri' : Nat → Nat → Int32, u = (σ, I', J, ri', rj, rq) ∧ GM [401, 398] tg σ I ri I' ri' rq ∧ ((I' 398 this).toInt + (I' 401 this).toInt = (I 398 this).toInt + (I 401 this).toInt ∧ 0 ≤ (I' 401 this).toInt ∧ (I' 401 this).toInt ≤ (I 401 this).toInt ∧ vN (ri' this_a) bb fr (I' 398 this).toInt = ba + ((I' 401 this).toInt - cO (ri' this_pile) (I' 401 this).toNatClampNeg) + 1 ∧ (I' 402 this).toInt = nn + cO (ri' this_pile) (I' 401 this).toNatClampNeg ∧ tN (ri' this_a) bb fr (I' 398 this).toInt = tN (ri this_a) bb fr (I 398 this).toInt ∧ fr ≤ (I' 398 this).toInt) ∧ (LPs (ri' this_pile) (I' 401 this).toNatClampNeg) ∧ (oN (ri' this_a) bb fr (I' 398 this).toInt) ∧ (ri' this_pile = ri this_pile)) := by
  refine Met.ofW (cc := cX12_settle) (maxL := 2) (ret := none) (by decide) rfl ?_
  intro p e s m args below meth c s₁ B hml hv
  obtain ⟨rfl, hsz, hP, hK, hD0, hN⟩ := hv
  have hx := B.exec
  have hb := B.bytes
  have hr := B.returns
  have hts := atoms_spec (ws := (wa yX12_settle cX12_settle 2 none)) B.pre
  have hown : s.vm.findClass RX12 = some m.cls := findClass_of_methodNamed B.named
  have hlocks := B.notSynchronized
  subst hsz
  have hD : va_D (pq_B t σ (I, J, ri, rj, rq) s.heap.size) (pq_P t σ (I, J, ri, rj, rq)) := hD0.self
  generalize hAe : pq_B t σ (I, J, ri, rj, rq) s.heap.size = A at hD ⊢
  have hA : ∀ q : Nat, s.heap.size ≤ q → A q := fun q h => by rw [← hAe]; exact Or.inr h
  have hS : va_S A s.heap s.heap [] := va_S.rf
  have hG : GM [401, 398] tg σ I ri I ri rq := ⟨hG0, fun _ _ _ => rfl, fun _ _ _ _ _ => rfl, fun _ _ _ _ _ _ => rfl⟩
  have hl := lv_entry ([.ref this, .int a0]) (n := 2) (Nat.le_of_ble_eq_true rfl)
  rw [lg_entry_eq]
  generalize (lg_sl ([.ref this, .int a0]) ++ List.replicate (2 - (lg_sl ([.ref this, .int a0])).length) Slot.unset).toArray = ls at hl ⊢
  have hl : lv_has ls 2 [(0, .ref this), (1, .int a0)] := hl
  refine q_gen (fun Q hQ => ?_)
  have go : ∀ (H : Heap) (locs : List Loc) (ls : Array Slot), va_P D vwCl (pq_P t σ (I, J, ri, rj, rq)) H → va_D A (pq_P t σ (I, J, ri, rj, rq)) → va_S A s.heap H locs → lv_has ls 2 [(0, .ref this), (1, .int a0)] → W p l e ({ frames := 1, cells := 0, slots := 0, locals := 22 } : Room) s m (List.toArray ([.ref this, .int a0] : List Value)) below meth c H locs 0 0 Q (F0 m 0 ls []) := by
    intro H locs ls hP hD hS hl
    have ce6 := clampE (ri this_a 6)
    refine lv_aload_n hx hb dX12_settle_0 rfl (lv_at hl 0 rfl) ?_
    refine pg_f (v := .int (I 401 this)) (C := RX12) (T := TX12) (N := 31) hx hb hts (tw_i inlX12) hown hK hP hL_this hK_this (by decide) rfl 17 (by decide) (hts _ (tw_c tw_887)) rfl dX12_settle_1 ?_
    have h_1 : rg (I 401 this) 0 160 := GM.rI hG 401 rfl
    have uh_1 := h_1.1
    have vh_1 := h_1.2
    refine lv_if_le (tgt := 54) hx hb dX12_settle_4 (by decide) (fun c_2 => ?_) (fun c_2 => ?_)
    · have tc_3 : (I 401 this).toInt ≤ 0 := Int32.le_iff_toInt_le.mp c_2
      have h_4 : rg (I 401 this) 0 0 := rg_le1 c_2 h_1 (rg_k (0 : Int32) 0 rfl) (by decide)
      have uh_4 := h_4.1
      have vh_4 := h_4.2
      subst hQ
      exact W.vret hx hb hr (fun t1 ht hW => ⟨⟨(σ, I, J, ri, rj, rq), rfl, ⟨I, ri, rfl, hG, (by rw [rfl]; omega), (by rw [rfl]; exact LP_le hlp (by have z0 := clampE (I 401 this); have z1 := clampE (I 401 this); omega)), hok, rfl⟩, by rw [ht]; exact hP, va_K.moved hW.alike hK, hD⟩, hS.F ht⟩) hS.2.2 dX12_settle_54
    · have tc_5 : 0 < (I 401 this).toInt := Int32.lt_iff_toInt_lt.mp (nle c_2)
      have h_6 : rg (I 401 this) 1 160 := rg_lt2 (nle c_2) (rg_k (0 : Int32) 0 rfl) h_1 (by decide)
      have uh_6 := h_6.1
      have vh_6 := h_6.2
      refine lv_aload_n hx hb dX12_settle_7 rfl (lv_at hl 0 rfl) ?_
      refine pg_f (v := .ref this_pile) (C := RX12) (T := TX12) (N := 31) hx hb hts (tw_i inlX12) hown hK hP hL_this hK_this (by decide) rfl 16 (by decide) (hts _ (tw_c tw_182)) (pq_hv rfl hR_this_pile) dX12_settle_8 ?_
      refine lv_aload_n hx hb dX12_settle_11 rfl (lv_at hl 0 rfl) ?_
      refine pg_f (v := .int (I 401 this)) (C := RX12) (T := TX12) (N := 31) hx hb hts (tw_i inlX12) hown hK hP hL_this hK_this (by decide) rfl 17 (by decide) (hts _ (tw_c tw_887)) rfl dX12_settle_12 ?_
      refine lv_iconst (v := 1) hx hb dX12_settle_15 (by decide) ?_
      refine lv_isub hx hb dX12_settle_16 ?_
      refine lv_topi (fun x_7 ex_7 => ?_)
      have h_8 : rg x_7 0 159 := rg_of_eq ex_7 (rg_sub h_6 (rg_k (1 : Int32) 1 rfl) (by decide))
      have uh_8 := h_8.1
      have vh_8 := h_8.2
      have tx_7 : (x_7).toInt = (I 401 this).toInt - 1 := by rw [ex_7]; exact i_sub_rg (a2 := (I 401 this).toInt) (b2 := 1) rfl rfl h_6 (rg_k (1 : Int32) 1 rfl) (by decide)
      refine pl_i hx hb hK hP hL_this_pile hK_this_pile hN_this_pile (rg_in h_8 (by decide)) dX12_settle_17 ?_
      refine lv_topi (fun x_9 ex_9 => ?_)
      have h_10 : rg x_9 0 40 := rg_of_eq ex_9 (GM.rR hG hT_this_pile rfl)
      have uh_10 := h_10.1
      have vh_10 := h_10.2
      refine lv_iload_n hx hb dX12_settle_18 rfl (lv_at hl 1 rfl) ?_
      refine lv_bipush (v := 6) hx hb dX12_settle_19 (by decide) ?_
      refine pk_i (va_runS (As := [.int x_9, .int a0, .int 6]) (rest := []) ⟨hx, hb, hml, hown, hts⟩ (s_X12_isIn l D t σ I J ri rj rq H.size tg hSH hG.1 x_9 a0 (6 : Int32)) (va_cwS 3 hts (tw_S tw_235 tw_236 tw_5 tw_237) rfl rfl rfl (by decide +kernel) ⟨Nat.le_of_ble_eq_true rfl, Nat.le_of_ble_eq_true rfl⟩) ⟨pq_blind, pq_pre hK hN hP hD⟩ rfl rfl hl.1 rfl (lv_room (Nat.le_of_ble_eq_true rfl)) dX12_settle_21 ⟨Nat.le_of_ble_eq_true rfl, Nat.le_of_ble_eq_true rfl⟩) hD hS hA (fun x_11 σ1 μ1 H locs hw_12 hP hD hS => ?_)
      obtain ⟨hu_13, hr_15⟩ := hw_12
      obtain ⟨hu_13a, hu_13b⟩ := Prod.mk.inj hu_13
      rw [hu_13a, hu_13b] at hP hD
      have h_16 : rg x_11 0 1 := by rcases hr_15 with ⟨q, -⟩ | ⟨q, -⟩ <;> rw [q] <;> exact ⟨by decide, by decide⟩
      have uh_16 := h_16.1
      have vh_16 := h_16.2
      refine lv_if_eq (tgt := 54) hx hb dX12_settle_24 (by decide) (fun c_17 => ?_) (fun c_17 => ?_)
      · have f_18 := (hr_15.resolve_left (fun q => absurd (q.1.symm.trans c_17) (by decide))).2
        have tc_19 : (x_11).toInt = 0 := congrArg Int32.toInt c_17
        have h_20 : rg x_11 0 0 := rg_and h_16 (rg_of_eq c_17 (rg_k (0 : Int32) 0 rfl)) (by decide)
        have uh_20 := h_20.1
        have vh_20 := h_20.2
        subst hQ
        exact W.vret hx hb hr (fun t1 ht hW => ⟨⟨(σ, I, J, ri, rj, rq), rfl, ⟨I, ri, rfl, hG, (by rw [rfl]; omega), (by rw [rfl]; exact LP_le hlp (by have z0 := clampE (I 401 this); have z1 := clampE (I 401 this); omega)), hok, rfl⟩, by rw [ht]; exact hP, va_K.moved hW.alike hK, hD⟩, hS.F ht⟩) hS.2.2 dX12_settle_54
      · obtain ⟨f_21, f_22⟩ := (hr_15.resolve_right (fun q => c_17 q.1)).2
        have tc_23 : (a0).toInt ≤ (x_9).toInt := Int32.le_iff_toInt_le.mp f_21
        have h_24 : rg a0 (-2147483648) 40 := rg_le1 f_21 (rg_full _) h_10 (by decide)
        have uh_24 := h_24.1
        have vh_24 := h_24.2
        have tc_25 : (x_9).toInt ≤ 6 := Int32.le_iff_toInt_le.mp f_22
        have h_26 : rg x_9 0 6 := rg_le1 f_22 h_10 (rg_k (6 : Int32) 6 rfl) (by decide)
        have uh_26 := h_26.1
        have vh_26 := h_26.2
        have tc_27 : (x_11).toInt ≠ 0 := fun q => c_17 (Int32.toInt_inj.mp q)
        have h_28 : rg x_11 1 1 := rg_ne c_17 h_16 0 rfl (by decide)
        have uh_28 := h_28.1
        have vh_28 := h_28.2
        refine lv_aload_n hx hb dX12_settle_27 rfl (lv_at hl 0 rfl) ?_
        refine lv_dup hx hb dX12_settle_28 rfl ?_
        refine pg_f (v := .int (I 401 this)) (C := RX12) (T := TX12) (N := 31) hx hb hts (tw_i inlX12) hown hK hP hL_this hK_this (by decide) rfl 17 (by decide) (hts _ (tw_c tw_887)) rfl dX12_settle_29 ?_
        refine lv_iconst (v := 1) hx hb dX12_settle_32 (by decide) ?_
        refine lv_isub hx hb dX12_settle_33 ?_
        refine lv_topi (fun x_29 ex_29 => ?_)
        have h_30 : rg x_29 0 159 := rg_of_eq ex_29 (rg_sub h_6 (rg_k (1 : Int32) 1 rfl) (by decide))
        have uh_30 := h_30.1
        have vh_30 := h_30.2
        have tx_29 : (x_29).toInt = (I 401 this).toInt - 1 := by rw [ex_29]; exact i_sub_rg (a2 := (I 401 this).toInt) (b2 := 1) rfl rfl h_6 (rg_k (1 : Int32) 1 rfl) (by decide)
        refine pp_i (v := x_29) (ty := .int) (C := RX12) (T := TX12) (N := 31) hx hb hts (tw_i inlX12) tyX12 tyX12_ok nmX12 hown hK hP hD hS hL_this hK_this (by decide) rfl 17 401 (by decide) (hts _ (tw_c tw_887)) rfl (by decide +kernel) rfl rfl (Nat.le_of_ble_eq_true rfl) (ps_401 _ _ _ _ _) dX12_settle_34 (fun I_31 H locs eI_31 hP hD hS => ?_)
        have hG := GM.wI hG 401 rfl eI_31 (rg_w h_30 (by decide)) (by decide)
        have tt_32 : (I_31 401 this).toInt = (x_29).toInt := by rw [eI_31, pq_us]
        have tt_33 : (I_31 402 this).toInt = (I 402 this).toInt := by rw [eI_31, pq_uf _ _ _ (by decide)]
        have tt_34 : (I_31 398 this).toInt = (I 398 this).toInt := by rw [eI_31, pq_uf _ _ _ (by decide)]
        have tt_35 : (I_31 396 this).toInt = (I 396 this).toInt := by rw [eI_31, pq_uf _ _ _ (by decide)]
        have hix : (x_7).toNatClampNeg = (I_31 401 this).toNatClampNeg := by have z0 := clampE x_7; have z1 := clampE (I_31 401 this); have z2 := clampE (I 401 this); omega
        have hiz : (ri this_pile (I_31 401 this).toNatClampNeg).toInt = (x_9).toInt := by rw [← hix, ← rfl]; exact (congrArg Int32.toInt ex_9).symm
        have hc : cO (ri this_pile) (I 401 this).toNatClampNeg = cO (ri this_pile) (I_31 401 this).toNatClampNeg := by rw [show (I 401 this).toNatClampNeg = (I_31 401 this).toNatClampNeg + 1 from by have z0 := clampE (I_31 401 this); have z1 := clampE (I 401 this); omega]; exact cO_n (fun q => by unfold isO at q; omega)
        have hcb := cO_b (ri this_pile) (I_31 401 this).toNatClampNeg
        have hcz := clampE (I_31 401 this)
        refine lv_aload_n hx hb dX12_settle_37 rfl (lv_at hl 0 rfl) ?_
        refine lv_aload_n hx hb dX12_settle_38 rfl (lv_at hl 0 rfl) ?_
        refine pg_f (v := .ref this_pile) (C := RX12) (T := TX12) (N := 31) hx hb hts (tw_i inlX12) hown hK hP hL_this hK_this (by decide) rfl 16 (by decide) (hts _ (tw_c tw_182)) (pq_hv rfl hR_this_pile) dX12_settle_39 ?_
        refine lv_aload_n hx hb dX12_settle_42 rfl (lv_at hl 0 rfl) ?_
        refine pg_f (v := .int (I_31 401 this)) (C := RX12) (T := TX12) (N := 31) hx hb hts (tw_i inlX12) hown hK hP hL_this hK_this (by decide) rfl 17 (by decide) (hts _ (tw_c tw_887)) rfl dX12_settle_43 ?_
        have h_36 : rg (I_31 401 this) 0 159 := (by rw [eI_31, pq_us]; exact h_30)
        have uh_36 := h_36.1
        have vh_36 := h_36.2
        refine pl_i hx hb hK hP hL_this_pile hK_this_pile hN_this_pile (rg_in h_36 (by decide)) dX12_settle_46 ?_
        refine lv_topi (fun x_37 ex_37 => ?_)
        have h_38 : rg x_37 0 40 := rg_of_eq ex_37 (GM.rR hG hT_this_pile rfl)
        have uh_38 := h_38.1
        have vh_38 := h_38.2
        refine lv_iconst (v := 0) hx hb dX12_settle_47 (by decide) ?_
        refine pk_v (va_runV (As := [.int x_37, .int 0]) (rest := []) ⟨hx, hb, hml, hown, hts⟩ (s_X12_emit l D t σ I_31 J ri rj rq H.size tg hSH hG.1 this x_37 (0 : Int32) hL_this hK_this this_a hR_this_a hL_this_a hK_this_a hN_this_a hT_this_a this_pile hR_this_pile hL_this_pile hK_this_pile hN_this_pile hT_this_pile fr bb (by omega) (by omega) (by assumption) (by omega) (by omega)) (cwV 2 hts (tw_V tw_905 tw_906 tw_907 tw_5 tw_908) rfl rfl rfl (by decide +kernel) ⟨Nat.le_of_ble_eq_true rfl, Nat.le_of_ble_eq_true rfl⟩) ⟨pq_blind, pq_recv hK hP hL_this hK_this (by decide) rfl, pq_pre hK hN hP hD⟩ rfl rfl hl.1 rfl (lv_room (Nat.le_of_ble_eq_true rfl)) dX12_settle_48 ⟨Nat.le_of_ble_eq_true rfl, Nat.le_of_ble_eq_true rfl⟩) hD hS hA (fun σ1 μ1 H locs hw_40 hP hD hS => ?_)
        obtain ⟨I_41, ri_42, hu_43, hg_44, hp_46, hp_47⟩ := hw_40
        obtain ⟨hu_43a, hu_43b⟩ := Prod.mk.inj hu_43
        rw [hu_43a, hu_43b] at hP hD
        obtain ⟨twhp_46, tokhp_46, te1, te2, te3, te4, te5, te6⟩ := hp_46
        have hpe : ri_42 this_pile = ri this_pile := hp_47.trans rfl
        have hG := GM.tr hG hg_44 (by decide)
        have tt_48 : (I_41 401 this).toInt = (I_31 401 this).toInt := by rw [hg_44.2.1 401 (by decide) (by decide)]
        have tt_49 : (I_41 402 this).toInt = (I_31 402 this).toInt := by rw [hg_44.2.1 402 (by decide) (by decide)]
        have tt_50 : (I_41 396 this).toInt = (I_31 396 this).toInt := by rw [hg_44.2.1 396 (by decide) (by decide)]
        refine lv_goto (tgt := 0) hx hb dX12_settle_51 (by decide) ?_
        have L_267 : ∀ (n_266 : Nat) (I_211 : Nat → Nat → Int32) (ri_212 : Nat → Nat → Int32) (H : Heap) (locs : List Loc) (ls : Array Slot), ((I_211 398 this).toInt + (I_211 401 this).toInt = (I 398 this).toInt + (I 401 this).toInt ∧ 0 ≤ (I_211 401 this).toInt ∧ (I_211 401 this).toInt ≤ (I 401 this).toInt ∧ vN (ri_212 this_a) bb fr (I_211 398 this).toInt = ba + ((I_211 401 this).toInt - cO (ri this_pile) (I_211 401 this).toNatClampNeg) + 1 ∧ (I_211 402 this).toInt = nn + cO (ri this_pile) (I_211 401 this).toNatClampNeg ∧ tN (ri_212 this_a) bb fr (I_211 398 this).toInt = tN (ri this_a) bb fr (I 398 this).toInt ∧ fr ≤ (I_211 398 this).toInt ∧ (I_211 396 this).toInt = (I 396 this).toInt) → (ri_212 this_pile = ri this_pile) → (oN (ri_212 this_a) bb fr (I_211 398 this).toInt) → ((I_211 401 this).toInt - 0).toNat < n_266 → GM [401, 398] tg σ I ri I_211 ri_212 rq → va_P D vwCl (pq_P t σ (I_211, J, ri_212, rj, rq)) H → va_D A (pq_P t σ (I_211, J, ri_212, rj, rq)) → va_S A s.heap H locs → lv_has ls 2 [(0, .ref this), (1, .int a0)] → W p l e ({ frames := 1, cells := 0, slots := 0, locals := 22 } : Room) s m (List.toArray ([.ref this, .int a0] : List Value)) below meth c H locs 0 0 Q (F0 m 0 ls []) := by
          intro n_266
          induction n_266 with
          | zero => intro I_211 ri_212 H locs ls hrel_272 hrel_273 hrel_274 hm_265 hG hP hD hS hl; exact absurd hm_265 (Nat.not_lt_zero _)
          | succ n_266 ih_268 =>
            intro I_211 ri_212 H locs ls hrel_272 hrel_273 hrel_274 hm_265 hG hP hD hS hl
            refine lv_aload_n hx hb dX12_settle_0 rfl (lv_at hl 0 rfl) ?_
            refine pg_f (v := .int (I_211 401 this)) (C := RX12) (T := TX12) (N := 31) hx hb hts (tw_i inlX12) hown hK hP hL_this hK_this (by decide) rfl 17 (by decide) (hts _ (tw_c tw_887)) rfl dX12_settle_1 ?_
            have h_275 : rg (I_211 401 this) 0 160 := GM.rI hG 401 rfl
            have uh_275 := h_275.1
            have vh_275 := h_275.2
            refine lv_if_le (tgt := 54) hx hb dX12_settle_4 (by decide) (fun c_276 => ?_) (fun c_276 => ?_)
            · have tc_277 : (I_211 401 this).toInt ≤ 0 := Int32.le_iff_toInt_le.mp c_276
              have h_278 : rg (I_211 401 this) 0 0 := rg_le1 c_276 h_275 (rg_k (0 : Int32) 0 rfl) (by decide)
              have uh_278 := h_278.1
              have vh_278 := h_278.2
              subst hQ
              exact W.vret hx hb hr (fun t1 ht hW => ⟨⟨(σ, I_211, J, ri_212, rj, rq), rfl, ⟨I_211, ri_212, rfl, hG, (by rw [hrel_273]; omega), (by rw [hrel_273]; exact LP_le hlp (by have z0 := clampE (I 401 this); have z1 := clampE (I_211 401 this); omega)), hrel_274, hrel_273⟩, by rw [ht]; exact hP, va_K.moved hW.alike hK, hD⟩, hS.F ht⟩) hS.2.2 dX12_settle_54
            · have tc_279 : 0 < (I_211 401 this).toInt := Int32.lt_iff_toInt_lt.mp (nle c_276)
              have h_280 : rg (I_211 401 this) 1 160 := rg_lt2 (nle c_276) (rg_k (0 : Int32) 0 rfl) h_275 (by decide)
              have uh_280 := h_280.1
              have vh_280 := h_280.2
              refine lv_aload_n hx hb dX12_settle_7 rfl (lv_at hl 0 rfl) ?_
              refine pg_f (v := .ref this_pile) (C := RX12) (T := TX12) (N := 31) hx hb hts (tw_i inlX12) hown hK hP hL_this hK_this (by decide) rfl 16 (by decide) (hts _ (tw_c tw_182)) (pq_hv rfl hR_this_pile) dX12_settle_8 ?_
              refine lv_aload_n hx hb dX12_settle_11 rfl (lv_at hl 0 rfl) ?_
              refine pg_f (v := .int (I_211 401 this)) (C := RX12) (T := TX12) (N := 31) hx hb hts (tw_i inlX12) hown hK hP hL_this hK_this (by decide) rfl 17 (by decide) (hts _ (tw_c tw_887)) rfl dX12_settle_12 ?_
              refine lv_iconst (v := 1) hx hb dX12_settle_15 (by decide) ?_
              refine lv_isub hx hb dX12_settle_16 ?_
              refine lv_topi (fun x_281 ex_281 => ?_)
              have h_282 : rg x_281 0 159 := rg_of_eq ex_281 (rg_sub h_280 (rg_k (1 : Int32) 1 rfl) (by decide))
              have uh_282 := h_282.1
              have vh_282 := h_282.2
              have tx_281 : (x_281).toInt = (I_211 401 this).toInt - 1 := by rw [ex_281]; exact i_sub_rg (a2 := (I_211 401 this).toInt) (b2 := 1) rfl rfl h_280 (rg_k (1 : Int32) 1 rfl) (by decide)
              refine pl_i hx hb hK hP hL_this_pile hK_this_pile hN_this_pile (rg_in h_282 (by decide)) dX12_settle_17 ?_
              refine lv_topi (fun x_283 ex_283 => ?_)
              have h_284 : rg x_283 0 40 := rg_of_eq ex_283 (GM.rR hG hT_this_pile rfl)
              have uh_284 := h_284.1
              have vh_284 := h_284.2
              refine lv_iload_n hx hb dX12_settle_18 rfl (lv_at hl 1 rfl) ?_
              refine lv_bipush (v := 6) hx hb dX12_settle_19 (by decide) ?_
              refine pk_i (va_runS (As := [.int x_283, .int a0, .int 6]) (rest := []) ⟨hx, hb, hml, hown, hts⟩ (s_X12_isIn l D t σ I_211 J ri_212 rj rq H.size tg hSH hG.1 x_283 a0 (6 : Int32)) (va_cwS 3 hts (tw_S tw_235 tw_236 tw_5 tw_237) rfl rfl rfl (by decide +kernel) ⟨Nat.le_of_ble_eq_true rfl, Nat.le_of_ble_eq_true rfl⟩) ⟨pq_blind, pq_pre hK hN hP hD⟩ rfl rfl hl.1 rfl (lv_room (Nat.le_of_ble_eq_true rfl)) dX12_settle_21 ⟨Nat.le_of_ble_eq_true rfl, Nat.le_of_ble_eq_true rfl⟩) hD hS hA (fun x_285 σ1 μ1 H locs hw_286 hP hD hS => ?_)
              obtain ⟨hu_287, hr_289⟩ := hw_286
              obtain ⟨hu_287a, hu_287b⟩ := Prod.mk.inj hu_287
              rw [hu_287a, hu_287b] at hP hD
              have h_290 : rg x_285 0 1 := by rcases hr_289 with ⟨q, -⟩ | ⟨q, -⟩ <;> rw [q] <;> exact ⟨by decide, by decide⟩
              have uh_290 := h_290.1
              have vh_290 := h_290.2
              refine lv_if_eq (tgt := 54) hx hb dX12_settle_24 (by decide) (fun c_291 => ?_) (fun c_291 => ?_)
              · have f_292 := (hr_289.resolve_left (fun q => absurd (q.1.symm.trans c_291) (by decide))).2
                have tc_293 : (x_285).toInt = 0 := congrArg Int32.toInt c_291
                have h_294 : rg x_285 0 0 := rg_and h_290 (rg_of_eq c_291 (rg_k (0 : Int32) 0 rfl)) (by decide)
                have uh_294 := h_294.1
                have vh_294 := h_294.2
                subst hQ
                exact W.vret hx hb hr (fun t1 ht hW => ⟨⟨(σ, I_211, J, ri_212, rj, rq), rfl, ⟨I_211, ri_212, rfl, hG, (by rw [hrel_273]; omega), (by rw [hrel_273]; exact LP_le hlp (by have z0 := clampE (I 401 this); have z1 := clampE (I_211 401 this); omega)), hrel_274, hrel_273⟩, by rw [ht]; exact hP, va_K.moved hW.alike hK, hD⟩, hS.F ht⟩) hS.2.2 dX12_settle_54
              · obtain ⟨f_295, f_296⟩ := (hr_289.resolve_right (fun q => c_291 q.1)).2
                have tc_297 : (a0).toInt ≤ (x_283).toInt := Int32.le_iff_toInt_le.mp f_295
                have tc_298 : (x_283).toInt ≤ 6 := Int32.le_iff_toInt_le.mp f_296
                have h_299 : rg x_283 0 6 := rg_le1 f_296 h_284 (rg_k (6 : Int32) 6 rfl) (by decide)
                have uh_299 := h_299.1
                have vh_299 := h_299.2
                have tc_300 : (x_285).toInt ≠ 0 := fun q => c_291 (Int32.toInt_inj.mp q)
                have h_301 : rg x_285 1 1 := rg_ne c_291 h_290 0 rfl (by decide)
                have uh_301 := h_301.1
                have vh_301 := h_301.2
                refine lv_aload_n hx hb dX12_settle_27 rfl (lv_at hl 0 rfl) ?_
                refine lv_dup hx hb dX12_settle_28 rfl ?_
                refine pg_f (v := .int (I_211 401 this)) (C := RX12) (T := TX12) (N := 31) hx hb hts (tw_i inlX12) hown hK hP hL_this hK_this (by decide) rfl 17 (by decide) (hts _ (tw_c tw_887)) rfl dX12_settle_29 ?_
                refine lv_iconst (v := 1) hx hb dX12_settle_32 (by decide) ?_
                refine lv_isub hx hb dX12_settle_33 ?_
                refine lv_topi (fun x_302 ex_302 => ?_)
                have h_303 : rg x_302 0 159 := rg_of_eq ex_302 (rg_sub h_280 (rg_k (1 : Int32) 1 rfl) (by decide))
                have uh_303 := h_303.1
                have vh_303 := h_303.2
                have tx_302 : (x_302).toInt = (I_211 401 this).toInt - 1 := by rw [ex_302]; exact i_sub_rg (a2 := (I_211 401 this).toInt) (b2 := 1) rfl rfl h_280 (rg_k (1 : Int32) 1 rfl) (by decide)
                refine pp_i (v := x_302) (ty := .int) (C := RX12) (T := TX12) (N := 31) hx hb hts (tw_i inlX12) tyX12 tyX12_ok nmX12 hown hK hP hD hS hL_this hK_this (by decide) rfl 17 401 (by decide) (hts _ (tw_c tw_887)) rfl (by decide +kernel) rfl rfl (Nat.le_of_ble_eq_true rfl) (ps_401 _ _ _ _ _) dX12_settle_34 (fun I_304 H locs eI_304 hP hD hS => ?_)
                have hG := GM.wI hG 401 rfl eI_304 (rg_w h_303 (by decide)) (by decide)
                have tt_305 : (I_304 401 this).toInt = (x_302).toInt := by rw [eI_304, pq_us]
                have tt_306 : (I_304 402 this).toInt = (I_211 402 this).toInt := by rw [eI_304, pq_uf _ _ _ (by decide)]
                have tt_307 : (I_304 398 this).toInt = (I_211 398 this).toInt := by rw [eI_304, pq_uf _ _ _ (by decide)]
                have tt_308 : (I_304 396 this).toInt = (I_211 396 this).toInt := by rw [eI_304, pq_uf _ _ _ (by decide)]
                have hix : (x_281).toNatClampNeg = (I_304 401 this).toNatClampNeg := by have z0 := clampE x_281; have z1 := clampE (I_304 401 this); have z2 := clampE (I_211 401 this); omega
                have hiz : (ri this_pile (I_304 401 this).toNatClampNeg).toInt = (x_283).toInt := by rw [← hix, ← hrel_273]; exact (congrArg Int32.toInt ex_283).symm
                have hc : cO (ri this_pile) (I_211 401 this).toNatClampNeg = cO (ri this_pile) (I_304 401 this).toNatClampNeg := by rw [show (I_211 401 this).toNatClampNeg = (I_304 401 this).toNatClampNeg + 1 from by have z0 := clampE (I_304 401 this); have z1 := clampE (I_211 401 this); omega]; exact cO_n (fun q => by unfold isO at q; omega)
                have hcb := cO_b (ri this_pile) (I_304 401 this).toNatClampNeg
                have hcz := clampE (I_304 401 this)
                refine lv_aload_n hx hb dX12_settle_37 rfl (lv_at hl 0 rfl) ?_
                refine lv_aload_n hx hb dX12_settle_38 rfl (lv_at hl 0 rfl) ?_
                refine pg_f (v := .ref this_pile) (C := RX12) (T := TX12) (N := 31) hx hb hts (tw_i inlX12) hown hK hP hL_this hK_this (by decide) rfl 16 (by decide) (hts _ (tw_c tw_182)) (pq_hv rfl hR_this_pile) dX12_settle_39 ?_
                refine lv_aload_n hx hb dX12_settle_42 rfl (lv_at hl 0 rfl) ?_
                refine pg_f (v := .int (I_304 401 this)) (C := RX12) (T := TX12) (N := 31) hx hb hts (tw_i inlX12) hown hK hP hL_this hK_this (by decide) rfl 17 (by decide) (hts _ (tw_c tw_887)) rfl dX12_settle_43 ?_
                have h_309 : rg (I_304 401 this) 0 159 := (by rw [eI_304, pq_us]; exact h_303)
                have uh_309 := h_309.1
                have vh_309 := h_309.2
                refine pl_i hx hb hK hP hL_this_pile hK_this_pile hN_this_pile (rg_in h_309 (by decide)) dX12_settle_46 ?_
                refine lv_topi (fun x_310 ex_310 => ?_)
                have h_311 : rg x_310 0 40 := rg_of_eq ex_310 (GM.rR hG hT_this_pile rfl)
                have uh_311 := h_311.1
                have vh_311 := h_311.2
                refine lv_iconst (v := 0) hx hb dX12_settle_47 (by decide) ?_
                refine pk_v (va_runV (As := [.int x_310, .int 0]) (rest := []) ⟨hx, hb, hml, hown, hts⟩ (s_X12_emit l D t σ I_304 J ri_212 rj rq H.size tg hSH hG.1 this x_310 (0 : Int32) hL_this hK_this this_a hR_this_a hL_this_a hK_this_a hN_this_a hT_this_a this_pile hR_this_pile hL_this_pile hK_this_pile hN_this_pile hT_this_pile fr bb (by omega) (by omega) (by assumption) (by omega) (by omega)) (cwV 2 hts (tw_V tw_905 tw_906 tw_907 tw_5 tw_908) rfl rfl rfl (by decide +kernel) ⟨Nat.le_of_ble_eq_true rfl, Nat.le_of_ble_eq_true rfl⟩) ⟨pq_blind, pq_recv hK hP hL_this hK_this (by decide) rfl, pq_pre hK hN hP hD⟩ rfl rfl hl.1 rfl (lv_room (Nat.le_of_ble_eq_true rfl)) dX12_settle_48 ⟨Nat.le_of_ble_eq_true rfl, Nat.le_of_ble_eq_true rfl⟩) hD hS hA (fun σ1 μ1 H locs hw_313 hP hD hS => ?_)
                obtain ⟨I_314, ri_315, hu_316, hg_317, hp_319, hp_320⟩ := hw_313
                obtain ⟨hu_316a, hu_316b⟩ := Prod.mk.inj hu_316
                rw [hu_316a, hu_316b] at hP hD
                obtain ⟨twhp_319, tokhp_319, te1, te2, te3, te4, te5, te6⟩ := hp_319
                have hpe : ri_315 this_pile = ri this_pile := hp_320.trans hrel_273
                have hG := GM.tr hG hg_317 (by decide)
                have tt_321 : (I_314 401 this).toInt = (I_304 401 this).toInt := by rw [hg_317.2.1 401 (by decide) (by decide)]
                have tt_322 : (I_314 402 this).toInt = (I_304 402 this).toInt := by rw [hg_317.2.1 402 (by decide) (by decide)]
                have tt_323 : (I_314 396 this).toInt = (I_304 396 this).toInt := by rw [hg_317.2.1 396 (by decide) (by decide)]
                refine lv_goto (tgt := 0) hx hb dX12_settle_51 (by decide) ?_
                exact ih_268 I_314 ri_315 _ _ _ (by omega) (hp_320.trans hrel_273) tokhp_319 (ms_fd_isub hm_265 ((congrFun (hg_317.2.1 401 (by decide) (by decide)) this).trans (by rw [eI_304]; exact pq_us _ _ _ _)) ex_302 rfl (kk := 1) rfl (by decide) h_280 (by decide) (by decide)) hG hP hD hS (lv_sub hl [0, 1] rfl)
        exact L_267 _ I_41 ri_42 _ _ _ (by omega) (hp_47.trans rfl) tokhp_46 (Nat.lt_succ_self _) hG hP hD hS (lv_sub hl [0, 1] rfl)
  exact go _ _ _ hP hD hS hl

set_option maxHeartbeats 4000000 in
set_option maxRecDepth 100000 in
theorem s_X12_hasParen (l : Launch) (D : va_G) (t : pq_T) (σ : pq_S) (I : Nat → Nat → Int32) (J : Nat → Nat → Int64) (ri : Nat → Nat → Int32) (rj : Nat → Nat → Int64) (rq : Nat → Nat → Option Nat) (sz : Nat) (tg : Nat → Nat) (hSH : SH σ tg) (hG0 : GT tg I ri) (this : Nat) (hL_this : this ∈ σ.1) (hK_this : σ.2.1 this = 12) (this_pile : Nat) (hR_this_pile : σ.2.2.1 400 this = some this_pile) (hL_this_pile : this_pile ∈ σ.1) (hK_this_pile : σ.2.1 this_pile = 13) (hN_this_pile : σ.2.2.2 this_pile = 160) (hT_this_pile : tg this_pile = 400) : MetI l yX12_hasParen (wa yX12_hasParen cX12_hasParen 2 (some .boolean)) ({ frames := 0, cells := 0, slots := 0, locals := 0 }) [.ref this] D t σ (I, J, ri, rj, rq) sz 0 0 (fun (r : Int32) (u : pq_S × pq_M) => u = (σ, I, J, ri, rj, rq) ∧ ((r = 1 ∧ True) ∨ (r = 0 ∧ True))) := by
  refine Met.ofW (cc := cX12_hasParen) (maxL := 2) (ret := (some .boolean)) (by decide) rfl ?_
  intro p e s m args below meth c s₁ B hml hv
  obtain ⟨rfl, hsz, hP, hK, hD0, hN⟩ := hv
  have hx := B.exec
  have hb := B.bytes
  have hr := B.returns
  have hts := atoms_spec (ws := (wa yX12_hasParen cX12_hasParen 2 (some .boolean))) B.pre
  have hown : s.vm.findClass RX12 = some m.cls := findClass_of_methodNamed B.named
  have hlocks := B.notSynchronized
  subst hsz
  have hD : va_D (pq_B t σ (I, J, ri, rj, rq) s.heap.size) (pq_P t σ (I, J, ri, rj, rq)) := hD0.self
  generalize hAe : pq_B t σ (I, J, ri, rj, rq) s.heap.size = A at hD ⊢
  have hA : ∀ q : Nat, s.heap.size ≤ q → A q := fun q h => by rw [← hAe]; exact Or.inr h
  have hS : va_S A s.heap s.heap [] := va_S.rf
  have hG : GM [] tg σ I ri I ri rq := ⟨hG0, fun _ _ _ => rfl, fun _ _ _ _ _ => rfl, fun _ _ _ _ _ _ => rfl⟩
  have hl := lv_entry ([.ref this]) (n := 2) (Nat.le_of_ble_eq_true rfl)
  rw [lg_entry_eq]
  generalize (lg_sl ([.ref this]) ++ List.replicate (2 - (lg_sl ([.ref this])).length) Slot.unset).toArray = ls at hl ⊢
  have hl : lv_has ls 2 [(0, .ref this)] := hl
  refine q_gen (fun Q hQ => ?_)
  have go : ∀ (H : Heap) (locs : List Loc) (ls : Array Slot), va_P D vwCl (pq_P t σ (I, J, ri, rj, rq)) H → va_D A (pq_P t σ (I, J, ri, rj, rq)) → va_S A s.heap H locs → lv_has ls 2 [(0, .ref this)] → W p l e ({ frames := 0, cells := 0, slots := 0, locals := 0 } : Room) s m (List.toArray ([.ref this] : List Value)) below meth c H locs 0 0 Q (F0 m 0 ls []) := by
    intro H locs ls hP hD hS hl
    refine lv_iconst (v := 0) hx hb dX12_hasParen_0 (by decide) ?_
    refine lv_istore_n (lv' := [(1, .int 0), (0, .ref this)]) hx hb dX12_hasParen_1 rfl hl (by decide) rfl (fun ls hl => ?_)
    have L_341 : ∀ (n_340 : Nat) (x_322 : Int32) (H : Heap) (locs : List Loc) (ls : Array Slot), rg x_322 0 160 → (160 - (x_322).toInt).toNat < n_340 → GM [] tg σ I ri I ri rq → va_P D vwCl (pq_P t σ (I, J, ri, rj, rq)) H → va_D A (pq_P t σ (I, J, ri, rj, rq)) → va_S A s.heap H locs → lv_has ls 2 [(0, .ref this), (1, .int x_322)] → W p l e ({ frames := 0, cells := 0, slots := 0, locals := 0 } : Room) s m (List.toArray ([.ref this] : List Value)) below meth c H locs 0 0 Q (F0 m 2 ls []) := by
      intro n_340
      induction n_340 with
      | zero => intro x_322 H locs ls h_344 hm_339 hG hP hD hS hl; exact absurd hm_339 (Nat.not_lt_zero _)
      | succ n_340 ih_342 =>
        intro x_322 H locs ls h_344 hm_339 hG hP hD hS hl
        have uh_344 := h_344.1
        have vh_344 := h_344.2
        refine lv_iload_n hx hb dX12_hasParen_2 rfl (lv_at hl 1 rfl) ?_
        refine lv_aload_n hx hb dX12_hasParen_3 rfl (lv_at hl 0 rfl) ?_
        refine pg_f (v := .int (I 401 this)) (C := RX12) (T := TX12) (N := 31) hx hb hts (tw_i inlX12) hown hK hP hL_this hK_this (by decide) rfl 17 (by decide) (hts _ (tw_c tw_887)) rfl dX12_hasParen_4 ?_
        have h_345 : rg (I 401 this) 0 160 := GM.rI hG 401 rfl
        have uh_345 := h_345.1
        have vh_345 := h_345.2
        refine lv_icmp_ge (tgt := 29) hx hb dX12_hasParen_7 (by decide) (fun c_346 => ?_) (fun c_346 => ?_)
        · have tc_347 : (I 401 this).toInt ≤ (x_322).toInt := Int32.le_iff_toInt_le.mp c_346
          refine lv_iconst (v := 0) hx hb dX12_hasParen_29 (by decide) ?_
          subst hQ
          exact W.zret (v := 0) hx hb hr (by decide) (fun t1 ht hW => ⟨⟨0, (σ, I, J, ri, rj, rq), rfl, ⟨rfl, (Or.inr ⟨rfl, trivial⟩)⟩, by rw [ht]; exact hP, va_K.moved hW.alike hK, hD⟩, hS.F ht⟩) hS.2.2 dX12_hasParen_30
        · have tc_348 : (x_322).toInt < (I 401 this).toInt := Int32.lt_iff_toInt_lt.mp (nle c_346)
          have h_349 : rg x_322 0 159 := rg_lt1 (nle c_346) h_344 h_345 (by decide)
          have uh_349 := h_349.1
          have vh_349 := h_349.2
          have h_350 : rg (I 401 this) 1 160 := rg_lt2 (nle c_346) h_344 h_345 (by decide)
          have uh_350 := h_350.1
          have vh_350 := h_350.2
          refine lv_aload_n hx hb dX12_hasParen_10 rfl (lv_at hl 0 rfl) ?_
          refine pg_f (v := .ref this_pile) (C := RX12) (T := TX12) (N := 31) hx hb hts (tw_i inlX12) hown hK hP hL_this hK_this (by decide) rfl 16 (by decide) (hts _ (tw_c tw_182)) (pq_hv rfl hR_this_pile) dX12_hasParen_11 ?_
          refine lv_iload_n hx hb dX12_hasParen_14 rfl (lv_at hl 1 rfl) ?_
          refine pl_i hx hb hK hP hL_this_pile hK_this_pile hN_this_pile (rg_in h_349 (by decide)) dX12_hasParen_15 ?_
          refine lv_topi (fun x_351 ex_351 => ?_)
          have h_352 : rg x_351 0 40 := rg_of_eq ex_351 (GM.rR hG hT_this_pile rfl)
          have uh_352 := h_352.1
          have vh_352 := h_352.2
          refine lv_bipush (v := 40) hx hb dX12_hasParen_16 (by decide) ?_
          refine lv_icmp_ne (tgt := 23) hx hb dX12_hasParen_18 (by decide) (fun c_353 => ?_) (fun c_353 => ?_)
          · have tc_354 : (x_351).toInt ≠ 40 := fun q => c_353 (Int32.toInt_inj.mp q)
            have h_355 : rg x_351 0 39 := rg_ne c_353 h_352 40 rfl (by decide)
            have uh_355 := h_355.1
            have vh_355 := h_355.2
            obtain ⟨x_356, ex_356⟩ : ∃ y : Int32, y = x_322 + Int32.ofInt 1 := ⟨_, rfl⟩
            have h_357 : rg x_356 1 160 := rg_of_eq ex_356 (rg_add h_349 (rg_k (Int32.ofInt 1) 1 rfl) (by decide))
            have uh_357 := h_357.1
            have vh_357 := h_357.2
            have tx_356 : (x_356).toInt = (x_322).toInt + 1 := by rw [ex_356]; exact i_add_rg (a2 := (x_322).toInt) (b2 := 1) rfl rfl h_349 (rg_k (Int32.ofInt 1) 1 rfl) (by decide)
            refine lv_iinc (v := x_356) (lv' := [(1, .int x_356), (0, .ref this)]) hx hb dX12_hasParen_23 hl (k := 1) rfl ex_356.symm (by decide) rfl (fun ls hl => ?_)
            refine lv_goto (tgt := 2) hx hb dX12_hasParen_26 (by decide) ?_
            exact ih_342 x_356 _ _ _ (rg_w h_357 (by decide)) (ms_up 1 hm_339 ex_356 rfl (by decide) h_349 (by decide) (by decide)) hG hP hD hS (lv_sub hl [1, 0] rfl)
          · have tc_358 : (x_351).toInt = 40 := congrArg Int32.toInt c_353
            have h_359 : rg x_351 40 40 := rg_and h_352 (rg_of_eq c_353 (rg_k (40 : Int32) 40 rfl)) (by decide)
            have uh_359 := h_359.1
            have vh_359 := h_359.2
            refine lv_iconst (v := 1) hx hb dX12_hasParen_21 (by decide) ?_
            subst hQ
            exact W.zret (v := 1) hx hb hr (by decide) (fun t1 ht hW => ⟨⟨1, (σ, I, J, ri, rj, rq), rfl, ⟨rfl, (Or.inl ⟨rfl, trivial⟩)⟩, by rw [ht]; exact hP, va_K.moved hW.alike hK, hD⟩, hS.F ht⟩) hS.2.2 dX12_hasParen_22
    exact L_341 _ (0 : Int32) _ _ _ (rg_w (rg_k (0 : Int32) 0 rfl) (by decide)) (Nat.lt_succ_self _) hG hP hD hS (lv_sub hl [1, 0] rfl)
  exact go _ _ _ hP hD hS hl

set_option maxHeartbeats 4000000 in
set_option maxRecDepth 100000 in
theorem s_X12_goesOn (l : Launch) (D : va_G) (t : pq_T) (σ : pq_S) (I : Nat → Nat → Int32) (J : Nat → Nat → Int64) (ri : Nat → Nat → Int32) (rj : Nat → Nat → Int64) (rq : Nat → Nat → Option Nat) (sz : Nat) (tg : Nat → Nat) (hSH : SH σ tg) (hG0 : GT tg I ri) (this : Nat) (hL_this : this ∈ σ.1) (hK_this : σ.2.1 this = 12) (this_pile : Nat) (hR_this_pile : σ.2.2.1 400 this = some this_pile) (hL_this_pile : this_pile ∈ σ.1) (hK_this_pile : σ.2.1 this_pile = 13) (hN_this_pile : σ.2.2.2 this_pile = 160) (hT_this_pile : tg this_pile = 400) : MetI l yX12_goesOn (wa yX12_goesOn cX12_goesOn 1 (some .boolean)) ({ frames := 1, cells := 0, slots := 0, locals := 21 }) [.ref this] D t σ (I, J, ri, rj, rq) sz 0 0 (fun (r : Int32) (u : pq_S × pq_M) => u = (σ, I, J, ri, rj, rq) ∧ ((r = 1 ∧ True) ∨ (r = 0 ∧ True))) := by
  refine Met.ofW (cc := cX12_goesOn) (maxL := 1) (ret := (some .boolean)) (by decide) rfl ?_
  intro p e s m args below meth c s₁ B hml hv
  obtain ⟨rfl, hsz, hP, hK, hD0, hN⟩ := hv
  have hx := B.exec
  have hb := B.bytes
  have hr := B.returns
  have hts := atoms_spec (ws := (wa yX12_goesOn cX12_goesOn 1 (some .boolean))) B.pre
  have hown : s.vm.findClass RX12 = some m.cls := findClass_of_methodNamed B.named
  have hlocks := B.notSynchronized
  subst hsz
  have hD : va_D (pq_B t σ (I, J, ri, rj, rq) s.heap.size) (pq_P t σ (I, J, ri, rj, rq)) := hD0.self
  generalize hAe : pq_B t σ (I, J, ri, rj, rq) s.heap.size = A at hD ⊢
  have hA : ∀ q : Nat, s.heap.size ≤ q → A q := fun q h => by rw [← hAe]; exact Or.inr h
  have hS : va_S A s.heap s.heap [] := va_S.rf
  have hG : GM [] tg σ I ri I ri rq := ⟨hG0, fun _ _ _ => rfl, fun _ _ _ _ _ => rfl, fun _ _ _ _ _ _ => rfl⟩
  have hl := lv_entry ([.ref this]) (n := 1) (Nat.le_of_ble_eq_true rfl)
  rw [lg_entry_eq]
  generalize (lg_sl ([.ref this]) ++ List.replicate (1 - (lg_sl ([.ref this])).length) Slot.unset).toArray = ls at hl ⊢
  have hl : lv_has ls 1 [(0, .ref this)] := hl
  refine q_gen (fun Q hQ => ?_)
  have go : ∀ (H : Heap) (locs : List Loc) (ls : Array Slot), va_P D vwCl (pq_P t σ (I, J, ri, rj, rq)) H → va_D A (pq_P t σ (I, J, ri, rj, rq)) → va_S A s.heap H locs → lv_has ls 1 [(0, .ref this)] → W p l e ({ frames := 1, cells := 0, slots := 0, locals := 21 } : Room) s m (List.toArray ([.ref this] : List Value)) below meth c H locs 0 0 Q (F0 m 0 ls []) := by
    intro H locs ls hP hD hS hl
    refine lv_aload_n hx hb dX12_goesOn_0 rfl (lv_at hl 0 rfl) ?_
    refine pg_f (v := .int (I 393 this)) (C := RX12) (T := TX12) (N := 31) hx hb hts (tw_i inlX12) hown hK hP hL_this hK_this (by decide) rfl 9 (by decide) (hts _ (tw_c tw_831)) rfl dX12_goesOn_1 ?_
    refine lv_bipush (v := 43) hx hb dX12_goesOn_4 (by decide) ?_
    have K_33 : ∀  (H : Heap) (locs : List Loc) (ls : Array Slot), rg (I 393 this) 41 47 → GM [] tg σ I ri I ri rq → va_P D vwCl (pq_P t σ (I, J, ri, rj, rq)) H → va_D A (pq_P t σ (I, J, ri, rj, rq)) → va_S A s.heap H locs → lv_has ls 1 [] → W p l e ({ frames := 1, cells := 0, slots := 0, locals := 21 } : Room) s m (List.toArray ([.ref this] : List Value)) below meth c H locs 0 0 Q (F0 m 52 ls []) := by
      intro H locs ls h_35 hG hP hD hS hl
      have uh_35 := h_35.1
      have vh_35 := h_35.2
      refine lv_iconst (v := 1) hx hb dX12_goesOn_52 (by decide) ?_
      refine lv_goto (tgt := 57) hx hb dX12_goesOn_53 (by decide) ?_
      subst hQ
      exact W.zret (v := 1) hx hb hr (by decide) (fun t1 ht hW => ⟨⟨1, (σ, I, J, ri, rj, rq), rfl, ⟨rfl, (Or.inl ⟨rfl, trivial⟩)⟩, by rw [ht]; exact hP, va_K.moved hW.alike hK, hD⟩, hS.F ht⟩) hS.2.2 dX12_goesOn_57
    refine lv_icmp_eq (tgt := 52) hx hb dX12_goesOn_6 (by decide) (fun c_36 => ?_) (fun c_36 => ?_)
    · have tc_37 : (I 393 this).toInt = 43 := congrArg Int32.toInt c_36
      have h_38 : rg (I 393 this) 43 43 := rg_and (rg_full _) (rg_of_eq c_36 (rg_k (43 : Int32) 43 rfl)) (by decide)
      have uh_38 := h_38.1
      have vh_38 := h_38.2
      exact K_33 _ _ _ (rg_w h_38 (by decide)) hG hP hD hS (lv_sub hl [] rfl)
    · have tc_39 : (I 393 this).toInt ≠ 43 := fun q => c_36 (Int32.toInt_inj.mp q)
      refine lv_aload_n hx hb dX12_goesOn_9 rfl (lv_at hl 0 rfl) ?_
      refine pg_f (v := .int (I 393 this)) (C := RX12) (T := TX12) (N := 31) hx hb hts (tw_i inlX12) hown hK hP hL_this hK_this (by decide) rfl 9 (by decide) (hts _ (tw_c tw_831)) rfl dX12_goesOn_10 ?_
      refine lv_bipush (v := 45) hx hb dX12_goesOn_13 (by decide) ?_
      refine lv_icmp_eq (tgt := 52) hx hb dX12_goesOn_15 (by decide) (fun c_40 => ?_) (fun c_40 => ?_)
      · have tc_41 : (I 393 this).toInt = 45 := congrArg Int32.toInt c_40
        have h_42 : rg (I 393 this) 45 45 := rg_and (rg_full _) (rg_of_eq c_40 (rg_k (45 : Int32) 45 rfl)) (by decide)
        have uh_42 := h_42.1
        have vh_42 := h_42.2
        exact K_33 _ _ _ (rg_w h_42 (by decide)) hG hP hD hS (lv_sub hl [] rfl)
      · have tc_43 : (I 393 this).toInt ≠ 45 := fun q => c_40 (Int32.toInt_inj.mp q)
        refine lv_aload_n hx hb dX12_goesOn_18 rfl (lv_at hl 0 rfl) ?_
        refine pg_f (v := .int (I 393 this)) (C := RX12) (T := TX12) (N := 31) hx hb hts (tw_i inlX12) hown hK hP hL_this hK_this (by decide) rfl 9 (by decide) (hts _ (tw_c tw_831)) rfl dX12_goesOn_19 ?_
        refine lv_bipush (v := 42) hx hb dX12_goesOn_22 (by decide) ?_
        refine lv_icmp_eq (tgt := 52) hx hb dX12_goesOn_24 (by decide) (fun c_44 => ?_) (fun c_44 => ?_)
        · have tc_45 : (I 393 this).toInt = 42 := congrArg Int32.toInt c_44
          have h_46 : rg (I 393 this) 42 42 := rg_and (rg_full _) (rg_of_eq c_44 (rg_k (42 : Int32) 42 rfl)) (by decide)
          have uh_46 := h_46.1
          have vh_46 := h_46.2
          exact K_33 _ _ _ (rg_w h_46 (by decide)) hG hP hD hS (lv_sub hl [] rfl)
        · have tc_47 : (I 393 this).toInt ≠ 42 := fun q => c_44 (Int32.toInt_inj.mp q)
          refine lv_aload_n hx hb dX12_goesOn_27 rfl (lv_at hl 0 rfl) ?_
          refine pg_f (v := .int (I 393 this)) (C := RX12) (T := TX12) (N := 31) hx hb hts (tw_i inlX12) hown hK hP hL_this hK_this (by decide) rfl 9 (by decide) (hts _ (tw_c tw_831)) rfl dX12_goesOn_28 ?_
          refine lv_bipush (v := 47) hx hb dX12_goesOn_31 (by decide) ?_
          refine lv_icmp_eq (tgt := 52) hx hb dX12_goesOn_33 (by decide) (fun c_48 => ?_) (fun c_48 => ?_)
          · have tc_49 : (I 393 this).toInt = 47 := congrArg Int32.toInt c_48
            have h_50 : rg (I 393 this) 47 47 := rg_and (rg_full _) (rg_of_eq c_48 (rg_k (47 : Int32) 47 rfl)) (by decide)
            have uh_50 := h_50.1
            have vh_50 := h_50.2
            exact K_33 _ _ _ (rg_w h_50 (by decide)) hG hP hD hS (lv_sub hl [] rfl)
          · have tc_51 : (I 393 this).toInt ≠ 47 := fun q => c_48 (Int32.toInt_inj.mp q)
            refine lv_aload_n hx hb dX12_goesOn_36 rfl (lv_at hl 0 rfl) ?_
            refine pg_f (v := .int (I 393 this)) (C := RX12) (T := TX12) (N := 31) hx hb hts (tw_i inlX12) hown hK hP hL_this hK_this (by decide) rfl 9 (by decide) (hts _ (tw_c tw_831)) rfl dX12_goesOn_37 ?_
            refine lv_bipush (v := 41) hx hb dX12_goesOn_40 (by decide) ?_
            have K_67 : ∀  (H : Heap) (locs : List Loc) (ls : Array Slot), GM [] tg σ I ri I ri rq → va_P D vwCl (pq_P t σ (I, J, ri, rj, rq)) H → va_D A (pq_P t σ (I, J, ri, rj, rq)) → va_S A s.heap H locs → lv_has ls 1 [] → W p l e ({ frames := 1, cells := 0, slots := 0, locals := 21 } : Room) s m (List.toArray ([.ref this] : List Value)) below meth c H locs 0 0 Q (F0 m 56 ls []) := by
              intro H locs ls hG hP hD hS hl
              refine lv_iconst (v := 0) hx hb dX12_goesOn_56 (by decide) ?_
              subst hQ
              exact W.zret (v := 0) hx hb hr (by decide) (fun t1 ht hW => ⟨⟨0, (σ, I, J, ri, rj, rq), rfl, ⟨rfl, (Or.inr ⟨rfl, trivial⟩)⟩, by rw [ht]; exact hP, va_K.moved hW.alike hK, hD⟩, hS.F ht⟩) hS.2.2 dX12_goesOn_57
            refine lv_icmp_ne (tgt := 56) hx hb dX12_goesOn_42 (by decide) (fun c_68 => ?_) (fun c_68 => ?_)
            · have tc_69 : (I 393 this).toInt ≠ 41 := fun q => c_68 (Int32.toInt_inj.mp q)
              exact K_67 _ _ _ hG hP hD hS (lv_sub hl [] rfl)
            · have tc_70 : (I 393 this).toInt = 41 := congrArg Int32.toInt c_68
              have h_71 : rg (I 393 this) 41 41 := rg_and (rg_full _) (rg_of_eq c_68 (rg_k (41 : Int32) 41 rfl)) (by decide)
              have uh_71 := h_71.1
              have vh_71 := h_71.2
              refine lv_aload_n hx hb dX12_goesOn_45 rfl (lv_at hl 0 rfl) ?_
              refine pk_i (va_runV (As := []) (rest := []) ⟨hx, hb, hml, hown, hts⟩ (s_X12_hasParen l D t σ I J ri rj rq H.size tg hSH hG.1 this hL_this hK_this this_pile hR_this_pile hL_this_pile hK_this_pile hN_this_pile hT_this_pile) (cwV 0 hts (tw_V tw_893 tw_894 tw_895 tw_5 tw_896) rfl rfl rfl (by decide +kernel) ⟨Nat.le_of_ble_eq_true rfl, Nat.le_of_ble_eq_true rfl⟩) ⟨pq_blind, pq_recv hK hP hL_this hK_this (by decide) rfl, pq_pre hK hN hP hD⟩ rfl rfl hl.1 rfl (lv_room (Nat.le_of_ble_eq_true rfl)) dX12_goesOn_46 ⟨Nat.le_of_ble_eq_true rfl, Nat.le_of_ble_eq_true rfl⟩) hD hS hA (fun x_72 σ1 μ1 H locs hw_73 hP hD hS => ?_)
              obtain ⟨hu_74, hr_76⟩ := hw_73
              obtain ⟨hu_74a, hu_74b⟩ := Prod.mk.inj hu_74
              rw [hu_74a, hu_74b] at hP hD
              have h_77 : rg x_72 0 1 := by rcases hr_76 with ⟨q, -⟩ | ⟨q, -⟩ <;> rw [q] <;> exact ⟨by decide, by decide⟩
              have uh_77 := h_77.1
              have vh_77 := h_77.2
              refine lv_if_eq (tgt := 56) hx hb dX12_goesOn_49 (by decide) (fun c_78 => ?_) (fun c_78 => ?_)
              · have tc_79 : (x_72).toInt = 0 := congrArg Int32.toInt c_78
                have h_80 : rg x_72 0 0 := rg_and h_77 (rg_of_eq c_78 (rg_k (0 : Int32) 0 rfl)) (by decide)
                have uh_80 := h_80.1
                have vh_80 := h_80.2
                exact K_67 _ _ _ hG hP hD hS (lv_sub hl [] rfl)
              · have tc_81 : (x_72).toInt ≠ 0 := fun q => c_78 (Int32.toInt_inj.mp q)
                have h_82 : rg x_72 1 1 := rg_ne c_78 h_77 0 rfl (by decide)
                have uh_82 := h_82.1
                have vh_82 := h_82.2
                exact K_33 _ _ _ (rg_w h_71 (by decide)) hG hP hD hS (lv_sub hl [] rfl)
  exact go _ _ _ hP hD hS hl

set_option maxHeartbeats 4000000 in
set_option maxRecDepth 100000 in
theorem s_X12_beginOne (l : Launch) (D : va_G) (t : pq_T) (σ : pq_S) (I : Nat → Nat → Int32) (J : Nat → Nat → Int64) (ri : Nat → Nat → Int32) (rj : Nat → Nat → Int64) (rq : Nat → Nat → Option Nat) (sz : Nat) (tg : Nat → Nat) (hSH : SH σ tg) (hG0 : GT tg I ri) (this : Nat) (hL_this : this ∈ σ.1) (hK_this : σ.2.1 this = 12) : MetI l yX12_beginOne (wa yX12_beginOne cX12_beginOne 1 (some .int)) ({ frames := 4, cells := 0, slots := 0, locals := 89 }) [.ref this] D t σ (I, J, ri, rj, rq) sz 0 0 (fun (r : Int32) (u : pq_S × pq_M) => ∃ I' : Nat → Nat → Int32, ∃ J' : Nat → Nat → Int64, ∃ ri' : Nat → Nat → Int32, u = (σ, I', J', ri', rj, rq) ∧ GM [402, 401, 391, 392, 393, 398] tg σ I ri I' ri' rq ∧ rg r 0 3) := by
  refine Met.ofW (cc := cX12_beginOne) (maxL := 1) (ret := (some .int)) (by decide) rfl ?_
  intro p e s m args below meth c s₁ B hml hv
  obtain ⟨rfl, hsz, hP, hK, hD0, hN⟩ := hv
  have hx := B.exec
  have hb := B.bytes
  have hr := B.returns
  have hts := atoms_spec (ws := (wa yX12_beginOne cX12_beginOne 1 (some .int))) B.pre
  have hown : s.vm.findClass RX12 = some m.cls := findClass_of_methodNamed B.named
  have hlocks := B.notSynchronized
  subst hsz
  have hD : va_D (pq_B t σ (I, J, ri, rj, rq) s.heap.size) (pq_P t σ (I, J, ri, rj, rq)) := hD0.self
  generalize hAe : pq_B t σ (I, J, ri, rj, rq) s.heap.size = A at hD ⊢
  have hA : ∀ q : Nat, s.heap.size ≤ q → A q := fun q h => by rw [← hAe]; exact Or.inr h
  have hS : va_S A s.heap s.heap [] := va_S.rf
  have hG : GM [402, 401, 391, 392, 393, 398] tg σ I ri I ri rq := ⟨hG0, fun _ _ _ => rfl, fun _ _ _ _ _ => rfl, fun _ _ _ _ _ _ => rfl⟩
  have hl := lv_entry ([.ref this]) (n := 1) (Nat.le_of_ble_eq_true rfl)
  rw [lg_entry_eq]
  generalize (lg_sl ([.ref this]) ++ List.replicate (1 - (lg_sl ([.ref this])).length) Slot.unset).toArray = ls at hl ⊢
  have hl : lv_has ls 1 [(0, .ref this)] := hl
  refine q_gen (fun Q hQ => ?_)
  have go : ∀ (H : Heap) (locs : List Loc) (ls : Array Slot), va_P D vwCl (pq_P t σ (I, J, ri, rj, rq)) H → va_D A (pq_P t σ (I, J, ri, rj, rq)) → va_S A s.heap H locs → lv_has ls 1 [(0, .ref this)] → W p l e ({ frames := 4, cells := 0, slots := 0, locals := 89 } : Room) s m (List.toArray ([.ref this] : List Value)) below meth c H locs 0 0 Q (F0 m 0 ls []) := by
    intro H locs ls hP hD hS hl
    refine lv_aload_n hx hb dX12_beginOne_0 rfl (lv_at hl 0 rfl) ?_
    refine pg_f (v := .int (I 393 this)) (C := RX12) (T := TX12) (N := 31) hx hb hts (tw_i inlX12) hown hK hP hL_this hK_this (by decide) rfl 9 (by decide) (hts _ (tw_c tw_831)) rfl dX12_beginOne_1 ?_
    refine lv_iconst (v := 1) hx hb dX12_beginOne_4 (by decide) ?_
    have K_159 : ∀  (H : Heap) (locs : List Loc) (ls : Array Slot), GM [402, 401, 391, 392, 393, 398] tg σ I ri I ri rq → va_P D vwCl (pq_P t σ (I, J, ri, rj, rq)) H → va_D A (pq_P t σ (I, J, ri, rj, rq)) → va_S A s.heap H locs → lv_has ls 1 [(0, .ref this)] → W p l e ({ frames := 4, cells := 0, slots := 0, locals := 89 } : Room) s m (List.toArray ([.ref this] : List Value)) below meth c H locs 0 0 Q (F0 m 20 ls []) := by
      intro H locs ls hG hP hD hS hl
      refine lv_aload_n hx hb dX12_beginOne_20 rfl (lv_at hl 0 rfl) ?_
      refine pg_f (v := .int (I 393 this)) (C := RX12) (T := TX12) (N := 31) hx hb hts (tw_i inlX12) hown hK hP hL_this hK_this (by decide) rfl 9 (by decide) (hts _ (tw_c tw_831)) rfl dX12_beginOne_21 ?_
      refine lv_iconst (v := 1) hx hb dX12_beginOne_24 (by decide) ?_
      have K_309 : ∀  (H : Heap) (locs : List Loc) (ls : Array Slot), GM [402, 401, 391, 392, 393, 398] tg σ I ri I ri rq → va_P D vwCl (pq_P t σ (I, J, ri, rj, rq)) H → va_D A (pq_P t σ (I, J, ri, rj, rq)) → va_S A s.heap H locs → lv_has ls 1 [(0, .ref this)] → W p l e ({ frames := 4, cells := 0, slots := 0, locals := 89 } : Room) s m (List.toArray ([.ref this] : List Value)) below meth c H locs 0 0 Q (F0 m 35 ls []) := by
        intro H locs ls hG hP hD hS hl
        refine lv_aload_n hx hb dX12_beginOne_35 rfl (lv_at hl 0 rfl) ?_
        refine lv_aload_n hx hb dX12_beginOne_36 rfl (lv_at hl 0 rfl) ?_
        refine pg_f (v := .int (I 393 this)) (C := RX12) (T := TX12) (N := 31) hx hb hts (tw_i inlX12) hown hK hP hL_this hK_this (by decide) rfl 9 (by decide) (hts _ (tw_c tw_831)) rfl dX12_beginOne_37 ?_
        refine lv_iconst (v := 1) hx hb dX12_beginOne_40 (by decide) ?_
        have K_386 : ∀  (H : Heap) (locs : List Loc) (ls : Array Slot), GM [402, 401, 391, 392, 393, 398] tg σ I ri I ri rq → va_P D vwCl (pq_P t σ (I, J, ri, rj, rq)) H → va_D A (pq_P t σ (I, J, ri, rj, rq)) → va_S A s.heap H locs → lv_has ls 1 [(0, .ref this)] → W p l e ({ frames := 4, cells := 0, slots := 0, locals := 89 } : Room) s m (List.toArray ([.ref this] : List Value)) below meth c H locs 0 0 Q (F0 m 49 ls [.int 1, .ref this]) := by
          intro H locs ls hG hP hD hS hl
          refine lv_aload_n hx hb dX12_beginOne_49 rfl (lv_at hl 0 rfl) ?_
          refine pg_f (v := .int (I 393 this)) (C := RX12) (T := TX12) (N := 31) hx hb hts (tw_i inlX12) hown hK hP hL_this hK_this (by decide) rfl 9 (by decide) (hts _ (tw_c tw_831)) rfl dX12_beginOne_50 ?_
          refine lv_iconst (v := 1) hx hb dX12_beginOne_53 (by decide) ?_
          have K_426 : ∀  (x_396 : Int32) (H : Heap) (locs : List Loc) (ls : Array Slot), GM [402, 401, 391, 392, 393, 398] tg σ I ri I ri rq → va_P D vwCl (pq_P t σ (I, J, ri, rj, rq)) H → va_D A (pq_P t σ (I, J, ri, rj, rq)) → va_S A s.heap H locs → lv_has ls 1 [(0, .ref this)] → W p l e ({ frames := 4, cells := 0, slots := 0, locals := 89 } : Room) s m (List.toArray ([.ref this] : List Value)) below meth c H locs 0 0 Q (F0 m 68 ls [.int x_396, .int 1, .ref this]) := by
            intro x_396 H locs ls hG hP hD hS hl
            obtain ⟨w_427, hR_w_427, hL_w_427, hK_w_427, hN_w_427, hT_w_427⟩ := sh_a hSH 384 (ci := 12) (kd := 13) (len := 12720) rfl (by decide) hL_this hK_this
            obtain ⟨w_428, hR_w_428, hL_w_428, hK_w_428, hN_w_428, hT_w_428⟩ := sh_a hSH 400 (ci := 12) (kd := 13) (len := 160) rfl (by decide) hL_this hK_this
            refine pk_v (va_runV (As := [.int 1, .int x_396]) (rest := []) ⟨hx, hb, hml, hown, hts⟩ (s_X12_emit l D t σ I J ri rj rq H.size tg hSH hG.1 this (1 : Int32) x_396 hL_this hK_this w_427 hR_w_427 hL_w_427 hK_w_427 hN_w_427 hT_w_427 w_428 hR_w_428 hL_w_428 hK_w_428 hN_w_428 hT_w_428 fr bb (by omega) (by omega) (by assumption) (by omega) (by omega)) (cwV 2 hts (tw_V tw_905 tw_906 tw_907 tw_5 tw_908) rfl rfl rfl (by decide +kernel) ⟨Nat.le_of_ble_eq_true rfl, Nat.le_of_ble_eq_true rfl⟩) ⟨pq_blind, pq_recv hK hP hL_this hK_this (by decide) rfl, pq_pre hK hN hP hD⟩ rfl rfl hl.1 rfl (lv_room (Nat.le_of_ble_eq_true rfl)) dX12_beginOne_68 ⟨Nat.le_of_ble_eq_true rfl, Nat.le_of_ble_eq_true rfl⟩) hD hS hA (fun σ1 μ1 H locs hw_430 hP hD hS => ?_)
            obtain ⟨I_431, ri_432, hu_433, hg_434, hp_436, hp_437⟩ := hw_430
            obtain ⟨hu_433a, hu_433b⟩ := Prod.mk.inj hu_433
            rw [hu_433a, hu_433b] at hP hD
            obtain ⟨twhp_436, tokhp_436, te1, te2, te3, te4, te5, te6⟩ := hp_436
            have hG := GM.tr hG hg_434 (by decide)
            refine lv_aload_n hx hb dX12_beginOne_71 rfl (lv_at hl 0 rfl) ?_
            refine pk_v (va_runV (As := []) (rest := []) ⟨hx, hb, hml, hown, hts⟩ (s_X12_nextToken l D t σ I_431 J ri_432 rj rq H.size tg hSH hG.1 this hL_this hK_this) (cwV 0 hts (tw_V tw_832 tw_833 tw_834 tw_5 tw_835) rfl rfl rfl (by decide +kernel) ⟨Nat.le_of_ble_eq_true rfl, Nat.le_of_ble_eq_true rfl⟩) ⟨pq_blind, pq_recv hK hP hL_this hK_this (by decide) rfl, pq_pre hK hN hP hD⟩ rfl rfl hl.1 rfl (lv_room (Nat.le_of_ble_eq_true rfl)) dX12_beginOne_72 ⟨Nat.le_of_ble_eq_true rfl, Nat.le_of_ble_eq_true rfl⟩) hD hS hA (fun σ1 μ1 H locs hw_439 hP hD hS => ?_)
            obtain ⟨I_440, J_441, hu_442, hg_443⟩ := hw_439
            obtain ⟨hu_442a, hu_442b⟩ := Prod.mk.inj hu_442
            rw [hu_442a, hu_442b] at hP hD
            have hG := GM.tr hG hg_443 (by decide)
            refine lv_aload_n hx hb dX12_beginOne_75 rfl (lv_at hl 0 rfl) ?_
            refine pk_v (va_runV (As := []) (rest := []) ⟨hx, hb, hml, hown, hts⟩ (s_X12_whole l D t σ I_440 J_441 ri_432 rj rq H.size tg hSH hG.1 this hL_this hK_this w_427 hR_w_427 hL_w_427 hK_w_427 hN_w_427 hT_w_427 w_428 hR_w_428 hL_w_428 hK_w_428 hN_w_428 hT_w_428 fr bb ba nn (by omega) (by omega) (by omega) (by omega) (by omega) (by omega) (by omega)) (cwV 0 hts (tw_V tw_909 tw_910 tw_911 tw_5 tw_912) rfl rfl rfl (by decide +kernel) ⟨Nat.le_of_ble_eq_true rfl, Nat.le_of_ble_eq_true rfl⟩) ⟨pq_blind, pq_recv hK hP hL_this hK_this (by decide) rfl, pq_pre hK hN hP hD⟩ rfl rfl hl.1 rfl (lv_room (Nat.le_of_ble_eq_true rfl)) dX12_beginOne_76 ⟨Nat.le_of_ble_eq_true rfl, Nat.le_of_ble_eq_true rfl⟩) hD hS hA (fun σ1 μ1 H locs hw_446 hP hD hS => ?_)
            obtain ⟨I_447, ri_448, hu_449, hg_450, hp_452, hp_453, hp_454, hp_455⟩ := hw_446
            obtain ⟨hu_449a, hu_449b⟩ := Prod.mk.inj hu_449
            rw [hu_449a, hu_449b] at hP hD
            have hG := GM.tr hG hg_450 (by decide)
            refine lv_iconst (v := 0) hx hb dX12_beginOne_79 (by decide) ?_
            subst hQ
            exact W.iret (v := 0) hx hb hr (fun t1 ht hW => ⟨⟨0, (σ, I_447, J_441, ri_448, rj, rq), rfl, ⟨I_447, J_441, ri_448, rfl, hG, (rg_w (rg_k (0 : Int32) 0 rfl) (by decide))⟩, by rw [ht]; exact hP, va_K.moved hW.alike hK, hD⟩, hS.F ht⟩) hS.2.2 dX12_beginOne_80
          refine lv_icmp_ne (tgt := 64) hx hb dX12_beginOne_54 (by decide) (fun c_456 => ?_) (fun c_456 => ?_)
          · have tc_457 : (I 393 this).toInt ≠ 1 := fun q => c_456 (Int32.toInt_inj.mp q)
            refine lv_aload_n hx hb dX12_beginOne_64 rfl (lv_at hl 0 rfl) ?_
            refine pk_i (va_runV (As := []) (rest := [.int 1, .ref this]) ⟨hx, hb, hml, hown, hts⟩ (s_X12_nameOf l D t σ I J ri rj rq H.size tg hSH hG.1 this hL_this hK_this) (cwV 0 hts (tw_V tw_921 tw_922 tw_923 tw_5 tw_924) rfl rfl rfl (by decide +kernel) ⟨Nat.le_of_ble_eq_true rfl, Nat.le_of_ble_eq_true rfl⟩) ⟨pq_blind, pq_recv hK hP hL_this hK_this (by decide) rfl, pq_pre hK hN hP hD⟩ rfl rfl hl.1 rfl (lv_room (Nat.le_of_ble_eq_true rfl)) dX12_beginOne_65 ⟨Nat.le_of_ble_eq_true rfl, Nat.le_of_ble_eq_true rfl⟩) hD hS hA (fun x_458 σ1 μ1 H locs hw_459 hP hD hS => ?_)
            obtain ⟨hu_460, hr_462⟩ := hw_459
            obtain ⟨hu_460a, hu_460b⟩ := Prod.mk.inj hu_460
            rw [hu_460a, hu_460b] at hP hD
            exact K_426 x_458 _ _ _ hG hP hD hS (lv_sub hl [0] rfl)
          · have tc_463 : (I 393 this).toInt = 1 := congrArg Int32.toInt c_456
            have h_464 : rg (I 393 this) 1 1 := rg_and (rg_full _) (rg_of_eq c_456 (rg_k (1 : Int32) 1 rfl)) (by decide)
            have uh_464 := h_464.1
            have vh_464 := h_464.2
            refine lv_aload_n hx hb dX12_beginOne_57 rfl (lv_at hl 0 rfl) ?_
            refine pg_f (v := .int (I 394 this)) (C := RX12) (T := TX12) (N := 31) hx hb hts (tw_i inlX12) hown hK hP hL_this hK_this (by decide) rfl 10 (by decide) (hts _ (tw_c tw_836)) rfl dX12_beginOne_58 ?_
            refine lv_goto (tgt := 68) hx hb dX12_beginOne_61 (by decide) ?_
            exact K_426 (I 394 this) _ _ _ hG hP hD hS (lv_sub hl [0] rfl)
        have K_465 : ∀  (H : Heap) (locs : List Loc) (ls : Array Slot), rg (I 393 this) 1 1 → GM [402, 401, 391, 392, 393, 398] tg σ I ri I ri rq → va_P D vwCl (pq_P t σ (I, J, ri, rj, rq)) H → va_D A (pq_P t σ (I, J, ri, rj, rq)) → va_S A s.heap H locs → lv_has ls 1 [(0, .ref this)] → W p l e ({ frames := 4, cells := 0, slots := 0, locals := 89 } : Room) s m (List.toArray ([.ref this] : List Value)) below meth c H locs 0 0 Q (F0 m 49 ls [.int 0, .ref this]) := by
          intro H locs ls h_467 hG hP hD hS hl
          have uh_467 := h_467.1
          have vh_467 := h_467.2
          refine lv_aload_n hx hb dX12_beginOne_49 rfl (lv_at hl 0 rfl) ?_
          refine pg_f (v := .int (I 393 this)) (C := RX12) (T := TX12) (N := 31) hx hb hts (tw_i inlX12) hown hK hP hL_this hK_this (by decide) rfl 9 (by decide) (hts _ (tw_c tw_831)) rfl dX12_beginOne_50 ?_
          refine lv_iconst (v := 1) hx hb dX12_beginOne_53 (by decide) ?_
          have K_500 : ∀  (H : Heap) (locs : List Loc) (ls : Array Slot), GM [402, 401, 391, 392, 393, 398] tg σ I ri I ri rq → va_P D vwCl (pq_P t σ (I, J, ri, rj, rq)) H → va_D A (pq_P t σ (I, J, ri, rj, rq)) → va_S A s.heap H locs → lv_has ls 1 [(0, .ref this)] → W p l e ({ frames := 4, cells := 0, slots := 0, locals := 89 } : Room) s m (List.toArray ([.ref this] : List Value)) below meth c H locs 0 0 Q (F0 m 68 ls [.int (I 394 this), .int 0, .ref this]) := by
            intro H locs ls hG hP hD hS hl
            obtain ⟨w_501, hR_w_501, hL_w_501, hK_w_501, hN_w_501, hT_w_501⟩ := sh_a hSH 384 (ci := 12) (kd := 13) (len := 12720) rfl (by decide) hL_this hK_this
            obtain ⟨w_502, hR_w_502, hL_w_502, hK_w_502, hN_w_502, hT_w_502⟩ := sh_a hSH 400 (ci := 12) (kd := 13) (len := 160) rfl (by decide) hL_this hK_this
            refine pk_v (va_runV (As := [.int 0, .int (I 394 this)]) (rest := []) ⟨hx, hb, hml, hown, hts⟩ (s_X12_emit l D t σ I J ri rj rq H.size tg hSH hG.1 this (0 : Int32) (I 394 this) hL_this hK_this w_501 hR_w_501 hL_w_501 hK_w_501 hN_w_501 hT_w_501 w_502 hR_w_502 hL_w_502 hK_w_502 hN_w_502 hT_w_502 fr bb (by omega) (by omega) (by assumption) (by omega) (by omega)) (cwV 2 hts (tw_V tw_905 tw_906 tw_907 tw_5 tw_908) rfl rfl rfl (by decide +kernel) ⟨Nat.le_of_ble_eq_true rfl, Nat.le_of_ble_eq_true rfl⟩) ⟨pq_blind, pq_recv hK hP hL_this hK_this (by decide) rfl, pq_pre hK hN hP hD⟩ rfl rfl hl.1 rfl (lv_room (Nat.le_of_ble_eq_true rfl)) dX12_beginOne_68 ⟨Nat.le_of_ble_eq_true rfl, Nat.le_of_ble_eq_true rfl⟩) hD hS hA (fun σ1 μ1 H locs hw_504 hP hD hS => ?_)
            obtain ⟨I_505, ri_506, hu_507, hg_508, hp_510, hp_511⟩ := hw_504
            obtain ⟨hu_507a, hu_507b⟩ := Prod.mk.inj hu_507
            rw [hu_507a, hu_507b] at hP hD
            obtain ⟨twhp_510, tokhp_510, te1, te2, te3, te4, te5, te6⟩ := hp_510
            have hG := GM.tr hG hg_508 (by decide)
            refine lv_aload_n hx hb dX12_beginOne_71 rfl (lv_at hl 0 rfl) ?_
            refine pk_v (va_runV (As := []) (rest := []) ⟨hx, hb, hml, hown, hts⟩ (s_X12_nextToken l D t σ I_505 J ri_506 rj rq H.size tg hSH hG.1 this hL_this hK_this) (cwV 0 hts (tw_V tw_832 tw_833 tw_834 tw_5 tw_835) rfl rfl rfl (by decide +kernel) ⟨Nat.le_of_ble_eq_true rfl, Nat.le_of_ble_eq_true rfl⟩) ⟨pq_blind, pq_recv hK hP hL_this hK_this (by decide) rfl, pq_pre hK hN hP hD⟩ rfl rfl hl.1 rfl (lv_room (Nat.le_of_ble_eq_true rfl)) dX12_beginOne_72 ⟨Nat.le_of_ble_eq_true rfl, Nat.le_of_ble_eq_true rfl⟩) hD hS hA (fun σ1 μ1 H locs hw_513 hP hD hS => ?_)
            obtain ⟨I_514, J_515, hu_516, hg_517⟩ := hw_513
            obtain ⟨hu_516a, hu_516b⟩ := Prod.mk.inj hu_516
            rw [hu_516a, hu_516b] at hP hD
            have hG := GM.tr hG hg_517 (by decide)
            refine lv_aload_n hx hb dX12_beginOne_75 rfl (lv_at hl 0 rfl) ?_
            refine pk_v (va_runV (As := []) (rest := []) ⟨hx, hb, hml, hown, hts⟩ (s_X12_whole l D t σ I_514 J_515 ri_506 rj rq H.size tg hSH hG.1 this hL_this hK_this w_501 hR_w_501 hL_w_501 hK_w_501 hN_w_501 hT_w_501 w_502 hR_w_502 hL_w_502 hK_w_502 hN_w_502 hT_w_502 fr bb ba nn (by omega) (by omega) (by omega) (by omega) (by omega) (by omega) (by omega)) (cwV 0 hts (tw_V tw_909 tw_910 tw_911 tw_5 tw_912) rfl rfl rfl (by decide +kernel) ⟨Nat.le_of_ble_eq_true rfl, Nat.le_of_ble_eq_true rfl⟩) ⟨pq_blind, pq_recv hK hP hL_this hK_this (by decide) rfl, pq_pre hK hN hP hD⟩ rfl rfl hl.1 rfl (lv_room (Nat.le_of_ble_eq_true rfl)) dX12_beginOne_76 ⟨Nat.le_of_ble_eq_true rfl, Nat.le_of_ble_eq_true rfl⟩) hD hS hA (fun σ1 μ1 H locs hw_520 hP hD hS => ?_)
            obtain ⟨I_521, ri_522, hu_523, hg_524, hp_526, hp_527, hp_528, hp_529⟩ := hw_520
            obtain ⟨hu_523a, hu_523b⟩ := Prod.mk.inj hu_523
            rw [hu_523a, hu_523b] at hP hD
            have hG := GM.tr hG hg_524 (by decide)
            refine lv_iconst (v := 0) hx hb dX12_beginOne_79 (by decide) ?_
            subst hQ
            exact W.iret (v := 0) hx hb hr (fun t1 ht hW => ⟨⟨0, (σ, I_521, J_515, ri_522, rj, rq), rfl, ⟨I_521, J_515, ri_522, rfl, hG, (rg_w (rg_k (0 : Int32) 0 rfl) (by decide))⟩, by rw [ht]; exact hP, va_K.moved hW.alike hK, hD⟩, hS.F ht⟩) hS.2.2 dX12_beginOne_80
          refine lv_icmp_ne (tgt := 64) hx hb dX12_beginOne_54 (by decide) (fun c_530 => ?_) (fun c_530 => ?_)
          · have tc_531 : (I 393 this).toInt ≠ 1 := fun q => c_530 (Int32.toInt_inj.mp q)
            exact (rg_empty (rg_ne c_530 h_467 1 rfl (lo := 2) (hi := 0) (by decide)) (by decide)).elim
          · have tc_532 : (I 393 this).toInt = 1 := congrArg Int32.toInt c_530
            refine lv_aload_n hx hb dX12_beginOne_57 rfl (lv_at hl 0 rfl) ?_
            refine pg_f (v := .int (I 394 this)) (C := RX12) (T := TX12) (N := 31) hx hb hts (tw_i inlX12) hown hK hP hL_this hK_this (by decide) rfl 10 (by decide) (hts _ (tw_c tw_836)) rfl dX12_beginOne_58 ?_
            refine lv_goto (tgt := 68) hx hb dX12_beginOne_61 (by decide) ?_
            exact K_500 _ _ _ hG hP hD hS (lv_sub hl [0] rfl)
        refine lv_icmp_ne (tgt := 48) hx hb dX12_beginOne_41 (by decide) (fun c_533 => ?_) (fun c_533 => ?_)
        · have tc_534 : (I 393 this).toInt ≠ 1 := fun q => c_533 (Int32.toInt_inj.mp q)
          refine lv_iconst (v := 1) hx hb dX12_beginOne_48 (by decide) ?_
          exact K_386 _ _ _ hG hP hD hS (lv_sub hl [0] rfl)
        · have tc_535 : (I 393 this).toInt = 1 := congrArg Int32.toInt c_533
          have h_536 : rg (I 393 this) 1 1 := rg_and (rg_full _) (rg_of_eq c_533 (rg_k (1 : Int32) 1 rfl)) (by decide)
          have uh_536 := h_536.1
          have vh_536 := h_536.2
          refine lv_iconst (v := 0) hx hb dX12_beginOne_44 (by decide) ?_
          refine lv_goto (tgt := 49) hx hb dX12_beginOne_45 (by decide) ?_
          exact K_465 _ _ _ (rg_w h_536 (by decide)) hG hP hD hS (lv_sub hl [0] rfl)
      refine lv_icmp_eq (tgt := 35) hx hb dX12_beginOne_25 (by decide) (fun c_537 => ?_) (fun c_537 => ?_)
      · have tc_538 : (I 393 this).toInt = 1 := congrArg Int32.toInt c_537
        have h_539 : rg (I 393 this) 1 1 := rg_and (rg_full _) (rg_of_eq c_537 (rg_k (1 : Int32) 1 rfl)) (by decide)
        have uh_539 := h_539.1
        have vh_539 := h_539.2
        exact K_309 _ _ _ hG hP hD hS (lv_sub hl [0] rfl)
      · have tc_540 : (I 393 this).toInt ≠ 1 := fun q => c_537 (Int32.toInt_inj.mp q)
        refine lv_aload_n hx hb dX12_beginOne_28 rfl (lv_at hl 0 rfl) ?_
        refine pk_i (va_runV (As := []) (rest := []) ⟨hx, hb, hml, hown, hts⟩ (s_X12_nameOf l D t σ I J ri rj rq H.size tg hSH hG.1 this hL_this hK_this) (cwV 0 hts (tw_V tw_921 tw_922 tw_923 tw_5 tw_924) rfl rfl rfl (by decide +kernel) ⟨Nat.le_of_ble_eq_true rfl, Nat.le_of_ble_eq_true rfl⟩) ⟨pq_blind, pq_recv hK hP hL_this hK_this (by decide) rfl, pq_pre hK hN hP hD⟩ rfl rfl hl.1 rfl (lv_room (Nat.le_of_ble_eq_true rfl)) dX12_beginOne_29 ⟨Nat.le_of_ble_eq_true rfl, Nat.le_of_ble_eq_true rfl⟩) hD hS hA (fun x_541 σ1 μ1 H locs hw_542 hP hD hS => ?_)
        obtain ⟨hu_543, hr_545⟩ := hw_542
        obtain ⟨hu_543a, hu_543b⟩ := Prod.mk.inj hu_543
        rw [hu_543a, hu_543b] at hP hD
        refine lv_if_lt (tgt := 81) hx hb dX12_beginOne_32 (by decide) (fun c_546 => ?_) (fun c_546 => ?_)
        · have tc_547 : (x_541).toInt < 0 := Int32.lt_iff_toInt_lt.mp c_546
          have h_548 : rg x_541 (-1) (-1) := rg_lt1 c_546 hr_545 (rg_k (0 : Int32) 0 rfl) (by decide)
          have uh_548 := h_548.1
          have vh_548 := h_548.2
          refine lv_aload_n hx hb dX12_beginOne_81 rfl (lv_at hl 0 rfl) ?_
          refine pg_f (v := .int (I 393 this)) (C := RX12) (T := TX12) (N := 31) hx hb hts (tw_i inlX12) hown hK hP hL_this hK_this (by decide) rfl 9 (by decide) (hts _ (tw_c tw_831)) rfl dX12_beginOne_82 ?_
          refine lv_bipush (v := 40) hx hb dX12_beginOne_85 (by decide) ?_
          have K_608 : ∀  (H : Heap) (locs : List Loc) (ls : Array Slot), rg (I 393 this) 40 45 → GM [402, 401, 391, 392, 393, 398] tg σ I ri I ri rq → va_P D vwCl (pq_P t σ (I, J, ri, rj, rq)) H → va_D A (pq_P t σ (I, J, ri, rj, rq)) → va_S A s.heap H locs → lv_has ls 1 [(0, .ref this)] → W p l e ({ frames := 4, cells := 0, slots := 0, locals := 89 } : Room) s m (List.toArray ([.ref this] : List Value)) below meth c H locs 0 0 Q (F0 m 101 ls []) := by
            intro H locs ls h_610 hG hP hD hS hl
            have uh_610 := h_610.1
            have vh_610 := h_610.2
            refine lv_aload_n hx hb dX12_beginOne_101 rfl (lv_at hl 0 rfl) ?_
            refine pg_f (v := .int (I 402 this)) (C := RX12) (T := TX12) (N := 31) hx hb hts (tw_i inlX12) hown hK hP hL_this hK_this (by decide) rfl 18 (by decide) (hts _ (tw_c tw_828)) rfl dX12_beginOne_102 ?_
            refine lv_bipush (v := 8) hx hb dX12_beginOne_105 (by decide) ?_
            refine lv_icmp_ne (tgt := 112) hx hb dX12_beginOne_107 (by decide) (fun c_611 => ?_) (fun c_611 => ?_)
            · have tc_612 : (I 402 this).toInt ≠ 8 := fun q => c_611 (Int32.toInt_inj.mp q)
              refine lv_aload_n hx hb dX12_beginOne_112 rfl (lv_at hl 0 rfl) ?_
              refine lv_dup hx hb dX12_beginOne_113 rfl ?_
              refine pg_f (v := .int (I 402 this)) (C := RX12) (T := TX12) (N := 31) hx hb hts (tw_i inlX12) hown hK hP hL_this hK_this (by decide) rfl 18 (by decide) (hts _ (tw_c tw_828)) rfl dX12_beginOne_114 ?_
              refine lv_iconst (v := 1) hx hb dX12_beginOne_117 (by decide) ?_
              refine lv_iadd hx hb dX12_beginOne_118 ?_
              refine lv_topi (fun x_613 ex_613 => ?_)
              refine pp_i (v := x_613) (ty := .int) (C := RX12) (T := TX12) (N := 31) hx hb hts (tw_i inlX12) tyX12 tyX12_ok nmX12 hown hK hP hD hS hL_this hK_this (by decide) rfl 18 402 (by decide) (hts _ (tw_c tw_828)) rfl (by decide +kernel) rfl rfl (Nat.le_of_ble_eq_true rfl) (ps_402 _ _ _ _ _) dX12_beginOne_119 (fun I_614 H locs eI_614 hP hD hS => ?_)
              have hG := GM.wI hG 402 rfl eI_614 (rg_w (rg_full _) (by decide)) (by decide)
              refine lv_aload_n hx hb dX12_beginOne_122 rfl (lv_at hl 0 rfl) ?_
              refine lv_aload_n hx hb dX12_beginOne_123 rfl (lv_at hl 0 rfl) ?_
              refine pg_f (v := .int (I_614 393 this)) (C := RX12) (T := TX12) (N := 31) hx hb hts (tw_i inlX12) hown hK hP hL_this hK_this (by decide) rfl 9 (by decide) (hts _ (tw_c tw_831)) rfl dX12_beginOne_124 ?_
              have h_615 : rg (I_614 393 this) 40 45 := (by rw [eI_614, pq_uf _ _ _ (by decide)]; exact h_610)
              have uh_615 := h_615.1
              have vh_615 := h_615.2
              refine lv_bipush (v := 40) hx hb dX12_beginOne_127 (by decide) ?_
              have K_659 : ∀  (H : Heap) (locs : List Loc) (ls : Array Slot), rg (I_614 393 this) 41 45 → GM [402, 401, 391, 392, 393, 398] tg σ I ri I_614 ri rq → va_P D vwCl (pq_P t σ (I_614, J, ri, rj, rq)) H → va_D A (pq_P t σ (I_614, J, ri, rj, rq)) → va_S A s.heap H locs → lv_has ls 1 [(0, .ref this)] → W p l e ({ frames := 4, cells := 0, slots := 0, locals := 89 } : Room) s m (List.toArray ([.ref this] : List Value)) below meth c H locs 0 0 Q (F0 m 138 ls [.int 2, .ref this]) := by
                intro H locs ls h_661 hG hP hD hS hl
                have uh_661 := h_661.1
                have vh_661 := h_661.2
                obtain ⟨w_662, hR_w_662, hL_w_662, hK_w_662, hN_w_662, hT_w_662⟩ := sh_a hSH 400 (ci := 12) (kd := 13) (len := 160) rfl (by decide) hL_this hK_this
                refine pk_v (va_runV (As := [.int 2]) (rest := []) ⟨hx, hb, hml, hown, hts⟩ (s_X12_push l D t σ I_614 J ri rj rq H.size tg hSH hG.1 this (2 : Int32) hL_this hK_this (rg_w (rg_k (2 : Int32) 2 rfl) (by decide)) w_662 hR_w_662 hL_w_662 hK_w_662 hN_w_662 hT_w_662 (by omega)) (cwV 1 hts (tw_V tw_913 tw_914 tw_915 tw_5 tw_916) rfl rfl rfl (by decide +kernel) ⟨Nat.le_of_ble_eq_true rfl, Nat.le_of_ble_eq_true rfl⟩) ⟨pq_blind, pq_recv hK hP hL_this hK_this (by decide) rfl, pq_pre hK hN hP hD⟩ rfl rfl hl.1 rfl (lv_room (Nat.le_of_ble_eq_true rfl)) dX12_beginOne_138 ⟨Nat.le_of_ble_eq_true rfl, Nat.le_of_ble_eq_true rfl⟩) hD hS hA (fun σ1 μ1 H locs hw_664 hP hD hS => ?_)
                obtain ⟨I_665, ri_666, hu_667, hg_668, hp_670, hp_671, hp_672⟩ := hw_664
                obtain ⟨hu_667a, hu_667b⟩ := Prod.mk.inj hu_667
                rw [hu_667a, hu_667b] at hP hD
                have hG := GM.tr hG hg_668 (by decide)
                refine lv_aload_n hx hb dX12_beginOne_141 rfl (lv_at hl 0 rfl) ?_
                refine pk_v (va_runV (As := []) (rest := []) ⟨hx, hb, hml, hown, hts⟩ (s_X12_nextToken l D t σ I_665 J ri_666 rj rq H.size tg hSH hG.1 this hL_this hK_this) (cwV 0 hts (tw_V tw_832 tw_833 tw_834 tw_5 tw_835) rfl rfl rfl (by decide +kernel) ⟨Nat.le_of_ble_eq_true rfl, Nat.le_of_ble_eq_true rfl⟩) ⟨pq_blind, pq_recv hK hP hL_this hK_this (by decide) rfl, pq_pre hK hN hP hD⟩ rfl rfl hl.1 rfl (lv_room (Nat.le_of_ble_eq_true rfl)) dX12_beginOne_142 ⟨Nat.le_of_ble_eq_true rfl, Nat.le_of_ble_eq_true rfl⟩) hD hS hA (fun σ1 μ1 H locs hw_674 hP hD hS => ?_)
                obtain ⟨I_675, J_676, hu_677, hg_678⟩ := hw_674
                obtain ⟨hu_677a, hu_677b⟩ := Prod.mk.inj hu_677
                rw [hu_677a, hu_677b] at hP hD
                have hG := GM.tr hG hg_678 (by decide)
                refine lv_iconst (v := 0) hx hb dX12_beginOne_145 (by decide) ?_
                subst hQ
                exact W.iret (v := 0) hx hb hr (fun t1 ht hW => ⟨⟨0, (σ, I_675, J_676, ri_666, rj, rq), rfl, ⟨I_675, J_676, ri_666, rfl, hG, (rg_w (rg_k (0 : Int32) 0 rfl) (by decide))⟩, by rw [ht]; exact hP, va_K.moved hW.alike hK, hD⟩, hS.F ht⟩) hS.2.2 dX12_beginOne_146
              have K_680 : ∀  (H : Heap) (locs : List Loc) (ls : Array Slot), rg (I_614 393 this) 40 40 → GM [402, 401, 391, 392, 393, 398] tg σ I ri I_614 ri rq → va_P D vwCl (pq_P t σ (I_614, J, ri, rj, rq)) H → va_D A (pq_P t σ (I_614, J, ri, rj, rq)) → va_S A s.heap H locs → lv_has ls 1 [(0, .ref this)] → W p l e ({ frames := 4, cells := 0, slots := 0, locals := 89 } : Room) s m (List.toArray ([.ref this] : List Value)) below meth c H locs 0 0 Q (F0 m 138 ls [.int 40, .ref this]) := by
                intro H locs ls h_682 hG hP hD hS hl
                have uh_682 := h_682.1
                have vh_682 := h_682.2
                obtain ⟨w_683, hR_w_683, hL_w_683, hK_w_683, hN_w_683, hT_w_683⟩ := sh_a hSH 400 (ci := 12) (kd := 13) (len := 160) rfl (by decide) hL_this hK_this
                refine pk_v (va_runV (As := [.int 40]) (rest := []) ⟨hx, hb, hml, hown, hts⟩ (s_X12_push l D t σ I_614 J ri rj rq H.size tg hSH hG.1 this (40 : Int32) hL_this hK_this (rg_w (rg_k (40 : Int32) 40 rfl) (by decide)) w_683 hR_w_683 hL_w_683 hK_w_683 hN_w_683 hT_w_683 (by omega)) (cwV 1 hts (tw_V tw_913 tw_914 tw_915 tw_5 tw_916) rfl rfl rfl (by decide +kernel) ⟨Nat.le_of_ble_eq_true rfl, Nat.le_of_ble_eq_true rfl⟩) ⟨pq_blind, pq_recv hK hP hL_this hK_this (by decide) rfl, pq_pre hK hN hP hD⟩ rfl rfl hl.1 rfl (lv_room (Nat.le_of_ble_eq_true rfl)) dX12_beginOne_138 ⟨Nat.le_of_ble_eq_true rfl, Nat.le_of_ble_eq_true rfl⟩) hD hS hA (fun σ1 μ1 H locs hw_685 hP hD hS => ?_)
                obtain ⟨I_686, ri_687, hu_688, hg_689, hp_691, hp_692, hp_693⟩ := hw_685
                obtain ⟨hu_688a, hu_688b⟩ := Prod.mk.inj hu_688
                rw [hu_688a, hu_688b] at hP hD
                have hG := GM.tr hG hg_689 (by decide)
                refine lv_aload_n hx hb dX12_beginOne_141 rfl (lv_at hl 0 rfl) ?_
                refine pk_v (va_runV (As := []) (rest := []) ⟨hx, hb, hml, hown, hts⟩ (s_X12_nextToken l D t σ I_686 J ri_687 rj rq H.size tg hSH hG.1 this hL_this hK_this) (cwV 0 hts (tw_V tw_832 tw_833 tw_834 tw_5 tw_835) rfl rfl rfl (by decide +kernel) ⟨Nat.le_of_ble_eq_true rfl, Nat.le_of_ble_eq_true rfl⟩) ⟨pq_blind, pq_recv hK hP hL_this hK_this (by decide) rfl, pq_pre hK hN hP hD⟩ rfl rfl hl.1 rfl (lv_room (Nat.le_of_ble_eq_true rfl)) dX12_beginOne_142 ⟨Nat.le_of_ble_eq_true rfl, Nat.le_of_ble_eq_true rfl⟩) hD hS hA (fun σ1 μ1 H locs hw_695 hP hD hS => ?_)
                obtain ⟨I_696, J_697, hu_698, hg_699⟩ := hw_695
                obtain ⟨hu_698a, hu_698b⟩ := Prod.mk.inj hu_698
                rw [hu_698a, hu_698b] at hP hD
                have hG := GM.tr hG hg_699 (by decide)
                refine lv_iconst (v := 0) hx hb dX12_beginOne_145 (by decide) ?_
                subst hQ
                exact W.iret (v := 0) hx hb hr (fun t1 ht hW => ⟨⟨0, (σ, I_696, J_697, ri_687, rj, rq), rfl, ⟨I_696, J_697, ri_687, rfl, hG, (rg_w (rg_k (0 : Int32) 0 rfl) (by decide))⟩, by rw [ht]; exact hP, va_K.moved hW.alike hK, hD⟩, hS.F ht⟩) hS.2.2 dX12_beginOne_146
              refine lv_icmp_ne (tgt := 137) hx hb dX12_beginOne_129 (by decide) (fun c_701 => ?_) (fun c_701 => ?_)
              · have tc_702 : (I_614 393 this).toInt ≠ 40 := fun q => c_701 (Int32.toInt_inj.mp q)
                have h_703 : rg (I_614 393 this) 41 45 := rg_ne c_701 h_615 40 rfl (by decide)
                have uh_703 := h_703.1
                have vh_703 := h_703.2
                refine lv_iconst (v := 2) hx hb dX12_beginOne_137 (by decide) ?_
                exact K_659 _ _ _ (rg_w h_703 (by decide)) hG hP hD hS (lv_sub hl [0] rfl)
              · have tc_704 : (I_614 393 this).toInt = 40 := congrArg Int32.toInt c_701
                have h_705 : rg (I_614 393 this) 40 40 := rg_and h_615 (rg_of_eq c_701 (rg_k (40 : Int32) 40 rfl)) (by decide)
                have uh_705 := h_705.1
                have vh_705 := h_705.2
                refine lv_bipush (v := 40) hx hb dX12_beginOne_132 (by decide) ?_
                refine lv_goto (tgt := 138) hx hb dX12_beginOne_134 (by decide) ?_
                exact K_680 _ _ _ (rg_w h_705 (by decide)) hG hP hD hS (lv_sub hl [0] rfl)
            · have tc_706 : (I 402 this).toInt = 8 := congrArg Int32.toInt c_611
              have h_707 : rg (I 402 this) 8 8 := rg_and (rg_full _) (rg_of_eq c_611 (rg_k (8 : Int32) 8 rfl)) (by decide)
              have uh_707 := h_707.1
              have vh_707 := h_707.2
              refine lv_iconst (v := 3) hx hb dX12_beginOne_110 (by decide) ?_
              subst hQ
              exact W.iret (v := 3) hx hb hr (fun t1 ht hW => ⟨⟨3, (σ, I, J, ri, rj, rq), rfl, ⟨I, J, ri, rfl, hG, (rg_w (rg_k (3 : Int32) 3 rfl) (by decide))⟩, by rw [ht]; exact hP, va_K.moved hW.alike hK, hD⟩, hS.F ht⟩) hS.2.2 dX12_beginOne_111
          refine lv_icmp_eq (tgt := 101) hx hb dX12_beginOne_87 (by decide) (fun c_708 => ?_) (fun c_708 => ?_)
          · have tc_709 : (I 393 this).toInt = 40 := congrArg Int32.toInt c_708
            have h_710 : rg (I 393 this) 40 40 := rg_and (rg_full _) (rg_of_eq c_708 (rg_k (40 : Int32) 40 rfl)) (by decide)
            have uh_710 := h_710.1
            have vh_710 := h_710.2
            exact K_608 _ _ _ (rg_w h_710 (by decide)) hG hP hD hS (lv_sub hl [0] rfl)
          · have tc_711 : (I 393 this).toInt ≠ 40 := fun q => c_708 (Int32.toInt_inj.mp q)
            refine lv_aload_n hx hb dX12_beginOne_90 rfl (lv_at hl 0 rfl) ?_
            refine pg_f (v := .int (I 393 this)) (C := RX12) (T := TX12) (N := 31) hx hb hts (tw_i inlX12) hown hK hP hL_this hK_this (by decide) rfl 9 (by decide) (hts _ (tw_c tw_831)) rfl dX12_beginOne_91 ?_
            refine lv_bipush (v := 45) hx hb dX12_beginOne_94 (by decide) ?_
            refine lv_icmp_eq (tgt := 101) hx hb dX12_beginOne_96 (by decide) (fun c_712 => ?_) (fun c_712 => ?_)
            · have tc_713 : (I 393 this).toInt = 45 := congrArg Int32.toInt c_712
              have h_714 : rg (I 393 this) 45 45 := rg_and (rg_full _) (rg_of_eq c_712 (rg_k (45 : Int32) 45 rfl)) (by decide)
              have uh_714 := h_714.1
              have vh_714 := h_714.2
              exact K_608 _ _ _ (rg_w h_714 (by decide)) hG hP hD hS (lv_sub hl [0] rfl)
            · have tc_715 : (I 393 this).toInt ≠ 45 := fun q => c_712 (Int32.toInt_inj.mp q)
              refine lv_iconst (v := 1) hx hb dX12_beginOne_99 (by decide) ?_
              subst hQ
              exact W.iret (v := 1) hx hb hr (fun t1 ht hW => ⟨⟨1, (σ, I, J, ri, rj, rq), rfl, ⟨I, J, ri, rfl, hG, (rg_w (rg_k (1 : Int32) 1 rfl) (by decide))⟩, by rw [ht]; exact hP, va_K.moved hW.alike hK, hD⟩, hS.F ht⟩) hS.2.2 dX12_beginOne_100
        · have tc_716 : 0 ≤ (x_541).toInt := Int32.le_iff_toInt_le.mp (nlt c_546)
          have h_717 : rg x_541 0 5 := rg_le2 (nlt c_546) (rg_k (0 : Int32) 0 rfl) hr_545 (by decide)
          have uh_717 := h_717.1
          have vh_717 := h_717.2
          exact K_309 _ _ _ hG hP hD hS (lv_sub hl [0] rfl)
    refine lv_icmp_ne (tgt := 20) hx hb dX12_beginOne_5 (by decide) (fun c_718 => ?_) (fun c_718 => ?_)
    · have tc_719 : (I 393 this).toInt ≠ 1 := fun q => c_718 (Int32.toInt_inj.mp q)
      exact K_159 _ _ _ hG hP hD hS (lv_sub hl [0] rfl)
    · have tc_720 : (I 393 this).toInt = 1 := congrArg Int32.toInt c_718
      have h_721 : rg (I 393 this) 1 1 := rg_and (rg_full _) (rg_of_eq c_718 (rg_k (1 : Int32) 1 rfl)) (by decide)
      have uh_721 := h_721.1
      have vh_721 := h_721.2
      refine lv_aload_n hx hb dX12_beginOne_8 rfl (lv_at hl 0 rfl) ?_
      refine pg_f (v := .int (I 394 this)) (C := RX12) (T := TX12) (N := 31) hx hb hts (tw_i inlX12) hown hK hP hL_this hK_this (by decide) rfl 10 (by decide) (hts _ (tw_c tw_836)) rfl dX12_beginOne_9 ?_
      refine lv_sipush (v := 9999) hx hb dX12_beginOne_12 (by decide) ?_
      refine lv_icmp_le (tgt := 20) hx hb dX12_beginOne_15 (by decide) (fun c_722 => ?_) (fun c_722 => ?_)
      · have tc_723 : (I 394 this).toInt ≤ 9999 := Int32.le_iff_toInt_le.mp c_722
        have h_724 : rg (I 394 this) (-2147483648) 9999 := rg_le1 c_722 (rg_full _) (rg_k (9999 : Int32) 9999 rfl) (by decide)
        have uh_724 := h_724.1
        have vh_724 := h_724.2
        exact K_159 _ _ _ hG hP hD hS (lv_sub hl [0] rfl)
      · have tc_725 : 9999 < (I 394 this).toInt := Int32.lt_iff_toInt_lt.mp (nle c_722)
        have h_726 : rg (I 394 this) 10000 2147483647 := rg_lt2 (nle c_722) (rg_k (9999 : Int32) 9999 rfl) (rg_full _) (by decide)
        have uh_726 := h_726.1
        have vh_726 := h_726.2
        refine lv_iconst (v := 2) hx hb dX12_beginOne_18 (by decide) ?_
        subst hQ
        exact W.iret (v := 2) hx hb hr (fun t1 ht hW => ⟨⟨2, (σ, I, J, ri, rj, rq), rfl, ⟨I, J, ri, rfl, hG, (rg_w (rg_k (2 : Int32) 2 rfl) (by decide))⟩, by rw [ht]; exact hP, va_K.moved hW.alike hK, hD⟩, hS.F ht⟩) hS.2.2 dX12_beginOne_19
  exact go _ _ _ hP hD hS hl

set_option maxHeartbeats 4000000 in
set_option maxRecDepth 100000 in
theorem s_X12_behindOne (l : Launch) (D : va_G) (t : pq_T) (σ : pq_S) (I : Nat → Nat → Int32) (J : Nat → Nat → Int64) (ri : Nat → Nat → Int32) (rj : Nat → Nat → Int64) (rq : Nat → Nat → Option Nat) (sz : Nat) (tg : Nat → Nat) (hSH : SH σ tg) (hG0 : GT tg I ri) (this : Nat) (hL_this : this ∈ σ.1) (hK_this : σ.2.1 this = 12) : MetV l yX12_behindOne (wa yX12_behindOne cX12_behindOne 3 none) ({ frames := 3, cells := 0, slots := 0, locals := 64 }) [.ref this] D t σ (I, J, ri, rj, rq) sz 0 0 (fun (u : pq_S × pq_M) => ∃ I' : Nat → Nat → Int32, ∃ J' : Nat → Nat → Int64, ∃ ri' : Nat → Nat → Int32, u = (σ, I', J', ri', rj, rq) ∧ GM [391, 392, 393, 401, 398, 402] tg σ I ri I' ri' rq) := by
  refine Met.ofW (cc := cX12_behindOne) (maxL := 3) (ret := none) (by decide) rfl ?_
  intro p e s m args below meth c s₁ B hml hv
  obtain ⟨rfl, hsz, hP, hK, hD0, hN⟩ := hv
  have hx := B.exec
  have hb := B.bytes
  have hr := B.returns
  have hts := atoms_spec (ws := (wa yX12_behindOne cX12_behindOne 3 none)) B.pre
  have hown : s.vm.findClass RX12 = some m.cls := findClass_of_methodNamed B.named
  have hlocks := B.notSynchronized
  subst hsz
  have hD : va_D (pq_B t σ (I, J, ri, rj, rq) s.heap.size) (pq_P t σ (I, J, ri, rj, rq)) := hD0.self
  generalize hAe : pq_B t σ (I, J, ri, rj, rq) s.heap.size = A at hD ⊢
  have hA : ∀ q : Nat, s.heap.size ≤ q → A q := fun q h => by rw [← hAe]; exact Or.inr h
  have hS : va_S A s.heap s.heap [] := va_S.rf
  have hG : GM [391, 392, 393, 401, 398, 402] tg σ I ri I ri rq := ⟨hG0, fun _ _ _ => rfl, fun _ _ _ _ _ => rfl, fun _ _ _ _ _ _ => rfl⟩
  have hl := lv_entry ([.ref this]) (n := 3) (Nat.le_of_ble_eq_true rfl)
  rw [lg_entry_eq]
  generalize (lg_sl ([.ref this]) ++ List.replicate (3 - (lg_sl ([.ref this])).length) Slot.unset).toArray = ls at hl ⊢
  have hl : lv_has ls 3 [(0, .ref this)] := hl
  refine q_gen (fun Q hQ => ?_)
  have go : ∀ (H : Heap) (locs : List Loc) (ls : Array Slot), va_P D vwCl (pq_P t σ (I, J, ri, rj, rq)) H → va_D A (pq_P t σ (I, J, ri, rj, rq)) → va_S A s.heap H locs → lv_has ls 3 [(0, .ref this)] → W p l e ({ frames := 3, cells := 0, slots := 0, locals := 64 } : Room) s m (List.toArray ([.ref this] : List Value)) below meth c H locs 0 0 Q (F0 m 0 ls []) := by
    intro H locs ls hP hD hS hl
    refine lv_aload_n hx hb dX12_behindOne_0 rfl (lv_at hl 0 rfl) ?_
    refine pg_f (v := .int (I 393 this)) (C := RX12) (T := TX12) (N := 31) hx hb hts (tw_i inlX12) hown hK hP hL_this hK_this (by decide) rfl 9 (by decide) (hts _ (tw_c tw_831)) rfl dX12_behindOne_1 ?_
    refine lv_istore_n (lv' := [(1, .int (I 393 this)), (0, .ref this)]) hx hb dX12_behindOne_4 rfl hl (by decide) rfl (fun ls hl => ?_)
    refine lv_aload_n hx hb dX12_behindOne_5 rfl (lv_at hl 1 rfl) ?_
    refine pk_v (va_runV (As := []) (rest := []) ⟨hx, hb, hml, hown, hts⟩ (s_X12_nextToken l D t σ I J ri rj rq H.size tg hSH hG.1 this hL_this hK_this) (cwV 0 hts (tw_V tw_832 tw_833 tw_834 tw_5 tw_835) rfl rfl rfl (by decide +kernel) ⟨Nat.le_of_ble_eq_true rfl, Nat.le_of_ble_eq_true rfl⟩) ⟨pq_blind, pq_recv hK hP hL_this hK_this (by decide) rfl, pq_pre hK hN hP hD⟩ rfl rfl hl.1 rfl (lv_room (Nat.le_of_ble_eq_true rfl)) dX12_behindOne_6 ⟨Nat.le_of_ble_eq_true rfl, Nat.le_of_ble_eq_true rfl⟩) hD hS hA (fun σ1 μ1 H locs hw_2 hP hD hS => ?_)
    obtain ⟨I_3, J_4, hu_5, hg_6⟩ := hw_2
    obtain ⟨hu_5a, hu_5b⟩ := Prod.mk.inj hu_5
    rw [hu_5a, hu_5b] at hP hD
    have hG := GM.tr hG hg_6 (by decide)
    refine lv_iload_n hx hb dX12_behindOne_9 rfl (lv_at hl 0 rfl) ?_
    refine lv_bipush (v := 41) hx hb dX12_behindOne_10 (by decide) ?_
    refine lv_icmp_ne (tgt := 45) hx hb dX12_behindOne_12 (by decide) (fun c_8 => ?_) (fun c_8 => ?_)
    · have tc_9 : (I 393 this).toInt ≠ 41 := fun q => c_8 (Int32.toInt_inj.mp q)
      refine lv_iload_n hx hb dX12_behindOne_45 rfl (lv_at hl 0 rfl) ?_
      refine lv_bipush (v := 43) hx hb dX12_behindOne_46 (by decide) ?_
      have K_122 : ∀  (H : Heap) (locs : List Loc) (ls : Array Slot), GM [391, 392, 393, 401, 398, 402] tg σ I ri I_3 ri rq → va_P D vwCl (pq_P t σ (I_3, J_4, ri, rj, rq)) H → va_D A (pq_P t σ (I_3, J_4, ri, rj, rq)) → va_S A s.heap H locs → lv_has ls 3 [(0, .ref this), (1, .int (I 393 this))] → W p l e ({ frames := 3, cells := 0, slots := 0, locals := 64 } : Room) s m (List.toArray ([.ref this] : List Value)) below meth c H locs 0 0 Q (F0 m 62 ls [.int 0]) := by
        intro H locs ls hG hP hD hS hl
        refine lv_istore_n (lv' := [(2, .int 0), (0, .ref this), (1, .int (I 393 this))]) hx hb dX12_behindOne_62 rfl hl (by decide) rfl (fun ls hl => ?_)
        refine lv_aload_n hx hb dX12_behindOne_63 rfl (lv_at hl 1 rfl) ?_
        refine lv_iload_n hx hb dX12_behindOne_64 rfl (lv_at hl 0 rfl) ?_
        have K_162 : ∀  (H : Heap) (locs : List Loc) (ls : Array Slot), GM [391, 392, 393, 401, 398, 402] tg σ I ri I_3 ri rq → va_P D vwCl (pq_P t σ (I_3, J_4, ri, rj, rq)) H → va_D A (pq_P t σ (I_3, J_4, ri, rj, rq)) → va_S A s.heap H locs → lv_has ls 3 [(0, .ref this), (1, .int (I 393 this))] → W p l e ({ frames := 3, cells := 0, slots := 0, locals := 64 } : Room) s m (List.toArray ([.ref this] : List Value)) below meth c H locs 0 0 Q (F0 m 73 ls [.int 5, .ref this]) := by
          intro H locs ls hG hP hD hS hl
          obtain ⟨w_163, hR_w_163, hL_w_163, hK_w_163, hN_w_163, hT_w_163⟩ := sh_a hSH 384 (ci := 12) (kd := 13) (len := 12720) rfl (by decide) hL_this hK_this
          obtain ⟨w_164, hR_w_164, hL_w_164, hK_w_164, hN_w_164, hT_w_164⟩ := sh_a hSH 400 (ci := 12) (kd := 13) (len := 160) rfl (by decide) hL_this hK_this
          refine pk_v (va_runV (As := [.int 5]) (rest := []) ⟨hx, hb, hml, hown, hts⟩ (s_X12_settle l D t σ I_3 J_4 ri rj rq H.size tg hSH hG.1 this (5 : Int32) hL_this hK_this w_163 hR_w_163 hL_w_163 hK_w_163 hN_w_163 hT_w_163 w_164 hR_w_164 hL_w_164 hK_w_164 hN_w_164 hT_w_164 fr bb ba nn (by omega) (by omega) (by omega) (by omega) (by omega) (by omega) (by omega)) (cwV 1 hts (tw_V tw_901 tw_902 tw_903 tw_5 tw_904) rfl rfl rfl (by decide +kernel) ⟨Nat.le_of_ble_eq_true rfl, Nat.le_of_ble_eq_true rfl⟩) ⟨pq_blind, pq_recv hK hP hL_this hK_this (by decide) rfl, pq_pre hK hN hP hD⟩ rfl rfl hl.1 rfl (lv_room (Nat.le_of_ble_eq_true rfl)) dX12_behindOne_73 ⟨Nat.le_of_ble_eq_true rfl, Nat.le_of_ble_eq_true rfl⟩) hD hS hA (fun σ1 μ1 H locs hw_166 hP hD hS => ?_)
          obtain ⟨I_167, ri_168, hu_169, hg_170, hp_172, hp_173, hp_174, hp_175⟩ := hw_166
          obtain ⟨hu_169a, hu_169b⟩ := Prod.mk.inj hu_169
          rw [hu_169a, hu_169b] at hP hD
          have hG := GM.tr hG hg_170 (by decide)
          refine lv_aload_n hx hb dX12_behindOne_76 rfl (lv_at hl 0 rfl) ?_
          refine lv_iload_n hx hb dX12_behindOne_77 rfl (lv_at hl 1 rfl) ?_
          refine lv_bipush (v := 43) hx hb dX12_behindOne_78 (by decide) ?_
          have K_201 : ∀  (x_188 : Int32) (H : Heap) (locs : List Loc) (ls : Array Slot), rg x_188 3 6 → GM [391, 392, 393, 401, 398, 402] tg σ I ri I_167 ri_168 rq → va_P D vwCl (pq_P t σ (I_167, J_4, ri_168, rj, rq)) H → va_D A (pq_P t σ (I_167, J_4, ri_168, rj, rq)) → va_S A s.heap H locs → lv_has ls 3 [(0, .ref this)] → W p l e ({ frames := 3, cells := 0, slots := 0, locals := 64 } : Room) s m (List.toArray ([.ref this] : List Value)) below meth c H locs 0 0 Q (F0 m 109 ls [.int x_188, .ref this]) := by
            intro x_188 H locs ls h_203 hG hP hD hS hl
            have uh_203 := h_203.1
            have vh_203 := h_203.2
            refine pk_v (va_runV (As := [.int x_188]) (rest := []) ⟨hx, hb, hml, hown, hts⟩ (s_X12_push l D t σ I_167 J_4 ri_168 rj rq H.size tg hSH hG.1 this x_188 hL_this hK_this (rg_w h_203 (by decide)) w_164 hR_w_164 hL_w_164 hK_w_164 hN_w_164 hT_w_164 (by omega)) (cwV 1 hts (tw_V tw_913 tw_914 tw_915 tw_5 tw_916) rfl rfl rfl (by decide +kernel) ⟨Nat.le_of_ble_eq_true rfl, Nat.le_of_ble_eq_true rfl⟩) ⟨pq_blind, pq_recv hK hP hL_this hK_this (by decide) rfl, pq_pre hK hN hP hD⟩ rfl rfl hl.1 rfl (lv_room (Nat.le_of_ble_eq_true rfl)) dX12_behindOne_109 ⟨Nat.le_of_ble_eq_true rfl, Nat.le_of_ble_eq_true rfl⟩) hD hS hA (fun σ1 μ1 H locs hw_205 hP hD hS => ?_)
            obtain ⟨I_206, ri_207, hu_208, hg_209, hp_211, hp_212, hp_213⟩ := hw_205
            obtain ⟨hu_208a, hu_208b⟩ := Prod.mk.inj hu_208
            rw [hu_208a, hu_208b] at hP hD
            have hG := GM.tr hG hg_209 (by decide)
            refine lv_aload_n hx hb dX12_behindOne_112 rfl (lv_at hl 0 rfl) ?_
            refine lv_iconst (v := 0) hx hb dX12_behindOne_113 (by decide) ?_
            refine pp_i (v := 0) (ty := .boolean) (C := RX12) (T := TX12) (N := 31) hx hb hts (tw_i inlX12) tyX12 tyX12_ok nmX12 hown hK hP hD hS hL_this hK_this (by decide) rfl 19 403 (by decide) (hts _ (tw_c tw_888)) rfl (by decide +kernel) rfl (by decide) (Nat.le_of_ble_eq_true rfl) (ps_403 _ _ _ _ _) dX12_behindOne_114 (fun I_214 H locs eI_214 hP hD hS => ?_)
            have hG := GM.wI hG 403 rfl eI_214 (rg_w (rg_k (0 : Int32) 0 rfl) (by decide)) (by decide)
            subst hQ
            exact W.vret hx hb hr (fun t1 ht hW => ⟨⟨(σ, I_214, J_4, ri_207, rj, rq), rfl, ⟨I_214, J_4, ri_207, rfl, hG⟩, by rw [ht]; exact hP, va_K.moved hW.alike hK, hD⟩, hS.F ht⟩) hS.2.2 dX12_behindOne_117
          refine lv_icmp_ne (tgt := 87) hx hb dX12_behindOne_80 (by decide) (fun c_215 => ?_) (fun c_215 => ?_)
          · have tc_216 : (I 393 this).toInt ≠ 43 := fun q => c_215 (Int32.toInt_inj.mp q)
            refine lv_iload_n hx hb dX12_behindOne_87 rfl (lv_at hl 1 rfl) ?_
            refine lv_bipush (v := 45) hx hb dX12_behindOne_88 (by decide) ?_
            refine lv_icmp_ne (tgt := 97) hx hb dX12_behindOne_90 (by decide) (fun c_217 => ?_) (fun c_217 => ?_)
            · have tc_218 : (I 393 this).toInt ≠ 45 := fun q => c_217 (Int32.toInt_inj.mp q)
              refine lv_iload_n hx hb dX12_behindOne_97 rfl (lv_at hl 1 rfl) ?_
              refine lv_bipush (v := 42) hx hb dX12_behindOne_98 (by decide) ?_
              refine lv_icmp_ne (tgt := 107) hx hb dX12_behindOne_100 (by decide) (fun c_219 => ?_) (fun c_219 => ?_)
              · have tc_220 : (I 393 this).toInt ≠ 42 := fun q => c_219 (Int32.toInt_inj.mp q)
                refine lv_bipush (v := 6) hx hb dX12_behindOne_107 (by decide) ?_
                exact K_201 (6 : Int32) _ _ _ (rg_w (rg_k (6 : Int32) 6 rfl) (by decide)) hG hP hD hS (lv_sub hl [0] rfl)
              · have tc_221 : (I 393 this).toInt = 42 := congrArg Int32.toInt c_219
                have h_222 : rg (I 393 this) 42 42 := rg_and (rg_full _) (rg_of_eq c_219 (rg_k (42 : Int32) 42 rfl)) (by decide)
                have uh_222 := h_222.1
                have vh_222 := h_222.2
                refine lv_iconst (v := 5) hx hb dX12_behindOne_103 (by decide) ?_
                refine lv_goto (tgt := 109) hx hb dX12_behindOne_104 (by decide) ?_
                exact K_201 (5 : Int32) _ _ _ (rg_w (rg_k (5 : Int32) 5 rfl) (by decide)) hG hP hD hS (lv_sub hl [0] rfl)
            · have tc_223 : (I 393 this).toInt = 45 := congrArg Int32.toInt c_217
              have h_224 : rg (I 393 this) 45 45 := rg_and (rg_full _) (rg_of_eq c_217 (rg_k (45 : Int32) 45 rfl)) (by decide)
              have uh_224 := h_224.1
              have vh_224 := h_224.2
              refine lv_iconst (v := 4) hx hb dX12_behindOne_93 (by decide) ?_
              refine lv_goto (tgt := 109) hx hb dX12_behindOne_94 (by decide) ?_
              exact K_201 (4 : Int32) _ _ _ (rg_w (rg_k (4 : Int32) 4 rfl) (by decide)) hG hP hD hS (lv_sub hl [0] rfl)
          · have tc_225 : (I 393 this).toInt = 43 := congrArg Int32.toInt c_215
            have h_226 : rg (I 393 this) 43 43 := rg_and (rg_full _) (rg_of_eq c_215 (rg_k (43 : Int32) 43 rfl)) (by decide)
            have uh_226 := h_226.1
            have vh_226 := h_226.2
            refine lv_iconst (v := 3) hx hb dX12_behindOne_83 (by decide) ?_
            refine lv_goto (tgt := 109) hx hb dX12_behindOne_84 (by decide) ?_
            exact K_201 (3 : Int32) _ _ _ (rg_w (rg_k (3 : Int32) 3 rfl) (by decide)) hG hP hD hS (lv_sub hl [0] rfl)
        refine lv_if_eq (tgt := 72) hx hb dX12_behindOne_65 (by decide) (fun c_227 => ?_) (fun c_227 => absurd c_227 (by decide))
        refine lv_iconst (v := 5) hx hb dX12_behindOne_72 (by decide) ?_
        exact K_162 _ _ _ hG hP hD hS (lv_sub hl [1, 2] rfl)
      have K_228 : ∀  (H : Heap) (locs : List Loc) (ls : Array Slot), rg (I 393 this) 43 45 → GM [391, 392, 393, 401, 398, 402] tg σ I ri I_3 ri rq → va_P D vwCl (pq_P t σ (I_3, J_4, ri, rj, rq)) H → va_D A (pq_P t σ (I_3, J_4, ri, rj, rq)) → va_S A s.heap H locs → lv_has ls 3 [(0, .ref this), (1, .int (I 393 this))] → W p l e ({ frames := 3, cells := 0, slots := 0, locals := 64 } : Room) s m (List.toArray ([.ref this] : List Value)) below meth c H locs 0 0 Q (F0 m 62 ls [.int 1]) := by
        intro H locs ls h_230 hG hP hD hS hl
        have uh_230 := h_230.1
        have vh_230 := h_230.2
        refine lv_istore_n (lv' := [(2, .int 1), (0, .ref this), (1, .int (I 393 this))]) hx hb dX12_behindOne_62 rfl hl (by decide) rfl (fun ls hl => ?_)
        refine lv_aload_n hx hb dX12_behindOne_63 rfl (lv_at hl 1 rfl) ?_
        refine lv_iload_n hx hb dX12_behindOne_64 rfl (lv_at hl 0 rfl) ?_
        have K_294 : ∀  (H : Heap) (locs : List Loc) (ls : Array Slot), GM [391, 392, 393, 401, 398, 402] tg σ I ri I_3 ri rq → va_P D vwCl (pq_P t σ (I_3, J_4, ri, rj, rq)) H → va_D A (pq_P t σ (I_3, J_4, ri, rj, rq)) → va_S A s.heap H locs → lv_has ls 3 [(0, .ref this), (1, .int (I 393 this))] → W p l e ({ frames := 3, cells := 0, slots := 0, locals := 64 } : Room) s m (List.toArray ([.ref this] : List Value)) below meth c H locs 0 0 Q (F0 m 73 ls [.int 3, .ref this]) := by
          intro H locs ls hG hP hD hS hl
          obtain ⟨w_295, hR_w_295, hL_w_295, hK_w_295, hN_w_295, hT_w_295⟩ := sh_a hSH 384 (ci := 12) (kd := 13) (len := 12720) rfl (by decide) hL_this hK_this
          obtain ⟨w_296, hR_w_296, hL_w_296, hK_w_296, hN_w_296, hT_w_296⟩ := sh_a hSH 400 (ci := 12) (kd := 13) (len := 160) rfl (by decide) hL_this hK_this
          refine pk_v (va_runV (As := [.int 3]) (rest := []) ⟨hx, hb, hml, hown, hts⟩ (s_X12_settle l D t σ I_3 J_4 ri rj rq H.size tg hSH hG.1 this (3 : Int32) hL_this hK_this w_295 hR_w_295 hL_w_295 hK_w_295 hN_w_295 hT_w_295 w_296 hR_w_296 hL_w_296 hK_w_296 hN_w_296 hT_w_296 fr bb ba nn (by omega) (by omega) (by omega) (by omega) (by omega) (by omega) (by omega)) (cwV 1 hts (tw_V tw_901 tw_902 tw_903 tw_5 tw_904) rfl rfl rfl (by decide +kernel) ⟨Nat.le_of_ble_eq_true rfl, Nat.le_of_ble_eq_true rfl⟩) ⟨pq_blind, pq_recv hK hP hL_this hK_this (by decide) rfl, pq_pre hK hN hP hD⟩ rfl rfl hl.1 rfl (lv_room (Nat.le_of_ble_eq_true rfl)) dX12_behindOne_73 ⟨Nat.le_of_ble_eq_true rfl, Nat.le_of_ble_eq_true rfl⟩) hD hS hA (fun σ1 μ1 H locs hw_298 hP hD hS => ?_)
          obtain ⟨I_299, ri_300, hu_301, hg_302, hp_304, hp_305, hp_306, hp_307⟩ := hw_298
          obtain ⟨hu_301a, hu_301b⟩ := Prod.mk.inj hu_301
          rw [hu_301a, hu_301b] at hP hD
          have hG := GM.tr hG hg_302 (by decide)
          refine lv_aload_n hx hb dX12_behindOne_76 rfl (lv_at hl 0 rfl) ?_
          refine lv_iload_n hx hb dX12_behindOne_77 rfl (lv_at hl 1 rfl) ?_
          refine lv_bipush (v := 43) hx hb dX12_behindOne_78 (by decide) ?_
          have K_357 : ∀  (H : Heap) (locs : List Loc) (ls : Array Slot), rg (I 393 this) 44 44 → GM [391, 392, 393, 401, 398, 402] tg σ I ri I_299 ri_300 rq → va_P D vwCl (pq_P t σ (I_299, J_4, ri_300, rj, rq)) H → va_D A (pq_P t σ (I_299, J_4, ri_300, rj, rq)) → va_S A s.heap H locs → lv_has ls 3 [(0, .ref this)] → W p l e ({ frames := 3, cells := 0, slots := 0, locals := 64 } : Room) s m (List.toArray ([.ref this] : List Value)) below meth c H locs 0 0 Q (F0 m 109 ls [.int 6, .ref this]) := by
            intro H locs ls h_359 hG hP hD hS hl
            have uh_359 := h_359.1
            have vh_359 := h_359.2
            refine pk_v (va_runV (As := [.int 6]) (rest := []) ⟨hx, hb, hml, hown, hts⟩ (s_X12_push l D t σ I_299 J_4 ri_300 rj rq H.size tg hSH hG.1 this (6 : Int32) hL_this hK_this (rg_w (rg_k (6 : Int32) 6 rfl) (by decide)) w_296 hR_w_296 hL_w_296 hK_w_296 hN_w_296 hT_w_296 (by omega)) (cwV 1 hts (tw_V tw_913 tw_914 tw_915 tw_5 tw_916) rfl rfl rfl (by decide +kernel) ⟨Nat.le_of_ble_eq_true rfl, Nat.le_of_ble_eq_true rfl⟩) ⟨pq_blind, pq_recv hK hP hL_this hK_this (by decide) rfl, pq_pre hK hN hP hD⟩ rfl rfl hl.1 rfl (lv_room (Nat.le_of_ble_eq_true rfl)) dX12_behindOne_109 ⟨Nat.le_of_ble_eq_true rfl, Nat.le_of_ble_eq_true rfl⟩) hD hS hA (fun σ1 μ1 H locs hw_361 hP hD hS => ?_)
            obtain ⟨I_362, ri_363, hu_364, hg_365, hp_367, hp_368, hp_369⟩ := hw_361
            obtain ⟨hu_364a, hu_364b⟩ := Prod.mk.inj hu_364
            rw [hu_364a, hu_364b] at hP hD
            have hG := GM.tr hG hg_365 (by decide)
            refine lv_aload_n hx hb dX12_behindOne_112 rfl (lv_at hl 0 rfl) ?_
            refine lv_iconst (v := 0) hx hb dX12_behindOne_113 (by decide) ?_
            refine pp_i (v := 0) (ty := .boolean) (C := RX12) (T := TX12) (N := 31) hx hb hts (tw_i inlX12) tyX12 tyX12_ok nmX12 hown hK hP hD hS hL_this hK_this (by decide) rfl 19 403 (by decide) (hts _ (tw_c tw_888)) rfl (by decide +kernel) rfl (by decide) (Nat.le_of_ble_eq_true rfl) (ps_403 _ _ _ _ _) dX12_behindOne_114 (fun I_370 H locs eI_370 hP hD hS => ?_)
            have hG := GM.wI hG 403 rfl eI_370 (rg_w (rg_k (0 : Int32) 0 rfl) (by decide)) (by decide)
            subst hQ
            exact W.vret hx hb hr (fun t1 ht hW => ⟨⟨(σ, I_370, J_4, ri_363, rj, rq), rfl, ⟨I_370, J_4, ri_363, rfl, hG⟩, by rw [ht]; exact hP, va_K.moved hW.alike hK, hD⟩, hS.F ht⟩) hS.2.2 dX12_behindOne_117
          have K_371 : ∀  (H : Heap) (locs : List Loc) (ls : Array Slot), rg (I 393 this) 45 45 → GM [391, 392, 393, 401, 398, 402] tg σ I ri I_299 ri_300 rq → va_P D vwCl (pq_P t σ (I_299, J_4, ri_300, rj, rq)) H → va_D A (pq_P t σ (I_299, J_4, ri_300, rj, rq)) → va_S A s.heap H locs → lv_has ls 3 [(0, .ref this)] → W p l e ({ frames := 3, cells := 0, slots := 0, locals := 64 } : Room) s m (List.toArray ([.ref this] : List Value)) below meth c H locs 0 0 Q (F0 m 109 ls [.int 4, .ref this]) := by
            intro H locs ls h_373 hG hP hD hS hl
            have uh_373 := h_373.1
            have vh_373 := h_373.2
            refine pk_v (va_runV (As := [.int 4]) (rest := []) ⟨hx, hb, hml, hown, hts⟩ (s_X12_push l D t σ I_299 J_4 ri_300 rj rq H.size tg hSH hG.1 this (4 : Int32) hL_this hK_this (rg_w (rg_k (4 : Int32) 4 rfl) (by decide)) w_296 hR_w_296 hL_w_296 hK_w_296 hN_w_296 hT_w_296 (by omega)) (cwV 1 hts (tw_V tw_913 tw_914 tw_915 tw_5 tw_916) rfl rfl rfl (by decide +kernel) ⟨Nat.le_of_ble_eq_true rfl, Nat.le_of_ble_eq_true rfl⟩) ⟨pq_blind, pq_recv hK hP hL_this hK_this (by decide) rfl, pq_pre hK hN hP hD⟩ rfl rfl hl.1 rfl (lv_room (Nat.le_of_ble_eq_true rfl)) dX12_behindOne_109 ⟨Nat.le_of_ble_eq_true rfl, Nat.le_of_ble_eq_true rfl⟩) hD hS hA (fun σ1 μ1 H locs hw_375 hP hD hS => ?_)
            obtain ⟨I_376, ri_377, hu_378, hg_379, hp_381, hp_382, hp_383⟩ := hw_375
            obtain ⟨hu_378a, hu_378b⟩ := Prod.mk.inj hu_378
            rw [hu_378a, hu_378b] at hP hD
            have hG := GM.tr hG hg_379 (by decide)
            refine lv_aload_n hx hb dX12_behindOne_112 rfl (lv_at hl 0 rfl) ?_
            refine lv_iconst (v := 0) hx hb dX12_behindOne_113 (by decide) ?_
            refine pp_i (v := 0) (ty := .boolean) (C := RX12) (T := TX12) (N := 31) hx hb hts (tw_i inlX12) tyX12 tyX12_ok nmX12 hown hK hP hD hS hL_this hK_this (by decide) rfl 19 403 (by decide) (hts _ (tw_c tw_888)) rfl (by decide +kernel) rfl (by decide) (Nat.le_of_ble_eq_true rfl) (ps_403 _ _ _ _ _) dX12_behindOne_114 (fun I_384 H locs eI_384 hP hD hS => ?_)
            have hG := GM.wI hG 403 rfl eI_384 (rg_w (rg_k (0 : Int32) 0 rfl) (by decide)) (by decide)
            subst hQ
            exact W.vret hx hb hr (fun t1 ht hW => ⟨⟨(σ, I_384, J_4, ri_377, rj, rq), rfl, ⟨I_384, J_4, ri_377, rfl, hG⟩, by rw [ht]; exact hP, va_K.moved hW.alike hK, hD⟩, hS.F ht⟩) hS.2.2 dX12_behindOne_117
          have K_385 : ∀  (H : Heap) (locs : List Loc) (ls : Array Slot), rg (I 393 this) 43 43 → GM [391, 392, 393, 401, 398, 402] tg σ I ri I_299 ri_300 rq → va_P D vwCl (pq_P t σ (I_299, J_4, ri_300, rj, rq)) H → va_D A (pq_P t σ (I_299, J_4, ri_300, rj, rq)) → va_S A s.heap H locs → lv_has ls 3 [(0, .ref this)] → W p l e ({ frames := 3, cells := 0, slots := 0, locals := 64 } : Room) s m (List.toArray ([.ref this] : List Value)) below meth c H locs 0 0 Q (F0 m 109 ls [.int 3, .ref this]) := by
            intro H locs ls h_387 hG hP hD hS hl
            have uh_387 := h_387.1
            have vh_387 := h_387.2
            refine pk_v (va_runV (As := [.int 3]) (rest := []) ⟨hx, hb, hml, hown, hts⟩ (s_X12_push l D t σ I_299 J_4 ri_300 rj rq H.size tg hSH hG.1 this (3 : Int32) hL_this hK_this (rg_w (rg_k (3 : Int32) 3 rfl) (by decide)) w_296 hR_w_296 hL_w_296 hK_w_296 hN_w_296 hT_w_296 (by omega)) (cwV 1 hts (tw_V tw_913 tw_914 tw_915 tw_5 tw_916) rfl rfl rfl (by decide +kernel) ⟨Nat.le_of_ble_eq_true rfl, Nat.le_of_ble_eq_true rfl⟩) ⟨pq_blind, pq_recv hK hP hL_this hK_this (by decide) rfl, pq_pre hK hN hP hD⟩ rfl rfl hl.1 rfl (lv_room (Nat.le_of_ble_eq_true rfl)) dX12_behindOne_109 ⟨Nat.le_of_ble_eq_true rfl, Nat.le_of_ble_eq_true rfl⟩) hD hS hA (fun σ1 μ1 H locs hw_389 hP hD hS => ?_)
            obtain ⟨I_390, ri_391, hu_392, hg_393, hp_395, hp_396, hp_397⟩ := hw_389
            obtain ⟨hu_392a, hu_392b⟩ := Prod.mk.inj hu_392
            rw [hu_392a, hu_392b] at hP hD
            have hG := GM.tr hG hg_393 (by decide)
            refine lv_aload_n hx hb dX12_behindOne_112 rfl (lv_at hl 0 rfl) ?_
            refine lv_iconst (v := 0) hx hb dX12_behindOne_113 (by decide) ?_
            refine pp_i (v := 0) (ty := .boolean) (C := RX12) (T := TX12) (N := 31) hx hb hts (tw_i inlX12) tyX12 tyX12_ok nmX12 hown hK hP hD hS hL_this hK_this (by decide) rfl 19 403 (by decide) (hts _ (tw_c tw_888)) rfl (by decide +kernel) rfl (by decide) (Nat.le_of_ble_eq_true rfl) (ps_403 _ _ _ _ _) dX12_behindOne_114 (fun I_398 H locs eI_398 hP hD hS => ?_)
            have hG := GM.wI hG 403 rfl eI_398 (rg_w (rg_k (0 : Int32) 0 rfl) (by decide)) (by decide)
            subst hQ
            exact W.vret hx hb hr (fun t1 ht hW => ⟨⟨(σ, I_398, J_4, ri_391, rj, rq), rfl, ⟨I_398, J_4, ri_391, rfl, hG⟩, by rw [ht]; exact hP, va_K.moved hW.alike hK, hD⟩, hS.F ht⟩) hS.2.2 dX12_behindOne_117
          refine lv_icmp_ne (tgt := 87) hx hb dX12_behindOne_80 (by decide) (fun c_399 => ?_) (fun c_399 => ?_)
          · have tc_400 : (I 393 this).toInt ≠ 43 := fun q => c_399 (Int32.toInt_inj.mp q)
            have h_401 : rg (I 393 this) 44 45 := rg_ne c_399 h_230 43 rfl (by decide)
            have uh_401 := h_401.1
            have vh_401 := h_401.2
            refine lv_iload_n hx hb dX12_behindOne_87 rfl (lv_at hl 1 rfl) ?_
            refine lv_bipush (v := 45) hx hb dX12_behindOne_88 (by decide) ?_
            refine lv_icmp_ne (tgt := 97) hx hb dX12_behindOne_90 (by decide) (fun c_402 => ?_) (fun c_402 => ?_)
            · have tc_403 : (I 393 this).toInt ≠ 45 := fun q => c_402 (Int32.toInt_inj.mp q)
              have h_404 : rg (I 393 this) 44 44 := rg_ne c_402 h_401 45 rfl (by decide)
              have uh_404 := h_404.1
              have vh_404 := h_404.2
              refine lv_iload_n hx hb dX12_behindOne_97 rfl (lv_at hl 1 rfl) ?_
              refine lv_bipush (v := 42) hx hb dX12_behindOne_98 (by decide) ?_
              refine lv_icmp_ne (tgt := 107) hx hb dX12_behindOne_100 (by decide) (fun c_405 => ?_) (fun c_405 => ?_)
              · have tc_406 : (I 393 this).toInt ≠ 42 := fun q => c_405 (Int32.toInt_inj.mp q)
                refine lv_bipush (v := 6) hx hb dX12_behindOne_107 (by decide) ?_
                exact K_357 _ _ _ (rg_w h_404 (by decide)) hG hP hD hS (lv_sub hl [0] rfl)
              · have tc_407 : (I 393 this).toInt = 42 := congrArg Int32.toInt c_405
                exact (rg_empty (rg_and h_404 (rg_of_eq c_405 (rg_k (42 : Int32) 42 rfl)) (lo := 44) (hi := 42) (by decide)) (by decide)).elim
            · have tc_408 : (I 393 this).toInt = 45 := congrArg Int32.toInt c_402
              have h_409 : rg (I 393 this) 45 45 := rg_and h_401 (rg_of_eq c_402 (rg_k (45 : Int32) 45 rfl)) (by decide)
              have uh_409 := h_409.1
              have vh_409 := h_409.2
              refine lv_iconst (v := 4) hx hb dX12_behindOne_93 (by decide) ?_
              refine lv_goto (tgt := 109) hx hb dX12_behindOne_94 (by decide) ?_
              exact K_371 _ _ _ (rg_w h_409 (by decide)) hG hP hD hS (lv_sub hl [0] rfl)
          · have tc_410 : (I 393 this).toInt = 43 := congrArg Int32.toInt c_399
            have h_411 : rg (I 393 this) 43 43 := rg_and h_230 (rg_of_eq c_399 (rg_k (43 : Int32) 43 rfl)) (by decide)
            have uh_411 := h_411.1
            have vh_411 := h_411.2
            refine lv_iconst (v := 3) hx hb dX12_behindOne_83 (by decide) ?_
            refine lv_goto (tgt := 109) hx hb dX12_behindOne_84 (by decide) ?_
            exact K_385 _ _ _ (rg_w h_411 (by decide)) hG hP hD hS (lv_sub hl [0] rfl)
        refine lv_if_eq (tgt := 72) hx hb dX12_behindOne_65 (by decide) (fun c_412 => absurd c_412 (by decide)) (fun c_412 => ?_)
        refine lv_iconst (v := 3) hx hb dX12_behindOne_68 (by decide) ?_
        refine lv_goto (tgt := 73) hx hb dX12_behindOne_69 (by decide) ?_
        exact K_294 _ _ _ hG hP hD hS (lv_sub hl [1, 2] rfl)
      have K_413 : ∀  (H : Heap) (locs : List Loc) (ls : Array Slot), rg (I 393 this) 43 45 → GM [391, 392, 393, 401, 398, 402] tg σ I ri I_3 ri rq → va_P D vwCl (pq_P t σ (I_3, J_4, ri, rj, rq)) H → va_D A (pq_P t σ (I_3, J_4, ri, rj, rq)) → va_S A s.heap H locs → lv_has ls 3 [(0, .ref this), (1, .int (I 393 this))] → W p l e ({ frames := 3, cells := 0, slots := 0, locals := 64 } : Room) s m (List.toArray ([.ref this] : List Value)) below meth c H locs 0 0 Q (F0 m 57 ls []) := by
        intro H locs ls h_415 hG hP hD hS hl
        have uh_415 := h_415.1
        have vh_415 := h_415.2
        refine lv_iconst (v := 1) hx hb dX12_behindOne_57 (by decide) ?_
        refine lv_goto (tgt := 62) hx hb dX12_behindOne_58 (by decide) ?_
        exact K_228 _ _ _ (rg_w h_415 (by decide)) hG hP hD hS (lv_sub hl [0, 1] rfl)
      refine lv_icmp_eq (tgt := 57) hx hb dX12_behindOne_48 (by decide) (fun c_416 => ?_) (fun c_416 => ?_)
      · have tc_417 : (I 393 this).toInt = 43 := congrArg Int32.toInt c_416
        have h_418 : rg (I 393 this) 43 43 := rg_and (rg_full _) (rg_of_eq c_416 (rg_k (43 : Int32) 43 rfl)) (by decide)
        have uh_418 := h_418.1
        have vh_418 := h_418.2
        exact K_413 _ _ _ (rg_w h_418 (by decide)) hG hP hD hS (lv_sub hl [1, 0] rfl)
      · have tc_419 : (I 393 this).toInt ≠ 43 := fun q => c_416 (Int32.toInt_inj.mp q)
        refine lv_iload_n hx hb dX12_behindOne_51 rfl (lv_at hl 0 rfl) ?_
        refine lv_bipush (v := 45) hx hb dX12_behindOne_52 (by decide) ?_
        refine lv_icmp_ne (tgt := 61) hx hb dX12_behindOne_54 (by decide) (fun c_420 => ?_) (fun c_420 => ?_)
        · have tc_421 : (I 393 this).toInt ≠ 45 := fun q => c_420 (Int32.toInt_inj.mp q)
          refine lv_iconst (v := 0) hx hb dX12_behindOne_61 (by decide) ?_
          exact K_122 _ _ _ hG hP hD hS (lv_sub hl [1, 0] rfl)
        · have tc_422 : (I 393 this).toInt = 45 := congrArg Int32.toInt c_420
          have h_423 : rg (I 393 this) 45 45 := rg_and (rg_full _) (rg_of_eq c_420 (rg_k (45 : Int32) 45 rfl)) (by decide)
          have uh_423 := h_423.1
          have vh_423 := h_423.2
          exact K_413 _ _ _ (rg_w h_423 (by decide)) hG hP hD hS (lv_sub hl [1, 0] rfl)
    · have tc_424 : (I 393 this).toInt = 41 := congrArg Int32.toInt c_8
      have h_425 : rg (I 393 this) 41 41 := rg_and (rg_full _) (rg_of_eq c_8 (rg_k (41 : Int32) 41 rfl)) (by decide)
      have uh_425 := h_425.1
      have vh_425 := h_425.2
      refine lv_aload_n hx hb dX12_behindOne_15 rfl (lv_at hl 1 rfl) ?_
      refine lv_iconst (v := 3) hx hb dX12_behindOne_16 (by decide) ?_
      obtain ⟨w_426, hR_w_426, hL_w_426, hK_w_426, hN_w_426, hT_w_426⟩ := sh_a hSH 384 (ci := 12) (kd := 13) (len := 12720) rfl (by decide) hL_this hK_this
      obtain ⟨w_427, hR_w_427, hL_w_427, hK_w_427, hN_w_427, hT_w_427⟩ := sh_a hSH 400 (ci := 12) (kd := 13) (len := 160) rfl (by decide) hL_this hK_this
      refine pk_v (va_runV (As := [.int 3]) (rest := []) ⟨hx, hb, hml, hown, hts⟩ (s_X12_settle l D t σ I_3 J_4 ri rj rq H.size tg hSH hG.1 this (3 : Int32) hL_this hK_this w_426 hR_w_426 hL_w_426 hK_w_426 hN_w_426 hT_w_426 w_427 hR_w_427 hL_w_427 hK_w_427 hN_w_427 hT_w_427 fr bb ba nn (by omega) (by omega) (by omega) (by omega) (by omega) (by omega) (by omega)) (cwV 1 hts (tw_V tw_901 tw_902 tw_903 tw_5 tw_904) rfl rfl rfl (by decide +kernel) ⟨Nat.le_of_ble_eq_true rfl, Nat.le_of_ble_eq_true rfl⟩) ⟨pq_blind, pq_recv hK hP hL_this hK_this (by decide) rfl, pq_pre hK hN hP hD⟩ rfl rfl hl.1 rfl (lv_room (Nat.le_of_ble_eq_true rfl)) dX12_behindOne_17 ⟨Nat.le_of_ble_eq_true rfl, Nat.le_of_ble_eq_true rfl⟩) hD hS hA (fun σ1 μ1 H locs hw_429 hP hD hS => ?_)
      obtain ⟨I_430, ri_431, hu_432, hg_433, hp_435, hp_436, hp_437, hp_438⟩ := hw_429
      obtain ⟨hu_432a, hu_432b⟩ := Prod.mk.inj hu_432
      rw [hu_432a, hu_432b] at hP hD
      have hG := GM.tr hG hg_433 (by decide)
      refine lv_aload_n hx hb dX12_behindOne_20 rfl (lv_at hl 1 rfl) ?_
      refine lv_dup hx hb dX12_behindOne_21 rfl ?_
      refine pg_f (v := .int (I_430 401 this)) (C := RX12) (T := TX12) (N := 31) hx hb hts (tw_i inlX12) hown hK hP hL_this hK_this (by decide) rfl 17 (by decide) (hts _ (tw_c tw_887)) rfl dX12_behindOne_22 ?_
      have h_439 : rg (I_430 401 this) 0 160 := GM.rI hG 401 rfl
      have uh_439 := h_439.1
      have vh_439 := h_439.2
      refine lv_iconst (v := 1) hx hb dX12_behindOne_25 (by decide) ?_
      refine lv_isub hx hb dX12_behindOne_26 ?_
      refine lv_topi (fun x_440 ex_440 => ?_)
      have h_441 : rg x_440 (-1) 159 := rg_of_eq ex_440 (rg_sub h_439 (rg_k (1 : Int32) 1 rfl) (by decide))
      have uh_441 := h_441.1
      have vh_441 := h_441.2
      have tx_440 : (x_440).toInt = (I_430 401 this).toInt - 1 := by rw [ex_440]; exact i_sub_rg (a2 := (I_430 401 this).toInt) (b2 := 1) rfl rfl h_439 (rg_k (1 : Int32) 1 rfl) (by decide)
      refine pp_i (v := x_440) (ty := .int) (C := RX12) (T := TX12) (N := 31) hx hb hts (tw_i inlX12) tyX12 tyX12_ok nmX12 hown hK hP hD hS hL_this hK_this (by decide) rfl 17 401 (by decide) (hts _ (tw_c tw_887)) rfl (by decide +kernel) rfl rfl (Nat.le_of_ble_eq_true rfl) (ps_401 _ _ _ _ _) dX12_behindOne_27 (fun I_442 H locs eI_442 hP hD hS => ?_)
      have h_443 : rg x_440 0 159 := ⟨by omega, by omega⟩
      have uh_443 := h_443.1
      have vh_443 := h_443.2
      have hG := GM.wI hG 401 rfl eI_442 (rg_w h_443 (by decide)) (by decide)
      refine lv_aload_n hx hb dX12_behindOne_30 rfl (lv_at hl 1 rfl) ?_
      refine lv_dup hx hb dX12_behindOne_31 rfl ?_
      refine pg_f (v := .int (I_442 402 this)) (C := RX12) (T := TX12) (N := 31) hx hb hts (tw_i inlX12) hown hK hP hL_this hK_this (by decide) rfl 18 (by decide) (hts _ (tw_c tw_828)) rfl dX12_behindOne_32 ?_
      refine lv_iconst (v := 1) hx hb dX12_behindOne_35 (by decide) ?_
      refine lv_isub hx hb dX12_behindOne_36 ?_
      refine lv_topi (fun x_444 ex_444 => ?_)
      refine pp_i (v := x_444) (ty := .int) (C := RX12) (T := TX12) (N := 31) hx hb hts (tw_i inlX12) tyX12 tyX12_ok nmX12 hown hK hP hD hS hL_this hK_this (by decide) rfl 18 402 (by decide) (hts _ (tw_c tw_828)) rfl (by decide +kernel) rfl rfl (Nat.le_of_ble_eq_true rfl) (ps_402 _ _ _ _ _) dX12_behindOne_37 (fun I_445 H locs eI_445 hP hD hS => ?_)
      have hG := GM.wI hG 402 rfl eI_445 (rg_w (rg_full _) (by decide)) (by decide)
      refine lv_aload_n hx hb dX12_behindOne_40 rfl (lv_at hl 1 rfl) ?_
      refine pk_v (va_runV (As := []) (rest := []) ⟨hx, hb, hml, hown, hts⟩ (s_X12_whole l D t σ I_445 J_4 ri_431 rj rq H.size tg hSH hG.1 this hL_this hK_this w_426 hR_w_426 hL_w_426 hK_w_426 hN_w_426 hT_w_426 w_427 hR_w_427 hL_w_427 hK_w_427 hN_w_427 hT_w_427 fr bb ba nn (by omega) (by omega) (by omega) (by omega) (by omega) (by omega) (by omega)) (cwV 0 hts (tw_V tw_909 tw_910 tw_911 tw_5 tw_912) rfl rfl rfl (by decide +kernel) ⟨Nat.le_of_ble_eq_true rfl, Nat.le_of_ble_eq_true rfl⟩) ⟨pq_blind, pq_recv hK hP hL_this hK_this (by decide) rfl, pq_pre hK hN hP hD⟩ rfl rfl hl.1 rfl (lv_room (Nat.le_of_ble_eq_true rfl)) dX12_behindOne_41 ⟨Nat.le_of_ble_eq_true rfl, Nat.le_of_ble_eq_true rfl⟩) hD hS hA (fun σ1 μ1 H locs hw_447 hP hD hS => ?_)
      obtain ⟨I_448, ri_449, hu_450, hg_451, hp_453, hp_454, hp_455, hp_456⟩ := hw_447
      obtain ⟨hu_450a, hu_450b⟩ := Prod.mk.inj hu_450
      rw [hu_450a, hu_450b] at hP hD
      have hG := GM.tr hG hg_451 (by decide)
      subst hQ
      exact W.vret hx hb hr (fun t1 ht hW => ⟨⟨(σ, I_448, J_4, ri_449, rj, rq), rfl, ⟨I_448, J_4, ri_449, rfl, hG⟩, by rw [ht]; exact hP, va_K.moved hW.alike hK, hD⟩, hS.F ht⟩) hS.2.2 dX12_behindOne_44
  exact go _ _ _ hP hD hS hl
