theorem dX12_isWord_0 : decode cX12_isWord 0 = .ok (.aload_n 0, 1) := by decide +kernel
theorem dX12_isWord_1 : decode cX12_isWord 1 = .ok (.getfield 143, 3) := by decide +kernel
theorem dX12_isWord_4 : decode cX12_isWord 4 = .ok (.iconst 2, 1) := by decide +kernel
theorem dX12_isWord_5 : decode cX12_isWord 5 = .ok (.if_icmp .ne 16, 3) := by decide +kernel
theorem dX12_isWord_21 : decode cX12_isWord 21 = .ok (.iconst 0, 1) := by decide +kernel
theorem dX12_isWord_22 : decode cX12_isWord 22 = .ok (.ireturn, 1) := by decide +kernel
theorem dX12_isWord_8 : decode cX12_isWord 8 = .ok (.aload_n 0, 1) := by decide +kernel
theorem dX12_isWord_9 : decode cX12_isWord 9 = .ok (.getfield 156, 3) := by decide +kernel
theorem dX12_isWord_12 : decode cX12_isWord 12 = .ok (.lload_n 1, 1) := by decide +kernel
theorem dX12_isWord_13 : decode cX12_isWord 13 = .ok (.lcmp, 1) := by decide +kernel
theorem dX12_isWord_14 : decode cX12_isWord 14 = .ok (.ifCond .ne 7, 3) := by decide +kernel
theorem dX12_isWord_17 : decode cX12_isWord 17 = .ok (.iconst 1, 1) := by decide +kernel
theorem dX12_isWord_18 : decode cX12_isWord 18 = .ok (.goto 4, 3) := by decide +kernel
theorem dX12_nameOf_0 : decode cX12_nameOf 0 = .ok (.aload_n 0, 1) := by decide +kernel
theorem dX12_nameOf_1 : decode cX12_nameOf 1 = .ok (.getfield 143, 3) := by decide +kernel
theorem dX12_nameOf_4 : decode cX12_nameOf 4 = .ok (.iconst 2, 1) := by decide +kernel
theorem dX12_nameOf_5 : decode cX12_nameOf 5 = .ok (.if_icmp .eq 5, 3) := by decide +kernel
theorem dX12_nameOf_10 : decode cX12_nameOf 10 = .ok (.aload_n 0, 1) := by decide +kernel
theorem dX12_nameOf_11 : decode cX12_nameOf 11 = .ok (.getfield 156, 3) := by decide +kernel
theorem dX12_nameOf_14 : decode cX12_nameOf 14 = .ok (.bipush 97, 2) := by decide +kernel
theorem dX12_nameOf_16 : decode cX12_nameOf 16 = .ok (.bipush 103, 2) := by decide +kernel
theorem dX12_nameOf_18 : decode cX12_nameOf 18 = .ok (.bipush 101, 2) := by decide +kernel
theorem dX12_nameOf_20 : decode cX12_nameOf 20 = .ok (.invokestatic 160, 3) := by decide +kernel
theorem dX12_nameOf_23 : decode cX12_nameOf 23 = .ok (.lcmp, 1) := by decide +kernel
theorem dX12_nameOf_24 : decode cX12_nameOf 24 = .ok (.ifCond .ne 5, 3) := by decide +kernel
theorem dX12_nameOf_29 : decode cX12_nameOf 29 = .ok (.aload_n 0, 1) := by decide +kernel
theorem dX12_nameOf_30 : decode cX12_nameOf 30 = .ok (.getfield 156, 3) := by decide +kernel
theorem dX12_nameOf_33 : decode cX12_nameOf 33 = .ok (.bipush 107, 2) := by decide +kernel
theorem dX12_nameOf_35 : decode cX12_nameOf 35 = .ok (.bipush 105, 2) := by decide +kernel
theorem dX12_nameOf_37 : decode cX12_nameOf 37 = .ok (.bipush 110, 2) := by decide +kernel
theorem dX12_nameOf_39 : decode cX12_nameOf 39 = .ok (.invokestatic 160, 3) := by decide +kernel
theorem dX12_nameOf_42 : decode cX12_nameOf 42 = .ok (.lcmp, 1) := by decide +kernel
theorem dX12_nameOf_43 : decode cX12_nameOf 43 = .ok (.ifCond .ne 5, 3) := by decide +kernel
theorem dX12_nameOf_48 : decode cX12_nameOf 48 = .ok (.aload_n 0, 1) := by decide +kernel
theorem dX12_nameOf_49 : decode cX12_nameOf 49 = .ok (.getfield 156, 3) := by decide +kernel
theorem dX12_nameOf_52 : decode cX12_nameOf 52 = .ok (.bipush 99, 2) := by decide +kernel
theorem dX12_nameOf_54 : decode cX12_nameOf 54 = .ok (.bipush 114, 2) := by decide +kernel
theorem dX12_nameOf_56 : decode cX12_nameOf 56 = .ok (.bipush 97, 2) := by decide +kernel
theorem dX12_nameOf_58 : decode cX12_nameOf 58 = .ok (.bipush 102, 2) := by decide +kernel
theorem dX12_nameOf_60 : decode cX12_nameOf 60 = .ok (.bipush 116, 2) := by decide +kernel
theorem dX12_nameOf_62 : decode cX12_nameOf 62 = .ok (.invokestatic 168, 3) := by decide +kernel
theorem dX12_nameOf_65 : decode cX12_nameOf 65 = .ok (.lcmp, 1) := by decide +kernel
theorem dX12_nameOf_66 : decode cX12_nameOf 66 = .ok (.ifCond .ne 5, 3) := by decide +kernel
theorem dX12_nameOf_71 : decode cX12_nameOf 71 = .ok (.aload_n 0, 1) := by decide +kernel
theorem dX12_nameOf_72 : decode cX12_nameOf 72 = .ok (.getfield 156, 3) := by decide +kernel
theorem dX12_nameOf_75 : decode cX12_nameOf 75 = .ok (.bipush 112, 2) := by decide +kernel
theorem dX12_nameOf_77 : decode cX12_nameOf 77 = .ok (.bipush 108, 2) := by decide +kernel
theorem dX12_nameOf_79 : decode cX12_nameOf 79 = .ok (.bipush 97, 2) := by decide +kernel
theorem dX12_nameOf_81 : decode cX12_nameOf 81 = .ok (.bipush 99, 2) := by decide +kernel
theorem dX12_nameOf_83 : decode cX12_nameOf 83 = .ok (.bipush 101, 2) := by decide +kernel
theorem dX12_nameOf_85 : decode cX12_nameOf 85 = .ok (.invokestatic 168, 3) := by decide +kernel
theorem dX12_nameOf_88 : decode cX12_nameOf 88 = .ok (.lcmp, 1) := by decide +kernel
theorem dX12_nameOf_89 : decode cX12_nameOf 89 = .ok (.ifCond .ne 5, 3) := by decide +kernel
theorem dX12_nameOf_94 : decode cX12_nameOf 94 = .ok (.aload_n 0, 1) := by decide +kernel
theorem dX12_nameOf_95 : decode cX12_nameOf 95 = .ok (.getfield 156, 3) := by decide +kernel
theorem dX12_nameOf_98 : decode cX12_nameOf 98 = .ok (.bipush 109, 2) := by decide +kernel
theorem dX12_nameOf_100 : decode cX12_nameOf 100 = .ok (.bipush 111, 2) := by decide +kernel
theorem dX12_nameOf_102 : decode cX12_nameOf 102 = .ok (.bipush 110, 2) := by decide +kernel
theorem dX12_nameOf_104 : decode cX12_nameOf 104 = .ok (.bipush 116, 2) := by decide +kernel
theorem dX12_nameOf_106 : decode cX12_nameOf 106 = .ok (.bipush 104, 2) := by decide +kernel
theorem dX12_nameOf_108 : decode cX12_nameOf 108 = .ok (.invokestatic 168, 3) := by decide +kernel
theorem dX12_nameOf_111 : decode cX12_nameOf 111 = .ok (.lcmp, 1) := by decide +kernel
theorem dX12_nameOf_112 : decode cX12_nameOf 112 = .ok (.ifCond .ne 7, 3) := by decide +kernel
theorem dX12_nameOf_119 : decode cX12_nameOf 119 = .ok (.aload_n 0, 1) := by decide +kernel
theorem dX12_nameOf_120 : decode cX12_nameOf 120 = .ok (.getfield 156, 3) := by decide +kernel
theorem dX12_nameOf_123 : decode cX12_nameOf 123 = .ok (.bipush 117, 2) := by decide +kernel
theorem dX12_nameOf_125 : decode cX12_nameOf 125 = .ok (.bipush 110, 2) := by decide +kernel
theorem dX12_nameOf_127 : decode cX12_nameOf 127 = .ok (.bipush 100, 2) := by decide +kernel
theorem dX12_nameOf_129 : decode cX12_nameOf 129 = .ok (.bipush 101, 2) := by decide +kernel
theorem dX12_nameOf_131 : decode cX12_nameOf 131 = .ok (.bipush 114, 2) := by decide +kernel
theorem dX12_nameOf_133 : decode cX12_nameOf 133 = .ok (.invokestatic 168, 3) := by decide +kernel
theorem dX12_nameOf_136 : decode cX12_nameOf 136 = .ok (.lcmp, 1) := by decide +kernel
theorem dX12_nameOf_137 : decode cX12_nameOf 137 = .ok (.ifCond .ne 7, 3) := by decide +kernel
theorem dX12_nameOf_144 : decode cX12_nameOf 144 = .ok (.iconst (-1), 1) := by decide +kernel
theorem dX12_nameOf_145 : decode cX12_nameOf 145 = .ok (.ireturn, 1) := by decide +kernel
theorem dX12_nameOf_140 : decode cX12_nameOf 140 = .ok (.iconst 5, 1) := by decide +kernel
theorem dX12_nameOf_141 : decode cX12_nameOf 141 = .ok (.goto 4, 3) := by decide +kernel
theorem dX12_nameOf_115 : decode cX12_nameOf 115 = .ok (.iconst 4, 1) := by decide +kernel
theorem dX12_nameOf_116 : decode cX12_nameOf 116 = .ok (.goto 29, 3) := by decide +kernel
theorem dX12_nameOf_92 : decode cX12_nameOf 92 = .ok (.iconst 3, 1) := by decide +kernel
theorem dX12_nameOf_93 : decode cX12_nameOf 93 = .ok (.ireturn, 1) := by decide +kernel
theorem dX12_nameOf_69 : decode cX12_nameOf 69 = .ok (.iconst 2, 1) := by decide +kernel
theorem dX12_nameOf_70 : decode cX12_nameOf 70 = .ok (.ireturn, 1) := by decide +kernel
theorem dX12_nameOf_46 : decode cX12_nameOf 46 = .ok (.iconst 1, 1) := by decide +kernel
theorem dX12_nameOf_47 : decode cX12_nameOf 47 = .ok (.ireturn, 1) := by decide +kernel
theorem dX12_nameOf_27 : decode cX12_nameOf 27 = .ok (.iconst 0, 1) := by decide +kernel
theorem dX12_nameOf_28 : decode cX12_nameOf 28 = .ok (.ireturn, 1) := by decide +kernel
theorem dX12_nameOf_8 : decode cX12_nameOf 8 = .ok (.iconst (-1), 1) := by decide +kernel
theorem dX12_nameOf_9 : decode cX12_nameOf 9 = .ok (.ireturn, 1) := by decide +kernel
theorem dX12_emit_0 : decode cX12_emit 0 = .ok (.aload_n 0, 1) := by decide +kernel
theorem tw_176 : Cond.fieldLink RX12 7 "RingsUnderModel" "a" "[I" ∈ wsL_law := List.mem_of_getElem? (i := 176) (by decide +kernel)
theorem dX12_emit_1 : decode cX12_emit 1 = .ok (.getfield 7, 3) := by decide +kernel
theorem dX12_emit_4 : decode cX12_emit 4 = .ok (.aload_n 0, 1) := by decide +kernel
theorem tw_821 : Cond.fieldLink RX12 172 "RingsUnderModel" "text0" "I" ∈ wsL_law := List.mem_of_getElem? (i := 821) (by decide +kernel)
theorem dX12_emit_5 : decode cX12_emit 5 = .ok (.getfield 172, 3) := by decide +kernel
theorem dX12_emit_8 : decode cX12_emit 8 = .ok (.sipush 250, 3) := by decide +kernel
theorem dX12_emit_11 : decode cX12_emit 11 = .ok (.iadd, 1) := by decide +kernel
theorem dX12_emit_12 : decode cX12_emit 12 = .ok (.iconst 2, 1) := by decide +kernel
theorem dX12_emit_13 : decode cX12_emit 13 = .ok (.aload_n 0, 1) := by decide +kernel
theorem tw_827 : Cond.fieldLink RX12 175 "RingsUnderModel" "written" "I" ∈ wsL_law := List.mem_of_getElem? (i := 827) (by decide +kernel)
theorem dX12_emit_14 : decode cX12_emit 14 = .ok (.getfield 175, 3) := by decide +kernel
theorem dX12_emit_17 : decode cX12_emit 17 = .ok (.imul, 1) := by decide +kernel
theorem dX12_emit_18 : decode cX12_emit 18 = .ok (.iadd, 1) := by decide +kernel
theorem dX12_emit_19 : decode cX12_emit 19 = .ok (.iload_n 1, 1) := by decide +kernel
theorem dX12_emit_20 : decode cX12_emit 20 = .ok (.iastore, 1) := by decide +kernel
theorem dX12_emit_21 : decode cX12_emit 21 = .ok (.aload_n 0, 1) := by decide +kernel
theorem dX12_emit_22 : decode cX12_emit 22 = .ok (.getfield 7, 3) := by decide +kernel
theorem dX12_emit_25 : decode cX12_emit 25 = .ok (.aload_n 0, 1) := by decide +kernel
theorem dX12_emit_26 : decode cX12_emit 26 = .ok (.getfield 172, 3) := by decide +kernel
theorem dX12_emit_29 : decode cX12_emit 29 = .ok (.sipush 250, 3) := by decide +kernel
theorem dX12_emit_32 : decode cX12_emit 32 = .ok (.iadd, 1) := by decide +kernel
theorem dX12_emit_33 : decode cX12_emit 33 = .ok (.iconst 2, 1) := by decide +kernel
theorem dX12_emit_34 : decode cX12_emit 34 = .ok (.aload_n 0, 1) := by decide +kernel
theorem dX12_emit_35 : decode cX12_emit 35 = .ok (.getfield 175, 3) := by decide +kernel
theorem dX12_emit_38 : decode cX12_emit 38 = .ok (.imul, 1) := by decide +kernel
theorem dX12_emit_39 : decode cX12_emit 39 = .ok (.iadd, 1) := by decide +kernel
theorem dX12_emit_40 : decode cX12_emit 40 = .ok (.iconst 1, 1) := by decide +kernel
theorem dX12_emit_41 : decode cX12_emit 41 = .ok (.iadd, 1) := by decide +kernel
theorem dX12_emit_42 : decode cX12_emit 42 = .ok (.iload_n 2, 1) := by decide +kernel
theorem dX12_emit_43 : decode cX12_emit 43 = .ok (.iastore, 1) := by decide +kernel
theorem dX12_emit_44 : decode cX12_emit 44 = .ok (.aload_n 0, 1) := by decide +kernel
theorem dX12_emit_45 : decode cX12_emit 45 = .ok (.dup, 1) := by decide +kernel
theorem dX12_emit_46 : decode cX12_emit 46 = .ok (.getfield 175, 3) := by decide +kernel
theorem dX12_emit_49 : decode cX12_emit 49 = .ok (.iconst 1, 1) := by decide +kernel
theorem dX12_emit_50 : decode cX12_emit 50 = .ok (.iadd, 1) := by decide +kernel
theorem dX12_emit_51 : decode cX12_emit 51 = .ok (.putfield 175, 3) := by decide +kernel
theorem dX12_emit_54 : decode cX12_emit 54 = .ok (.return_, 1) := by decide +kernel
theorem dX12_push_0 : decode cX12_push 0 = .ok (.aload_n 0, 1) := by decide +kernel
theorem tw_182 : Cond.fieldLink RX12 29 "RingsUnderModel" "pile" "[I" ∈ wsL_law := List.mem_of_getElem? (i := 182) (by decide +kernel)
theorem dX12_push_1 : decode cX12_push 1 = .ok (.getfield 29, 3) := by decide +kernel
theorem dX12_push_4 : decode cX12_push 4 = .ok (.aload_n 0, 1) := by decide +kernel
theorem tw_887 : Cond.fieldLink RX12 178 "RingsUnderModel" "piled" "I" ∈ wsL_law := List.mem_of_getElem? (i := 887) (by decide +kernel)
theorem dX12_push_5 : decode cX12_push 5 = .ok (.getfield 178, 3) := by decide +kernel
theorem dX12_push_8 : decode cX12_push 8 = .ok (.iload_n 1, 1) := by decide +kernel
theorem dX12_push_9 : decode cX12_push 9 = .ok (.iastore, 1) := by decide +kernel
theorem dX12_push_10 : decode cX12_push 10 = .ok (.aload_n 0, 1) := by decide +kernel
theorem dX12_push_11 : decode cX12_push 11 = .ok (.dup, 1) := by decide +kernel
theorem dX12_push_12 : decode cX12_push 12 = .ok (.getfield 178, 3) := by decide +kernel
theorem dX12_push_15 : decode cX12_push 15 = .ok (.iconst 1, 1) := by decide +kernel
theorem dX12_push_16 : decode cX12_push 16 = .ok (.iadd, 1) := by decide +kernel
theorem dX12_push_17 : decode cX12_push 17 = .ok (.putfield 178, 3) := by decide +kernel
theorem dX12_push_20 : decode cX12_push 20 = .ok (.return_, 1) := by decide +kernel
theorem dX12_whole_0 : decode cX12_whole 0 = .ok (.aload_n 0, 1) := by decide +kernel
theorem dX12_whole_1 : decode cX12_whole 1 = .ok (.iconst 1, 1) := by decide +kernel
theorem tw_888 : Cond.fieldLink RX12 181 "RingsUnderModel" "isWhole" "Z" ∈ wsL_law := List.mem_of_getElem? (i := 888) (by decide +kernel)
theorem dX12_whole_2 : decode cX12_whole 2 = .ok (.putfield 181, 3) := by decide +kernel
theorem dX12_whole_5 : decode cX12_whole 5 = .ok (.aload_n 0, 1) := by decide +kernel
theorem dX12_whole_6 : decode cX12_whole 6 = .ok (.getfield 178, 3) := by decide +kernel
theorem dX12_whole_9 : decode cX12_whole 9 = .ok (.ifCond .le 47, 3) := by decide +kernel
theorem dX12_whole_56 : decode cX12_whole 56 = .ok (.return_, 1) := by decide +kernel
theorem dX12_whole_12 : decode cX12_whole 12 = .ok (.aload_n 0, 1) := by decide +kernel
theorem dX12_whole_13 : decode cX12_whole 13 = .ok (.getfield 29, 3) := by decide +kernel
theorem dX12_whole_16 : decode cX12_whole 16 = .ok (.aload_n 0, 1) := by decide +kernel
theorem dX12_whole_17 : decode cX12_whole 17 = .ok (.getfield 178, 3) := by decide +kernel
theorem dX12_whole_20 : decode cX12_whole 20 = .ok (.iconst 1, 1) := by decide +kernel
theorem dX12_whole_21 : decode cX12_whole 21 = .ok (.isub, 1) := by decide +kernel
theorem dX12_whole_22 : decode cX12_whole 22 = .ok (.iaload, 1) := by decide +kernel
theorem dX12_whole_23 : decode cX12_whole 23 = .ok (.iconst 2, 1) := by decide +kernel
theorem dX12_whole_24 : decode cX12_whole 24 = .ok (.if_icmp .ne 32, 3) := by decide +kernel
theorem dX12_whole_27 : decode cX12_whole 27 = .ok (.aload_n 0, 1) := by decide +kernel
theorem dX12_whole_28 : decode cX12_whole 28 = .ok (.dup, 1) := by decide +kernel
theorem dX12_whole_29 : decode cX12_whole 29 = .ok (.getfield 178, 3) := by decide +kernel
theorem dX12_whole_32 : decode cX12_whole 32 = .ok (.iconst 1, 1) := by decide +kernel
theorem dX12_whole_33 : decode cX12_whole 33 = .ok (.isub, 1) := by decide +kernel
theorem dX12_whole_34 : decode cX12_whole 34 = .ok (.putfield 178, 3) := by decide +kernel
theorem dX12_whole_37 : decode cX12_whole 37 = .ok (.aload_n 0, 1) := by decide +kernel
theorem dX12_whole_38 : decode cX12_whole 38 = .ok (.dup, 1) := by decide +kernel
theorem tw_828 : Cond.fieldLink RX12 185 "RingsUnderModel" "opens" "I" ∈ wsL_law := List.mem_of_getElem? (i := 828) (by decide +kernel)
theorem dX12_whole_39 : decode cX12_whole 39 = .ok (.getfield 185, 3) := by decide +kernel
theorem dX12_whole_42 : decode cX12_whole 42 = .ok (.iconst 1, 1) := by decide +kernel
theorem dX12_whole_43 : decode cX12_whole 43 = .ok (.isub, 1) := by decide +kernel
theorem dX12_whole_44 : decode cX12_whole 44 = .ok (.putfield 185, 3) := by decide +kernel
theorem dX12_whole_47 : decode cX12_whole 47 = .ok (.aload_n 0, 1) := by decide +kernel
theorem dX12_whole_48 : decode cX12_whole 48 = .ok (.iconst 2, 1) := by decide +kernel
theorem dX12_whole_49 : decode cX12_whole 49 = .ok (.iconst 0, 1) := by decide +kernel
theorem tw_905 : Cond.methodLink RX12 188 yX12_emit ∈ wsL_law := List.mem_of_getElem? (i := 905) (by decide +kernel)
theorem tw_906 : Cond.instanceMethod yX12_emit ∈ wsL_law := List.mem_of_getElem? (i := 906) (by decide +kernel)
theorem tw_907 : Cond.selects RX12 yX12_emit yX12_emit ∈ wsL_law := List.mem_of_getElem? (i := 907) (by decide +kernel)
theorem tw_908 : Cond.code yX12_emit cX12_emit 3 none ∈ wsL_law := List.mem_of_getElem? (i := 908) (by decide +kernel)
theorem dX12_whole_50 : decode cX12_whole 50 = .ok (.invokevirtual 188, 3) := by decide +kernel
theorem dX12_whole_53 : decode cX12_whole 53 = .ok (.goto (-48), 3) := by decide +kernel
theorem dX12_settle_0 : decode cX12_settle 0 = .ok (.aload_n 0, 1) := by decide +kernel
theorem dX12_settle_1 : decode cX12_settle 1 = .ok (.getfield 178, 3) := by decide +kernel
theorem dX12_settle_4 : decode cX12_settle 4 = .ok (.ifCond .le 50, 3) := by decide +kernel
theorem dX12_settle_54 : decode cX12_settle 54 = .ok (.return_, 1) := by decide +kernel
theorem dX12_settle_7 : decode cX12_settle 7 = .ok (.aload_n 0, 1) := by decide +kernel
theorem dX12_settle_8 : decode cX12_settle 8 = .ok (.getfield 29, 3) := by decide +kernel
theorem dX12_settle_11 : decode cX12_settle 11 = .ok (.aload_n 0, 1) := by decide +kernel
theorem dX12_settle_12 : decode cX12_settle 12 = .ok (.getfield 178, 3) := by decide +kernel
theorem dX12_settle_15 : decode cX12_settle 15 = .ok (.iconst 1, 1) := by decide +kernel
theorem dX12_settle_16 : decode cX12_settle 16 = .ok (.isub, 1) := by decide +kernel
theorem dX12_settle_17 : decode cX12_settle 17 = .ok (.iaload, 1) := by decide +kernel
theorem dX12_settle_18 : decode cX12_settle 18 = .ok (.iload_n 1, 1) := by decide +kernel
theorem dX12_settle_19 : decode cX12_settle 19 = .ok (.bipush 6, 2) := by decide +kernel
theorem dX12_settle_21 : decode cX12_settle 21 = .ok (.invokestatic 62, 3) := by decide +kernel
theorem dX12_settle_24 : decode cX12_settle 24 = .ok (.ifCond .eq 30, 3) := by decide +kernel
theorem dX12_settle_27 : decode cX12_settle 27 = .ok (.aload_n 0, 1) := by decide +kernel
theorem dX12_settle_28 : decode cX12_settle 28 = .ok (.dup, 1) := by decide +kernel
theorem dX12_settle_29 : decode cX12_settle 29 = .ok (.getfield 178, 3) := by decide +kernel
theorem dX12_settle_32 : decode cX12_settle 32 = .ok (.iconst 1, 1) := by decide +kernel
theorem dX12_settle_33 : decode cX12_settle 33 = .ok (.isub, 1) := by decide +kernel
theorem dX12_settle_34 : decode cX12_settle 34 = .ok (.putfield 178, 3) := by decide +kernel
theorem dX12_settle_37 : decode cX12_settle 37 = .ok (.aload_n 0, 1) := by decide +kernel
theorem dX12_settle_38 : decode cX12_settle 38 = .ok (.aload_n 0, 1) := by decide +kernel
theorem dX12_settle_39 : decode cX12_settle 39 = .ok (.getfield 29, 3) := by decide +kernel
theorem dX12_settle_42 : decode cX12_settle 42 = .ok (.aload_n 0, 1) := by decide +kernel
theorem dX12_settle_43 : decode cX12_settle 43 = .ok (.getfield 178, 3) := by decide +kernel
theorem dX12_settle_46 : decode cX12_settle 46 = .ok (.iaload, 1) := by decide +kernel
theorem dX12_settle_47 : decode cX12_settle 47 = .ok (.iconst 0, 1) := by decide +kernel
theorem dX12_settle_48 : decode cX12_settle 48 = .ok (.invokevirtual 188, 3) := by decide +kernel
theorem dX12_settle_51 : decode cX12_settle 51 = .ok (.goto (-51), 3) := by decide +kernel
theorem dX12_hasParen_0 : decode cX12_hasParen 0 = .ok (.iconst 0, 1) := by decide +kernel
theorem dX12_hasParen_1 : decode cX12_hasParen 1 = .ok (.istore_n 1, 1) := by decide +kernel
theorem dX12_hasParen_2 : decode cX12_hasParen 2 = .ok (.iload_n 1, 1) := by decide +kernel
theorem dX12_hasParen_3 : decode cX12_hasParen 3 = .ok (.aload_n 0, 1) := by decide +kernel
theorem dX12_hasParen_4 : decode cX12_hasParen 4 = .ok (.getfield 178, 3) := by decide +kernel
theorem dX12_hasParen_7 : decode cX12_hasParen 7 = .ok (.if_icmp .ge 22, 3) := by decide +kernel
theorem dX12_hasParen_29 : decode cX12_hasParen 29 = .ok (.iconst 0, 1) := by decide +kernel
theorem dX12_hasParen_30 : decode cX12_hasParen 30 = .ok (.ireturn, 1) := by decide +kernel
theorem dX12_hasParen_10 : decode cX12_hasParen 10 = .ok (.aload_n 0, 1) := by decide +kernel
theorem dX12_hasParen_11 : decode cX12_hasParen 11 = .ok (.getfield 29, 3) := by decide +kernel
theorem dX12_hasParen_14 : decode cX12_hasParen 14 = .ok (.iload_n 1, 1) := by decide +kernel
theorem dX12_hasParen_15 : decode cX12_hasParen 15 = .ok (.iaload, 1) := by decide +kernel
theorem dX12_hasParen_16 : decode cX12_hasParen 16 = .ok (.bipush 40, 2) := by decide +kernel
theorem dX12_hasParen_18 : decode cX12_hasParen 18 = .ok (.if_icmp .ne 5, 3) := by decide +kernel
theorem dX12_hasParen_23 : decode cX12_hasParen 23 = .ok (.iinc 1 1, 3) := by decide +kernel
theorem dX12_hasParen_26 : decode cX12_hasParen 26 = .ok (.goto (-24), 3) := by decide +kernel
theorem dX12_hasParen_21 : decode cX12_hasParen 21 = .ok (.iconst 1, 1) := by decide +kernel
theorem dX12_hasParen_22 : decode cX12_hasParen 22 = .ok (.ireturn, 1) := by decide +kernel
theorem dX12_goesOn_0 : decode cX12_goesOn 0 = .ok (.aload_n 0, 1) := by decide +kernel
theorem dX12_goesOn_1 : decode cX12_goesOn 1 = .ok (.getfield 143, 3) := by decide +kernel
theorem dX12_goesOn_4 : decode cX12_goesOn 4 = .ok (.bipush 43, 2) := by decide +kernel
theorem dX12_goesOn_6 : decode cX12_goesOn 6 = .ok (.if_icmp .eq 46, 3) := by decide +kernel
theorem dX12_goesOn_52 : decode cX12_goesOn 52 = .ok (.iconst 1, 1) := by decide +kernel
theorem dX12_goesOn_53 : decode cX12_goesOn 53 = .ok (.goto 4, 3) := by decide +kernel
theorem dX12_goesOn_57 : decode cX12_goesOn 57 = .ok (.ireturn, 1) := by decide +kernel
theorem dX12_goesOn_9 : decode cX12_goesOn 9 = .ok (.aload_n 0, 1) := by decide +kernel
theorem dX12_goesOn_10 : decode cX12_goesOn 10 = .ok (.getfield 143, 3) := by decide +kernel
theorem dX12_goesOn_13 : decode cX12_goesOn 13 = .ok (.bipush 45, 2) := by decide +kernel
theorem dX12_goesOn_15 : decode cX12_goesOn 15 = .ok (.if_icmp .eq 37, 3) := by decide +kernel
theorem dX12_goesOn_18 : decode cX12_goesOn 18 = .ok (.aload_n 0, 1) := by decide +kernel
theorem dX12_goesOn_19 : decode cX12_goesOn 19 = .ok (.getfield 143, 3) := by decide +kernel
theorem dX12_goesOn_22 : decode cX12_goesOn 22 = .ok (.bipush 42, 2) := by decide +kernel
theorem dX12_goesOn_24 : decode cX12_goesOn 24 = .ok (.if_icmp .eq 28, 3) := by decide +kernel
theorem dX12_goesOn_27 : decode cX12_goesOn 27 = .ok (.aload_n 0, 1) := by decide +kernel
theorem dX12_goesOn_28 : decode cX12_goesOn 28 = .ok (.getfield 143, 3) := by decide +kernel
theorem dX12_goesOn_31 : decode cX12_goesOn 31 = .ok (.bipush 47, 2) := by decide +kernel
theorem dX12_goesOn_33 : decode cX12_goesOn 33 = .ok (.if_icmp .eq 19, 3) := by decide +kernel
theorem dX12_goesOn_36 : decode cX12_goesOn 36 = .ok (.aload_n 0, 1) := by decide +kernel
theorem dX12_goesOn_37 : decode cX12_goesOn 37 = .ok (.getfield 143, 3) := by decide +kernel
theorem dX12_goesOn_40 : decode cX12_goesOn 40 = .ok (.bipush 41, 2) := by decide +kernel
theorem dX12_goesOn_42 : decode cX12_goesOn 42 = .ok (.if_icmp .ne 14, 3) := by decide +kernel
theorem dX12_goesOn_56 : decode cX12_goesOn 56 = .ok (.iconst 0, 1) := by decide +kernel
theorem dX12_goesOn_45 : decode cX12_goesOn 45 = .ok (.aload_n 0, 1) := by decide +kernel
theorem tw_893 : Cond.methodLink RX12 205 yX12_hasParen ∈ wsL_law := List.mem_of_getElem? (i := 893) (by decide +kernel)
theorem tw_894 : Cond.instanceMethod yX12_hasParen ∈ wsL_law := List.mem_of_getElem? (i := 894) (by decide +kernel)
theorem tw_895 : Cond.selects RX12 yX12_hasParen yX12_hasParen ∈ wsL_law := List.mem_of_getElem? (i := 895) (by decide +kernel)
theorem tw_896 : Cond.code yX12_hasParen cX12_hasParen 2 (some .boolean) ∈ wsL_law := List.mem_of_getElem? (i := 896) (by decide +kernel)
theorem dX12_goesOn_46 : decode cX12_goesOn 46 = .ok (.invokevirtual 205, 3) := by decide +kernel
theorem dX12_goesOn_49 : decode cX12_goesOn 49 = .ok (.ifCond .eq 7, 3) := by decide +kernel
theorem dX12_beginOne_0 : decode cX12_beginOne 0 = .ok (.aload_n 0, 1) := by decide +kernel
theorem dX12_beginOne_1 : decode cX12_beginOne 1 = .ok (.getfield 143, 3) := by decide +kernel
theorem dX12_beginOne_4 : decode cX12_beginOne 4 = .ok (.iconst 1, 1) := by decide +kernel
theorem dX12_beginOne_5 : decode cX12_beginOne 5 = .ok (.if_icmp .ne 15, 3) := by decide +kernel
theorem dX12_beginOne_20 : decode cX12_beginOne 20 = .ok (.aload_n 0, 1) := by decide +kernel
theorem dX12_beginOne_21 : decode cX12_beginOne 21 = .ok (.getfield 143, 3) := by decide +kernel
theorem dX12_beginOne_24 : decode cX12_beginOne 24 = .ok (.iconst 1, 1) := by decide +kernel
theorem dX12_beginOne_25 : decode cX12_beginOne 25 = .ok (.if_icmp .eq 10, 3) := by decide +kernel
theorem dX12_beginOne_35 : decode cX12_beginOne 35 = .ok (.aload_n 0, 1) := by decide +kernel
theorem dX12_beginOne_36 : decode cX12_beginOne 36 = .ok (.aload_n 0, 1) := by decide +kernel
theorem dX12_beginOne_37 : decode cX12_beginOne 37 = .ok (.getfield 143, 3) := by decide +kernel
theorem dX12_beginOne_40 : decode cX12_beginOne 40 = .ok (.iconst 1, 1) := by decide +kernel
theorem dX12_beginOne_41 : decode cX12_beginOne 41 = .ok (.if_icmp .ne 7, 3) := by decide +kernel
theorem dX12_beginOne_44 : decode cX12_beginOne 44 = .ok (.iconst 0, 1) := by decide +kernel
theorem dX12_beginOne_45 : decode cX12_beginOne 45 = .ok (.goto 4, 3) := by decide +kernel
theorem dX12_beginOne_49 : decode cX12_beginOne 49 = .ok (.aload_n 0, 1) := by decide +kernel
theorem dX12_beginOne_50 : decode cX12_beginOne 50 = .ok (.getfield 143, 3) := by decide +kernel
theorem dX12_beginOne_53 : decode cX12_beginOne 53 = .ok (.iconst 1, 1) := by decide +kernel
theorem dX12_beginOne_54 : decode cX12_beginOne 54 = .ok (.if_icmp .ne 10, 3) := by decide +kernel
theorem dX12_beginOne_57 : decode cX12_beginOne 57 = .ok (.aload_n 0, 1) := by decide +kernel
theorem dX12_beginOne_58 : decode cX12_beginOne 58 = .ok (.getfield 149, 3) := by decide +kernel
theorem dX12_beginOne_61 : decode cX12_beginOne 61 = .ok (.goto 7, 3) := by decide +kernel
theorem dX12_beginOne_68 : decode cX12_beginOne 68 = .ok (.invokevirtual 188, 3) := by decide +kernel
theorem dX12_beginOne_71 : decode cX12_beginOne 71 = .ok (.aload_n 0, 1) := by decide +kernel
theorem tw_832 : Cond.methodLink RX12 196 yX12_nextToken ∈ wsL_law := List.mem_of_getElem? (i := 832) (by decide +kernel)
theorem tw_833 : Cond.instanceMethod yX12_nextToken ∈ wsL_law := List.mem_of_getElem? (i := 833) (by decide +kernel)
theorem tw_834 : Cond.selects RX12 yX12_nextToken yX12_nextToken ∈ wsL_law := List.mem_of_getElem? (i := 834) (by decide +kernel)
theorem tw_835 : Cond.code yX12_nextToken cX12_nextToken 3 none ∈ wsL_law := List.mem_of_getElem? (i := 835) (by decide +kernel)
theorem dX12_beginOne_72 : decode cX12_beginOne 72 = .ok (.invokevirtual 196, 3) := by decide +kernel
theorem dX12_beginOne_75 : decode cX12_beginOne 75 = .ok (.aload_n 0, 1) := by decide +kernel
theorem tw_909 : Cond.methodLink RX12 199 yX12_whole ∈ wsL_law := List.mem_of_getElem? (i := 909) (by decide +kernel)
theorem tw_910 : Cond.instanceMethod yX12_whole ∈ wsL_law := List.mem_of_getElem? (i := 910) (by decide +kernel)
theorem tw_911 : Cond.selects RX12 yX12_whole yX12_whole ∈ wsL_law := List.mem_of_getElem? (i := 911) (by decide +kernel)
theorem tw_912 : Cond.code yX12_whole cX12_whole 1 none ∈ wsL_law := List.mem_of_getElem? (i := 912) (by decide +kernel)
theorem dX12_beginOne_76 : decode cX12_beginOne 76 = .ok (.invokevirtual 199, 3) := by decide +kernel
theorem dX12_beginOne_79 : decode cX12_beginOne 79 = .ok (.iconst 0, 1) := by decide +kernel
theorem dX12_beginOne_80 : decode cX12_beginOne 80 = .ok (.ireturn, 1) := by decide +kernel
theorem dX12_beginOne_28 : decode cX12_beginOne 28 = .ok (.aload_n 0, 1) := by decide +kernel
theorem tw_921 : Cond.methodLink RX12 192 yX12_nameOf ∈ wsL_law := List.mem_of_getElem? (i := 921) (by decide +kernel)
theorem tw_922 : Cond.instanceMethod yX12_nameOf ∈ wsL_law := List.mem_of_getElem? (i := 922) (by decide +kernel)
theorem tw_923 : Cond.selects RX12 yX12_nameOf yX12_nameOf ∈ wsL_law := List.mem_of_getElem? (i := 923) (by decide +kernel)
theorem tw_924 : Cond.code yX12_nameOf cX12_nameOf 1 (some .int) ∈ wsL_law := List.mem_of_getElem? (i := 924) (by decide +kernel)
theorem dX12_beginOne_29 : decode cX12_beginOne 29 = .ok (.invokevirtual 192, 3) := by decide +kernel
theorem dX12_beginOne_32 : decode cX12_beginOne 32 = .ok (.ifCond .lt 49, 3) := by decide +kernel
theorem dX12_beginOne_81 : decode cX12_beginOne 81 = .ok (.aload_n 0, 1) := by decide +kernel
theorem dX12_beginOne_82 : decode cX12_beginOne 82 = .ok (.getfield 143, 3) := by decide +kernel
theorem dX12_beginOne_85 : decode cX12_beginOne 85 = .ok (.bipush 40, 2) := by decide +kernel
theorem dX12_beginOne_87 : decode cX12_beginOne 87 = .ok (.if_icmp .eq 14, 3) := by decide +kernel
theorem dX12_beginOne_101 : decode cX12_beginOne 101 = .ok (.aload_n 0, 1) := by decide +kernel
theorem dX12_beginOne_102 : decode cX12_beginOne 102 = .ok (.getfield 185, 3) := by decide +kernel
theorem dX12_beginOne_105 : decode cX12_beginOne 105 = .ok (.bipush 8, 2) := by decide +kernel
theorem dX12_beginOne_107 : decode cX12_beginOne 107 = .ok (.if_icmp .ne 5, 3) := by decide +kernel
theorem dX12_beginOne_112 : decode cX12_beginOne 112 = .ok (.aload_n 0, 1) := by decide +kernel
theorem dX12_beginOne_113 : decode cX12_beginOne 113 = .ok (.dup, 1) := by decide +kernel
theorem dX12_beginOne_114 : decode cX12_beginOne 114 = .ok (.getfield 185, 3) := by decide +kernel
theorem dX12_beginOne_117 : decode cX12_beginOne 117 = .ok (.iconst 1, 1) := by decide +kernel
theorem dX12_beginOne_118 : decode cX12_beginOne 118 = .ok (.iadd, 1) := by decide +kernel
theorem dX12_beginOne_119 : decode cX12_beginOne 119 = .ok (.putfield 185, 3) := by decide +kernel
theorem dX12_beginOne_122 : decode cX12_beginOne 122 = .ok (.aload_n 0, 1) := by decide +kernel
theorem dX12_beginOne_123 : decode cX12_beginOne 123 = .ok (.aload_n 0, 1) := by decide +kernel
theorem dX12_beginOne_124 : decode cX12_beginOne 124 = .ok (.getfield 143, 3) := by decide +kernel
theorem dX12_beginOne_127 : decode cX12_beginOne 127 = .ok (.bipush 40, 2) := by decide +kernel
theorem dX12_beginOne_129 : decode cX12_beginOne 129 = .ok (.if_icmp .ne 8, 3) := by decide +kernel
theorem dX12_beginOne_132 : decode cX12_beginOne 132 = .ok (.bipush 40, 2) := by decide +kernel
theorem dX12_beginOne_134 : decode cX12_beginOne 134 = .ok (.goto 4, 3) := by decide +kernel
theorem tw_913 : Cond.methodLink RX12 202 yX12_push ∈ wsL_law := List.mem_of_getElem? (i := 913) (by decide +kernel)
theorem tw_914 : Cond.instanceMethod yX12_push ∈ wsL_law := List.mem_of_getElem? (i := 914) (by decide +kernel)
theorem tw_915 : Cond.selects RX12 yX12_push yX12_push ∈ wsL_law := List.mem_of_getElem? (i := 915) (by decide +kernel)
theorem tw_916 : Cond.code yX12_push cX12_push 2 none ∈ wsL_law := List.mem_of_getElem? (i := 916) (by decide +kernel)
theorem dX12_beginOne_138 : decode cX12_beginOne 138 = .ok (.invokevirtual 202, 3) := by decide +kernel
theorem dX12_beginOne_141 : decode cX12_beginOne 141 = .ok (.aload_n 0, 1) := by decide +kernel
theorem dX12_beginOne_142 : decode cX12_beginOne 142 = .ok (.invokevirtual 196, 3) := by decide +kernel
theorem dX12_beginOne_145 : decode cX12_beginOne 145 = .ok (.iconst 0, 1) := by decide +kernel
theorem dX12_beginOne_146 : decode cX12_beginOne 146 = .ok (.ireturn, 1) := by decide +kernel
theorem dX12_beginOne_110 : decode cX12_beginOne 110 = .ok (.iconst 3, 1) := by decide +kernel
theorem dX12_beginOne_111 : decode cX12_beginOne 111 = .ok (.ireturn, 1) := by decide +kernel
theorem dX12_beginOne_90 : decode cX12_beginOne 90 = .ok (.aload_n 0, 1) := by decide +kernel
theorem dX12_beginOne_91 : decode cX12_beginOne 91 = .ok (.getfield 143, 3) := by decide +kernel
theorem dX12_beginOne_94 : decode cX12_beginOne 94 = .ok (.bipush 45, 2) := by decide +kernel
theorem dX12_beginOne_96 : decode cX12_beginOne 96 = .ok (.if_icmp .eq 5, 3) := by decide +kernel
theorem dX12_beginOne_137 : decode cX12_beginOne 137 = .ok (.iconst 2, 1) := by decide +kernel
theorem dX12_beginOne_99 : decode cX12_beginOne 99 = .ok (.iconst 1, 1) := by decide +kernel
theorem dX12_beginOne_100 : decode cX12_beginOne 100 = .ok (.ireturn, 1) := by decide +kernel
theorem dX12_beginOne_48 : decode cX12_beginOne 48 = .ok (.iconst 1, 1) := by decide +kernel
theorem dX12_beginOne_64 : decode cX12_beginOne 64 = .ok (.aload_n 0, 1) := by decide +kernel
theorem dX12_beginOne_65 : decode cX12_beginOne 65 = .ok (.invokevirtual 192, 3) := by decide +kernel
theorem dX12_beginOne_8 : decode cX12_beginOne 8 = .ok (.aload_n 0, 1) := by decide +kernel
theorem dX12_beginOne_9 : decode cX12_beginOne 9 = .ok (.getfield 149, 3) := by decide +kernel
theorem dX12_beginOne_12 : decode cX12_beginOne 12 = .ok (.sipush 9999, 3) := by decide +kernel
theorem dX12_beginOne_15 : decode cX12_beginOne 15 = .ok (.if_icmp .le 5, 3) := by decide +kernel
theorem dX12_beginOne_18 : decode cX12_beginOne 18 = .ok (.iconst 2, 1) := by decide +kernel
theorem dX12_beginOne_19 : decode cX12_beginOne 19 = .ok (.ireturn, 1) := by decide +kernel
set_option maxHeartbeats 4000000 in
set_option maxRecDepth 100000 in
theorem s_X12_isWord_x (l : Launch) (D : va_G) (t : pq_T) (σ : pq_S) (I : Nat → Nat → Int32) (J : Nat → Nat → Int64) (ri : Nat → Nat → Int32) (rj : Nat → Nat → Int64) (rq : Nat → Nat → Option Nat) (sz : Nat) (tg : Nat → Nat) (hSH : SH σ tg) (hG0 : GT tg I ri) (this : Nat) (a0 : Int64) (hL_this : this ∈ σ.1) (hK_this : σ.2.1 this = 12) : MetI l yX12_isWord (wa yX12_isWord cX12_isWord 3 (some .boolean)) ({ frames := 0, cells := 0, slots := 0, locals := 0 }) [.ref this, .long a0] D t σ (I, J, ri, rj, rq) sz 0 0 (fun (r : Int32) (u : pq_S × pq_M) => u = (σ, I, J, ri, rj, rq) ∧ ((r = 1 ∧ ((I 393 this).toInt = 2)) ∨ (r = 0 ∧ True))) := by
  refine Met.ofW (cc := cX12_isWord) (maxL := 3) (ret := (some .boolean)) (by decide) rfl ?_
  intro p e s m args below meth c s₁ B hml hv
  obtain ⟨rfl, hsz, hP, hK, hD0, hN⟩ := hv
  have hx := B.exec
  have hb := B.bytes
  have hr := B.returns
  have hts := atoms_spec (ws := (wa yX12_isWord cX12_isWord 3 (some .boolean))) B.pre
  have hown : s.vm.findClass RX12 = some m.cls := findClass_of_methodNamed B.named
  have hlocks := B.notSynchronized
  subst hsz
  have hD : va_D (pq_B t σ (I, J, ri, rj, rq) s.heap.size) (pq_P t σ (I, J, ri, rj, rq)) := hD0.self
  generalize hAe : pq_B t σ (I, J, ri, rj, rq) s.heap.size = A at hD ⊢
  have hA : ∀ q : Nat, s.heap.size ≤ q → A q := fun q h => by rw [← hAe]; exact Or.inr h
  have hS : va_S A s.heap s.heap [] := va_S.rf
  have hG : GM [] tg σ I ri I ri rq := ⟨hG0, fun _ _ _ => rfl, fun _ _ _ _ _ => rfl, fun _ _ _ _ _ _ => rfl⟩
  have hl := lv_entry ([.ref this, .long a0]) (n := 3) (Nat.le_of_ble_eq_true rfl)
  rw [lg_entry_eq]
  generalize (lg_sl ([.ref this, .long a0]) ++ List.replicate (3 - (lg_sl ([.ref this, .long a0])).length) Slot.unset).toArray = ls at hl ⊢
  have hl : lv_has ls 3 [(0, .ref this), (1, .long a0)] := hl
  refine q_gen (fun Q hQ => ?_)
  have go : ∀ (H : Heap) (locs : List Loc) (ls : Array Slot), va_P D vwCl (pq_P t σ (I, J, ri, rj, rq)) H → va_D A (pq_P t σ (I, J, ri, rj, rq)) → va_S A s.heap H locs → lv_has ls 3 [(0, .ref this), (1, .long a0)] → W p l e ({ frames := 0, cells := 0, slots := 0, locals := 0 } : Room) s m (List.toArray ([.ref this, .long a0] : List Value)) below meth c H locs 0 0 Q (F0 m 0 ls []) := by
    intro H locs ls hP hD hS hl
    refine lv_aload_n hx hb dX12_isWord_0 rfl (lv_at hl 0 rfl) ?_
    refine pg_f (v := .int (I 393 this)) (C := RX12) (T := TX12) (N := 31) hx hb hts (tw_i inlX12) hown hK hP hL_this hK_this (by decide) rfl 9 (by decide) (hts _ (tw_c tw_831)) rfl dX12_isWord_1 ?_
    refine lv_iconst (v := 2) hx hb dX12_isWord_4 (by decide) ?_
    refine lv_icmp_ne (tgt := 21) hx hb dX12_isWord_5 (by decide) (fun c_1 => ?_) (fun c_1 => ?_)
    · have tc_2 : (I 393 this).toInt ≠ 2 := fun q => c_1 (Int32.toInt_inj.mp q)
      refine lv_iconst (v := 0) hx hb dX12_isWord_21 (by decide) ?_
      subst hQ
      exact W.zret (v := 0) hx hb hr (by decide) (fun t1 ht hW => ⟨⟨0, (σ, I, J, ri, rj, rq), rfl, ⟨rfl, (Or.inr ⟨rfl, trivial⟩)⟩, by rw [ht]; exact hP, va_K.moved hW.alike hK, hD⟩, hS.F ht⟩) hS.2.2 dX12_isWord_22
    · have tc_3 : (I 393 this).toInt = 2 := congrArg Int32.toInt c_1
      have h_4 : rg (I 393 this) 2 2 := rg_and (rg_full _) (rg_of_eq c_1 (rg_k (2 : Int32) 2 rfl)) (by decide)
      have uh_4 := h_4.1
      have vh_4 := h_4.2
      refine lv_aload_n hx hb dX12_isWord_8 rfl (lv_at hl 0 rfl) ?_
      refine pg_f (v := .long (J 395 this)) (C := RX12) (T := TX12) (N := 31) hx hb hts (tw_i inlX12) hown hK hP hL_this hK_this (by decide) rfl 11 (by decide) (hts _ (tw_c tw_838)) rfl dX12_isWord_9 ?_
      refine lv_lload_n hx hb dX12_isWord_12 rfl (lv_at hl 1 rfl) ?_
      refine W.lcmp hx hb dX12_isWord_13 ?_
      refine lv_topi (fun x_5 ex_5 => ?_)
      refine lv_if_ne (tgt := 21) hx hb dX12_isWord_14 (by decide) (fun c_6 => ?_) (fun c_6 => ?_)
      · have tc_7 : (x_5).toInt ≠ 0 := fun q => c_6 (Int32.toInt_inj.mp q)
        refine lv_iconst (v := 0) hx hb dX12_isWord_21 (by decide) ?_
        subst hQ
        exact W.zret (v := 0) hx hb hr (by decide) (fun t1 ht hW => ⟨⟨0, (σ, I, J, ri, rj, rq), rfl, ⟨rfl, (Or.inr ⟨rfl, trivial⟩)⟩, by rw [ht]; exact hP, va_K.moved hW.alike hK, hD⟩, hS.F ht⟩) hS.2.2 dX12_isWord_22
      · have tc_8 : (x_5).toInt = 0 := congrArg Int32.toInt c_6
        have h_9 : rg x_5 0 0 := rg_and (rg_full _) (rg_of_eq c_6 (rg_k (0 : Int32) 0 rfl)) (by decide)
        have uh_9 := h_9.1
        have vh_9 := h_9.2
        refine lv_iconst (v := 1) hx hb dX12_isWord_17 (by decide) ?_
        refine lv_goto (tgt := 22) hx hb dX12_isWord_18 (by decide) ?_
        subst hQ
        exact W.zret (v := 1) hx hb hr (by decide) (fun t1 ht hW => ⟨⟨1, (σ, I, J, ri, rj, rq), rfl, ⟨rfl, (Or.inl ⟨rfl, (by omega)⟩)⟩, by rw [ht]; exact hP, va_K.moved hW.alike hK, hD⟩, hS.F ht⟩) hS.2.2 dX12_isWord_22
  exact go _ _ _ hP hD hS hl

set_option maxHeartbeats 4000000 in
set_option maxRecDepth 100000 in
theorem s_X12_nameOf_x (l : Launch) (D : va_G) (t : pq_T) (σ : pq_S) (I : Nat → Nat → Int32) (J : Nat → Nat → Int64) (ri : Nat → Nat → Int32) (rj : Nat → Nat → Int64) (rq : Nat → Nat → Option Nat) (sz : Nat) (tg : Nat → Nat) (hSH : SH σ tg) (hG0 : GT tg I ri) (this : Nat) (hL_this : this ∈ σ.1) (hK_this : σ.2.1 this = 12) : MetI l yX12_nameOf (wa yX12_nameOf cX12_nameOf 1 (some .int)) ({ frames := 3, cells := 0, slots := 0, locals := 69 }) [.ref this] D t σ (I, J, ri, rj, rq) sz 0 0 (fun (r : Int32) (u : pq_S × pq_M) => u = (σ, I, J, ri, rj, rq) ∧ (r.toInt < 0 ∨ (I 393 this).toInt = 2) ∧ rg r (-1) 5) := by
  refine Met.ofW (cc := cX12_nameOf) (maxL := 1) (ret := (some .int)) (by decide) rfl ?_
  intro p e s m args below meth c s₁ B hml hv
  obtain ⟨rfl, hsz, hP, hK, hD0, hN⟩ := hv
  have hx := B.exec
  have hb := B.bytes
  have hr := B.returns
  have hts := atoms_spec (ws := (wa yX12_nameOf cX12_nameOf 1 (some .int))) B.pre
  have hown : s.vm.findClass RX12 = some m.cls := findClass_of_methodNamed B.named
  have hlocks := B.notSynchronized
  subst hsz
  have hD : va_D (pq_B t σ (I, J, ri, rj, rq) s.heap.size) (pq_P t σ (I, J, ri, rj, rq)) := hD0.self
  generalize hAe : pq_B t σ (I, J, ri, rj, rq) s.heap.size = A at hD ⊢
  have hA : ∀ q : Nat, s.heap.size ≤ q → A q := fun q h => by rw [← hAe]; exact Or.inr h
  have hS : va_S A s.heap s.heap [] := va_S.rf
  have hG : GM [] tg σ I ri I ri rq := ⟨hG0, fun _ _ _ => rfl, fun _ _ _ _ _ => rfl, fun _ _ _ _ _ _ => rfl⟩
  have hl := lv_entry ([.ref this]) (n := 1) (Nat.le_of_ble_eq_true rfl)
  rw [lg_entry_eq]
  generalize (lg_sl ([.ref this]) ++ List.replicate (1 - (lg_sl ([.ref this])).length) Slot.unset).toArray = ls at hl ⊢
  have hl : lv_has ls 1 [(0, .ref this)] := hl
  refine q_gen (fun Q hQ => ?_)
  have go : ∀ (H : Heap) (locs : List Loc) (ls : Array Slot), va_P D vwCl (pq_P t σ (I, J, ri, rj, rq)) H → va_D A (pq_P t σ (I, J, ri, rj, rq)) → va_S A s.heap H locs → lv_has ls 1 [(0, .ref this)] → W p l e ({ frames := 3, cells := 0, slots := 0, locals := 69 } : Room) s m (List.toArray ([.ref this] : List Value)) below meth c H locs 0 0 Q (F0 m 0 ls []) := by
    intro H locs ls hP hD hS hl
    refine lv_aload_n hx hb dX12_nameOf_0 rfl (lv_at hl 0 rfl) ?_
    refine pg_f (v := .int (I 393 this)) (C := RX12) (T := TX12) (N := 31) hx hb hts (tw_i inlX12) hown hK hP hL_this hK_this (by decide) rfl 9 (by decide) (hts _ (tw_c tw_831)) rfl dX12_nameOf_1 ?_
    refine lv_iconst (v := 2) hx hb dX12_nameOf_4 (by decide) ?_
    refine lv_icmp_eq (tgt := 10) hx hb dX12_nameOf_5 (by decide) (fun c_1 => ?_) (fun c_1 => ?_)
    · have tc_2 : (I 393 this).toInt = 2 := congrArg Int32.toInt c_1
      have h_3 : rg (I 393 this) 2 2 := rg_and (rg_full _) (rg_of_eq c_1 (rg_k (2 : Int32) 2 rfl)) (by decide)
      have uh_3 := h_3.1
      have vh_3 := h_3.2
      refine lv_aload_n hx hb dX12_nameOf_10 rfl (lv_at hl 0 rfl) ?_
      refine pg_f (v := .long (J 395 this)) (C := RX12) (T := TX12) (N := 31) hx hb hts (tw_i inlX12) hown hK hP hL_this hK_this (by decide) rfl 11 (by decide) (hts _ (tw_c tw_838)) rfl dX12_nameOf_11 ?_
      refine lv_bipush (v := 97) hx hb dX12_nameOf_14 (by decide) ?_
      refine lv_bipush (v := 103) hx hb dX12_nameOf_16 (by decide) ?_
      refine lv_bipush (v := 101) hx hb dX12_nameOf_18 (by decide) ?_
      refine pk_l (va_runS (As := [.int 97, .int 103, .int 101]) (rest := [.long (J 395 this)]) ⟨hx, hb, hml, hown, hts⟩ (s_X12_w3_x l D t σ I J ri rj rq H.size tg hSH hG.1 (97 : Int32) (103 : Int32) (101 : Int32)) (va_cwS 3 hts (tw_S tw_864 tw_865 tw_5 tw_866) rfl rfl rfl (by decide +kernel) ⟨Nat.le_of_ble_eq_true rfl, Nat.le_of_ble_eq_true rfl⟩) ⟨pq_blind, pq_pre hK hN hP hD⟩ rfl rfl hl.1 rfl (lv_room (Nat.le_of_ble_eq_true rfl)) dX12_nameOf_20 ⟨Nat.le_of_ble_eq_true rfl, Nat.le_of_ble_eq_true rfl⟩) hD hS hA (fun x_4 σ1 μ1 H locs hw_5 hP hD hS => ?_)
      have hu_6 := hw_5
      obtain ⟨hu_6a, hu_6b⟩ := Prod.mk.inj hu_6
      rw [hu_6a, hu_6b] at hP hD
      refine W.lcmp hx hb dX12_nameOf_23 ?_
      refine lv_topi (fun x_9 ex_9 => ?_)
      refine lv_if_ne (tgt := 29) hx hb dX12_nameOf_24 (by decide) (fun c_10 => ?_) (fun c_10 => ?_)
      · have tc_11 : (x_9).toInt ≠ 0 := fun q => c_10 (Int32.toInt_inj.mp q)
        refine lv_aload_n hx hb dX12_nameOf_29 rfl (lv_at hl 0 rfl) ?_
        refine pg_f (v := .long (J 395 this)) (C := RX12) (T := TX12) (N := 31) hx hb hts (tw_i inlX12) hown hK hP hL_this hK_this (by decide) rfl 11 (by decide) (hts _ (tw_c tw_838)) rfl dX12_nameOf_30 ?_
        refine lv_bipush (v := 107) hx hb dX12_nameOf_33 (by decide) ?_
        refine lv_bipush (v := 105) hx hb dX12_nameOf_35 (by decide) ?_
        refine lv_bipush (v := 110) hx hb dX12_nameOf_37 (by decide) ?_
        refine pk_l (va_runS (As := [.int 107, .int 105, .int 110]) (rest := [.long (J 395 this)]) ⟨hx, hb, hml, hown, hts⟩ (s_X12_w3_x l D t σ I J ri rj rq H.size tg hSH hG.1 (107 : Int32) (105 : Int32) (110 : Int32)) (va_cwS 3 hts (tw_S tw_864 tw_865 tw_5 tw_866) rfl rfl rfl (by decide +kernel) ⟨Nat.le_of_ble_eq_true rfl, Nat.le_of_ble_eq_true rfl⟩) ⟨pq_blind, pq_pre hK hN hP hD⟩ rfl rfl hl.1 rfl (lv_room (Nat.le_of_ble_eq_true rfl)) dX12_nameOf_39 ⟨Nat.le_of_ble_eq_true rfl, Nat.le_of_ble_eq_true rfl⟩) hD hS hA (fun x_12 σ1 μ1 H locs hw_13 hP hD hS => ?_)
        have hu_14 := hw_13
        obtain ⟨hu_14a, hu_14b⟩ := Prod.mk.inj hu_14
        rw [hu_14a, hu_14b] at hP hD
        refine W.lcmp hx hb dX12_nameOf_42 ?_
        refine lv_topi (fun x_17 ex_17 => ?_)
        refine lv_if_ne (tgt := 48) hx hb dX12_nameOf_43 (by decide) (fun c_18 => ?_) (fun c_18 => ?_)
        · have tc_19 : (x_17).toInt ≠ 0 := fun q => c_18 (Int32.toInt_inj.mp q)
          refine lv_aload_n hx hb dX12_nameOf_48 rfl (lv_at hl 0 rfl) ?_
          refine pg_f (v := .long (J 395 this)) (C := RX12) (T := TX12) (N := 31) hx hb hts (tw_i inlX12) hown hK hP hL_this hK_this (by decide) rfl 11 (by decide) (hts _ (tw_c tw_838)) rfl dX12_nameOf_49 ?_
          refine lv_bipush (v := 99) hx hb dX12_nameOf_52 (by decide) ?_
          refine lv_bipush (v := 114) hx hb dX12_nameOf_54 (by decide) ?_
          refine lv_bipush (v := 97) hx hb dX12_nameOf_56 (by decide) ?_
          refine lv_bipush (v := 102) hx hb dX12_nameOf_58 (by decide) ?_
          refine lv_bipush (v := 116) hx hb dX12_nameOf_60 (by decide) ?_
          refine pk_l (va_runS (As := [.int 99, .int 114, .int 97, .int 102, .int 116]) (rest := [.long (J 395 this)]) ⟨hx, hb, hml, hown, hts⟩ (s_X12_w5_x l D t σ I J ri rj rq H.size tg hSH hG.1 (99 : Int32) (114 : Int32) (97 : Int32) (102 : Int32) (116 : Int32)) (va_cwS 5 hts (tw_S tw_858 tw_859 tw_5 tw_860) rfl rfl rfl (by decide +kernel) ⟨Nat.le_of_ble_eq_true rfl, Nat.le_of_ble_eq_true rfl⟩) ⟨pq_blind, pq_pre hK hN hP hD⟩ rfl rfl hl.1 rfl (lv_room (Nat.le_of_ble_eq_true rfl)) dX12_nameOf_62 ⟨Nat.le_of_ble_eq_true rfl, Nat.le_of_ble_eq_true rfl⟩) hD hS hA (fun x_20 σ1 μ1 H locs hw_21 hP hD hS => ?_)
          have hu_22 := hw_21
          obtain ⟨hu_22a, hu_22b⟩ := Prod.mk.inj hu_22
          rw [hu_22a, hu_22b] at hP hD
          refine W.lcmp hx hb dX12_nameOf_65 ?_
          refine lv_topi (fun x_25 ex_25 => ?_)
          refine lv_if_ne (tgt := 71) hx hb dX12_nameOf_66 (by decide) (fun c_26 => ?_) (fun c_26 => ?_)
          · have tc_27 : (x_25).toInt ≠ 0 := fun q => c_26 (Int32.toInt_inj.mp q)
            refine lv_aload_n hx hb dX12_nameOf_71 rfl (lv_at hl 0 rfl) ?_
            refine pg_f (v := .long (J 395 this)) (C := RX12) (T := TX12) (N := 31) hx hb hts (tw_i inlX12) hown hK hP hL_this hK_this (by decide) rfl 11 (by decide) (hts _ (tw_c tw_838)) rfl dX12_nameOf_72 ?_
            refine lv_bipush (v := 112) hx hb dX12_nameOf_75 (by decide) ?_
            refine lv_bipush (v := 108) hx hb dX12_nameOf_77 (by decide) ?_
            refine lv_bipush (v := 97) hx hb dX12_nameOf_79 (by decide) ?_
            refine lv_bipush (v := 99) hx hb dX12_nameOf_81 (by decide) ?_
            refine lv_bipush (v := 101) hx hb dX12_nameOf_83 (by decide) ?_
            refine pk_l (va_runS (As := [.int 112, .int 108, .int 97, .int 99, .int 101]) (rest := [.long (J 395 this)]) ⟨hx, hb, hml, hown, hts⟩ (s_X12_w5_x l D t σ I J ri rj rq H.size tg hSH hG.1 (112 : Int32) (108 : Int32) (97 : Int32) (99 : Int32) (101 : Int32)) (va_cwS 5 hts (tw_S tw_858 tw_859 tw_5 tw_860) rfl rfl rfl (by decide +kernel) ⟨Nat.le_of_ble_eq_true rfl, Nat.le_of_ble_eq_true rfl⟩) ⟨pq_blind, pq_pre hK hN hP hD⟩ rfl rfl hl.1 rfl (lv_room (Nat.le_of_ble_eq_true rfl)) dX12_nameOf_85 ⟨Nat.le_of_ble_eq_true rfl, Nat.le_of_ble_eq_true rfl⟩) hD hS hA (fun x_28 σ1 μ1 H locs hw_29 hP hD hS => ?_)
            have hu_30 := hw_29
            obtain ⟨hu_30a, hu_30b⟩ := Prod.mk.inj hu_30
            rw [hu_30a, hu_30b] at hP hD
            refine W.lcmp hx hb dX12_nameOf_88 ?_
            refine lv_topi (fun x_33 ex_33 => ?_)
            refine lv_if_ne (tgt := 94) hx hb dX12_nameOf_89 (by decide) (fun c_34 => ?_) (fun c_34 => ?_)
            · have tc_35 : (x_33).toInt ≠ 0 := fun q => c_34 (Int32.toInt_inj.mp q)
              refine lv_aload_n hx hb dX12_nameOf_94 rfl (lv_at hl 0 rfl) ?_
              refine pg_f (v := .long (J 395 this)) (C := RX12) (T := TX12) (N := 31) hx hb hts (tw_i inlX12) hown hK hP hL_this hK_this (by decide) rfl 11 (by decide) (hts _ (tw_c tw_838)) rfl dX12_nameOf_95 ?_
              refine lv_bipush (v := 109) hx hb dX12_nameOf_98 (by decide) ?_
              refine lv_bipush (v := 111) hx hb dX12_nameOf_100 (by decide) ?_
              refine lv_bipush (v := 110) hx hb dX12_nameOf_102 (by decide) ?_
              refine lv_bipush (v := 116) hx hb dX12_nameOf_104 (by decide) ?_
              refine lv_bipush (v := 104) hx hb dX12_nameOf_106 (by decide) ?_
              refine pk_l (va_runS (As := [.int 109, .int 111, .int 110, .int 116, .int 104]) (rest := [.long (J 395 this)]) ⟨hx, hb, hml, hown, hts⟩ (s_X12_w5_x l D t σ I J ri rj rq H.size tg hSH hG.1 (109 : Int32) (111 : Int32) (110 : Int32) (116 : Int32) (104 : Int32)) (va_cwS 5 hts (tw_S tw_858 tw_859 tw_5 tw_860) rfl rfl rfl (by decide +kernel) ⟨Nat.le_of_ble_eq_true rfl, Nat.le_of_ble_eq_true rfl⟩) ⟨pq_blind, pq_pre hK hN hP hD⟩ rfl rfl hl.1 rfl (lv_room (Nat.le_of_ble_eq_true rfl)) dX12_nameOf_108 ⟨Nat.le_of_ble_eq_true rfl, Nat.le_of_ble_eq_true rfl⟩) hD hS hA (fun x_36 σ1 μ1 H locs hw_37 hP hD hS => ?_)
              have hu_38 := hw_37
              obtain ⟨hu_38a, hu_38b⟩ := Prod.mk.inj hu_38
              rw [hu_38a, hu_38b] at hP hD
              refine W.lcmp hx hb dX12_nameOf_111 ?_
              refine lv_topi (fun x_41 ex_41 => ?_)
              refine lv_if_ne (tgt := 119) hx hb dX12_nameOf_112 (by decide) (fun c_42 => ?_) (fun c_42 => ?_)
              · have tc_43 : (x_41).toInt ≠ 0 := fun q => c_42 (Int32.toInt_inj.mp q)
                refine lv_aload_n hx hb dX12_nameOf_119 rfl (lv_at hl 0 rfl) ?_
                refine pg_f (v := .long (J 395 this)) (C := RX12) (T := TX12) (N := 31) hx hb hts (tw_i inlX12) hown hK hP hL_this hK_this (by decide) rfl 11 (by decide) (hts _ (tw_c tw_838)) rfl dX12_nameOf_120 ?_
                refine lv_bipush (v := 117) hx hb dX12_nameOf_123 (by decide) ?_
                refine lv_bipush (v := 110) hx hb dX12_nameOf_125 (by decide) ?_
                refine lv_bipush (v := 100) hx hb dX12_nameOf_127 (by decide) ?_
                refine lv_bipush (v := 101) hx hb dX12_nameOf_129 (by decide) ?_
                refine lv_bipush (v := 114) hx hb dX12_nameOf_131 (by decide) ?_
                refine pk_l (va_runS (As := [.int 117, .int 110, .int 100, .int 101, .int 114]) (rest := [.long (J 395 this)]) ⟨hx, hb, hml, hown, hts⟩ (s_X12_w5_x l D t σ I J ri rj rq H.size tg hSH hG.1 (117 : Int32) (110 : Int32) (100 : Int32) (101 : Int32) (114 : Int32)) (va_cwS 5 hts (tw_S tw_858 tw_859 tw_5 tw_860) rfl rfl rfl (by decide +kernel) ⟨Nat.le_of_ble_eq_true rfl, Nat.le_of_ble_eq_true rfl⟩) ⟨pq_blind, pq_pre hK hN hP hD⟩ rfl rfl hl.1 rfl (lv_room (Nat.le_of_ble_eq_true rfl)) dX12_nameOf_133 ⟨Nat.le_of_ble_eq_true rfl, Nat.le_of_ble_eq_true rfl⟩) hD hS hA (fun x_44 σ1 μ1 H locs hw_45 hP hD hS => ?_)
                have hu_46 := hw_45
                obtain ⟨hu_46a, hu_46b⟩ := Prod.mk.inj hu_46
                rw [hu_46a, hu_46b] at hP hD
                refine W.lcmp hx hb dX12_nameOf_136 ?_
                refine lv_topi (fun x_49 ex_49 => ?_)
                refine lv_if_ne (tgt := 144) hx hb dX12_nameOf_137 (by decide) (fun c_50 => ?_) (fun c_50 => ?_)
                · have tc_51 : (x_49).toInt ≠ 0 := fun q => c_50 (Int32.toInt_inj.mp q)
                  refine lv_iconst (v := (-1)) hx hb dX12_nameOf_144 (by decide) ?_
                  subst hQ
                  exact W.iret (v := (-1)) hx hb hr (fun t1 ht hW => ⟨⟨(-1), (σ, I, J, ri, rj, rq), rfl, ⟨rfl, (by have z9 : ((-1) : Int32).toInt = (-1) := rfl; omega), (rg_w (rg_k (-1 : Int32) (-1) rfl) (by decide))⟩, by rw [ht]; exact hP, va_K.moved hW.alike hK, hD⟩, hS.F ht⟩) hS.2.2 dX12_nameOf_145
                · have tc_52 : (x_49).toInt = 0 := congrArg Int32.toInt c_50
                  have h_53 : rg x_49 0 0 := rg_and (rg_full _) (rg_of_eq c_50 (rg_k (0 : Int32) 0 rfl)) (by decide)
                  have uh_53 := h_53.1
                  have vh_53 := h_53.2
                  refine lv_iconst (v := 5) hx hb dX12_nameOf_140 (by decide) ?_
                  refine lv_goto (tgt := 145) hx hb dX12_nameOf_141 (by decide) ?_
                  subst hQ
                  exact W.iret (v := 5) hx hb hr (fun t1 ht hW => ⟨⟨5, (σ, I, J, ri, rj, rq), rfl, ⟨rfl, (by have z9 : (5 : Int32).toInt = 5 := rfl; omega), (rg_w (rg_k (5 : Int32) 5 rfl) (by decide))⟩, by rw [ht]; exact hP, va_K.moved hW.alike hK, hD⟩, hS.F ht⟩) hS.2.2 dX12_nameOf_145
              · have tc_54 : (x_41).toInt = 0 := congrArg Int32.toInt c_42
                have h_55 : rg x_41 0 0 := rg_and (rg_full _) (rg_of_eq c_42 (rg_k (0 : Int32) 0 rfl)) (by decide)
                have uh_55 := h_55.1
                have vh_55 := h_55.2
                refine lv_iconst (v := 4) hx hb dX12_nameOf_115 (by decide) ?_
                refine lv_goto (tgt := 145) hx hb dX12_nameOf_116 (by decide) ?_
                subst hQ
                exact W.iret (v := 4) hx hb hr (fun t1 ht hW => ⟨⟨4, (σ, I, J, ri, rj, rq), rfl, ⟨rfl, (by have z9 : (4 : Int32).toInt = 4 := rfl; omega), (rg_w (rg_k (4 : Int32) 4 rfl) (by decide))⟩, by rw [ht]; exact hP, va_K.moved hW.alike hK, hD⟩, hS.F ht⟩) hS.2.2 dX12_nameOf_145
            · have tc_56 : (x_33).toInt = 0 := congrArg Int32.toInt c_34
              have h_57 : rg x_33 0 0 := rg_and (rg_full _) (rg_of_eq c_34 (rg_k (0 : Int32) 0 rfl)) (by decide)
              have uh_57 := h_57.1
              have vh_57 := h_57.2
              refine lv_iconst (v := 3) hx hb dX12_nameOf_92 (by decide) ?_
              subst hQ
              exact W.iret (v := 3) hx hb hr (fun t1 ht hW => ⟨⟨3, (σ, I, J, ri, rj, rq), rfl, ⟨rfl, (by have z9 : (3 : Int32).toInt = 3 := rfl; omega), (rg_w (rg_k (3 : Int32) 3 rfl) (by decide))⟩, by rw [ht]; exact hP, va_K.moved hW.alike hK, hD⟩, hS.F ht⟩) hS.2.2 dX12_nameOf_93
          · have tc_58 : (x_25).toInt = 0 := congrArg Int32.toInt c_26
            have h_59 : rg x_25 0 0 := rg_and (rg_full _) (rg_of_eq c_26 (rg_k (0 : Int32) 0 rfl)) (by decide)
            have uh_59 := h_59.1
            have vh_59 := h_59.2
            refine lv_iconst (v := 2) hx hb dX12_nameOf_69 (by decide) ?_
            subst hQ
            exact W.iret (v := 2) hx hb hr (fun t1 ht hW => ⟨⟨2, (σ, I, J, ri, rj, rq), rfl, ⟨rfl, (by have z9 : (2 : Int32).toInt = 2 := rfl; omega), (rg_w (rg_k (2 : Int32) 2 rfl) (by decide))⟩, by rw [ht]; exact hP, va_K.moved hW.alike hK, hD⟩, hS.F ht⟩) hS.2.2 dX12_nameOf_70
        · have tc_60 : (x_17).toInt = 0 := congrArg Int32.toInt c_18
          have h_61 : rg x_17 0 0 := rg_and (rg_full _) (rg_of_eq c_18 (rg_k (0 : Int32) 0 rfl)) (by decide)
          have uh_61 := h_61.1
          have vh_61 := h_61.2
          refine lv_iconst (v := 1) hx hb dX12_nameOf_46 (by decide) ?_
          subst hQ
          exact W.iret (v := 1) hx hb hr (fun t1 ht hW => ⟨⟨1, (σ, I, J, ri, rj, rq), rfl, ⟨rfl, (by have z9 : (1 : Int32).toInt = 1 := rfl; omega), (rg_w (rg_k (1 : Int32) 1 rfl) (by decide))⟩, by rw [ht]; exact hP, va_K.moved hW.alike hK, hD⟩, hS.F ht⟩) hS.2.2 dX12_nameOf_47
      · have tc_62 : (x_9).toInt = 0 := congrArg Int32.toInt c_10
        have h_63 : rg x_9 0 0 := rg_and (rg_full _) (rg_of_eq c_10 (rg_k (0 : Int32) 0 rfl)) (by decide)
        have uh_63 := h_63.1
        have vh_63 := h_63.2
        refine lv_iconst (v := 0) hx hb dX12_nameOf_27 (by decide) ?_
        subst hQ
        exact W.iret (v := 0) hx hb hr (fun t1 ht hW => ⟨⟨0, (σ, I, J, ri, rj, rq), rfl, ⟨rfl, (by have z9 : (0 : Int32).toInt = 0 := rfl; omega), (rg_w (rg_k (0 : Int32) 0 rfl) (by decide))⟩, by rw [ht]; exact hP, va_K.moved hW.alike hK, hD⟩, hS.F ht⟩) hS.2.2 dX12_nameOf_28
    · have tc_64 : (I 393 this).toInt ≠ 2 := fun q => c_1 (Int32.toInt_inj.mp q)
      refine lv_iconst (v := (-1)) hx hb dX12_nameOf_8 (by decide) ?_
      subst hQ
      exact W.iret (v := (-1)) hx hb hr (fun t1 ht hW => ⟨⟨(-1), (σ, I, J, ri, rj, rq), rfl, ⟨rfl, (by have z9 : ((-1) : Int32).toInt = (-1) := rfl; omega), (rg_w (rg_k (-1 : Int32) (-1) rfl) (by decide))⟩, by rw [ht]; exact hP, va_K.moved hW.alike hK, hD⟩, hS.F ht⟩) hS.2.2 dX12_nameOf_9
  exact go _ _ _ hP hD hS hl

set_option maxHeartbeats 4000000 in
set_option maxRecDepth 100000 in
theorem s_X12_emit (l : Launch) (D : va_G) (t : pq_T) (σ : pq_S) (I : Nat → Nat → Int32) (J : Nat → Nat → Int64) (ri : Nat → Nat → Int32) (rj : Nat → Nat → Int64) (rq : Nat → Nat → Option Nat) (sz : Nat) (tg : Nat → Nat) (hSH : SH σ tg) (hG0 : GT tg I ri) (this : Nat) (a0 : Int32) (a1 : Int32) (hL_this : this ∈ σ.1) (hK_this : σ.2.1 this = 12) (this_a : Nat) (hR_this_a : σ.2.2.1 384 this = some this_a) (hL_this_a : this_a ∈ σ.1) (hK_this_a : σ.2.1 this_a = 13) (hN_this_a : σ.2.2.2 this_a = 12720) (hT_this_a : tg this_a = 384) (ht0 : (I 396 this).toInt = 3720 + 900 * (ri this_a 6).toInt ∧ 0 ≤ (ri this_a 6).toInt ∧ (ri this_a 6).toInt ≤ 9) (hwr : 0 ≤ (I 398 this).toInt ∧ (I 398 this).toInt ≤ 299) : MetV l yX12_emit (wa yX12_emit cX12_emit 3 none) ({ frames := 0, cells := 0, slots := 0, locals := 0 }) [.ref this, .int a0, .int a1] D t σ (I, J, ri, rj, rq) sz 0 0 (fun (u : pq_S × pq_M) => ∃ I' : Nat → Nat → Int32, ∃ ri' : Nat → Nat → Int32, u = (σ, I', J, ri', rj, rq) ∧ GM [398] tg σ I ri I' ri' rq ∧ (∃ v : Int32, I' = pq_u I 398 this v ∧ v.toInt = (I 398 this).toInt + 1) ∧ (∀ j : Nat, (j : Int) < (I 396 this).toInt + 250 + 2 * (I 398 this).toInt → ri' this_a j = ri this_a j) ∧ (ri' this_a ((I 396 this).toInt + 250 + 2 * (I 398 this).toInt).toNat = a0) ∧ (∀ q, q ≠ this_a → ri' q = ri q)) := by
  refine Met.ofW (cc := cX12_emit) (maxL := 3) (ret := none) (by decide) rfl ?_
  intro p e s m args below meth c s₁ B hml hv
  obtain ⟨rfl, hsz, hP, hK, hD0, hN⟩ := hv
  have hx := B.exec
  have hb := B.bytes
  have hr := B.returns
  have hts := atoms_spec (ws := (wa yX12_emit cX12_emit 3 none)) B.pre
  have hown : s.vm.findClass RX12 = some m.cls := findClass_of_methodNamed B.named
  have hlocks := B.notSynchronized
  subst hsz
  have hD : va_D (pq_B t σ (I, J, ri, rj, rq) s.heap.size) (pq_P t σ (I, J, ri, rj, rq)) := hD0.self
  generalize hAe : pq_B t σ (I, J, ri, rj, rq) s.heap.size = A at hD ⊢
  have hA : ∀ q : Nat, s.heap.size ≤ q → A q := fun q h => by rw [← hAe]; exact Or.inr h
  have hS : va_S A s.heap s.heap [] := va_S.rf
  have hG : GM [398] tg σ I ri I ri rq := ⟨hG0, fun _ _ _ => rfl, fun _ _ _ _ _ => rfl, fun _ _ _ _ _ _ => rfl⟩
  have hl := lv_entry ([.ref this, .int a0, .int a1]) (n := 3) (Nat.le_of_ble_eq_true rfl)
  rw [lg_entry_eq]
  generalize (lg_sl ([.ref this, .int a0, .int a1]) ++ List.replicate (3 - (lg_sl ([.ref this, .int a0, .int a1])).length) Slot.unset).toArray = ls at hl ⊢
  have hl : lv_has ls 3 [(0, .ref this), (1, .int a0), (2, .int a1)] := hl
  refine q_gen (fun Q hQ => ?_)
  have go : ∀ (H : Heap) (locs : List Loc) (ls : Array Slot), va_P D vwCl (pq_P t σ (I, J, ri, rj, rq)) H → va_D A (pq_P t σ (I, J, ri, rj, rq)) → va_S A s.heap H locs → lv_has ls 3 [(0, .ref this), (1, .int a0), (2, .int a1)] → W p l e ({ frames := 0, cells := 0, slots := 0, locals := 0 } : Room) s m (List.toArray ([.ref this, .int a0, .int a1] : List Value)) below meth c H locs 0 0 Q (F0 m 0 ls []) := by
    intro H locs ls hP hD hS hl
    have ce6 := clampE (ri this_a 6)
    refine lv_aload_n hx hb dX12_emit_0 rfl (lv_at hl 0 rfl) ?_
    refine pg_f (v := .ref this_a) (C := RX12) (T := TX12) (N := 31) hx hb hts (tw_i inlX12) hown hK hP hL_this hK_this (by decide) rfl 0 (by decide) (hts _ (tw_c tw_176)) (pq_hv rfl hR_this_a) dX12_emit_1 ?_
    refine lv_aload_n hx hb dX12_emit_4 rfl (lv_at hl 0 rfl) ?_
    refine pg_f (v := .int (I 396 this)) (C := RX12) (T := TX12) (N := 31) hx hb hts (tw_i inlX12) hown hK hP hL_this hK_this (by decide) rfl 12 (by decide) (hts _ (tw_c tw_821)) rfl dX12_emit_5 ?_
    have h_1 : rg (I 396 this) 0 11820 := GM.rI hG 396 rfl
    have uh_1 := h_1.1
    have vh_1 := h_1.2
    refine lv_sipush (v := 250) hx hb dX12_emit_8 (by decide) ?_
    refine lv_iadd hx hb dX12_emit_11 ?_
    refine lv_topi (fun x_2 ex_2 => ?_)
    have h_3 : rg x_2 250 12070 := rg_of_eq ex_2 (rg_add h_1 (rg_k (250 : Int32) 250 rfl) (by decide))
    have uh_3 := h_3.1
    have vh_3 := h_3.2
    have tx_2 : (x_2).toInt = (I 396 this).toInt + 250 := by rw [ex_2]; exact i_add_rg (a2 := (I 396 this).toInt) (b2 := 250) rfl rfl h_1 (rg_k (250 : Int32) 250 rfl) (by decide)
    refine lv_iconst (v := 2) hx hb dX12_emit_12 (by decide) ?_
    refine lv_aload_n hx hb dX12_emit_13 rfl (lv_at hl 0 rfl) ?_
    refine pg_f (v := .int (I 398 this)) (C := RX12) (T := TX12) (N := 31) hx hb hts (tw_i inlX12) hown hK hP hL_this hK_this (by decide) rfl 14 (by decide) (hts _ (tw_c tw_827)) rfl dX12_emit_14 ?_
    refine lv_imul hx hb dX12_emit_17 ?_
    refine lv_topi (fun x_4 ex_4 => ?_)
    have h_5 : rg x_4 0 598 := rg_of_eq ex_4 (rg_mul (rg_k (2 : Int32) 2 rfl) ⟨hwr.1, hwr.2⟩ (by decide))
    have uh_5 := h_5.1
    have vh_5 := h_5.2
    have tx_4 : (x_4).toInt = 2 * (I 398 this).toInt := by rw [ex_4]; exact i_mul_rg (a2 := 2) (b2 := (I 398 this).toInt) rfl rfl (rg_k (2 : Int32) 2 rfl) ⟨hwr.1, hwr.2⟩ (by decide)
    refine lv_iadd hx hb dX12_emit_18 ?_
    refine lv_topi (fun x_6 ex_6 => ?_)
    have h_7 : rg x_6 250 12668 := rg_of_eq ex_6 (rg_add h_3 h_5 (by decide))
    have uh_7 := h_7.1
    have vh_7 := h_7.2
    have tx_6 : (x_6).toInt = (x_2).toInt + (x_4).toInt := by rw [ex_6]; exact i_add_rg (a2 := (x_2).toInt) (b2 := (x_4).toInt) rfl rfl h_3 h_5 (by decide)
    refine lv_iload_n hx hb dX12_emit_19 rfl (lv_at hl 1 rfl) ?_
    refine pt_i hx hb hK hP hD hS hL_this_a hK_this_a hN_this_a (rg_in h_7 (by decide)) dX12_emit_20 (fun r_8 H locs er_8 hP hD hS => ?_)
    have hG := GM.wt hG hT_this_a (by decide) er_8 (zn_tk (t := (ri this_a 6).toNatClampNeg) (c := (I 398 this).toNatClampNeg) (k := 0) (by have z_i := clampE x_6; have z_0 := clampE (ri this_a 6); have z_1 := clampE (I 398 this); omega) (rg_cl1 ⟨ht0.2.1, ht0.2.2⟩ (by decide)) (rg_cl1 ⟨hwr.1, hwr.2⟩ (by decide)) (by decide)) rfl (rg_w (rg_full _) (by decide)) (by have z6 := congrArg Int32.toInt (hG.2.2.1 this_a hT_this_a 6 (by decide) (by decide)); have z_i := clampE x_6; omega) (by decide)
    refine lv_aload_n hx hb dX12_emit_21 rfl (lv_at hl 0 rfl) ?_
    refine pg_f (v := .ref this_a) (C := RX12) (T := TX12) (N := 31) hx hb hts (tw_i inlX12) hown hK hP hL_this hK_this (by decide) rfl 0 (by decide) (hts _ (tw_c tw_176)) (pq_hv rfl hR_this_a) dX12_emit_22 ?_
    refine lv_aload_n hx hb dX12_emit_25 rfl (lv_at hl 0 rfl) ?_
    refine pg_f (v := .int (I 396 this)) (C := RX12) (T := TX12) (N := 31) hx hb hts (tw_i inlX12) hown hK hP hL_this hK_this (by decide) rfl 12 (by decide) (hts _ (tw_c tw_821)) rfl dX12_emit_26 ?_
    refine lv_sipush (v := 250) hx hb dX12_emit_29 (by decide) ?_
    refine lv_iadd hx hb dX12_emit_32 ?_
    refine lv_topi (fun x_9 ex_9 => ?_)
    have h_10 : rg x_9 250 12070 := rg_of_eq ex_9 (rg_add h_1 (rg_k (250 : Int32) 250 rfl) (by decide))
    have uh_10 := h_10.1
    have vh_10 := h_10.2
    have tx_9 : (x_9).toInt = (I 396 this).toInt + 250 := by rw [ex_9]; exact i_add_rg (a2 := (I 396 this).toInt) (b2 := 250) rfl rfl h_1 (rg_k (250 : Int32) 250 rfl) (by decide)
    refine lv_iconst (v := 2) hx hb dX12_emit_33 (by decide) ?_
    refine lv_aload_n hx hb dX12_emit_34 rfl (lv_at hl 0 rfl) ?_
    refine pg_f (v := .int (I 398 this)) (C := RX12) (T := TX12) (N := 31) hx hb hts (tw_i inlX12) hown hK hP hL_this hK_this (by decide) rfl 14 (by decide) (hts _ (tw_c tw_827)) rfl dX12_emit_35 ?_
    refine lv_imul hx hb dX12_emit_38 ?_
    refine lv_topi (fun x_11 ex_11 => ?_)
    have h_12 : rg x_11 0 598 := rg_of_eq ex_11 (rg_mul (rg_k (2 : Int32) 2 rfl) ⟨hwr.1, hwr.2⟩ (by decide))
    have uh_12 := h_12.1
    have vh_12 := h_12.2
    have tx_11 : (x_11).toInt = 2 * (I 398 this).toInt := by rw [ex_11]; exact i_mul_rg (a2 := 2) (b2 := (I 398 this).toInt) rfl rfl (rg_k (2 : Int32) 2 rfl) ⟨hwr.1, hwr.2⟩ (by decide)
    refine lv_iadd hx hb dX12_emit_39 ?_
    refine lv_topi (fun x_13 ex_13 => ?_)
    have h_14 : rg x_13 250 12668 := rg_of_eq ex_13 (rg_add h_10 h_12 (by decide))
    have uh_14 := h_14.1
    have vh_14 := h_14.2
    have tx_13 : (x_13).toInt = (x_9).toInt + (x_11).toInt := by rw [ex_13]; exact i_add_rg (a2 := (x_9).toInt) (b2 := (x_11).toInt) rfl rfl h_10 h_12 (by decide)
    refine lv_iconst (v := 1) hx hb dX12_emit_40 (by decide) ?_
    refine lv_iadd hx hb dX12_emit_41 ?_
    refine lv_topi (fun x_15 ex_15 => ?_)
    have h_16 : rg x_15 251 12669 := rg_of_eq ex_15 (rg_add h_14 (rg_k (1 : Int32) 1 rfl) (by decide))
    have uh_16 := h_16.1
    have vh_16 := h_16.2
    have tx_15 : (x_15).toInt = (x_13).toInt + 1 := by rw [ex_15]; exact i_add_rg (a2 := (x_13).toInt) (b2 := 1) rfl rfl h_14 (rg_k (1 : Int32) 1 rfl) (by decide)
    refine lv_iload_n hx hb dX12_emit_42 rfl (lv_at hl 2 rfl) ?_
    refine pt_i hx hb hK hP hD hS hL_this_a hK_this_a hN_this_a (rg_in h_16 (by decide)) dX12_emit_43 (fun r_17 H locs er_17 hP hD hS => ?_)
    have hG := GM.wt hG hT_this_a (by decide) er_17 (zn_tk (t := (ri this_a 6).toNatClampNeg) (c := (I 398 this).toNatClampNeg) (k := 1) (by have z_i := clampE x_15; have z_0 := clampE (ri this_a 6); have z_1 := clampE (I 398 this); omega) (rg_cl1 ⟨ht0.2.1, ht0.2.2⟩ (by decide)) (rg_cl1 ⟨hwr.1, hwr.2⟩ (by decide)) (by decide)) rfl (rg_w (rg_full _) (by decide)) (by have z6 := congrArg Int32.toInt (hG.2.2.1 this_a hT_this_a 6 (by decide) (by decide)); have z_i := clampE x_15; omega) (by decide)
    refine lv_aload_n hx hb dX12_emit_44 rfl (lv_at hl 0 rfl) ?_
    refine lv_dup hx hb dX12_emit_45 rfl ?_
    refine pg_f (v := .int (I 398 this)) (C := RX12) (T := TX12) (N := 31) hx hb hts (tw_i inlX12) hown hK hP hL_this hK_this (by decide) rfl 14 (by decide) (hts _ (tw_c tw_827)) rfl dX12_emit_46 ?_
    refine lv_iconst (v := 1) hx hb dX12_emit_49 (by decide) ?_
    refine lv_iadd hx hb dX12_emit_50 ?_
    refine lv_topi (fun x_18 ex_18 => ?_)
    have h_19 : rg x_18 1 300 := rg_of_eq ex_18 (rg_add ⟨hwr.1, hwr.2⟩ (rg_k (1 : Int32) 1 rfl) (by decide))
    have uh_19 := h_19.1
    have vh_19 := h_19.2
    have tx_18 : (x_18).toInt = (I 398 this).toInt + 1 := by rw [ex_18]; exact i_add_rg (a2 := (I 398 this).toInt) (b2 := 1) rfl rfl ⟨hwr.1, hwr.2⟩ (rg_k (1 : Int32) 1 rfl) (by decide)
    refine pp_i (v := x_18) (ty := .int) (C := RX12) (T := TX12) (N := 31) hx hb hts (tw_i inlX12) tyX12 tyX12_ok nmX12 hown hK hP hD hS hL_this hK_this (by decide) rfl 14 398 (by decide) (hts _ (tw_c tw_827)) rfl (by decide +kernel) rfl rfl (Nat.le_of_ble_eq_true rfl) (ps_398 _ _ _ _ _) dX12_emit_51 (fun I_20 H locs eI_20 hP hD hS => ?_)
    have hG := GM.wI hG 398 rfl eI_20 (rg_w h_19 (by decide)) (by decide)
    have tt_21 : (I_20 398 this).toInt = (x_18).toInt := by rw [eI_20, pq_us]
    have tt_22 : (I_20 396 this).toInt = (I 396 this).toInt := by rw [eI_20, pq_uf _ _ _ (by decide)]
    subst hQ
    exact W.vret hx hb hr (fun t1 ht hW => ⟨⟨(σ, I_20, J, r_17, rj, rq), rfl, ⟨I_20, r_17, rfl, hG, ⟨x_18, eI_20, by omega⟩, (fun j hj => by rw [er_17, er_8, va_up_self, va_up_self]; unfold upd; rw [if_neg (by have z0 := clampE x_6; have z1 := clampE x_15; have z2 := clampE (I 398 this); have z3 := clampE (I 396 this); omega), if_neg (by have z0 := clampE x_6; have z1 := clampE x_15; have z2 := clampE (I 398 this); have z3 := clampE (I 396 this); omega)]), (by rw [er_17, er_8, va_up_self, va_up_self]; unfold upd; rw [if_neg (by have z0 := clampE x_6; have z1 := clampE x_15; have z2 := clampE (I 398 this); have z3 := clampE (I 396 this); omega), if_pos (by have z0 := clampE x_6; have z1 := clampE x_15; have z2 := clampE (I 398 this); have z3 := clampE (I 396 this); omega)]), (fun q hq => (ro_ne er_17 hq).trans (ro_ne er_8 hq))⟩, by rw [ht]; exact hP, va_K.moved hW.alike hK, hD⟩, hS.F ht⟩) hS.2.2 dX12_emit_54
  exact go _ _ _ hP hD hS hl

set_option maxHeartbeats 4000000 in
set_option maxRecDepth 100000 in
theorem s_X12_push (l : Launch) (D : va_G) (t : pq_T) (σ : pq_S) (I : Nat → Nat → Int32) (J : Nat → Nat → Int64) (ri : Nat → Nat → Int32) (rj : Nat → Nat → Int64) (rq : Nat → Nat → Option Nat) (sz : Nat) (tg : Nat → Nat) (hSH : SH σ tg) (hG0 : GT tg I ri) (this : Nat) (a0 : Int32) (hL_this : this ∈ σ.1) (hK_this : σ.2.1 this = 12) (h_a0 : rg a0 2 40) (this_pile : Nat) (hR_this_pile : σ.2.2.1 400 this = some this_pile) (hL_this_pile : this_pile ∈ σ.1) (hK_this_pile : σ.2.1 this_pile = 13) (hN_this_pile : σ.2.2.2 this_pile = 160) (hT_this_pile : tg this_pile = 400) (hpl : 0 ≤ (I 401 this).toInt ∧ (I 401 this).toInt ≤ 158) : MetV l yX12_push (wa yX12_push cX12_push 2 none) ({ frames := 0, cells := 0, slots := 0, locals := 0 }) [.ref this, .int a0] D t σ (I, J, ri, rj, rq) sz 0 0 (fun (u : pq_S × pq_M) => ∃ I' : Nat → Nat → Int32, ∃ ri' : Nat → Nat → Int32, u = (σ, I', J, ri', rj, rq) ∧ GM [401] tg σ I ri I' ri' rq ∧ (∃ v : Int32, I' = pq_u I 401 this v ∧ v.toInt = (I 401 this).toInt + 1) ∧ (ri' this_pile = upd (ri this_pile) (I 401 this).toInt.toNat a0) ∧ (∀ q, q ≠ this_pile → ri' q = ri q)) := by
  refine Met.ofW (cc := cX12_push) (maxL := 2) (ret := none) (by decide) rfl ?_
  intro p e s m args below meth c s₁ B hml hv
  obtain ⟨rfl, hsz, hP, hK, hD0, hN⟩ := hv
  have hx := B.exec
  have hb := B.bytes
  have hr := B.returns
  have hts := atoms_spec (ws := (wa yX12_push cX12_push 2 none)) B.pre
  have hown : s.vm.findClass RX12 = some m.cls := findClass_of_methodNamed B.named
  have hlocks := B.notSynchronized
  subst hsz
  have hD : va_D (pq_B t σ (I, J, ri, rj, rq) s.heap.size) (pq_P t σ (I, J, ri, rj, rq)) := hD0.self
  generalize hAe : pq_B t σ (I, J, ri, rj, rq) s.heap.size = A at hD ⊢
  have hA : ∀ q : Nat, s.heap.size ≤ q → A q := fun q h => by rw [← hAe]; exact Or.inr h
  have hS : va_S A s.heap s.heap [] := va_S.rf
  have hG : GM [401] tg σ I ri I ri rq := ⟨hG0, fun _ _ _ => rfl, fun _ _ _ _ _ => rfl, fun _ _ _ _ _ _ => rfl⟩
  have hl := lv_entry ([.ref this, .int a0]) (n := 2) (Nat.le_of_ble_eq_true rfl)
  rw [lg_entry_eq]
  generalize (lg_sl ([.ref this, .int a0]) ++ List.replicate (2 - (lg_sl ([.ref this, .int a0])).length) Slot.unset).toArray = ls at hl ⊢
  have hl : lv_has ls 2 [(0, .ref this), (1, .int a0)] := hl
  refine q_gen (fun Q hQ => ?_)
  have go : ∀ (H : Heap) (locs : List Loc) (ls : Array Slot), va_P D vwCl (pq_P t σ (I, J, ri, rj, rq)) H → va_D A (pq_P t σ (I, J, ri, rj, rq)) → va_S A s.heap H locs → lv_has ls 2 [(0, .ref this), (1, .int a0)] → W p l e ({ frames := 0, cells := 0, slots := 0, locals := 0 } : Room) s m (List.toArray ([.ref this, .int a0] : List Value)) below meth c H locs 0 0 Q (F0 m 0 ls []) := by
    intro H locs ls hP hD hS hl
    refine lv_aload_n hx hb dX12_push_0 rfl (lv_at hl 0 rfl) ?_
    refine pg_f (v := .ref this_pile) (C := RX12) (T := TX12) (N := 31) hx hb hts (tw_i inlX12) hown hK hP hL_this hK_this (by decide) rfl 16 (by decide) (hts _ (tw_c tw_182)) (pq_hv rfl hR_this_pile) dX12_push_1 ?_
    refine lv_aload_n hx hb dX12_push_4 rfl (lv_at hl 0 rfl) ?_
    refine pg_f (v := .int (I 401 this)) (C := RX12) (T := TX12) (N := 31) hx hb hts (tw_i inlX12) hown hK hP hL_this hK_this (by decide) rfl 17 (by decide) (hts _ (tw_c tw_887)) rfl dX12_push_5 ?_
    refine lv_iload_n hx hb dX12_push_8 rfl (lv_at hl 1 rfl) ?_
    refine pt_i hx hb hK hP hD hS hL_this_pile hK_this_pile hN_this_pile (rg_in ⟨hpl.1, hpl.2⟩ (by decide)) dX12_push_9 (fun r_1 H locs er_1 hP hD hS => ?_)
    have hG := GM.wR hG hSH hT_this_pile rfl er_1 (rg_w h_a0 (by decide)) (by decide)
    refine lv_aload_n hx hb dX12_push_10 rfl (lv_at hl 0 rfl) ?_
    refine lv_dup hx hb dX12_push_11 rfl ?_
    refine pg_f (v := .int (I 401 this)) (C := RX12) (T := TX12) (N := 31) hx hb hts (tw_i inlX12) hown hK hP hL_this hK_this (by decide) rfl 17 (by decide) (hts _ (tw_c tw_887)) rfl dX12_push_12 ?_
    refine lv_iconst (v := 1) hx hb dX12_push_15 (by decide) ?_
    refine lv_iadd hx hb dX12_push_16 ?_
    refine lv_topi (fun x_2 ex_2 => ?_)
    have h_3 : rg x_2 1 159 := rg_of_eq ex_2 (rg_add ⟨hpl.1, hpl.2⟩ (rg_k (1 : Int32) 1 rfl) (by decide))
    have uh_3 := h_3.1
    have vh_3 := h_3.2
    have tx_2 : (x_2).toInt = (I 401 this).toInt + 1 := by rw [ex_2]; exact i_add_rg (a2 := (I 401 this).toInt) (b2 := 1) rfl rfl ⟨hpl.1, hpl.2⟩ (rg_k (1 : Int32) 1 rfl) (by decide)
    refine pp_i (v := x_2) (ty := .int) (C := RX12) (T := TX12) (N := 31) hx hb hts (tw_i inlX12) tyX12 tyX12_ok nmX12 hown hK hP hD hS hL_this hK_this (by decide) rfl 17 401 (by decide) (hts _ (tw_c tw_887)) rfl (by decide +kernel) rfl rfl (Nat.le_of_ble_eq_true rfl) (ps_401 _ _ _ _ _) dX12_push_17 (fun I_4 H locs eI_4 hP hD hS => ?_)
    have hG := GM.wI hG 401 rfl eI_4 (rg_w h_3 (by decide)) (by decide)
    have tt_5 : (I_4 401 this).toInt = (x_2).toInt := by rw [eI_4, pq_us]
    subst hQ
    exact W.vret hx hb hr (fun t1 ht hW => ⟨⟨(σ, I_4, J, r_1, rj, rq), rfl, ⟨I_4, r_1, rfl, hG, ⟨x_2, eI_4, by omega⟩, ((congrFun er_1 _).trans (va_up_self _ _ _)), (fun q hq => ro_ne er_1 hq)⟩, by rw [ht]; exact hP, va_K.moved hW.alike hK, hD⟩, hS.F ht⟩) hS.2.2 dX12_push_20
  exact go _ _ _ hP hD hS hl

set_option maxHeartbeats 4000000 in
set_option maxRecDepth 100000 in
theorem s_X12_whole (l : Launch) (D : va_G) (t : pq_T) (σ : pq_S) (I : Nat → Nat → Int32) (J : Nat → Nat → Int64) (ri : Nat → Nat → Int32) (rj : Nat → Nat → Int64) (rq : Nat → Nat → Option Nat) (sz : Nat) (tg : Nat → Nat) (hSH : SH σ tg) (hG0 : GT tg I ri) (this : Nat) (hL_this : this ∈ σ.1) (hK_this : σ.2.1 this = 12) (this_a : Nat) (hR_this_a : σ.2.2.1 384 this = some this_a) (hL_this_a : this_a ∈ σ.1) (hK_this_a : σ.2.1 this_a = 13) (hN_this_a : σ.2.2.2 this_a = 12720) (hT_this_a : tg this_a = 384) (this_pile : Nat) (hR_this_pile : σ.2.2.1 400 this = some this_pile) (hL_this_pile : this_pile ∈ σ.1) (hK_this_pile : σ.2.1 this_pile = 13) (hN_this_pile : σ.2.2.2 this_pile = 160) (hT_this_pile : tg this_pile = 400) (bb : Nat) (f0 : Nat → Int32) (fr : Int) (ba : Int) (tb : Int) (nn : Int) (K : Int) (hps : PSz (I 396 this).toInt (I 398 this).toInt (I 401 this).toInt (I 402 this).toInt (I 391 this).toInt (I 393 this).toInt (ri this_a) (ri this_pile) bb f0 fr ba tb nn K 1) : MetV l yX12_whole (wa yX12_whole cX12_whole 1 none) ({ frames := 1, cells := 0, slots := 0, locals := 22 }) [.ref this] D t σ (I, J, ri, rj, rq) sz 0 0 (fun (u : pq_S × pq_M) => ∃ I' : Nat → Nat → Int32, ∃ ri' : Nat → Nat → Int32, u = (σ, I', J, ri', rj, rq) ∧ GM [401, 402, 398] tg σ I ri I' ri' rq ∧ (PSz (I' 396 this).toInt (I' 398 this).toInt (I' 401 this).toInt (I' 402 this).toInt (I' 391 this).toInt (I' 393 this).toInt (ri' this_a) (ri' this_pile) bb f0 fr ba tb nn K 1) ∧ ((I' 403 this).toInt = 1)) := by
  refine Met.ofW (cc := cX12_whole) (maxL := 1) (ret := none) (by decide) rfl ?_
  intro p e s m args below meth c s₁ B hml hv
  obtain ⟨rfl, hsz, hP, hK, hD0, hN⟩ := hv
  have hx := B.exec
  have hb := B.bytes
  have hr := B.returns
  have hts := atoms_spec (ws := (wa yX12_whole cX12_whole 1 none)) B.pre
  have hown : s.vm.findClass RX12 = some m.cls := findClass_of_methodNamed B.named
  have hlocks := B.notSynchronized
  subst hsz
  have hD : va_D (pq_B t σ (I, J, ri, rj, rq) s.heap.size) (pq_P t σ (I, J, ri, rj, rq)) := hD0.self
  generalize hAe : pq_B t σ (I, J, ri, rj, rq) s.heap.size = A at hD ⊢
  have hA : ∀ q : Nat, s.heap.size ≤ q → A q := fun q h => by rw [← hAe]; exact Or.inr h
  have hS : va_S A s.heap s.heap [] := va_S.rf
  have hG : GM [401, 402, 398] tg σ I ri I ri rq := ⟨hG0, fun _ _ _ => rfl, fun _ _ _ _ _ => rfl, fun _ _ _ _ _ _ => rfl⟩
  have hl := lv_entry ([.ref this]) (n := 1) (Nat.le_of_ble_eq_true rfl)
  rw [lg_entry_eq]
  generalize (lg_sl ([.ref this]) ++ List.replicate (1 - (lg_sl ([.ref this])).length) Slot.unset).toArray = ls at hl ⊢
  have hl : lv_has ls 1 [(0, .ref this)] := hl
  refine q_gen (fun Q hQ => ?_)
  have go : ∀ (H : Heap) (locs : List Loc) (ls : Array Slot), va_P D vwCl (pq_P t σ (I, J, ri, rj, rq)) H → va_D A (pq_P t σ (I, J, ri, rj, rq)) → va_S A s.heap H locs → lv_has ls 1 [(0, .ref this)] → W p l e ({ frames := 1, cells := 0, slots := 0, locals := 22 } : Room) s m (List.toArray ([.ref this] : List Value)) below meth c H locs 0 0 Q (F0 m 0 ls []) := by
    intro H locs ls hP hD hS hl
    refine lv_aload_n hx hb dX12_whole_0 rfl (lv_at hl 0 rfl) ?_
    refine lv_iconst (v := 1) hx hb dX12_whole_1 (by decide) ?_
    refine pp_i (v := 1) (ty := .boolean) (C := RX12) (T := TX12) (N := 31) hx hb hts (tw_i inlX12) tyX12 tyX12_ok nmX12 hown hK hP hD hS hL_this hK_this (by decide) rfl 19 403 (by decide) (hts _ (tw_c tw_888)) rfl (by decide +kernel) rfl (by decide) (Nat.le_of_ble_eq_true rfl) (ps_403 _ _ _ _ _) dX12_whole_2 (fun I_1 H locs eI_1 hP hD hS => ?_)
    have hG := GM.wI hG 403 rfl eI_1 (rg_w (rg_k (1 : Int32) 1 rfl) (by decide)) (by decide)
    have tt_2 : (I_1 396 this).toInt = (I 396 this).toInt := by rw [eI_1, pq_uf _ _ _ (by decide)]
    have tt_3 : (I_1 398 this).toInt = (I 398 this).toInt := by rw [eI_1, pq_uf _ _ _ (by decide)]
    have tt_4 : (I_1 401 this).toInt = (I 401 this).toInt := by rw [eI_1, pq_uf _ _ _ (by decide)]
    have tt_5 : (I_1 402 this).toInt = (I 402 this).toInt := by rw [eI_1, pq_uf _ _ _ (by decide)]
    have tt_6 : (I_1 391 this).toInt = (I 391 this).toInt := by rw [eI_1, pq_uf _ _ _ (by decide)]
    have tt_7 : (I_1 393 this).toInt = (I 393 this).toInt := by rw [eI_1, pq_uf _ _ _ (by decide)]
    have tt_8 : (I_1 403 this).toInt = 1 := by rw [eI_1, pq_us]; rfl
    have tt_9 : (I_1 397 this).toInt = (I 397 this).toInt := by rw [eI_1, pq_uf _ _ _ (by decide)]
    have L_246 : ∀ (n_245 : Nat) (I_185 : Nat → Nat → Int32) (ri_186 : Nat → Nat → Int32) (H : Heap) (locs : List Loc) (ls : Array Slot), ((I_185 403 this).toInt = 1) → (PSz (I_185 396 this).toInt (I_185 398 this).toInt (I_185 401 this).toInt (I_185 402 this).toInt (I_185 391 this).toInt (I_185 393 this).toInt (ri_186 this_a) (ri_186 this_pile) bb f0 fr ba tb nn K 1) → ((I_185 401 this).toInt - 0).toNat < n_245 → GM [401, 402, 398] tg σ I ri I_185 ri_186 rq → va_P D vwCl (pq_P t σ (I_185, J, ri_186, rj, rq)) H → va_D A (pq_P t σ (I_185, J, ri_186, rj, rq)) → va_S A s.heap H locs → lv_has ls 1 [(0, .ref this)] → W p l e ({ frames := 1, cells := 0, slots := 0, locals := 22 } : Room) s m (List.toArray ([.ref this] : List Value)) below meth c H locs 0 0 Q (F0 m 5 ls []) := by
      intro n_245
      induction n_245 with
      | zero => intro I_185 ri_186 H locs ls hrel_250 hrel_251 hm_244 hG hP hD hS hl; exact absurd hm_244 (Nat.not_lt_zero _)
      | succ n_245 ih_247 =>
        intro I_185 ri_186 H locs ls hrel_250 hrel_251 hm_244 hG hP hD hS hl
        refine lv_aload_n hx hb dX12_whole_5 rfl (lv_at hl 0 rfl) ?_
        refine pg_f (v := .int (I_185 401 this)) (C := RX12) (T := TX12) (N := 31) hx hb hts (tw_i inlX12) hown hK hP hL_this hK_this (by decide) rfl 17 (by decide) (hts _ (tw_c tw_887)) rfl dX12_whole_6 ?_
        have h_252 : rg (I_185 401 this) 0 160 := GM.rI hG 401 rfl
        have uh_252 := h_252.1
        have vh_252 := h_252.2
        refine lv_if_le (tgt := 56) hx hb dX12_whole_9 (by decide) (fun c_253 => ?_) (fun c_253 => ?_)
        · have tc_254 : (I_185 401 this).toInt ≤ 0 := Int32.le_iff_toInt_le.mp c_253
          have h_255 : rg (I_185 401 this) 0 0 := rg_le1 c_253 h_252 (rg_k (0 : Int32) 0 rfl) (by decide)
          have uh_255 := h_255.1
          have vh_255 := h_255.2
          subst hQ
          exact W.vret hx hb hr (fun t1 ht hW => ⟨⟨(σ, I_185, J, ri_186, rj, rq), rfl, ⟨I_185, ri_186, rfl, hG, hrel_251, (by omega)⟩, by rw [ht]; exact hP, va_K.moved hW.alike hK, hD⟩, hS.F ht⟩) hS.2.2 dX12_whole_56
        · have tc_256 : 0 < (I_185 401 this).toInt := Int32.lt_iff_toInt_lt.mp (nle c_253)
          have h_257 : rg (I_185 401 this) 1 160 := rg_lt2 (nle c_253) (rg_k (0 : Int32) 0 rfl) h_252 (by decide)
          have uh_257 := h_257.1
          have vh_257 := h_257.2
          refine lv_aload_n hx hb dX12_whole_12 rfl (lv_at hl 0 rfl) ?_
          refine pg_f (v := .ref this_pile) (C := RX12) (T := TX12) (N := 31) hx hb hts (tw_i inlX12) hown hK hP hL_this hK_this (by decide) rfl 16 (by decide) (hts _ (tw_c tw_182)) (pq_hv rfl hR_this_pile) dX12_whole_13 ?_
          refine lv_aload_n hx hb dX12_whole_16 rfl (lv_at hl 0 rfl) ?_
          refine pg_f (v := .int (I_185 401 this)) (C := RX12) (T := TX12) (N := 31) hx hb hts (tw_i inlX12) hown hK hP hL_this hK_this (by decide) rfl 17 (by decide) (hts _ (tw_c tw_887)) rfl dX12_whole_17 ?_
          refine lv_iconst (v := 1) hx hb dX12_whole_20 (by decide) ?_
          refine lv_isub hx hb dX12_whole_21 ?_
          refine lv_topi (fun x_258 ex_258 => ?_)
          have h_259 : rg x_258 0 159 := rg_of_eq ex_258 (rg_sub h_257 (rg_k (1 : Int32) 1 rfl) (by decide))
          have uh_259 := h_259.1
          have vh_259 := h_259.2
          have tx_258 : (x_258).toInt = (I_185 401 this).toInt - 1 := by rw [ex_258]; exact i_sub_rg (a2 := (I_185 401 this).toInt) (b2 := 1) rfl rfl h_257 (rg_k (1 : Int32) 1 rfl) (by decide)
          refine pl_i hx hb hK hP hL_this_pile hK_this_pile hN_this_pile (rg_in h_259 (by decide)) dX12_whole_22 ?_
          refine lv_topi (fun x_260 ex_260 => ?_)
          have ex_260 : x_260 = ri_186 this_pile (x_258).toNatClampNeg := ex_260
          have h_261 : rg x_260 0 40 := rg_of_eq ex_260 (GM.rR hG hT_this_pile rfl)
          have uh_261 := h_261.1
          have vh_261 := h_261.2
          refine lv_iconst (v := 2) hx hb dX12_whole_23 (by decide) ?_
          refine lv_icmp_ne (tgt := 56) hx hb dX12_whole_24 (by decide) (fun c_262 => ?_) (fun c_262 => ?_)
          · have tc_263 : (x_260).toInt ≠ 2 := fun q => c_262 (Int32.toInt_inj.mp q)
            subst hQ
            exact W.vret hx hb hr (fun t1 ht hW => ⟨⟨(σ, I_185, J, ri_186, rj, rq), rfl, ⟨I_185, ri_186, rfl, hG, hrel_251, (by omega)⟩, by rw [ht]; exact hP, va_K.moved hW.alike hK, hD⟩, hS.F ht⟩) hS.2.2 dX12_whole_56
          · have tc_264 : (x_260).toInt = 2 := congrArg Int32.toInt c_262
            have h_265 : rg x_260 2 2 := rg_and h_261 (rg_of_eq c_262 (rg_k (2 : Int32) 2 rfl)) (by decide)
            have uh_265 := h_265.1
            have vh_265 := h_265.2
            refine lv_aload_n hx hb dX12_whole_27 rfl (lv_at hl 0 rfl) ?_
            refine lv_dup hx hb dX12_whole_28 rfl ?_
            refine pg_f (v := .int (I_185 401 this)) (C := RX12) (T := TX12) (N := 31) hx hb hts (tw_i inlX12) hown hK hP hL_this hK_this (by decide) rfl 17 (by decide) (hts _ (tw_c tw_887)) rfl dX12_whole_29 ?_
            refine lv_iconst (v := 1) hx hb dX12_whole_32 (by decide) ?_
            refine lv_isub hx hb dX12_whole_33 ?_
            refine lv_topi (fun x_266 ex_266 => ?_)
            have h_267 : rg x_266 0 159 := rg_of_eq ex_266 (rg_sub h_257 (rg_k (1 : Int32) 1 rfl) (by decide))
            have uh_267 := h_267.1
            have vh_267 := h_267.2
            have tx_266 : (x_266).toInt = (I_185 401 this).toInt - 1 := by rw [ex_266]; exact i_sub_rg (a2 := (I_185 401 this).toInt) (b2 := 1) rfl rfl h_257 (rg_k (1 : Int32) 1 rfl) (by decide)
            refine pp_i (v := x_266) (ty := .int) (C := RX12) (T := TX12) (N := 31) hx hb hts (tw_i inlX12) tyX12 tyX12_ok nmX12 hown hK hP hD hS hL_this hK_this (by decide) rfl 17 401 (by decide) (hts _ (tw_c tw_887)) rfl (by decide +kernel) rfl rfl (Nat.le_of_ble_eq_true rfl) (ps_401 _ _ _ _ _) dX12_whole_34 (fun I_268 H locs eI_268 hP hD hS => ?_)
            have hG := GM.wI hG 401 rfl eI_268 (rg_w h_267 (by decide)) (by decide)
            have tt_269 : (I_268 396 this).toInt = (I_185 396 this).toInt := by rw [eI_268, pq_uf _ _ _ (by decide)]
            have tt_270 : (I_268 398 this).toInt = (I_185 398 this).toInt := by rw [eI_268, pq_uf _ _ _ (by decide)]
            have tt_271 : (I_268 401 this).toInt = (x_266).toInt := by rw [eI_268, pq_us]
            have tt_272 : (I_268 402 this).toInt = (I_185 402 this).toInt := by rw [eI_268, pq_uf _ _ _ (by decide)]
            have tt_273 : (I_268 391 this).toInt = (I_185 391 this).toInt := by rw [eI_268, pq_uf _ _ _ (by decide)]
            have tt_274 : (I_268 393 this).toInt = (I_185 393 this).toInt := by rw [eI_268, pq_uf _ _ _ (by decide)]
            have tt_275 : (I_268 403 this).toInt = (I_185 403 this).toInt := by rw [eI_268, pq_uf _ _ _ (by decide)]
            have tt_276 : (I_268 397 this).toInt = (I_185 397 this).toInt := by rw [eI_268, pq_uf _ _ _ (by decide)]
            refine lv_aload_n hx hb dX12_whole_37 rfl (lv_at hl 0 rfl) ?_
            refine lv_dup hx hb dX12_whole_38 rfl ?_
            refine pg_f (v := .int (I_268 402 this)) (C := RX12) (T := TX12) (N := 31) hx hb hts (tw_i inlX12) hown hK hP hL_this hK_this (by decide) rfl 18 (by decide) (hts _ (tw_c tw_828)) rfl dX12_whole_39 ?_
            refine lv_iconst (v := 1) hx hb dX12_whole_42 (by decide) ?_
            refine lv_isub hx hb dX12_whole_43 ?_
            refine lv_topi (fun x_277 ex_277 => ?_)
            refine pp_i (v := x_277) (ty := .int) (C := RX12) (T := TX12) (N := 31) hx hb hts (tw_i inlX12) tyX12 tyX12_ok nmX12 hown hK hP hD hS hL_this hK_this (by decide) rfl 18 402 (by decide) (hts _ (tw_c tw_828)) rfl (by decide +kernel) rfl rfl (Nat.le_of_ble_eq_true rfl) (ps_402 _ _ _ _ _) dX12_whole_44 (fun I_278 H locs eI_278 hP hD hS => ?_)
            have hG := GM.wI hG 402 rfl eI_278 (rg_w (rg_full _) (by decide)) (by decide)
            have tt_279 : (I_278 396 this).toInt = (I_268 396 this).toInt := by rw [eI_278, pq_uf _ _ _ (by decide)]
            have tt_280 : (I_278 398 this).toInt = (I_268 398 this).toInt := by rw [eI_278, pq_uf _ _ _ (by decide)]
            have tt_281 : (I_278 401 this).toInt = (I_268 401 this).toInt := by rw [eI_278, pq_uf _ _ _ (by decide)]
            have tt_282 : (I_278 402 this).toInt = (x_277).toInt := by rw [eI_278, pq_us]
            have tt_283 : (I_278 391 this).toInt = (I_268 391 this).toInt := by rw [eI_278, pq_uf _ _ _ (by decide)]
            have tt_284 : (I_278 393 this).toInt = (I_268 393 this).toInt := by rw [eI_278, pq_uf _ _ _ (by decide)]
            have tt_285 : (I_278 403 this).toInt = (I_268 403 this).toInt := by rw [eI_278, pq_uf _ _ _ (by decide)]
            have tt_286 : (I_278 397 this).toInt = (I_268 397 this).toInt := by rw [eI_278, pq_uf _ _ _ (by decide)]
            refine lv_aload_n hx hb dX12_whole_47 rfl (lv_at hl 0 rfl) ?_
            refine lv_iconst (v := 2) hx hb dX12_whole_48 (by decide) ?_
            refine lv_iconst (v := 0) hx hb dX12_whole_49 (by decide) ?_
            have hq1 := PSz_t hrel_251
            have hq2 := PSz_w hrel_251 (Or.inr (by omega))
            refine pk_v (va_runV (As := [.int 2, .int 0]) (rest := []) ⟨hx, hb, hml, hown, hts⟩ (s_X12_emit l D t σ I_278 J ri_186 rj rq H.size tg hSH hG.1 this (2 : Int32) (0 : Int32) hL_this hK_this this_a hR_this_a hL_this_a hK_this_a hN_this_a hT_this_a (by omega) (by omega)) (cwV 2 hts (tw_V tw_905 tw_906 tw_907 tw_5 tw_908) rfl rfl rfl (by decide +kernel) ⟨Nat.le_of_ble_eq_true rfl, Nat.le_of_ble_eq_true rfl⟩) ⟨pq_blind, pq_recv hK hP hL_this hK_this (by decide) rfl, pq_pre hK hN hP hD⟩ rfl rfl hl.1 rfl (lv_room (Nat.le_of_ble_eq_true rfl)) dX12_whole_50 ⟨Nat.le_of_ble_eq_true rfl, Nat.le_of_ble_eq_true rfl⟩) hD hS hA (fun σ1 μ1 H locs hw_288 hP hD hS => ?_)
            obtain ⟨I_289, ri_290, hu_291, hg_292, hp_294, hp_295, hp_296, hp_297⟩ := hw_288
            obtain ⟨hu_291a, hu_291b⟩ := Prod.mk.inj hu_291
            rw [hu_291a, hu_291b] at hP hD
            obtain ⟨v_298, ev_298, hv_298⟩ := hp_294
            have tt_299 : (I_289 398 this).toInt = (I_278 398 this).toInt + 1 := by rw [ev_298, pq_us]; exact hv_298
            have tt_300 : (I_289 403 this).toInt = (I_278 403 this).toInt := by rw [ev_298, pq_uf _ _ _ (by decide)]
            have hG := GM.tr hG hg_292 (by decide)
            have tt_301 : (I_289 396 this).toInt = (I_278 396 this).toInt := by rw [hg_292.2.1 396 (by decide) (by decide)]
            have tt_302 : (I_289 401 this).toInt = (I_278 401 this).toInt := by rw [hg_292.2.1 401 (by decide) (by decide)]
            have tt_303 : (I_289 402 this).toInt = (I_278 402 this).toInt := by rw [hg_292.2.1 402 (by decide) (by decide)]
            have tt_304 : (I_289 391 this).toInt = (I_278 391 this).toInt := by rw [hg_292.2.1 391 (by decide) (by decide)]
            have tt_305 : (I_289 393 this).toInt = (I_278 393 this).toInt := by rw [hg_292.2.1 393 (by decide) (by decide)]
            have tt_306 : (I_289 397 this).toInt = (I_278 397 this).toInt := by rw [hg_292.2.1 397 (by decide) (by decide)]
            refine lv_goto (tgt := 5) hx hb dX12_whole_53 (by decide) ?_
            exact ih_247 I_289 ri_290 _ _ _ (by omega) (PSz_popO hrel_251 (by omega) (by rw [show (I_185 401 this).toInt.toNat - 1 = (x_258).toNatClampNeg from by have z0 := clampE x_258; omega, ← ex_260]; omega) (x := (2 : Int32)) rfl (fun j hj => hp_295 j (by omega)) (by rw [show (I_185 396 this).toInt + 250 + 2 * (I_185 398 this).toInt = (I_278 396 this).toInt + 250 + 2 * (I_278 398 this).toInt from by omega]; exact hp_296) (by omega) (by omega) (by omega) (by omega) (by omega) (by omega) (hp_297 this_pile (tg_ne hT_this_pile hT_this_a (by decide)))) (ms_fd_isub hm_244 ((congrFun (hg_292.2.1 401 (by decide) (by decide)) this).trans ((congrFun (show I_278 401 = I_268 401 from by rw [eI_278]; exact pq_uf _ _ _ (by decide)) this).trans (by rw [eI_268]; exact pq_us _ _ _ _))) ex_266 rfl (kk := 1) rfl (by decide) h_257 (by decide) (by decide)) hG hP hD hS (lv_sub hl [0] rfl)
    exact L_246 _ I_1 ri _ _ _ (by omega) (PSz_cg hps (by omega) (by omega) (by omega) (by omega) (by omega) (by omega) rfl rfl) (Nat.lt_succ_self _) hG hP hD hS (lv_sub hl [0] rfl)
  exact go _ _ _ hP hD hS hl

set_option maxHeartbeats 4000000 in
set_option maxRecDepth 100000 in
theorem s_X12_settle (l : Launch) (D : va_G) (t : pq_T) (σ : pq_S) (I : Nat → Nat → Int32) (J : Nat → Nat → Int64) (ri : Nat → Nat → Int32) (rj : Nat → Nat → Int64) (rq : Nat → Nat → Option Nat) (sz : Nat) (tg : Nat → Nat) (hSH : SH σ tg) (hG0 : GT tg I ri) (this : Nat) (a0 : Int32) (hL_this : this ∈ σ.1) (hK_this : σ.2.1 this = 12) (h_a0 : rg a0 3 5) (this_a : Nat) (hR_this_a : σ.2.2.1 384 this = some this_a) (hL_this_a : this_a ∈ σ.1) (hK_this_a : σ.2.1 this_a = 13) (hN_this_a : σ.2.2.2 this_a = 12720) (hT_this_a : tg this_a = 384) (this_pile : Nat) (hR_this_pile : σ.2.2.1 400 this = some this_pile) (hL_this_pile : this_pile ∈ σ.1) (hK_this_pile : σ.2.1 this_pile = 13) (hN_this_pile : σ.2.2.2 this_pile = 160) (hT_this_pile : tg this_pile = 400) (bb : Nat) (f0 : Nat → Int32) (fr : Int) (ba : Int) (tb : Int) (nn : Int) (K : Int) (hps : PSz (I 396 this).toInt (I 398 this).toInt (I 401 this).toInt (I 402 this).toInt (I 391 this).toInt (I 393 this).toInt (ri this_a) (ri this_pile) bb f0 fr ba tb nn K 1) : MetV l yX12_settle (wa yX12_settle cX12_settle 2 none) ({ frames := 1, cells := 0, slots := 0, locals := 22 }) [.ref this, .int a0] D t σ (I, J, ri, rj, rq) sz 0 0 (fun (u : pq_S × pq_M) => ∃ I' : Nat → Nat → Int32, ∃ ri' : Nat → Nat → Int32, u = (σ, I', J, ri', rj, rq) ∧ GM [401, 398] tg σ I ri I' ri' rq ∧ (PSz (I' 396 this).toInt (I' 398 this).toInt (I' 401 this).toInt (I' 402 this).toInt (I' 391 this).toInt (I' 393 this).toInt (ri' this_a) (ri' this_pile) bb f0 fr ba tb nn K 1) ∧ ((I' 401 this).toInt = 0 ∨ (ri' this_pile ((I' 401 this).toInt.toNat - 1)).toInt < a0.toInt ∨ 6 < (ri' this_pile ((I' 401 this).toInt.toNat - 1)).toInt) ∧ (∀ j : Nat, (j : Int) < (I 401 this).toInt → isO (ri this_pile j) → (j : Int) < (I' 401 this).toInt) ∧ (ri' this_pile = ri this_pile) ∧ ((I' 403 this).toInt = (I 403 this).toInt)) := by
  refine Met.ofW (cc := cX12_settle) (maxL := 2) (ret := none) (by decide) rfl ?_
  intro p e s m args below meth c s₁ B hml hv
  obtain ⟨rfl, hsz, hP, hK, hD0, hN⟩ := hv
  have hx := B.exec
  have hb := B.bytes
  have hr := B.returns
  have hts := atoms_spec (ws := (wa yX12_settle cX12_settle 2 none)) B.pre
  have hown : s.vm.findClass RX12 = some m.cls := findClass_of_methodNamed B.named
  have hlocks := B.notSynchronized
  subst hsz
  have hD : va_D (pq_B t σ (I, J, ri, rj, rq) s.heap.size) (pq_P t σ (I, J, ri, rj, rq)) := hD0.self
  generalize hAe : pq_B t σ (I, J, ri, rj, rq) s.heap.size = A at hD ⊢
  have hA : ∀ q : Nat, s.heap.size ≤ q → A q := fun q h => by rw [← hAe]; exact Or.inr h
  have hS : va_S A s.heap s.heap [] := va_S.rf
  have hG : GM [401, 398] tg σ I ri I ri rq := ⟨hG0, fun _ _ _ => rfl, fun _ _ _ _ _ => rfl, fun _ _ _ _ _ _ => rfl⟩
  have hl := lv_entry ([.ref this, .int a0]) (n := 2) (Nat.le_of_ble_eq_true rfl)
  rw [lg_entry_eq]
  generalize (lg_sl ([.ref this, .int a0]) ++ List.replicate (2 - (lg_sl ([.ref this, .int a0])).length) Slot.unset).toArray = ls at hl ⊢
  have hl : lv_has ls 2 [(0, .ref this), (1, .int a0)] := hl
  refine q_gen (fun Q hQ => ?_)
  have go : ∀ (H : Heap) (locs : List Loc) (ls : Array Slot), va_P D vwCl (pq_P t σ (I, J, ri, rj, rq)) H → va_D A (pq_P t σ (I, J, ri, rj, rq)) → va_S A s.heap H locs → lv_has ls 2 [(0, .ref this), (1, .int a0)] → W p l e ({ frames := 1, cells := 0, slots := 0, locals := 22 } : Room) s m (List.toArray ([.ref this, .int a0] : List Value)) below meth c H locs 0 0 Q (F0 m 0 ls []) := by
    intro H locs ls hP hD hS hl
    refine lv_aload_n hx hb dX12_settle_0 rfl (lv_at hl 0 rfl) ?_
    refine pg_f (v := .int (I 401 this)) (C := RX12) (T := TX12) (N := 31) hx hb hts (tw_i inlX12) hown hK hP hL_this hK_this (by decide) rfl 17 (by decide) (hts _ (tw_c tw_887)) rfl dX12_settle_1 ?_
    have h_1 : rg (I 401 this) 0 160 := GM.rI hG 401 rfl
    have uh_1 := h_1.1
    have vh_1 := h_1.2
    refine lv_if_le (tgt := 54) hx hb dX12_settle_4 (by decide) (fun c_2 => ?_) (fun c_2 => ?_)
    · have tc_3 : (I 401 this).toInt ≤ 0 := Int32.le_iff_toInt_le.mp c_2
      have h_4 : rg (I 401 this) 0 0 := rg_le1 c_2 h_1 (rg_k (0 : Int32) 0 rfl) (by decide)
      have uh_4 := h_4.1
      have vh_4 := h_4.2
      subst hQ
      exact W.vret hx hb hr (fun t1 ht hW => ⟨⟨(σ, I, J, ri, rj, rq), rfl, ⟨I, ri, rfl, hG, hps, (Or.inl (by have z9 := (PSz_bd hps).2.1; omega)), (fun (j : Nat) (hj : (j : Int) < (I 401 this).toInt) (_ : isO (ri this_pile j)) => hj), (rfl : ri this_pile = ri this_pile), (by omega)⟩, by rw [ht]; exact hP, va_K.moved hW.alike hK, hD⟩, hS.F ht⟩) hS.2.2 dX12_settle_54
    · have tc_5 : 0 < (I 401 this).toInt := Int32.lt_iff_toInt_lt.mp (nle c_2)
      have h_6 : rg (I 401 this) 1 160 := rg_lt2 (nle c_2) (rg_k (0 : Int32) 0 rfl) h_1 (by decide)
      have uh_6 := h_6.1
      have vh_6 := h_6.2
      refine lv_aload_n hx hb dX12_settle_7 rfl (lv_at hl 0 rfl) ?_
      refine pg_f (v := .ref this_pile) (C := RX12) (T := TX12) (N := 31) hx hb hts (tw_i inlX12) hown hK hP hL_this hK_this (by decide) rfl 16 (by decide) (hts _ (tw_c tw_182)) (pq_hv rfl hR_this_pile) dX12_settle_8 ?_
      refine lv_aload_n hx hb dX12_settle_11 rfl (lv_at hl 0 rfl) ?_
      refine pg_f (v := .int (I 401 this)) (C := RX12) (T := TX12) (N := 31) hx hb hts (tw_i inlX12) hown hK hP hL_this hK_this (by decide) rfl 17 (by decide) (hts _ (tw_c tw_887)) rfl dX12_settle_12 ?_
      refine lv_iconst (v := 1) hx hb dX12_settle_15 (by decide) ?_
      refine lv_isub hx hb dX12_settle_16 ?_
      refine lv_topi (fun x_7 ex_7 => ?_)
      have h_8 : rg x_7 0 159 := rg_of_eq ex_7 (rg_sub h_6 (rg_k (1 : Int32) 1 rfl) (by decide))
      have uh_8 := h_8.1
      have vh_8 := h_8.2
      have tx_7 : (x_7).toInt = (I 401 this).toInt - 1 := by rw [ex_7]; exact i_sub_rg (a2 := (I 401 this).toInt) (b2 := 1) rfl rfl h_6 (rg_k (1 : Int32) 1 rfl) (by decide)
      refine pl_i hx hb hK hP hL_this_pile hK_this_pile hN_this_pile (rg_in h_8 (by decide)) dX12_settle_17 ?_
      refine lv_topi (fun x_9 ex_9 => ?_)
      have ex_9 : x_9 = ri this_pile (x_7).toNatClampNeg := ex_9
      have h_10 : rg x_9 0 40 := rg_of_eq ex_9 (GM.rR hG hT_this_pile rfl)
      have uh_10 := h_10.1
      have vh_10 := h_10.2
      refine lv_iload_n hx hb dX12_settle_18 rfl (lv_at hl 1 rfl) ?_
      refine lv_bipush (v := 6) hx hb dX12_settle_19 (by decide) ?_
      refine pk_i (va_runS (As := [.int x_9, .int a0, .int 6]) (rest := []) ⟨hx, hb, hml, hown, hts⟩ (s_X12_isIn_x l D t σ I J ri rj rq H.size tg hSH hG.1 x_9 a0 (6 : Int32)) (va_cwS 3 hts (tw_S tw_235 tw_236 tw_5 tw_237) rfl rfl rfl (by decide +kernel) ⟨Nat.le_of_ble_eq_true rfl, Nat.le_of_ble_eq_true rfl⟩) ⟨pq_blind, pq_pre hK hN hP hD⟩ rfl rfl hl.1 rfl (lv_room (Nat.le_of_ble_eq_true rfl)) dX12_settle_21 ⟨Nat.le_of_ble_eq_true rfl, Nat.le_of_ble_eq_true rfl⟩) hD hS hA (fun x_11 σ1 μ1 H locs hw_12 hP hD hS => ?_)
      obtain ⟨hu_13, hr_15⟩ := hw_12
      obtain ⟨hu_13a, hu_13b⟩ := Prod.mk.inj hu_13
      rw [hu_13a, hu_13b] at hP hD
      have h_16 : rg x_11 0 1 := by rcases hr_15 with ⟨q, -⟩ | ⟨q, -⟩ <;> rw [q] <;> exact ⟨by decide, by decide⟩
      have uh_16 := h_16.1
      have vh_16 := h_16.2
      refine lv_if_eq (tgt := 54) hx hb dX12_settle_24 (by decide) (fun c_17 => ?_) (fun c_17 => ?_)
      · have f_18 := (hr_15.resolve_left (fun q => absurd (q.1.symm.trans c_17) (by decide))).2
        have tc_19 : (x_11).toInt = 0 := congrArg Int32.toInt c_17
        have h_20 : rg x_11 0 0 := rg_and h_16 (rg_of_eq c_17 (rg_k (0 : Int32) 0 rfl)) (by decide)
        have uh_20 := h_20.1
        have vh_20 := h_20.2
        subst hQ
        exact W.vret hx hb hr (fun t1 ht hW => ⟨⟨(σ, I, J, ri, rj, rq), rfl, ⟨I, ri, rfl, hG, hps, (Or.inr (by rw [show (I 401 this).toInt.toNat - 1 = (x_7).toNatClampNeg from by have z0 := clampE x_7; omega, ← ex_9]; omega)), (fun (j : Nat) (hj : (j : Int) < (I 401 this).toInt) (_ : isO (ri this_pile j)) => hj), (rfl : ri this_pile = ri this_pile), (by omega)⟩, by rw [ht]; exact hP, va_K.moved hW.alike hK, hD⟩, hS.F ht⟩) hS.2.2 dX12_settle_54
      · obtain ⟨f_21, f_22⟩ := (hr_15.resolve_right (fun q => c_17 q.1)).2
        have tc_23 : (a0).toInt ≤ (x_9).toInt := Int32.le_iff_toInt_le.mp f_21
        have h_24 : rg x_9 3 40 := rg_le2 f_21 h_a0 h_10 (by decide)
        have uh_24 := h_24.1
        have vh_24 := h_24.2
        have tc_25 : (x_9).toInt ≤ 6 := Int32.le_iff_toInt_le.mp f_22
        have h_26 : rg x_9 3 6 := rg_le1 f_22 h_24 (rg_k (6 : Int32) 6 rfl) (by decide)
        have uh_26 := h_26.1
        have vh_26 := h_26.2
        have tc_27 : (x_11).toInt ≠ 0 := fun q => c_17 (Int32.toInt_inj.mp q)
        have h_28 : rg x_11 1 1 := rg_ne c_17 h_16 0 rfl (by decide)
        have uh_28 := h_28.1
        have vh_28 := h_28.2
        refine lv_aload_n hx hb dX12_settle_27 rfl (lv_at hl 0 rfl) ?_
        refine lv_dup hx hb dX12_settle_28 rfl ?_
        refine pg_f (v := .int (I 401 this)) (C := RX12) (T := TX12) (N := 31) hx hb hts (tw_i inlX12) hown hK hP hL_this hK_this (by decide) rfl 17 (by decide) (hts _ (tw_c tw_887)) rfl dX12_settle_29 ?_
        refine lv_iconst (v := 1) hx hb dX12_settle_32 (by decide) ?_
        refine lv_isub hx hb dX12_settle_33 ?_
        refine lv_topi (fun x_29 ex_29 => ?_)
        have h_30 : rg x_29 0 159 := rg_of_eq ex_29 (rg_sub h_6 (rg_k (1 : Int32) 1 rfl) (by decide))
        have uh_30 := h_30.1
        have vh_30 := h_30.2
        have tx_29 : (x_29).toInt = (I 401 this).toInt - 1 := by rw [ex_29]; exact i_sub_rg (a2 := (I 401 this).toInt) (b2 := 1) rfl rfl h_6 (rg_k (1 : Int32) 1 rfl) (by decide)
        refine pp_i (v := x_29) (ty := .int) (C := RX12) (T := TX12) (N := 31) hx hb hts (tw_i inlX12) tyX12 tyX12_ok nmX12 hown hK hP hD hS hL_this hK_this (by decide) rfl 17 401 (by decide) (hts _ (tw_c tw_887)) rfl (by decide +kernel) rfl rfl (Nat.le_of_ble_eq_true rfl) (ps_401 _ _ _ _ _) dX12_settle_34 (fun I_31 H locs eI_31 hP hD hS => ?_)
        have hG := GM.wI hG 401 rfl eI_31 (rg_w h_30 (by decide)) (by decide)
        have tt_32 : (I_31 396 this).toInt = (I 396 this).toInt := by rw [eI_31, pq_uf _ _ _ (by decide)]
        have tt_33 : (I_31 398 this).toInt = (I 398 this).toInt := by rw [eI_31, pq_uf _ _ _ (by decide)]
        have tt_34 : (I_31 401 this).toInt = (x_29).toInt := by rw [eI_31, pq_us]
        have tt_35 : (I_31 402 this).toInt = (I 402 this).toInt := by rw [eI_31, pq_uf _ _ _ (by decide)]
        have tt_36 : (I_31 391 this).toInt = (I 391 this).toInt := by rw [eI_31, pq_uf _ _ _ (by decide)]
        have tt_37 : (I_31 393 this).toInt = (I 393 this).toInt := by rw [eI_31, pq_uf _ _ _ (by decide)]
        have tt_38 : (I_31 403 this).toInt = (I 403 this).toInt := by rw [eI_31, pq_uf _ _ _ (by decide)]
        have tt_39 : (I_31 397 this).toInt = (I 397 this).toInt := by rw [eI_31, pq_uf _ _ _ (by decide)]
        refine lv_aload_n hx hb dX12_settle_37 rfl (lv_at hl 0 rfl) ?_
        refine lv_aload_n hx hb dX12_settle_38 rfl (lv_at hl 0 rfl) ?_
        refine pg_f (v := .ref this_pile) (C := RX12) (T := TX12) (N := 31) hx hb hts (tw_i inlX12) hown hK hP hL_this hK_this (by decide) rfl 16 (by decide) (hts _ (tw_c tw_182)) (pq_hv rfl hR_this_pile) dX12_settle_39 ?_
        refine lv_aload_n hx hb dX12_settle_42 rfl (lv_at hl 0 rfl) ?_
        refine pg_f (v := .int (I_31 401 this)) (C := RX12) (T := TX12) (N := 31) hx hb hts (tw_i inlX12) hown hK hP hL_this hK_this (by decide) rfl 17 (by decide) (hts _ (tw_c tw_887)) rfl dX12_settle_43 ?_
        have h_40 : rg (I_31 401 this) 0 159 := (by rw [eI_31, pq_us]; exact h_30)
        have uh_40 := h_40.1
        have vh_40 := h_40.2
        refine pl_i hx hb hK hP hL_this_pile hK_this_pile hN_this_pile (rg_in h_40 (by decide)) dX12_settle_46 ?_
        refine lv_topi (fun x_41 ex_41 => ?_)
        have ex_41 : x_41 = ri this_pile ((I_31 401 this)).toNatClampNeg := ex_41
        have h_42 : rg x_41 0 40 := rg_of_eq ex_41 (GM.rR hG hT_this_pile rfl)
        have uh_42 := h_42.1
        have vh_42 := h_42.2
        refine lv_iconst (v := 0) hx hb dX12_settle_47 (by decide) ?_
        have hzz : (x_41).toInt = (x_9).toInt := by rw [ex_41, ex_9, show ((I_31 401 this)).toNatClampNeg = (x_7).toNatClampNeg from by have z0 := clampE x_7; have z1 := clampE (I_31 401 this); omega]
        have hq1 := PSz_t hps
        have hq2 := PSz_w hps (Or.inr (by omega))
        refine pk_v (va_runV (As := [.int x_41, .int 0]) (rest := []) ⟨hx, hb, hml, hown, hts⟩ (s_X12_emit l D t σ I_31 J ri rj rq H.size tg hSH hG.1 this x_41 (0 : Int32) hL_this hK_this this_a hR_this_a hL_this_a hK_this_a hN_this_a hT_this_a (by omega) (by omega)) (cwV 2 hts (tw_V tw_905 tw_906 tw_907 tw_5 tw_908) rfl rfl rfl (by decide +kernel) ⟨Nat.le_of_ble_eq_true rfl, Nat.le_of_ble_eq_true rfl⟩) ⟨pq_blind, pq_recv hK hP hL_this hK_this (by decide) rfl, pq_pre hK hN hP hD⟩ rfl rfl hl.1 rfl (lv_room (Nat.le_of_ble_eq_true rfl)) dX12_settle_48 ⟨Nat.le_of_ble_eq_true rfl, Nat.le_of_ble_eq_true rfl⟩) hD hS hA (fun σ1 μ1 H locs hw_44 hP hD hS => ?_)
        obtain ⟨I_45, ri_46, hu_47, hg_48, hp_50, hp_51, hp_52, hp_53⟩ := hw_44
        obtain ⟨hu_47a, hu_47b⟩ := Prod.mk.inj hu_47
        rw [hu_47a, hu_47b] at hP hD
        obtain ⟨v_54, ev_54, hv_54⟩ := hp_50
        have tt_55 : (I_45 398 this).toInt = (I_31 398 this).toInt + 1 := by rw [ev_54, pq_us]; exact hv_54
        have tt_56 : (I_45 403 this).toInt = (I_31 403 this).toInt := by rw [ev_54, pq_uf _ _ _ (by decide)]
        have hG := GM.tr hG hg_48 (by decide)
        have tt_57 : (I_45 396 this).toInt = (I_31 396 this).toInt := by rw [hg_48.2.1 396 (by decide) (by decide)]
        have tt_58 : (I_45 401 this).toInt = (I_31 401 this).toInt := by rw [hg_48.2.1 401 (by decide) (by decide)]
        have tt_59 : (I_45 402 this).toInt = (I_31 402 this).toInt := by rw [hg_48.2.1 402 (by decide) (by decide)]
        have tt_60 : (I_45 391 this).toInt = (I_31 391 this).toInt := by rw [hg_48.2.1 391 (by decide) (by decide)]
        have tt_61 : (I_45 393 this).toInt = (I_31 393 this).toInt := by rw [hg_48.2.1 393 (by decide) (by decide)]
        have tt_62 : (I_45 397 this).toInt = (I_31 397 this).toInt := by rw [hg_48.2.1 397 (by decide) (by decide)]
        refine lv_goto (tgt := 0) hx hb dX12_settle_51 (by decide) ?_
        have L_335 : ∀ (n_334 : Nat) (I_265 : Nat → Nat → Int32) (ri_266 : Nat → Nat → Int32) (H : Heap) (locs : List Loc) (ls : Array Slot), ((I_265 403 this).toInt = (I 403 this).toInt) → (PSz (I_265 396 this).toInt (I_265 398 this).toInt (I_265 401 this).toInt (I_265 402 this).toInt (I_265 391 this).toInt (I_265 393 this).toInt (ri_266 this_a) (ri_266 this_pile) bb f0 fr ba tb nn K 1) → (∀ j : Nat, (j : Int) < (I 401 this).toInt → isO (ri this_pile j) → (j : Int) < (I_265 401 this).toInt) → (ri_266 this_pile = ri this_pile) → ((I_265 401 this).toInt - 0).toNat < n_334 → GM [401, 398] tg σ I ri I_265 ri_266 rq → va_P D vwCl (pq_P t σ (I_265, J, ri_266, rj, rq)) H → va_D A (pq_P t σ (I_265, J, ri_266, rj, rq)) → va_S A s.heap H locs → lv_has ls 2 [(0, .ref this), (1, .int a0)] → W p l e ({ frames := 1, cells := 0, slots := 0, locals := 22 } : Room) s m (List.toArray ([.ref this, .int a0] : List Value)) below meth c H locs 0 0 Q (F0 m 0 ls []) := by
          intro n_334
          induction n_334 with
          | zero => intro I_265 ri_266 H locs ls hrel_341 hrel_342 hrel_343 hrel_344 hm_333 hG hP hD hS hl; exact absurd hm_333 (Nat.not_lt_zero _)
          | succ n_334 ih_336 =>
            intro I_265 ri_266 H locs ls hrel_341 hrel_342 hrel_343 hrel_344 hm_333 hG hP hD hS hl
            refine lv_aload_n hx hb dX12_settle_0 rfl (lv_at hl 0 rfl) ?_
            refine pg_f (v := .int (I_265 401 this)) (C := RX12) (T := TX12) (N := 31) hx hb hts (tw_i inlX12) hown hK hP hL_this hK_this (by decide) rfl 17 (by decide) (hts _ (tw_c tw_887)) rfl dX12_settle_1 ?_
            have h_345 : rg (I_265 401 this) 0 160 := GM.rI hG 401 rfl
            have uh_345 := h_345.1
            have vh_345 := h_345.2
            refine lv_if_le (tgt := 54) hx hb dX12_settle_4 (by decide) (fun c_346 => ?_) (fun c_346 => ?_)
            · have tc_347 : (I_265 401 this).toInt ≤ 0 := Int32.le_iff_toInt_le.mp c_346
              have h_348 : rg (I_265 401 this) 0 0 := rg_le1 c_346 h_345 (rg_k (0 : Int32) 0 rfl) (by decide)
              have uh_348 := h_348.1
              have vh_348 := h_348.2
              subst hQ
              exact W.vret hx hb hr (fun t1 ht hW => ⟨⟨(σ, I_265, J, ri_266, rj, rq), rfl, ⟨I_265, ri_266, rfl, hG, hrel_342, (Or.inl (by have z9 := (PSz_bd hrel_342).2.1; omega)), hrel_343, hrel_344, (by omega)⟩, by rw [ht]; exact hP, va_K.moved hW.alike hK, hD⟩, hS.F ht⟩) hS.2.2 dX12_settle_54
            · have tc_349 : 0 < (I_265 401 this).toInt := Int32.lt_iff_toInt_lt.mp (nle c_346)
              have h_350 : rg (I_265 401 this) 1 160 := rg_lt2 (nle c_346) (rg_k (0 : Int32) 0 rfl) h_345 (by decide)
              have uh_350 := h_350.1
              have vh_350 := h_350.2
              refine lv_aload_n hx hb dX12_settle_7 rfl (lv_at hl 0 rfl) ?_
              refine pg_f (v := .ref this_pile) (C := RX12) (T := TX12) (N := 31) hx hb hts (tw_i inlX12) hown hK hP hL_this hK_this (by decide) rfl 16 (by decide) (hts _ (tw_c tw_182)) (pq_hv rfl hR_this_pile) dX12_settle_8 ?_
              refine lv_aload_n hx hb dX12_settle_11 rfl (lv_at hl 0 rfl) ?_
              refine pg_f (v := .int (I_265 401 this)) (C := RX12) (T := TX12) (N := 31) hx hb hts (tw_i inlX12) hown hK hP hL_this hK_this (by decide) rfl 17 (by decide) (hts _ (tw_c tw_887)) rfl dX12_settle_12 ?_
              refine lv_iconst (v := 1) hx hb dX12_settle_15 (by decide) ?_
              refine lv_isub hx hb dX12_settle_16 ?_
              refine lv_topi (fun x_351 ex_351 => ?_)
              have h_352 : rg x_351 0 159 := rg_of_eq ex_351 (rg_sub h_350 (rg_k (1 : Int32) 1 rfl) (by decide))
              have uh_352 := h_352.1
              have vh_352 := h_352.2
              have tx_351 : (x_351).toInt = (I_265 401 this).toInt - 1 := by rw [ex_351]; exact i_sub_rg (a2 := (I_265 401 this).toInt) (b2 := 1) rfl rfl h_350 (rg_k (1 : Int32) 1 rfl) (by decide)
              refine pl_i hx hb hK hP hL_this_pile hK_this_pile hN_this_pile (rg_in h_352 (by decide)) dX12_settle_17 ?_
              refine lv_topi (fun x_353 ex_353 => ?_)
              have ex_353 : x_353 = ri_266 this_pile (x_351).toNatClampNeg := ex_353
              have h_354 : rg x_353 0 40 := rg_of_eq ex_353 (GM.rR hG hT_this_pile rfl)
              have uh_354 := h_354.1
              have vh_354 := h_354.2
              refine lv_iload_n hx hb dX12_settle_18 rfl (lv_at hl 1 rfl) ?_
              refine lv_bipush (v := 6) hx hb dX12_settle_19 (by decide) ?_
              refine pk_i (va_runS (As := [.int x_353, .int a0, .int 6]) (rest := []) ⟨hx, hb, hml, hown, hts⟩ (s_X12_isIn_x l D t σ I_265 J ri_266 rj rq H.size tg hSH hG.1 x_353 a0 (6 : Int32)) (va_cwS 3 hts (tw_S tw_235 tw_236 tw_5 tw_237) rfl rfl rfl (by decide +kernel) ⟨Nat.le_of_ble_eq_true rfl, Nat.le_of_ble_eq_true rfl⟩) ⟨pq_blind, pq_pre hK hN hP hD⟩ rfl rfl hl.1 rfl (lv_room (Nat.le_of_ble_eq_true rfl)) dX12_settle_21 ⟨Nat.le_of_ble_eq_true rfl, Nat.le_of_ble_eq_true rfl⟩) hD hS hA (fun x_355 σ1 μ1 H locs hw_356 hP hD hS => ?_)
              obtain ⟨hu_357, hr_359⟩ := hw_356
              obtain ⟨hu_357a, hu_357b⟩ := Prod.mk.inj hu_357
              rw [hu_357a, hu_357b] at hP hD
              have h_360 : rg x_355 0 1 := by rcases hr_359 with ⟨q, -⟩ | ⟨q, -⟩ <;> rw [q] <;> exact ⟨by decide, by decide⟩
              have uh_360 := h_360.1
              have vh_360 := h_360.2
              refine lv_if_eq (tgt := 54) hx hb dX12_settle_24 (by decide) (fun c_361 => ?_) (fun c_361 => ?_)
              · have f_362 := (hr_359.resolve_left (fun q => absurd (q.1.symm.trans c_361) (by decide))).2
                have tc_363 : (x_355).toInt = 0 := congrArg Int32.toInt c_361
                have h_364 : rg x_355 0 0 := rg_and h_360 (rg_of_eq c_361 (rg_k (0 : Int32) 0 rfl)) (by decide)
                have uh_364 := h_364.1
                have vh_364 := h_364.2
                subst hQ
                exact W.vret hx hb hr (fun t1 ht hW => ⟨⟨(σ, I_265, J, ri_266, rj, rq), rfl, ⟨I_265, ri_266, rfl, hG, hrel_342, (Or.inr (by rw [show (I_265 401 this).toInt.toNat - 1 = (x_351).toNatClampNeg from by have z0 := clampE x_351; omega, ← ex_353]; omega)), hrel_343, hrel_344, (by omega)⟩, by rw [ht]; exact hP, va_K.moved hW.alike hK, hD⟩, hS.F ht⟩) hS.2.2 dX12_settle_54
              · obtain ⟨f_365, f_366⟩ := (hr_359.resolve_right (fun q => c_361 q.1)).2
                have tc_367 : (a0).toInt ≤ (x_353).toInt := Int32.le_iff_toInt_le.mp f_365
                have h_368 : rg x_353 3 40 := rg_le2 f_365 h_a0 h_354 (by decide)
                have uh_368 := h_368.1
                have vh_368 := h_368.2
                have tc_369 : (x_353).toInt ≤ 6 := Int32.le_iff_toInt_le.mp f_366
                have h_370 : rg x_353 3 6 := rg_le1 f_366 h_368 (rg_k (6 : Int32) 6 rfl) (by decide)
                have uh_370 := h_370.1
                have vh_370 := h_370.2
                have tc_371 : (x_355).toInt ≠ 0 := fun q => c_361 (Int32.toInt_inj.mp q)
                have h_372 : rg x_355 1 1 := rg_ne c_361 h_360 0 rfl (by decide)
                have uh_372 := h_372.1
                have vh_372 := h_372.2
                refine lv_aload_n hx hb dX12_settle_27 rfl (lv_at hl 0 rfl) ?_
                refine lv_dup hx hb dX12_settle_28 rfl ?_
                refine pg_f (v := .int (I_265 401 this)) (C := RX12) (T := TX12) (N := 31) hx hb hts (tw_i inlX12) hown hK hP hL_this hK_this (by decide) rfl 17 (by decide) (hts _ (tw_c tw_887)) rfl dX12_settle_29 ?_
                refine lv_iconst (v := 1) hx hb dX12_settle_32 (by decide) ?_
                refine lv_isub hx hb dX12_settle_33 ?_
                refine lv_topi (fun x_373 ex_373 => ?_)
                have h_374 : rg x_373 0 159 := rg_of_eq ex_373 (rg_sub h_350 (rg_k (1 : Int32) 1 rfl) (by decide))
                have uh_374 := h_374.1
                have vh_374 := h_374.2
                have tx_373 : (x_373).toInt = (I_265 401 this).toInt - 1 := by rw [ex_373]; exact i_sub_rg (a2 := (I_265 401 this).toInt) (b2 := 1) rfl rfl h_350 (rg_k (1 : Int32) 1 rfl) (by decide)
                refine pp_i (v := x_373) (ty := .int) (C := RX12) (T := TX12) (N := 31) hx hb hts (tw_i inlX12) tyX12 tyX12_ok nmX12 hown hK hP hD hS hL_this hK_this (by decide) rfl 17 401 (by decide) (hts _ (tw_c tw_887)) rfl (by decide +kernel) rfl rfl (Nat.le_of_ble_eq_true rfl) (ps_401 _ _ _ _ _) dX12_settle_34 (fun I_375 H locs eI_375 hP hD hS => ?_)
                have hG := GM.wI hG 401 rfl eI_375 (rg_w h_374 (by decide)) (by decide)
                have tt_376 : (I_375 396 this).toInt = (I_265 396 this).toInt := by rw [eI_375, pq_uf _ _ _ (by decide)]
                have tt_377 : (I_375 398 this).toInt = (I_265 398 this).toInt := by rw [eI_375, pq_uf _ _ _ (by decide)]
                have tt_378 : (I_375 401 this).toInt = (x_373).toInt := by rw [eI_375, pq_us]
                have tt_379 : (I_375 402 this).toInt = (I_265 402 this).toInt := by rw [eI_375, pq_uf _ _ _ (by decide)]
                have tt_380 : (I_375 391 this).toInt = (I_265 391 this).toInt := by rw [eI_375, pq_uf _ _ _ (by decide)]
                have tt_381 : (I_375 393 this).toInt = (I_265 393 this).toInt := by rw [eI_375, pq_uf _ _ _ (by decide)]
                have tt_382 : (I_375 403 this).toInt = (I_265 403 this).toInt := by rw [eI_375, pq_uf _ _ _ (by decide)]
                have tt_383 : (I_375 397 this).toInt = (I_265 397 this).toInt := by rw [eI_375, pq_uf _ _ _ (by decide)]
                refine lv_aload_n hx hb dX12_settle_37 rfl (lv_at hl 0 rfl) ?_
                refine lv_aload_n hx hb dX12_settle_38 rfl (lv_at hl 0 rfl) ?_
                refine pg_f (v := .ref this_pile) (C := RX12) (T := TX12) (N := 31) hx hb hts (tw_i inlX12) hown hK hP hL_this hK_this (by decide) rfl 16 (by decide) (hts _ (tw_c tw_182)) (pq_hv rfl hR_this_pile) dX12_settle_39 ?_
                refine lv_aload_n hx hb dX12_settle_42 rfl (lv_at hl 0 rfl) ?_
                refine pg_f (v := .int (I_375 401 this)) (C := RX12) (T := TX12) (N := 31) hx hb hts (tw_i inlX12) hown hK hP hL_this hK_this (by decide) rfl 17 (by decide) (hts _ (tw_c tw_887)) rfl dX12_settle_43 ?_
                have h_384 : rg (I_375 401 this) 0 159 := (by rw [eI_375, pq_us]; exact h_374)
                have uh_384 := h_384.1
                have vh_384 := h_384.2
                refine pl_i hx hb hK hP hL_this_pile hK_this_pile hN_this_pile (rg_in h_384 (by decide)) dX12_settle_46 ?_
                refine lv_topi (fun x_385 ex_385 => ?_)
                have ex_385 : x_385 = ri_266 this_pile ((I_375 401 this)).toNatClampNeg := ex_385
                have h_386 : rg x_385 0 40 := rg_of_eq ex_385 (GM.rR hG hT_this_pile rfl)
                have uh_386 := h_386.1
                have vh_386 := h_386.2
                refine lv_iconst (v := 0) hx hb dX12_settle_47 (by decide) ?_
                have hzz : (x_385).toInt = (x_353).toInt := by rw [ex_385, ex_353, show ((I_375 401 this)).toNatClampNeg = (x_351).toNatClampNeg from by have z0 := clampE x_351; have z1 := clampE (I_375 401 this); omega]
                have hq1 := PSz_t hrel_342
                have hq2 := PSz_w hrel_342 (Or.inr (by omega))
                refine pk_v (va_runV (As := [.int x_385, .int 0]) (rest := []) ⟨hx, hb, hml, hown, hts⟩ (s_X12_emit l D t σ I_375 J ri_266 rj rq H.size tg hSH hG.1 this x_385 (0 : Int32) hL_this hK_this this_a hR_this_a hL_this_a hK_this_a hN_this_a hT_this_a (by omega) (by omega)) (cwV 2 hts (tw_V tw_905 tw_906 tw_907 tw_5 tw_908) rfl rfl rfl (by decide +kernel) ⟨Nat.le_of_ble_eq_true rfl, Nat.le_of_ble_eq_true rfl⟩) ⟨pq_blind, pq_recv hK hP hL_this hK_this (by decide) rfl, pq_pre hK hN hP hD⟩ rfl rfl hl.1 rfl (lv_room (Nat.le_of_ble_eq_true rfl)) dX12_settle_48 ⟨Nat.le_of_ble_eq_true rfl, Nat.le_of_ble_eq_true rfl⟩) hD hS hA (fun σ1 μ1 H locs hw_388 hP hD hS => ?_)
                obtain ⟨I_389, ri_390, hu_391, hg_392, hp_394, hp_395, hp_396, hp_397⟩ := hw_388
                obtain ⟨hu_391a, hu_391b⟩ := Prod.mk.inj hu_391
                rw [hu_391a, hu_391b] at hP hD
                obtain ⟨v_398, ev_398, hv_398⟩ := hp_394
                have tt_399 : (I_389 398 this).toInt = (I_375 398 this).toInt + 1 := by rw [ev_398, pq_us]; exact hv_398
                have tt_400 : (I_389 403 this).toInt = (I_375 403 this).toInt := by rw [ev_398, pq_uf _ _ _ (by decide)]
                have hG := GM.tr hG hg_392 (by decide)
                have tt_401 : (I_389 396 this).toInt = (I_375 396 this).toInt := by rw [hg_392.2.1 396 (by decide) (by decide)]
                have tt_402 : (I_389 401 this).toInt = (I_375 401 this).toInt := by rw [hg_392.2.1 401 (by decide) (by decide)]
                have tt_403 : (I_389 402 this).toInt = (I_375 402 this).toInt := by rw [hg_392.2.1 402 (by decide) (by decide)]
                have tt_404 : (I_389 391 this).toInt = (I_375 391 this).toInt := by rw [hg_392.2.1 391 (by decide) (by decide)]
                have tt_405 : (I_389 393 this).toInt = (I_375 393 this).toInt := by rw [hg_392.2.1 393 (by decide) (by decide)]
                have tt_406 : (I_389 397 this).toInt = (I_375 397 this).toInt := by rw [hg_392.2.1 397 (by decide) (by decide)]
                refine lv_goto (tgt := 0) hx hb dX12_settle_51 (by decide) ?_
                exact ih_336 I_389 ri_390 _ _ _ (by omega) (PSz_popB hrel_342 (by omega) (by rw [show (I_265 401 this).toInt.toNat - 1 = ((I_375 401 this)).toNatClampNeg from by have z0 := clampE (I_375 401 this); omega]; exact ex_385.symm) (x := x_385) (by omega) (fun j hj => hp_395 j (by omega)) (by rw [show (I_265 396 this).toInt + 250 + 2 * (I_265 398 this).toInt = (I_375 396 this).toInt + 250 + 2 * (I_375 398 this).toInt from by omega]; exact hp_396) (by omega) (by omega) (by omega) (by omega) (by omega) (by omega) (hp_397 this_pile (tg_ne hT_this_pile hT_this_a (by decide)))) (fun j hj ho => by have q := hrel_343 j hj ho; by_cases hjj : j = ((I_375 401 this)).toNatClampNeg; (exfalso; rw [hjj, ← hrel_344, ← ex_385] at ho; unfold isO at ho; omega); (have z0 := clampE (I_375 401 this); omega)) ((hp_397 this_pile (tg_ne hT_this_pile hT_this_a (by decide))).trans hrel_344) (ms_fd_isub hm_333 ((congrFun (hg_392.2.1 401 (by decide) (by decide)) this).trans (by rw [eI_375]; exact pq_us _ _ _ _)) ex_373 rfl (kk := 1) rfl (by decide) h_350 (by decide) (by decide)) hG hP hD hS (lv_sub hl [0, 1] rfl)
        exact L_335 _ I_45 ri_46 _ _ _ (by omega) (PSz_popB hps (by omega) (by rw [show (I 401 this).toInt.toNat - 1 = ((I_31 401 this)).toNatClampNeg from by have z0 := clampE (I_31 401 this); omega]; exact ex_41.symm) (x := x_41) (by omega) (fun j hj => hp_51 j (by omega)) (by rw [show (I 396 this).toInt + 250 + 2 * (I 398 this).toInt = (I_31 396 this).toInt + 250 + 2 * (I_31 398 this).toInt from by omega]; exact hp_52) (by omega) (by omega) (by omega) (by omega) (by omega) (by omega) (hp_53 this_pile (tg_ne hT_this_pile hT_this_a (by decide)))) (fun j hj ho => by have q := (fun (j : Nat) (hj : (j : Int) < (I 401 this).toInt) (_ : isO (ri this_pile j)) => hj) j hj ho; by_cases hjj : j = ((I_31 401 this)).toNatClampNeg; (exfalso; rw [hjj, ← (rfl : ri this_pile = ri this_pile), ← ex_41] at ho; unfold isO at ho; omega); (have z0 := clampE (I_31 401 this); omega)) ((hp_53 this_pile (tg_ne hT_this_pile hT_this_a (by decide))).trans (rfl : ri this_pile = ri this_pile)) (Nat.lt_succ_self _) hG hP hD hS (lv_sub hl [0, 1] rfl)
  exact go _ _ _ hP hD hS hl

set_option maxHeartbeats 4000000 in
set_option maxRecDepth 100000 in
theorem s_X12_hasParen (l : Launch) (D : va_G) (t : pq_T) (σ : pq_S) (I : Nat → Nat → Int32) (J : Nat → Nat → Int64) (ri : Nat → Nat → Int32) (rj : Nat → Nat → Int64) (rq : Nat → Nat → Option Nat) (sz : Nat) (tg : Nat → Nat) (hSH : SH σ tg) (hG0 : GT tg I ri) (this : Nat) (hL_this : this ∈ σ.1) (hK_this : σ.2.1 this = 12) (this_pile : Nat) (hR_this_pile : σ.2.2.1 400 this = some this_pile) (hL_this_pile : this_pile ∈ σ.1) (hK_this_pile : σ.2.1 this_pile = 13) (hN_this_pile : σ.2.2.2 this_pile = 160) (hT_this_pile : tg this_pile = 400) : MetI l yX12_hasParen (wa yX12_hasParen cX12_hasParen 2 (some .boolean)) ({ frames := 0, cells := 0, slots := 0, locals := 0 }) [.ref this] D t σ (I, J, ri, rj, rq) sz 0 0 (fun (r : Int32) (u : pq_S × pq_M) => u = (σ, I, J, ri, rj, rq) ∧ ((r = 1 ∧ (∃ k : Nat, (k : Int) < (I 401 this).toInt ∧ (ri this_pile k).toInt = 40)) ∨ (r = 0 ∧ True))) := by
  refine Met.ofW (cc := cX12_hasParen) (maxL := 2) (ret := (some .boolean)) (by decide) rfl ?_
  intro p e s m args below meth c s₁ B hml hv
  obtain ⟨rfl, hsz, hP, hK, hD0, hN⟩ := hv
  have hx := B.exec
  have hb := B.bytes
  have hr := B.returns
  have hts := atoms_spec (ws := (wa yX12_hasParen cX12_hasParen 2 (some .boolean))) B.pre
  have hown : s.vm.findClass RX12 = some m.cls := findClass_of_methodNamed B.named
  have hlocks := B.notSynchronized
  subst hsz
  have hD : va_D (pq_B t σ (I, J, ri, rj, rq) s.heap.size) (pq_P t σ (I, J, ri, rj, rq)) := hD0.self
  generalize hAe : pq_B t σ (I, J, ri, rj, rq) s.heap.size = A at hD ⊢
  have hA : ∀ q : Nat, s.heap.size ≤ q → A q := fun q h => by rw [← hAe]; exact Or.inr h
  have hS : va_S A s.heap s.heap [] := va_S.rf
  have hG : GM [] tg σ I ri I ri rq := ⟨hG0, fun _ _ _ => rfl, fun _ _ _ _ _ => rfl, fun _ _ _ _ _ _ => rfl⟩
  have hl := lv_entry ([.ref this]) (n := 2) (Nat.le_of_ble_eq_true rfl)
  rw [lg_entry_eq]
  generalize (lg_sl ([.ref this]) ++ List.replicate (2 - (lg_sl ([.ref this])).length) Slot.unset).toArray = ls at hl ⊢
  have hl : lv_has ls 2 [(0, .ref this)] := hl
  refine q_gen (fun Q hQ => ?_)
  have go : ∀ (H : Heap) (locs : List Loc) (ls : Array Slot), va_P D vwCl (pq_P t σ (I, J, ri, rj, rq)) H → va_D A (pq_P t σ (I, J, ri, rj, rq)) → va_S A s.heap H locs → lv_has ls 2 [(0, .ref this)] → W p l e ({ frames := 0, cells := 0, slots := 0, locals := 0 } : Room) s m (List.toArray ([.ref this] : List Value)) below meth c H locs 0 0 Q (F0 m 0 ls []) := by
    intro H locs ls hP hD hS hl
    refine lv_iconst (v := 0) hx hb dX12_hasParen_0 (by decide) ?_
    refine lv_istore_n (lv' := [(1, .int 0), (0, .ref this)]) hx hb dX12_hasParen_1 rfl hl (by decide) rfl (fun ls hl => ?_)
    have L_341 : ∀ (n_340 : Nat) (x_322 : Int32) (H : Heap) (locs : List Loc) (ls : Array Slot), rg x_322 0 160 → (160 - (x_322).toInt).toNat < n_340 → GM [] tg σ I ri I ri rq → va_P D vwCl (pq_P t σ (I, J, ri, rj, rq)) H → va_D A (pq_P t σ (I, J, ri, rj, rq)) → va_S A s.heap H locs → lv_has ls 2 [(0, .ref this), (1, .int x_322)] → W p l e ({ frames := 0, cells := 0, slots := 0, locals := 0 } : Room) s m (List.toArray ([.ref this] : List Value)) below meth c H locs 0 0 Q (F0 m 2 ls []) := by
      intro n_340
      induction n_340 with
      | zero => intro x_322 H locs ls h_344 hm_339 hG hP hD hS hl; exact absurd hm_339 (Nat.not_lt_zero _)
      | succ n_340 ih_342 =>
        intro x_322 H locs ls h_344 hm_339 hG hP hD hS hl
        have uh_344 := h_344.1
        have vh_344 := h_344.2
        refine lv_iload_n hx hb dX12_hasParen_2 rfl (lv_at hl 1 rfl) ?_
        refine lv_aload_n hx hb dX12_hasParen_3 rfl (lv_at hl 0 rfl) ?_
        refine pg_f (v := .int (I 401 this)) (C := RX12) (T := TX12) (N := 31) hx hb hts (tw_i inlX12) hown hK hP hL_this hK_this (by decide) rfl 17 (by decide) (hts _ (tw_c tw_887)) rfl dX12_hasParen_4 ?_
        have h_345 : rg (I 401 this) 0 160 := GM.rI hG 401 rfl
        have uh_345 := h_345.1
        have vh_345 := h_345.2
        refine lv_icmp_ge (tgt := 29) hx hb dX12_hasParen_7 (by decide) (fun c_346 => ?_) (fun c_346 => ?_)
        · have tc_347 : (I 401 this).toInt ≤ (x_322).toInt := Int32.le_iff_toInt_le.mp c_346
          refine lv_iconst (v := 0) hx hb dX12_hasParen_29 (by decide) ?_
          subst hQ
          exact W.zret (v := 0) hx hb hr (by decide) (fun t1 ht hW => ⟨⟨0, (σ, I, J, ri, rj, rq), rfl, ⟨rfl, (Or.inr ⟨rfl, trivial⟩)⟩, by rw [ht]; exact hP, va_K.moved hW.alike hK, hD⟩, hS.F ht⟩) hS.2.2 dX12_hasParen_30
        · have tc_348 : (x_322).toInt < (I 401 this).toInt := Int32.lt_iff_toInt_lt.mp (nle c_346)
          have h_349 : rg x_322 0 159 := rg_lt1 (nle c_346) h_344 h_345 (by decide)
          have uh_349 := h_349.1
          have vh_349 := h_349.2
          have h_350 : rg (I 401 this) 1 160 := rg_lt2 (nle c_346) h_344 h_345 (by decide)
          have uh_350 := h_350.1
          have vh_350 := h_350.2
          refine lv_aload_n hx hb dX12_hasParen_10 rfl (lv_at hl 0 rfl) ?_
          refine pg_f (v := .ref this_pile) (C := RX12) (T := TX12) (N := 31) hx hb hts (tw_i inlX12) hown hK hP hL_this hK_this (by decide) rfl 16 (by decide) (hts _ (tw_c tw_182)) (pq_hv rfl hR_this_pile) dX12_hasParen_11 ?_
          refine lv_iload_n hx hb dX12_hasParen_14 rfl (lv_at hl 1 rfl) ?_
          refine pl_i hx hb hK hP hL_this_pile hK_this_pile hN_this_pile (rg_in h_349 (by decide)) dX12_hasParen_15 ?_
          refine lv_topi (fun x_351 ex_351 => ?_)
          have ex_351 : x_351 = ri this_pile (x_322).toNatClampNeg := ex_351
          have h_352 : rg x_351 0 40 := rg_of_eq ex_351 (GM.rR hG hT_this_pile rfl)
          have uh_352 := h_352.1
          have vh_352 := h_352.2
          refine lv_bipush (v := 40) hx hb dX12_hasParen_16 (by decide) ?_
          refine lv_icmp_ne (tgt := 23) hx hb dX12_hasParen_18 (by decide) (fun c_353 => ?_) (fun c_353 => ?_)
          · have tc_354 : (x_351).toInt ≠ 40 := fun q => c_353 (Int32.toInt_inj.mp q)
            have h_355 : rg x_351 0 39 := rg_ne c_353 h_352 40 rfl (by decide)
            have uh_355 := h_355.1
            have vh_355 := h_355.2
            obtain ⟨x_356, ex_356⟩ : ∃ y : Int32, y = x_322 + Int32.ofInt 1 := ⟨_, rfl⟩
            have h_357 : rg x_356 1 160 := rg_of_eq ex_356 (rg_add h_349 (rg_k (Int32.ofInt 1) 1 rfl) (by decide))
            have uh_357 := h_357.1
            have vh_357 := h_357.2
            have tx_356 : (x_356).toInt = (x_322).toInt + 1 := by rw [ex_356]; exact i_add_rg (a2 := (x_322).toInt) (b2 := 1) rfl rfl h_349 (rg_k (Int32.ofInt 1) 1 rfl) (by decide)
            refine lv_iinc (v := x_356) (lv' := [(1, .int x_356), (0, .ref this)]) hx hb dX12_hasParen_23 hl (k := 1) rfl ex_356.symm (by decide) rfl (fun ls hl => ?_)
            refine lv_goto (tgt := 2) hx hb dX12_hasParen_26 (by decide) ?_
            exact ih_342 x_356 _ _ _ (rg_w h_357 (by decide)) (ms_up 1 hm_339 ex_356 rfl (by decide) h_349 (by decide) (by decide)) hG hP hD hS (lv_sub hl [1, 0] rfl)
          · have tc_358 : (x_351).toInt = 40 := congrArg Int32.toInt c_353
            have h_359 : rg x_351 40 40 := rg_and h_352 (rg_of_eq c_353 (rg_k (40 : Int32) 40 rfl)) (by decide)
            have uh_359 := h_359.1
            have vh_359 := h_359.2
            refine lv_iconst (v := 1) hx hb dX12_hasParen_21 (by decide) ?_
            subst hQ
            exact W.zret (v := 1) hx hb hr (by decide) (fun t1 ht hW => ⟨⟨1, (σ, I, J, ri, rj, rq), rfl, ⟨rfl, (Or.inl ⟨rfl, ⟨(x_322).toNatClampNeg, by have z0 := clampE x_322; omega, by rw [← ex_351]; omega⟩⟩)⟩, by rw [ht]; exact hP, va_K.moved hW.alike hK, hD⟩, hS.F ht⟩) hS.2.2 dX12_hasParen_22
    exact L_341 _ (0 : Int32) _ _ _ (rg_w (rg_k (0 : Int32) 0 rfl) (by decide)) (Nat.lt_succ_self _) hG hP hD hS (lv_sub hl [1, 0] rfl)
  exact go _ _ _ hP hD hS hl

set_option maxHeartbeats 4000000 in
set_option maxRecDepth 100000 in
theorem s_X12_goesOn (l : Launch) (D : va_G) (t : pq_T) (σ : pq_S) (I : Nat → Nat → Int32) (J : Nat → Nat → Int64) (ri : Nat → Nat → Int32) (rj : Nat → Nat → Int64) (rq : Nat → Nat → Option Nat) (sz : Nat) (tg : Nat → Nat) (hSH : SH σ tg) (hG0 : GT tg I ri) (this : Nat) (hL_this : this ∈ σ.1) (hK_this : σ.2.1 this = 12) (this_pile : Nat) (hR_this_pile : σ.2.2.1 400 this = some this_pile) (hL_this_pile : this_pile ∈ σ.1) (hK_this_pile : σ.2.1 this_pile = 13) (hN_this_pile : σ.2.2.2 this_pile = 160) (hT_this_pile : tg this_pile = 400) : MetI l yX12_goesOn (wa yX12_goesOn cX12_goesOn 1 (some .boolean)) ({ frames := 1, cells := 0, slots := 0, locals := 21 }) [.ref this] D t σ (I, J, ri, rj, rq) sz 0 0 (fun (r : Int32) (u : pq_S × pq_M) => u = (σ, I, J, ri, rj, rq) ∧ ((r = 1 ∧ (((I 393 this).toInt = 43 ∨ (I 393 this).toInt = 45 ∨ (I 393 this).toInt = 42 ∨ (I 393 this).toInt = 47 ∨ (I 393 this).toInt = 41) ∧ ((I 393 this).toInt = 41 → ∃ k : Nat, (k : Int) < (I 401 this).toInt ∧ (ri this_pile k).toInt = 40))) ∨ (r = 0 ∧ True))) := by
  refine Met.ofW (cc := cX12_goesOn) (maxL := 1) (ret := (some .boolean)) (by decide) rfl ?_
  intro p e s m args below meth c s₁ B hml hv
  obtain ⟨rfl, hsz, hP, hK, hD0, hN⟩ := hv
  have hx := B.exec
  have hb := B.bytes
  have hr := B.returns
  have hts := atoms_spec (ws := (wa yX12_goesOn cX12_goesOn 1 (some .boolean))) B.pre
  have hown : s.vm.findClass RX12 = some m.cls := findClass_of_methodNamed B.named
  have hlocks := B.notSynchronized
  subst hsz
  have hD : va_D (pq_B t σ (I, J, ri, rj, rq) s.heap.size) (pq_P t σ (I, J, ri, rj, rq)) := hD0.self
  generalize hAe : pq_B t σ (I, J, ri, rj, rq) s.heap.size = A at hD ⊢
  have hA : ∀ q : Nat, s.heap.size ≤ q → A q := fun q h => by rw [← hAe]; exact Or.inr h
  have hS : va_S A s.heap s.heap [] := va_S.rf
  have hG : GM [] tg σ I ri I ri rq := ⟨hG0, fun _ _ _ => rfl, fun _ _ _ _ _ => rfl, fun _ _ _ _ _ _ => rfl⟩
  have hl := lv_entry ([.ref this]) (n := 1) (Nat.le_of_ble_eq_true rfl)
  rw [lg_entry_eq]
  generalize (lg_sl ([.ref this]) ++ List.replicate (1 - (lg_sl ([.ref this])).length) Slot.unset).toArray = ls at hl ⊢
  have hl : lv_has ls 1 [(0, .ref this)] := hl
  refine q_gen (fun Q hQ => ?_)
  have go : ∀ (H : Heap) (locs : List Loc) (ls : Array Slot), va_P D vwCl (pq_P t σ (I, J, ri, rj, rq)) H → va_D A (pq_P t σ (I, J, ri, rj, rq)) → va_S A s.heap H locs → lv_has ls 1 [(0, .ref this)] → W p l e ({ frames := 1, cells := 0, slots := 0, locals := 21 } : Room) s m (List.toArray ([.ref this] : List Value)) below meth c H locs 0 0 Q (F0 m 0 ls []) := by
    intro H locs ls hP hD hS hl
    refine lv_aload_n hx hb dX12_goesOn_0 rfl (lv_at hl 0 rfl) ?_
    refine pg_f (v := .int (I 393 this)) (C := RX12) (T := TX12) (N := 31) hx hb hts (tw_i inlX12) hown hK hP hL_this hK_this (by decide) rfl 9 (by decide) (hts _ (tw_c tw_831)) rfl dX12_goesOn_1 ?_
    refine lv_bipush (v := 43) hx hb dX12_goesOn_4 (by decide) ?_
    refine lv_icmp_eq (tgt := 52) hx hb dX12_goesOn_6 (by decide) (fun c_1 => ?_) (fun c_1 => ?_)
    · have tc_2 : (I 393 this).toInt = 43 := congrArg Int32.toInt c_1
      have h_3 : rg (I 393 this) 43 43 := rg_and (rg_full _) (rg_of_eq c_1 (rg_k (43 : Int32) 43 rfl)) (by decide)
      have uh_3 := h_3.1
      have vh_3 := h_3.2
      refine lv_iconst (v := 1) hx hb dX12_goesOn_52 (by decide) ?_
      refine lv_goto (tgt := 57) hx hb dX12_goesOn_53 (by decide) ?_
      subst hQ
      exact W.zret (v := 1) hx hb hr (by decide) (fun t1 ht hW => ⟨⟨1, (σ, I, J, ri, rj, rq), rfl, ⟨rfl, (Or.inl ⟨rfl, ⟨by omega, fun q => absurd q (by omega)⟩⟩)⟩, by rw [ht]; exact hP, va_K.moved hW.alike hK, hD⟩, hS.F ht⟩) hS.2.2 dX12_goesOn_57
    · have tc_4 : (I 393 this).toInt ≠ 43 := fun q => c_1 (Int32.toInt_inj.mp q)
      refine lv_aload_n hx hb dX12_goesOn_9 rfl (lv_at hl 0 rfl) ?_
      refine pg_f (v := .int (I 393 this)) (C := RX12) (T := TX12) (N := 31) hx hb hts (tw_i inlX12) hown hK hP hL_this hK_this (by decide) rfl 9 (by decide) (hts _ (tw_c tw_831)) rfl dX12_goesOn_10 ?_
      refine lv_bipush (v := 45) hx hb dX12_goesOn_13 (by decide) ?_
      refine lv_icmp_eq (tgt := 52) hx hb dX12_goesOn_15 (by decide) (fun c_5 => ?_) (fun c_5 => ?_)
      · have tc_6 : (I 393 this).toInt = 45 := congrArg Int32.toInt c_5
        have h_7 : rg (I 393 this) 45 45 := rg_and (rg_full _) (rg_of_eq c_5 (rg_k (45 : Int32) 45 rfl)) (by decide)
        have uh_7 := h_7.1
        have vh_7 := h_7.2
        refine lv_iconst (v := 1) hx hb dX12_goesOn_52 (by decide) ?_
        refine lv_goto (tgt := 57) hx hb dX12_goesOn_53 (by decide) ?_
        subst hQ
        exact W.zret (v := 1) hx hb hr (by decide) (fun t1 ht hW => ⟨⟨1, (σ, I, J, ri, rj, rq), rfl, ⟨rfl, (Or.inl ⟨rfl, ⟨by omega, fun q => absurd q (by omega)⟩⟩)⟩, by rw [ht]; exact hP, va_K.moved hW.alike hK, hD⟩, hS.F ht⟩) hS.2.2 dX12_goesOn_57
      · have tc_8 : (I 393 this).toInt ≠ 45 := fun q => c_5 (Int32.toInt_inj.mp q)
        refine lv_aload_n hx hb dX12_goesOn_18 rfl (lv_at hl 0 rfl) ?_
        refine pg_f (v := .int (I 393 this)) (C := RX12) (T := TX12) (N := 31) hx hb hts (tw_i inlX12) hown hK hP hL_this hK_this (by decide) rfl 9 (by decide) (hts _ (tw_c tw_831)) rfl dX12_goesOn_19 ?_
        refine lv_bipush (v := 42) hx hb dX12_goesOn_22 (by decide) ?_
        refine lv_icmp_eq (tgt := 52) hx hb dX12_goesOn_24 (by decide) (fun c_9 => ?_) (fun c_9 => ?_)
        · have tc_10 : (I 393 this).toInt = 42 := congrArg Int32.toInt c_9
          have h_11 : rg (I 393 this) 42 42 := rg_and (rg_full _) (rg_of_eq c_9 (rg_k (42 : Int32) 42 rfl)) (by decide)
          have uh_11 := h_11.1
          have vh_11 := h_11.2
          refine lv_iconst (v := 1) hx hb dX12_goesOn_52 (by decide) ?_
          refine lv_goto (tgt := 57) hx hb dX12_goesOn_53 (by decide) ?_
          subst hQ
          exact W.zret (v := 1) hx hb hr (by decide) (fun t1 ht hW => ⟨⟨1, (σ, I, J, ri, rj, rq), rfl, ⟨rfl, (Or.inl ⟨rfl, ⟨by omega, fun q => absurd q (by omega)⟩⟩)⟩, by rw [ht]; exact hP, va_K.moved hW.alike hK, hD⟩, hS.F ht⟩) hS.2.2 dX12_goesOn_57
        · have tc_12 : (I 393 this).toInt ≠ 42 := fun q => c_9 (Int32.toInt_inj.mp q)
          refine lv_aload_n hx hb dX12_goesOn_27 rfl (lv_at hl 0 rfl) ?_
          refine pg_f (v := .int (I 393 this)) (C := RX12) (T := TX12) (N := 31) hx hb hts (tw_i inlX12) hown hK hP hL_this hK_this (by decide) rfl 9 (by decide) (hts _ (tw_c tw_831)) rfl dX12_goesOn_28 ?_
          refine lv_bipush (v := 47) hx hb dX12_goesOn_31 (by decide) ?_
          refine lv_icmp_eq (tgt := 52) hx hb dX12_goesOn_33 (by decide) (fun c_13 => ?_) (fun c_13 => ?_)
          · have tc_14 : (I 393 this).toInt = 47 := congrArg Int32.toInt c_13
            have h_15 : rg (I 393 this) 47 47 := rg_and (rg_full _) (rg_of_eq c_13 (rg_k (47 : Int32) 47 rfl)) (by decide)
            have uh_15 := h_15.1
            have vh_15 := h_15.2
            refine lv_iconst (v := 1) hx hb dX12_goesOn_52 (by decide) ?_
            refine lv_goto (tgt := 57) hx hb dX12_goesOn_53 (by decide) ?_
            subst hQ
            exact W.zret (v := 1) hx hb hr (by decide) (fun t1 ht hW => ⟨⟨1, (σ, I, J, ri, rj, rq), rfl, ⟨rfl, (Or.inl ⟨rfl, ⟨by omega, fun q => absurd q (by omega)⟩⟩)⟩, by rw [ht]; exact hP, va_K.moved hW.alike hK, hD⟩, hS.F ht⟩) hS.2.2 dX12_goesOn_57
          · have tc_16 : (I 393 this).toInt ≠ 47 := fun q => c_13 (Int32.toInt_inj.mp q)
            refine lv_aload_n hx hb dX12_goesOn_36 rfl (lv_at hl 0 rfl) ?_
            refine pg_f (v := .int (I 393 this)) (C := RX12) (T := TX12) (N := 31) hx hb hts (tw_i inlX12) hown hK hP hL_this hK_this (by decide) rfl 9 (by decide) (hts _ (tw_c tw_831)) rfl dX12_goesOn_37 ?_
            refine lv_bipush (v := 41) hx hb dX12_goesOn_40 (by decide) ?_
            refine lv_icmp_ne (tgt := 56) hx hb dX12_goesOn_42 (by decide) (fun c_17 => ?_) (fun c_17 => ?_)
            · have tc_18 : (I 393 this).toInt ≠ 41 := fun q => c_17 (Int32.toInt_inj.mp q)
              refine lv_iconst (v := 0) hx hb dX12_goesOn_56 (by decide) ?_
              subst hQ
              exact W.zret (v := 0) hx hb hr (by decide) (fun t1 ht hW => ⟨⟨0, (σ, I, J, ri, rj, rq), rfl, ⟨rfl, (Or.inr ⟨rfl, trivial⟩)⟩, by rw [ht]; exact hP, va_K.moved hW.alike hK, hD⟩, hS.F ht⟩) hS.2.2 dX12_goesOn_57
            · have tc_19 : (I 393 this).toInt = 41 := congrArg Int32.toInt c_17
              have h_20 : rg (I 393 this) 41 41 := rg_and (rg_full _) (rg_of_eq c_17 (rg_k (41 : Int32) 41 rfl)) (by decide)
              have uh_20 := h_20.1
              have vh_20 := h_20.2
              refine lv_aload_n hx hb dX12_goesOn_45 rfl (lv_at hl 0 rfl) ?_
              refine pk_i (va_runV (As := []) (rest := []) ⟨hx, hb, hml, hown, hts⟩ (s_X12_hasParen l D t σ I J ri rj rq H.size tg hSH hG.1 this hL_this hK_this this_pile hR_this_pile hL_this_pile hK_this_pile hN_this_pile hT_this_pile) (cwV 0 hts (tw_V tw_893 tw_894 tw_895 tw_5 tw_896) rfl rfl rfl (by decide +kernel) ⟨Nat.le_of_ble_eq_true rfl, Nat.le_of_ble_eq_true rfl⟩) ⟨pq_blind, pq_recv hK hP hL_this hK_this (by decide) rfl, pq_pre hK hN hP hD⟩ rfl rfl hl.1 rfl (lv_room (Nat.le_of_ble_eq_true rfl)) dX12_goesOn_46 ⟨Nat.le_of_ble_eq_true rfl, Nat.le_of_ble_eq_true rfl⟩) hD hS hA (fun x_21 σ1 μ1 H locs hw_22 hP hD hS => ?_)
              obtain ⟨hu_23, hr_25⟩ := hw_22
              obtain ⟨hu_23a, hu_23b⟩ := Prod.mk.inj hu_23
              rw [hu_23a, hu_23b] at hP hD
              have h_26 : rg x_21 0 1 := by rcases hr_25 with ⟨q, -⟩ | ⟨q, -⟩ <;> rw [q] <;> exact ⟨by decide, by decide⟩
              have uh_26 := h_26.1
              have vh_26 := h_26.2
              refine lv_if_eq (tgt := 56) hx hb dX12_goesOn_49 (by decide) (fun c_27 => ?_) (fun c_27 => ?_)
              · have f_28 := (hr_25.resolve_left (fun q => absurd (q.1.symm.trans c_27) (by decide))).2
                have tc_29 : (x_21).toInt = 0 := congrArg Int32.toInt c_27
                have h_30 : rg x_21 0 0 := rg_and h_26 (rg_of_eq c_27 (rg_k (0 : Int32) 0 rfl)) (by decide)
                have uh_30 := h_30.1
                have vh_30 := h_30.2
                refine lv_iconst (v := 0) hx hb dX12_goesOn_56 (by decide) ?_
                subst hQ
                exact W.zret (v := 0) hx hb hr (by decide) (fun t1 ht hW => ⟨⟨0, (σ, I, J, ri, rj, rq), rfl, ⟨rfl, (Or.inr ⟨rfl, trivial⟩)⟩, by rw [ht]; exact hP, va_K.moved hW.alike hK, hD⟩, hS.F ht⟩) hS.2.2 dX12_goesOn_57
              · have f_31 := (hr_25.resolve_right (fun q => c_27 q.1)).2
                have tc_32 : (x_21).toInt ≠ 0 := fun q => c_27 (Int32.toInt_inj.mp q)
                have h_33 : rg x_21 1 1 := rg_ne c_27 h_26 0 rfl (by decide)
                have uh_33 := h_33.1
                have vh_33 := h_33.2
                refine lv_iconst (v := 1) hx hb dX12_goesOn_52 (by decide) ?_
                refine lv_goto (tgt := 57) hx hb dX12_goesOn_53 (by decide) ?_
                subst hQ
                exact W.zret (v := 1) hx hb hr (by decide) (fun t1 ht hW => ⟨⟨1, (σ, I, J, ri, rj, rq), rfl, ⟨rfl, (Or.inl ⟨rfl, ⟨by omega, fun q => f_31⟩⟩)⟩, by rw [ht]; exact hP, va_K.moved hW.alike hK, hD⟩, hS.F ht⟩) hS.2.2 dX12_goesOn_57
  exact go _ _ _ hP hD hS hl

set_option maxHeartbeats 4000000 in
set_option maxRecDepth 100000 in
theorem s_X12_beginOne (l : Launch) (D : va_G) (t : pq_T) (σ : pq_S) (I : Nat → Nat → Int32) (J : Nat → Nat → Int64) (ri : Nat → Nat → Int32) (rj : Nat → Nat → Int64) (rq : Nat → Nat → Option Nat) (sz : Nat) (tg : Nat → Nat) (hSH : SH σ tg) (hG0 : GT tg I ri) (this : Nat) (hL_this : this ∈ σ.1) (hK_this : σ.2.1 this = 12) (this_a : Nat) (hR_this_a : σ.2.2.1 384 this = some this_a) (hL_this_a : this_a ∈ σ.1) (hK_this_a : σ.2.1 this_a = 13) (hN_this_a : σ.2.2.2 this_a = 12720) (hT_this_a : tg this_a = 384) (this_pile : Nat) (hR_this_pile : σ.2.2.1 400 this = some this_pile) (hL_this_pile : this_pile ∈ σ.1) (hK_this_pile : σ.2.1 this_pile = 13) (hN_this_pile : σ.2.2.2 this_pile = 160) (hT_this_pile : tg this_pile = 400) (bb : Nat) (f0 : Nat → Int32) (fr : Int) (ba : Int) (tb : Int) (nn : Int) (K : Int) (hps : PSz (I 396 this).toInt (I 398 this).toInt (I 401 this).toInt (I 402 this).toInt (I 391 this).toInt (I 393 this).toInt (ri this_a) (ri this_pile) bb f0 fr ba tb nn K 0) (hi0 : (I 403 this).toInt = 0) : MetI l yX12_beginOne (wa yX12_beginOne cX12_beginOne 1 (some .int)) ({ frames := 4, cells := 0, slots := 0, locals := 89 }) [.ref this] D t σ (I, J, ri, rj, rq) sz 0 0 (fun (r : Int32) (u : pq_S × pq_M) => ∃ I' : Nat → Nat → Int32, ∃ J' : Nat → Nat → Int64, ∃ ri' : Nat → Nat → Int32, u = (σ, I', J', ri', rj, rq) ∧ GM [398, 391, 392, 393, 401, 402] tg σ I ri I' ri' rq ∧ (r.toInt ≠ 0 ∨ (PSz (I' 396 this).toInt (I' 398 this).toInt (I' 401 this).toInt (I' 402 this).toInt (I' 391 this).toInt (I' 393 this).toInt (ri' this_a) (ri' this_pile) bb f0 fr ba tb nn K (I' 403 this).toInt ∧ tmM (I' 391 this).toInt (I' 393 this).toInt < tmM (I 391 this).toInt (I 393 this).toInt)) ∧ rg r 0 3) := by
  refine Met.ofW (cc := cX12_beginOne) (maxL := 1) (ret := (some .int)) (by decide) rfl ?_
  intro p e s m args below meth c s₁ B hml hv
  obtain ⟨rfl, hsz, hP, hK, hD0, hN⟩ := hv
  have hx := B.exec
  have hb := B.bytes
  have hr := B.returns
  have hts := atoms_spec (ws := (wa yX12_beginOne cX12_beginOne 1 (some .int))) B.pre
  have hown : s.vm.findClass RX12 = some m.cls := findClass_of_methodNamed B.named
  have hlocks := B.notSynchronized
  subst hsz
  have hD : va_D (pq_B t σ (I, J, ri, rj, rq) s.heap.size) (pq_P t σ (I, J, ri, rj, rq)) := hD0.self
  generalize hAe : pq_B t σ (I, J, ri, rj, rq) s.heap.size = A at hD ⊢
  have hA : ∀ q : Nat, s.heap.size ≤ q → A q := fun q h => by rw [← hAe]; exact Or.inr h
  have hS : va_S A s.heap s.heap [] := va_S.rf
  have hG : GM [398, 391, 392, 393, 401, 402] tg σ I ri I ri rq := ⟨hG0, fun _ _ _ => rfl, fun _ _ _ _ _ => rfl, fun _ _ _ _ _ _ => rfl⟩
  have hl := lv_entry ([.ref this]) (n := 1) (Nat.le_of_ble_eq_true rfl)
  rw [lg_entry_eq]
  generalize (lg_sl ([.ref this]) ++ List.replicate (1 - (lg_sl ([.ref this])).length) Slot.unset).toArray = ls at hl ⊢
  have hl : lv_has ls 1 [(0, .ref this)] := hl
  refine q_gen (fun Q hQ => ?_)
  have go : ∀ (H : Heap) (locs : List Loc) (ls : Array Slot), va_P D vwCl (pq_P t σ (I, J, ri, rj, rq)) H → va_D A (pq_P t σ (I, J, ri, rj, rq)) → va_S A s.heap H locs → lv_has ls 1 [(0, .ref this)] → W p l e ({ frames := 4, cells := 0, slots := 0, locals := 89 } : Room) s m (List.toArray ([.ref this] : List Value)) below meth c H locs 0 0 Q (F0 m 0 ls []) := by
    intro H locs ls hP hD hS hl
    refine lv_aload_n hx hb dX12_beginOne_0 rfl (lv_at hl 0 rfl) ?_
    refine pg_f (v := .int (I 393 this)) (C := RX12) (T := TX12) (N := 31) hx hb hts (tw_i inlX12) hown hK hP hL_this hK_this (by decide) rfl 9 (by decide) (hts _ (tw_c tw_831)) rfl dX12_beginOne_1 ?_
    refine lv_iconst (v := 1) hx hb dX12_beginOne_4 (by decide) ?_
    refine lv_icmp_ne (tgt := 20) hx hb dX12_beginOne_5 (by decide) (fun c_1 => ?_) (fun c_1 => ?_)
    · have tc_2 : (I 393 this).toInt ≠ 1 := fun q => c_1 (Int32.toInt_inj.mp q)
      refine lv_aload_n hx hb dX12_beginOne_20 rfl (lv_at hl 0 rfl) ?_
      refine pg_f (v := .int (I 393 this)) (C := RX12) (T := TX12) (N := 31) hx hb hts (tw_i inlX12) hown hK hP hL_this hK_this (by decide) rfl 9 (by decide) (hts _ (tw_c tw_831)) rfl dX12_beginOne_21 ?_
      refine lv_iconst (v := 1) hx hb dX12_beginOne_24 (by decide) ?_
      refine lv_icmp_eq (tgt := 35) hx hb dX12_beginOne_25 (by decide) (fun c_3 => ?_) (fun c_3 => ?_)
      · have tc_4 : (I 393 this).toInt = 1 := congrArg Int32.toInt c_3
        have h_5 : rg (I 393 this) 1 1 := rg_and (rg_full _) (rg_of_eq c_3 (rg_k (1 : Int32) 1 rfl)) (by decide)
        have uh_5 := h_5.1
        have vh_5 := h_5.2
        refine lv_aload_n hx hb dX12_beginOne_35 rfl (lv_at hl 0 rfl) ?_
        refine lv_aload_n hx hb dX12_beginOne_36 rfl (lv_at hl 0 rfl) ?_
        refine pg_f (v := .int (I 393 this)) (C := RX12) (T := TX12) (N := 31) hx hb hts (tw_i inlX12) hown hK hP hL_this hK_this (by decide) rfl 9 (by decide) (hts _ (tw_c tw_831)) rfl dX12_beginOne_37 ?_
        refine lv_iconst (v := 1) hx hb dX12_beginOne_40 (by decide) ?_
        refine lv_icmp_ne (tgt := 48) hx hb dX12_beginOne_41 (by decide) (fun c_6 => ?_) (fun c_6 => ?_)
        · have tc_7 : (I 393 this).toInt ≠ 1 := fun q => c_6 (Int32.toInt_inj.mp q)
          exact (rg_empty (rg_ne c_6 h_5 1 rfl (lo := 2) (hi := 0) (by decide)) (by decide)).elim
        · have tc_8 : (I 393 this).toInt = 1 := congrArg Int32.toInt c_6
          refine lv_iconst (v := 0) hx hb dX12_beginOne_44 (by decide) ?_
          refine lv_goto (tgt := 49) hx hb dX12_beginOne_45 (by decide) ?_
          refine lv_aload_n hx hb dX12_beginOne_49 rfl (lv_at hl 0 rfl) ?_
          refine pg_f (v := .int (I 393 this)) (C := RX12) (T := TX12) (N := 31) hx hb hts (tw_i inlX12) hown hK hP hL_this hK_this (by decide) rfl 9 (by decide) (hts _ (tw_c tw_831)) rfl dX12_beginOne_50 ?_
          refine lv_iconst (v := 1) hx hb dX12_beginOne_53 (by decide) ?_
          refine lv_icmp_ne (tgt := 64) hx hb dX12_beginOne_54 (by decide) (fun c_9 => ?_) (fun c_9 => ?_)
          · have tc_10 : (I 393 this).toInt ≠ 1 := fun q => c_9 (Int32.toInt_inj.mp q)
            exact (rg_empty (rg_ne c_9 h_5 1 rfl (lo := 2) (hi := 0) (by decide)) (by decide)).elim
          · have tc_11 : (I 393 this).toInt = 1 := congrArg Int32.toInt c_9
            refine lv_aload_n hx hb dX12_beginOne_57 rfl (lv_at hl 0 rfl) ?_
            refine pg_f (v := .int (I 394 this)) (C := RX12) (T := TX12) (N := 31) hx hb hts (tw_i inlX12) hown hK hP hL_this hK_this (by decide) rfl 10 (by decide) (hts _ (tw_c tw_836)) rfl dX12_beginOne_58 ?_
            refine lv_goto (tgt := 68) hx hb dX12_beginOne_61 (by decide) ?_
            have hq1 := PSz_t hps
            have hq2 := PSz_w hps (Or.inl (by omega))
            refine pk_v (va_runV (As := [.int 0, .int (I 394 this)]) (rest := []) ⟨hx, hb, hml, hown, hts⟩ (s_X12_emit l D t σ I J ri rj rq H.size tg hSH hG.1 this (0 : Int32) (I 394 this) hL_this hK_this this_a hR_this_a hL_this_a hK_this_a hN_this_a hT_this_a (by omega) (by omega)) (cwV 2 hts (tw_V tw_905 tw_906 tw_907 tw_5 tw_908) rfl rfl rfl (by decide +kernel) ⟨Nat.le_of_ble_eq_true rfl, Nat.le_of_ble_eq_true rfl⟩) ⟨pq_blind, pq_recv hK hP hL_this hK_this (by decide) rfl, pq_pre hK hN hP hD⟩ rfl rfl hl.1 rfl (lv_room (Nat.le_of_ble_eq_true rfl)) dX12_beginOne_68 ⟨Nat.le_of_ble_eq_true rfl, Nat.le_of_ble_eq_true rfl⟩) hD hS hA (fun σ1 μ1 H locs hw_13 hP hD hS => ?_)
            obtain ⟨I_14, ri_15, hu_16, hg_17, hp_19, hp_20, hp_21, hp_22⟩ := hw_13
            obtain ⟨hu_16a, hu_16b⟩ := Prod.mk.inj hu_16
            rw [hu_16a, hu_16b] at hP hD
            obtain ⟨v_23, ev_23, hv_23⟩ := hp_19
            have tt_24 : (I_14 398 this).toInt = (I 398 this).toInt + 1 := by rw [ev_23, pq_us]; exact hv_23
            have tt_25 : (I_14 403 this).toInt = (I 403 this).toInt := by rw [ev_23, pq_uf _ _ _ (by decide)]
            have hG := GM.tr hG hg_17 (by decide)
            have tt_26 : (I_14 396 this).toInt = (I 396 this).toInt := by rw [hg_17.2.1 396 (by decide) (by decide)]
            have tt_27 : (I_14 401 this).toInt = (I 401 this).toInt := by rw [hg_17.2.1 401 (by decide) (by decide)]
            have tt_28 : (I_14 402 this).toInt = (I 402 this).toInt := by rw [hg_17.2.1 402 (by decide) (by decide)]
            have tt_29 : (I_14 391 this).toInt = (I 391 this).toInt := by rw [hg_17.2.1 391 (by decide) (by decide)]
            have tt_30 : (I_14 393 this).toInt = (I 393 this).toInt := by rw [hg_17.2.1 393 (by decide) (by decide)]
            have tt_31 : (I_14 397 this).toInt = (I 397 this).toInt := by rw [hg_17.2.1 397 (by decide) (by decide)]
            refine lv_aload_n hx hb dX12_beginOne_71 rfl (lv_at hl 0 rfl) ?_
            obtain ⟨w_32, hR_w_32, hL_w_32, hK_w_32, hN_w_32, hT_w_32⟩ := sh_a hSH 387 (ci := 12) (kd := 13) (len := 300) rfl (by decide) hL_this hK_this
            refine pk_v (va_runV (As := []) (rest := []) ⟨hx, hb, hml, hown, hts⟩ (s_X12_nextToken_x l D t σ I_14 J ri_15 rj rq H.size tg hSH hG.1 this hL_this hK_this w_32 hR_w_32 hL_w_32 hK_w_32 hN_w_32 hT_w_32) (cwV 0 hts (tw_V tw_832 tw_833 tw_834 tw_5 tw_835) rfl rfl rfl (by decide +kernel) ⟨Nat.le_of_ble_eq_true rfl, Nat.le_of_ble_eq_true rfl⟩) ⟨pq_blind, pq_recv hK hP hL_this hK_this (by decide) rfl, pq_pre hK hN hP hD⟩ rfl rfl hl.1 rfl (lv_room (Nat.le_of_ble_eq_true rfl)) dX12_beginOne_72 ⟨Nat.le_of_ble_eq_true rfl, Nat.le_of_ble_eq_true rfl⟩) hD hS hA (fun σ1 μ1 H locs hw_34 hP hD hS => ?_)
            obtain ⟨I_35, J_36, hu_37, hg_38, hp_40, hp_41, hp_42⟩ := hw_34
            obtain ⟨hu_37a, hu_37b⟩ := Prod.mk.inj hu_37
            rw [hu_37a, hu_37b] at hP hD
            have tt_43 := hp_40
            have tt_44 := hp_41
            have tt_45 := hp_42
            have tt_46 : (I_35 391 this).toInt ≤ 300 := by have z := hg_38.1.1 391 this; exact z.2
            have hG := GM.tr hG hg_38 (by decide)
            have tt_47 : (I_35 396 this).toInt = (I_14 396 this).toInt := by rw [hg_38.2.1 396 (by decide) (by decide)]
            have tt_48 : (I_35 398 this).toInt = (I_14 398 this).toInt := by rw [hg_38.2.1 398 (by decide) (by decide)]
            have tt_49 : (I_35 401 this).toInt = (I_14 401 this).toInt := by rw [hg_38.2.1 401 (by decide) (by decide)]
            have tt_50 : (I_35 402 this).toInt = (I_14 402 this).toInt := by rw [hg_38.2.1 402 (by decide) (by decide)]
            have tt_51 : (I_35 397 this).toInt = (I_14 397 this).toInt := by rw [hg_38.2.1 397 (by decide) (by decide)]
            refine lv_aload_n hx hb dX12_beginOne_75 rfl (lv_at hl 0 rfl) ?_
            have hpsW : PSz (I_35 396 this).toInt (I_35 398 this).toInt (I_35 401 this).toInt (I_35 402 this).toInt (I_35 391 this).toInt (I_35 393 this).toInt (ri_15 this_a) (ri_15 this_pile) bb f0 fr ba tb nn K 1 := PSz_one hps (by omega) (x := (0 : Int32)) (fun j hj => hp_20 j (by omega)) (by rw [show (I 396 this).toInt + 250 + 2 * (I 398 this).toInt = (I 396 this).toInt + 250 + 2 * (I 398 this).toInt from by omega]; exact hp_21) (by omega) (by omega) (by omega) (by omega) (by omega) (by omega) (by omega) (by omega) (hp_22 this_pile (tg_ne hT_this_pile hT_this_a (by decide)))
            have htm : tmM (I_35 391 this).toInt (I_35 393 this).toInt < tmM (I 391 this).toInt (I 393 this).toInt := tm_lt (by omega) (by omega) (by omega)
            refine pk_v (va_runV (As := []) (rest := []) ⟨hx, hb, hml, hown, hts⟩ (s_X12_whole l D t σ I_35 J_36 ri_15 rj rq H.size tg hSH hG.1 this hL_this hK_this this_a hR_this_a hL_this_a hK_this_a hN_this_a hT_this_a this_pile hR_this_pile hL_this_pile hK_this_pile hN_this_pile hT_this_pile bb f0 fr ba tb nn K (by assumption)) (cwV 0 hts (tw_V tw_909 tw_910 tw_911 tw_5 tw_912) rfl rfl rfl (by decide +kernel) ⟨Nat.le_of_ble_eq_true rfl, Nat.le_of_ble_eq_true rfl⟩) ⟨pq_blind, pq_recv hK hP hL_this hK_this (by decide) rfl, pq_pre hK hN hP hD⟩ rfl rfl hl.1 rfl (lv_room (Nat.le_of_ble_eq_true rfl)) dX12_beginOne_76 ⟨Nat.le_of_ble_eq_true rfl, Nat.le_of_ble_eq_true rfl⟩) hD hS hA (fun σ1 μ1 H locs hw_53 hP hD hS => ?_)
            obtain ⟨I_54, ri_55, hu_56, hg_57, hp_59, hp_60⟩ := hw_53
            obtain ⟨hu_56a, hu_56b⟩ := Prod.mk.inj hu_56
            rw [hu_56a, hu_56b] at hP hD
            have tt_61 := hp_60
            have hG := GM.tr hG hg_57 (by decide)
            have tt_62 : (I_54 396 this).toInt = (I_35 396 this).toInt := by rw [hg_57.2.1 396 (by decide) (by decide)]
            have tt_63 : (I_54 391 this).toInt = (I_35 391 this).toInt := by rw [hg_57.2.1 391 (by decide) (by decide)]
            have tt_64 : (I_54 393 this).toInt = (I_35 393 this).toInt := by rw [hg_57.2.1 393 (by decide) (by decide)]
            have tt_65 : (I_54 397 this).toInt = (I_35 397 this).toInt := by rw [hg_57.2.1 397 (by decide) (by decide)]
            refine lv_iconst (v := 0) hx hb dX12_beginOne_79 (by decide) ?_
            subst hQ
            exact W.iret (v := 0) hx hb hr (fun t1 ht hW => ⟨⟨0, (σ, I_54, J_36, ri_55, rj, rq), rfl, ⟨I_54, J_36, ri_55, rfl, hG, (Or.inr ⟨(by rw [show (I_54 403 this).toInt = 1 from by omega]; exact hp_59), tm_cg htm (by omega) (by omega) rfl rfl⟩), (rg_w (rg_k (0 : Int32) 0 rfl) (by decide))⟩, by rw [ht]; exact hP, va_K.moved hW.alike hK, hD⟩, hS.F ht⟩) hS.2.2 dX12_beginOne_80
      · have tc_66 : (I 393 this).toInt ≠ 1 := fun q => c_3 (Int32.toInt_inj.mp q)
        refine lv_aload_n hx hb dX12_beginOne_28 rfl (lv_at hl 0 rfl) ?_
        refine pk_i (va_runV (As := []) (rest := []) ⟨hx, hb, hml, hown, hts⟩ (s_X12_nameOf_x l D t σ I J ri rj rq H.size tg hSH hG.1 this hL_this hK_this) (cwV 0 hts (tw_V tw_921 tw_922 tw_923 tw_5 tw_924) rfl rfl rfl (by decide +kernel) ⟨Nat.le_of_ble_eq_true rfl, Nat.le_of_ble_eq_true rfl⟩) ⟨pq_blind, pq_recv hK hP hL_this hK_this (by decide) rfl, pq_pre hK hN hP hD⟩ rfl rfl hl.1 rfl (lv_room (Nat.le_of_ble_eq_true rfl)) dX12_beginOne_29 ⟨Nat.le_of_ble_eq_true rfl, Nat.le_of_ble_eq_true rfl⟩) hD hS hA (fun x_67 σ1 μ1 H locs hw_68 hP hD hS => ?_)
        obtain ⟨hu_69, hp_72, hr_71⟩ := hw_68
        obtain ⟨hu_69a, hu_69b⟩ := Prod.mk.inj hu_69
        rw [hu_69a, hu_69b] at hP hD
        have tt_73 := hp_72
        refine lv_if_lt (tgt := 81) hx hb dX12_beginOne_32 (by decide) (fun c_74 => ?_) (fun c_74 => ?_)
        · have tc_75 : (x_67).toInt < 0 := Int32.lt_iff_toInt_lt.mp c_74
          have h_76 : rg x_67 (-1) (-1) := rg_lt1 c_74 hr_71 (rg_k (0 : Int32) 0 rfl) (by decide)
          have uh_76 := h_76.1
          have vh_76 := h_76.2
          refine lv_aload_n hx hb dX12_beginOne_81 rfl (lv_at hl 0 rfl) ?_
          refine pg_f (v := .int (I 393 this)) (C := RX12) (T := TX12) (N := 31) hx hb hts (tw_i inlX12) hown hK hP hL_this hK_this (by decide) rfl 9 (by decide) (hts _ (tw_c tw_831)) rfl dX12_beginOne_82 ?_
          refine lv_bipush (v := 40) hx hb dX12_beginOne_85 (by decide) ?_
          refine lv_icmp_eq (tgt := 101) hx hb dX12_beginOne_87 (by decide) (fun c_77 => ?_) (fun c_77 => ?_)
          · have tc_78 : (I 393 this).toInt = 40 := congrArg Int32.toInt c_77
            have h_79 : rg (I 393 this) 40 40 := rg_and (rg_full _) (rg_of_eq c_77 (rg_k (40 : Int32) 40 rfl)) (by decide)
            have uh_79 := h_79.1
            have vh_79 := h_79.2
            refine lv_aload_n hx hb dX12_beginOne_101 rfl (lv_at hl 0 rfl) ?_
            refine pg_f (v := .int (I 402 this)) (C := RX12) (T := TX12) (N := 31) hx hb hts (tw_i inlX12) hown hK hP hL_this hK_this (by decide) rfl 18 (by decide) (hts _ (tw_c tw_828)) rfl dX12_beginOne_102 ?_
            refine lv_bipush (v := 8) hx hb dX12_beginOne_105 (by decide) ?_
            refine lv_icmp_ne (tgt := 112) hx hb dX12_beginOne_107 (by decide) (fun c_80 => ?_) (fun c_80 => ?_)
            · have tc_81 : (I 402 this).toInt ≠ 8 := fun q => c_80 (Int32.toInt_inj.mp q)
              refine lv_aload_n hx hb dX12_beginOne_112 rfl (lv_at hl 0 rfl) ?_
              refine lv_dup hx hb dX12_beginOne_113 rfl ?_
              refine pg_f (v := .int (I 402 this)) (C := RX12) (T := TX12) (N := 31) hx hb hts (tw_i inlX12) hown hK hP hL_this hK_this (by decide) rfl 18 (by decide) (hts _ (tw_c tw_828)) rfl dX12_beginOne_114 ?_
              refine lv_iconst (v := 1) hx hb dX12_beginOne_117 (by decide) ?_
              refine lv_iadd hx hb dX12_beginOne_118 ?_
              refine lv_topi (fun x_82 ex_82 => ?_)
              refine pp_i (v := x_82) (ty := .int) (C := RX12) (T := TX12) (N := 31) hx hb hts (tw_i inlX12) tyX12 tyX12_ok nmX12 hown hK hP hD hS hL_this hK_this (by decide) rfl 18 402 (by decide) (hts _ (tw_c tw_828)) rfl (by decide +kernel) rfl rfl (Nat.le_of_ble_eq_true rfl) (ps_402 _ _ _ _ _) dX12_beginOne_119 (fun I_83 H locs eI_83 hP hD hS => ?_)
              have hG := GM.wI hG 402 rfl eI_83 (rg_w (rg_full _) (by decide)) (by decide)
              have tt_84 : (I_83 396 this).toInt = (I 396 this).toInt := by rw [eI_83, pq_uf _ _ _ (by decide)]
              have tt_85 : (I_83 398 this).toInt = (I 398 this).toInt := by rw [eI_83, pq_uf _ _ _ (by decide)]
              have tt_86 : (I_83 401 this).toInt = (I 401 this).toInt := by rw [eI_83, pq_uf _ _ _ (by decide)]
              have tt_87 : (I_83 402 this).toInt = (x_82).toInt := by rw [eI_83, pq_us]
              have tt_88 : (I_83 391 this).toInt = (I 391 this).toInt := by rw [eI_83, pq_uf _ _ _ (by decide)]
              have tt_89 : (I_83 393 this).toInt = (I 393 this).toInt := by rw [eI_83, pq_uf _ _ _ (by decide)]
              have tt_90 : (I_83 403 this).toInt = (I 403 this).toInt := by rw [eI_83, pq_uf _ _ _ (by decide)]
              have tt_91 : (I_83 397 this).toInt = (I 397 this).toInt := by rw [eI_83, pq_uf _ _ _ (by decide)]
              refine lv_aload_n hx hb dX12_beginOne_122 rfl (lv_at hl 0 rfl) ?_
              refine lv_aload_n hx hb dX12_beginOne_123 rfl (lv_at hl 0 rfl) ?_
              refine pg_f (v := .int (I_83 393 this)) (C := RX12) (T := TX12) (N := 31) hx hb hts (tw_i inlX12) hown hK hP hL_this hK_this (by decide) rfl 9 (by decide) (hts _ (tw_c tw_831)) rfl dX12_beginOne_124 ?_
              have h_92 : rg (I_83 393 this) 40 40 := (by rw [eI_83, pq_uf _ _ _ (by decide)]; exact h_79)
              have uh_92 := h_92.1
              have vh_92 := h_92.2
              refine lv_bipush (v := 40) hx hb dX12_beginOne_127 (by decide) ?_
              refine lv_icmp_ne (tgt := 137) hx hb dX12_beginOne_129 (by decide) (fun c_93 => ?_) (fun c_93 => ?_)
              · have tc_94 : (I_83 393 this).toInt ≠ 40 := fun q => c_93 (Int32.toInt_inj.mp q)
                exact (rg_empty (rg_ne c_93 h_92 40 rfl (lo := 41) (hi := 39) (by decide)) (by decide)).elim
              · have tc_95 : (I_83 393 this).toInt = 40 := congrArg Int32.toInt c_93
                refine lv_bipush (v := 40) hx hb dX12_beginOne_132 (by decide) ?_
                refine lv_goto (tgt := 138) hx hb dX12_beginOne_134 (by decide) ?_
                have hq3 := PSz_bd hps
                refine pk_v (va_runV (As := [.int 40]) (rest := []) ⟨hx, hb, hml, hown, hts⟩ (s_X12_push l D t σ I_83 J ri rj rq H.size tg hSH hG.1 this (40 : Int32) hL_this hK_this (rg_w (rg_k (40 : Int32) 40 rfl) (by decide)) this_pile hR_this_pile hL_this_pile hK_this_pile hN_this_pile hT_this_pile (by omega)) (cwV 1 hts (tw_V tw_913 tw_914 tw_915 tw_5 tw_916) rfl rfl rfl (by decide +kernel) ⟨Nat.le_of_ble_eq_true rfl, Nat.le_of_ble_eq_true rfl⟩) ⟨pq_blind, pq_recv hK hP hL_this hK_this (by decide) rfl, pq_pre hK hN hP hD⟩ rfl rfl hl.1 rfl (lv_room (Nat.le_of_ble_eq_true rfl)) dX12_beginOne_138 ⟨Nat.le_of_ble_eq_true rfl, Nat.le_of_ble_eq_true rfl⟩) hD hS hA (fun σ1 μ1 H locs hw_97 hP hD hS => ?_)
                obtain ⟨I_98, ri_99, hu_100, hg_101, hp_103, hp_104, hp_105⟩ := hw_97
                obtain ⟨hu_100a, hu_100b⟩ := Prod.mk.inj hu_100
                rw [hu_100a, hu_100b] at hP hD
                obtain ⟨v_106, ev_106, hv_106⟩ := hp_103
                have tt_107 : (I_98 401 this).toInt = (I_83 401 this).toInt + 1 := by rw [ev_106, pq_us]; exact hv_106
                have tt_108 : (I_98 403 this).toInt = (I_83 403 this).toInt := by rw [ev_106, pq_uf _ _ _ (by decide)]
                have hG := GM.tr hG hg_101 (by decide)
                have tt_109 : (I_98 396 this).toInt = (I_83 396 this).toInt := by rw [hg_101.2.1 396 (by decide) (by decide)]
                have tt_110 : (I_98 398 this).toInt = (I_83 398 this).toInt := by rw [hg_101.2.1 398 (by decide) (by decide)]
                have tt_111 : (I_98 402 this).toInt = (I_83 402 this).toInt := by rw [hg_101.2.1 402 (by decide) (by decide)]
                have tt_112 : (I_98 391 this).toInt = (I_83 391 this).toInt := by rw [hg_101.2.1 391 (by decide) (by decide)]
                have tt_113 : (I_98 393 this).toInt = (I_83 393 this).toInt := by rw [hg_101.2.1 393 (by decide) (by decide)]
                have tt_114 : (I_98 397 this).toInt = (I_83 397 this).toInt := by rw [hg_101.2.1 397 (by decide) (by decide)]
                refine lv_aload_n hx hb dX12_beginOne_141 rfl (lv_at hl 0 rfl) ?_
                obtain ⟨w_115, hR_w_115, hL_w_115, hK_w_115, hN_w_115, hT_w_115⟩ := sh_a hSH 387 (ci := 12) (kd := 13) (len := 300) rfl (by decide) hL_this hK_this
                refine pk_v (va_runV (As := []) (rest := []) ⟨hx, hb, hml, hown, hts⟩ (s_X12_nextToken_x l D t σ I_98 J ri_99 rj rq H.size tg hSH hG.1 this hL_this hK_this w_115 hR_w_115 hL_w_115 hK_w_115 hN_w_115 hT_w_115) (cwV 0 hts (tw_V tw_832 tw_833 tw_834 tw_5 tw_835) rfl rfl rfl (by decide +kernel) ⟨Nat.le_of_ble_eq_true rfl, Nat.le_of_ble_eq_true rfl⟩) ⟨pq_blind, pq_recv hK hP hL_this hK_this (by decide) rfl, pq_pre hK hN hP hD⟩ rfl rfl hl.1 rfl (lv_room (Nat.le_of_ble_eq_true rfl)) dX12_beginOne_142 ⟨Nat.le_of_ble_eq_true rfl, Nat.le_of_ble_eq_true rfl⟩) hD hS hA (fun σ1 μ1 H locs hw_117 hP hD hS => ?_)
                obtain ⟨I_118, J_119, hu_120, hg_121, hp_123, hp_124, hp_125⟩ := hw_117
                obtain ⟨hu_120a, hu_120b⟩ := Prod.mk.inj hu_120
                rw [hu_120a, hu_120b] at hP hD
                have tt_126 := hp_123
                have tt_127 := hp_124
                have tt_128 := hp_125
                have tt_129 : (I_118 391 this).toInt ≤ 300 := by have z := hg_121.1.1 391 this; exact z.2
                have hG := GM.tr hG hg_121 (by decide)
                have tt_130 : (I_118 396 this).toInt = (I_98 396 this).toInt := by rw [hg_121.2.1 396 (by decide) (by decide)]
                have tt_131 : (I_118 398 this).toInt = (I_98 398 this).toInt := by rw [hg_121.2.1 398 (by decide) (by decide)]
                have tt_132 : (I_118 401 this).toInt = (I_98 401 this).toInt := by rw [hg_121.2.1 401 (by decide) (by decide)]
                have tt_133 : (I_118 402 this).toInt = (I_98 402 this).toInt := by rw [hg_121.2.1 402 (by decide) (by decide)]
                have tt_134 : (I_118 397 this).toInt = (I_98 397 this).toInt := by rw [hg_121.2.1 397 (by decide) (by decide)]
                have hup2 : ri_99 this_pile = upd (ri this_pile) (I 401 this).toInt.toNat (40 : Int32) := by rw [show (I 401 this).toInt = (I_83 401 this).toInt from by omega]; exact hp_104
                have hpsW : PSz (I_118 396 this).toInt (I_118 398 this).toInt (I_118 401 this).toInt (I_118 402 this).toInt (I_118 391 this).toInt (I_118 393 this).toInt (ri_99 this_a) (ri_99 this_pile) bb f0 fr ba tb nn K 0 := PSz_open hps (by omega) (by omega) (x := (40 : Int32)) (by decide) (by omega) (by omega) (by omega) (by omega) (by omega) (by omega) (by omega) (hp_105 this_a (tg_ne hT_this_a hT_this_pile (by decide))) hup2
                have htm : tmM (I_118 391 this).toInt (I_118 393 this).toInt < tmM (I 391 this).toInt (I 393 this).toInt := tm_lt (by omega) (by omega) (by omega)
                refine lv_iconst (v := 0) hx hb dX12_beginOne_145 (by decide) ?_
                subst hQ
                exact W.iret (v := 0) hx hb hr (fun t1 ht hW => ⟨⟨0, (σ, I_118, J_119, ri_99, rj, rq), rfl, ⟨I_118, J_119, ri_99, rfl, hG, (Or.inr ⟨(by rw [show (I_118 403 this).toInt = 0 from by omega]; exact hpsW), tm_cg htm (by omega) (by omega) rfl rfl⟩), (rg_w (rg_k (0 : Int32) 0 rfl) (by decide))⟩, by rw [ht]; exact hP, va_K.moved hW.alike hK, hD⟩, hS.F ht⟩) hS.2.2 dX12_beginOne_146
            · have tc_135 : (I 402 this).toInt = 8 := congrArg Int32.toInt c_80
              have h_136 : rg (I 402 this) 8 8 := rg_and (rg_full _) (rg_of_eq c_80 (rg_k (8 : Int32) 8 rfl)) (by decide)
              have uh_136 := h_136.1
              have vh_136 := h_136.2
              refine lv_iconst (v := 3) hx hb dX12_beginOne_110 (by decide) ?_
              subst hQ
              exact W.iret (v := 3) hx hb hr (fun t1 ht hW => ⟨⟨3, (σ, I, J, ri, rj, rq), rfl, ⟨I, J, ri, rfl, hG, (Or.inl (by decide)), (rg_w (rg_k (3 : Int32) 3 rfl) (by decide))⟩, by rw [ht]; exact hP, va_K.moved hW.alike hK, hD⟩, hS.F ht⟩) hS.2.2 dX12_beginOne_111
          · have tc_137 : (I 393 this).toInt ≠ 40 := fun q => c_77 (Int32.toInt_inj.mp q)
            refine lv_aload_n hx hb dX12_beginOne_90 rfl (lv_at hl 0 rfl) ?_
            refine pg_f (v := .int (I 393 this)) (C := RX12) (T := TX12) (N := 31) hx hb hts (tw_i inlX12) hown hK hP hL_this hK_this (by decide) rfl 9 (by decide) (hts _ (tw_c tw_831)) rfl dX12_beginOne_91 ?_
            refine lv_bipush (v := 45) hx hb dX12_beginOne_94 (by decide) ?_
            refine lv_icmp_eq (tgt := 101) hx hb dX12_beginOne_96 (by decide) (fun c_138 => ?_) (fun c_138 => ?_)
            · have tc_139 : (I 393 this).toInt = 45 := congrArg Int32.toInt c_138
              have h_140 : rg (I 393 this) 45 45 := rg_and (rg_full _) (rg_of_eq c_138 (rg_k (45 : Int32) 45 rfl)) (by decide)
              have uh_140 := h_140.1
              have vh_140 := h_140.2
              refine lv_aload_n hx hb dX12_beginOne_101 rfl (lv_at hl 0 rfl) ?_
              refine pg_f (v := .int (I 402 this)) (C := RX12) (T := TX12) (N := 31) hx hb hts (tw_i inlX12) hown hK hP hL_this hK_this (by decide) rfl 18 (by decide) (hts _ (tw_c tw_828)) rfl dX12_beginOne_102 ?_
              refine lv_bipush (v := 8) hx hb dX12_beginOne_105 (by decide) ?_
              refine lv_icmp_ne (tgt := 112) hx hb dX12_beginOne_107 (by decide) (fun c_141 => ?_) (fun c_141 => ?_)
              · have tc_142 : (I 402 this).toInt ≠ 8 := fun q => c_141 (Int32.toInt_inj.mp q)
                refine lv_aload_n hx hb dX12_beginOne_112 rfl (lv_at hl 0 rfl) ?_
                refine lv_dup hx hb dX12_beginOne_113 rfl ?_
                refine pg_f (v := .int (I 402 this)) (C := RX12) (T := TX12) (N := 31) hx hb hts (tw_i inlX12) hown hK hP hL_this hK_this (by decide) rfl 18 (by decide) (hts _ (tw_c tw_828)) rfl dX12_beginOne_114 ?_
                refine lv_iconst (v := 1) hx hb dX12_beginOne_117 (by decide) ?_
                refine lv_iadd hx hb dX12_beginOne_118 ?_
                refine lv_topi (fun x_143 ex_143 => ?_)
                refine pp_i (v := x_143) (ty := .int) (C := RX12) (T := TX12) (N := 31) hx hb hts (tw_i inlX12) tyX12 tyX12_ok nmX12 hown hK hP hD hS hL_this hK_this (by decide) rfl 18 402 (by decide) (hts _ (tw_c tw_828)) rfl (by decide +kernel) rfl rfl (Nat.le_of_ble_eq_true rfl) (ps_402 _ _ _ _ _) dX12_beginOne_119 (fun I_144 H locs eI_144 hP hD hS => ?_)
                have hG := GM.wI hG 402 rfl eI_144 (rg_w (rg_full _) (by decide)) (by decide)
                have tt_145 : (I_144 396 this).toInt = (I 396 this).toInt := by rw [eI_144, pq_uf _ _ _ (by decide)]
                have tt_146 : (I_144 398 this).toInt = (I 398 this).toInt := by rw [eI_144, pq_uf _ _ _ (by decide)]
                have tt_147 : (I_144 401 this).toInt = (I 401 this).toInt := by rw [eI_144, pq_uf _ _ _ (by decide)]
                have tt_148 : (I_144 402 this).toInt = (x_143).toInt := by rw [eI_144, pq_us]
                have tt_149 : (I_144 391 this).toInt = (I 391 this).toInt := by rw [eI_144, pq_uf _ _ _ (by decide)]
                have tt_150 : (I_144 393 this).toInt = (I 393 this).toInt := by rw [eI_144, pq_uf _ _ _ (by decide)]
                have tt_151 : (I_144 403 this).toInt = (I 403 this).toInt := by rw [eI_144, pq_uf _ _ _ (by decide)]
                have tt_152 : (I_144 397 this).toInt = (I 397 this).toInt := by rw [eI_144, pq_uf _ _ _ (by decide)]
                refine lv_aload_n hx hb dX12_beginOne_122 rfl (lv_at hl 0 rfl) ?_
                refine lv_aload_n hx hb dX12_beginOne_123 rfl (lv_at hl 0 rfl) ?_
                refine pg_f (v := .int (I_144 393 this)) (C := RX12) (T := TX12) (N := 31) hx hb hts (tw_i inlX12) hown hK hP hL_this hK_this (by decide) rfl 9 (by decide) (hts _ (tw_c tw_831)) rfl dX12_beginOne_124 ?_
                have h_153 : rg (I_144 393 this) 45 45 := (by rw [eI_144, pq_uf _ _ _ (by decide)]; exact h_140)
                have uh_153 := h_153.1
                have vh_153 := h_153.2
                refine lv_bipush (v := 40) hx hb dX12_beginOne_127 (by decide) ?_
                refine lv_icmp_ne (tgt := 137) hx hb dX12_beginOne_129 (by decide) (fun c_154 => ?_) (fun c_154 => ?_)
                · have tc_155 : (I_144 393 this).toInt ≠ 40 := fun q => c_154 (Int32.toInt_inj.mp q)
                  refine lv_iconst (v := 2) hx hb dX12_beginOne_137 (by decide) ?_
                  have hq3 := PSz_bd hps
                  refine pk_v (va_runV (As := [.int 2]) (rest := []) ⟨hx, hb, hml, hown, hts⟩ (s_X12_push l D t σ I_144 J ri rj rq H.size tg hSH hG.1 this (2 : Int32) hL_this hK_this (rg_w (rg_k (2 : Int32) 2 rfl) (by decide)) this_pile hR_this_pile hL_this_pile hK_this_pile hN_this_pile hT_this_pile (by omega)) (cwV 1 hts (tw_V tw_913 tw_914 tw_915 tw_5 tw_916) rfl rfl rfl (by decide +kernel) ⟨Nat.le_of_ble_eq_true rfl, Nat.le_of_ble_eq_true rfl⟩) ⟨pq_blind, pq_recv hK hP hL_this hK_this (by decide) rfl, pq_pre hK hN hP hD⟩ rfl rfl hl.1 rfl (lv_room (Nat.le_of_ble_eq_true rfl)) dX12_beginOne_138 ⟨Nat.le_of_ble_eq_true rfl, Nat.le_of_ble_eq_true rfl⟩) hD hS hA (fun σ1 μ1 H locs hw_157 hP hD hS => ?_)
                  obtain ⟨I_158, ri_159, hu_160, hg_161, hp_163, hp_164, hp_165⟩ := hw_157
                  obtain ⟨hu_160a, hu_160b⟩ := Prod.mk.inj hu_160
                  rw [hu_160a, hu_160b] at hP hD
                  obtain ⟨v_166, ev_166, hv_166⟩ := hp_163
                  have tt_167 : (I_158 401 this).toInt = (I_144 401 this).toInt + 1 := by rw [ev_166, pq_us]; exact hv_166
                  have tt_168 : (I_158 403 this).toInt = (I_144 403 this).toInt := by rw [ev_166, pq_uf _ _ _ (by decide)]
                  have hG := GM.tr hG hg_161 (by decide)
                  have tt_169 : (I_158 396 this).toInt = (I_144 396 this).toInt := by rw [hg_161.2.1 396 (by decide) (by decide)]
                  have tt_170 : (I_158 398 this).toInt = (I_144 398 this).toInt := by rw [hg_161.2.1 398 (by decide) (by decide)]
                  have tt_171 : (I_158 402 this).toInt = (I_144 402 this).toInt := by rw [hg_161.2.1 402 (by decide) (by decide)]
                  have tt_172 : (I_158 391 this).toInt = (I_144 391 this).toInt := by rw [hg_161.2.1 391 (by decide) (by decide)]
                  have tt_173 : (I_158 393 this).toInt = (I_144 393 this).toInt := by rw [hg_161.2.1 393 (by decide) (by decide)]
                  have tt_174 : (I_158 397 this).toInt = (I_144 397 this).toInt := by rw [hg_161.2.1 397 (by decide) (by decide)]
                  refine lv_aload_n hx hb dX12_beginOne_141 rfl (lv_at hl 0 rfl) ?_
                  obtain ⟨w_175, hR_w_175, hL_w_175, hK_w_175, hN_w_175, hT_w_175⟩ := sh_a hSH 387 (ci := 12) (kd := 13) (len := 300) rfl (by decide) hL_this hK_this
                  refine pk_v (va_runV (As := []) (rest := []) ⟨hx, hb, hml, hown, hts⟩ (s_X12_nextToken_x l D t σ I_158 J ri_159 rj rq H.size tg hSH hG.1 this hL_this hK_this w_175 hR_w_175 hL_w_175 hK_w_175 hN_w_175 hT_w_175) (cwV 0 hts (tw_V tw_832 tw_833 tw_834 tw_5 tw_835) rfl rfl rfl (by decide +kernel) ⟨Nat.le_of_ble_eq_true rfl, Nat.le_of_ble_eq_true rfl⟩) ⟨pq_blind, pq_recv hK hP hL_this hK_this (by decide) rfl, pq_pre hK hN hP hD⟩ rfl rfl hl.1 rfl (lv_room (Nat.le_of_ble_eq_true rfl)) dX12_beginOne_142 ⟨Nat.le_of_ble_eq_true rfl, Nat.le_of_ble_eq_true rfl⟩) hD hS hA (fun σ1 μ1 H locs hw_177 hP hD hS => ?_)
                  obtain ⟨I_178, J_179, hu_180, hg_181, hp_183, hp_184, hp_185⟩ := hw_177
                  obtain ⟨hu_180a, hu_180b⟩ := Prod.mk.inj hu_180
                  rw [hu_180a, hu_180b] at hP hD
                  have tt_186 := hp_183
                  have tt_187 := hp_184
                  have tt_188 := hp_185
                  have tt_189 : (I_178 391 this).toInt ≤ 300 := by have z := hg_181.1.1 391 this; exact z.2
                  have hG := GM.tr hG hg_181 (by decide)
                  have tt_190 : (I_178 396 this).toInt = (I_158 396 this).toInt := by rw [hg_181.2.1 396 (by decide) (by decide)]
                  have tt_191 : (I_178 398 this).toInt = (I_158 398 this).toInt := by rw [hg_181.2.1 398 (by decide) (by decide)]
                  have tt_192 : (I_178 401 this).toInt = (I_158 401 this).toInt := by rw [hg_181.2.1 401 (by decide) (by decide)]
                  have tt_193 : (I_178 402 this).toInt = (I_158 402 this).toInt := by rw [hg_181.2.1 402 (by decide) (by decide)]
                  have tt_194 : (I_178 397 this).toInt = (I_158 397 this).toInt := by rw [hg_181.2.1 397 (by decide) (by decide)]
                  have hup2 : ri_159 this_pile = upd (ri this_pile) (I 401 this).toInt.toNat (2 : Int32) := by rw [show (I 401 this).toInt = (I_144 401 this).toInt from by omega]; exact hp_164
                  have hpsW : PSz (I_178 396 this).toInt (I_178 398 this).toInt (I_178 401 this).toInt (I_178 402 this).toInt (I_178 391 this).toInt (I_178 393 this).toInt (ri_159 this_a) (ri_159 this_pile) bb f0 fr ba tb nn K 0 := PSz_open hps (by omega) (by omega) (x := (2 : Int32)) (by decide) (by omega) (by omega) (by omega) (by omega) (by omega) (by omega) (by omega) (hp_165 this_a (tg_ne hT_this_a hT_this_pile (by decide))) hup2
                  have htm : tmM (I_178 391 this).toInt (I_178 393 this).toInt < tmM (I 391 this).toInt (I 393 this).toInt := tm_lt (by omega) (by omega) (by omega)
                  refine lv_iconst (v := 0) hx hb dX12_beginOne_145 (by decide) ?_
                  subst hQ
                  exact W.iret (v := 0) hx hb hr (fun t1 ht hW => ⟨⟨0, (σ, I_178, J_179, ri_159, rj, rq), rfl, ⟨I_178, J_179, ri_159, rfl, hG, (Or.inr ⟨(by rw [show (I_178 403 this).toInt = 0 from by omega]; exact hpsW), tm_cg htm (by omega) (by omega) rfl rfl⟩), (rg_w (rg_k (0 : Int32) 0 rfl) (by decide))⟩, by rw [ht]; exact hP, va_K.moved hW.alike hK, hD⟩, hS.F ht⟩) hS.2.2 dX12_beginOne_146
                · have tc_195 : (I_144 393 this).toInt = 40 := congrArg Int32.toInt c_154
                  exact (rg_empty (rg_and h_153 (rg_of_eq c_154 (rg_k (40 : Int32) 40 rfl)) (lo := 45) (hi := 40) (by decide)) (by decide)).elim
              · have tc_196 : (I 402 this).toInt = 8 := congrArg Int32.toInt c_141
                have h_197 : rg (I 402 this) 8 8 := rg_and (rg_full _) (rg_of_eq c_141 (rg_k (8 : Int32) 8 rfl)) (by decide)
                have uh_197 := h_197.1
                have vh_197 := h_197.2
                refine lv_iconst (v := 3) hx hb dX12_beginOne_110 (by decide) ?_
                subst hQ
                exact W.iret (v := 3) hx hb hr (fun t1 ht hW => ⟨⟨3, (σ, I, J, ri, rj, rq), rfl, ⟨I, J, ri, rfl, hG, (Or.inl (by decide)), (rg_w (rg_k (3 : Int32) 3 rfl) (by decide))⟩, by rw [ht]; exact hP, va_K.moved hW.alike hK, hD⟩, hS.F ht⟩) hS.2.2 dX12_beginOne_111
            · have tc_198 : (I 393 this).toInt ≠ 45 := fun q => c_138 (Int32.toInt_inj.mp q)
              refine lv_iconst (v := 1) hx hb dX12_beginOne_99 (by decide) ?_
              subst hQ
              exact W.iret (v := 1) hx hb hr (fun t1 ht hW => ⟨⟨1, (σ, I, J, ri, rj, rq), rfl, ⟨I, J, ri, rfl, hG, (Or.inl (by decide)), (rg_w (rg_k (1 : Int32) 1 rfl) (by decide))⟩, by rw [ht]; exact hP, va_K.moved hW.alike hK, hD⟩, hS.F ht⟩) hS.2.2 dX12_beginOne_100
        · have tc_199 : 0 ≤ (x_67).toInt := Int32.le_iff_toInt_le.mp (nlt c_74)
          have h_200 : rg x_67 0 5 := rg_le2 (nlt c_74) (rg_k (0 : Int32) 0 rfl) hr_71 (by decide)
          have uh_200 := h_200.1
          have vh_200 := h_200.2
          refine lv_aload_n hx hb dX12_beginOne_35 rfl (lv_at hl 0 rfl) ?_
          refine lv_aload_n hx hb dX12_beginOne_36 rfl (lv_at hl 0 rfl) ?_
          refine pg_f (v := .int (I 393 this)) (C := RX12) (T := TX12) (N := 31) hx hb hts (tw_i inlX12) hown hK hP hL_this hK_this (by decide) rfl 9 (by decide) (hts _ (tw_c tw_831)) rfl dX12_beginOne_37 ?_
          refine lv_iconst (v := 1) hx hb dX12_beginOne_40 (by decide) ?_
          refine lv_icmp_ne (tgt := 48) hx hb dX12_beginOne_41 (by decide) (fun c_201 => ?_) (fun c_201 => ?_)
          · have tc_202 : (I 393 this).toInt ≠ 1 := fun q => c_201 (Int32.toInt_inj.mp q)
            refine lv_iconst (v := 1) hx hb dX12_beginOne_48 (by decide) ?_
            refine lv_aload_n hx hb dX12_beginOne_49 rfl (lv_at hl 0 rfl) ?_
            refine pg_f (v := .int (I 393 this)) (C := RX12) (T := TX12) (N := 31) hx hb hts (tw_i inlX12) hown hK hP hL_this hK_this (by decide) rfl 9 (by decide) (hts _ (tw_c tw_831)) rfl dX12_beginOne_50 ?_
            refine lv_iconst (v := 1) hx hb dX12_beginOne_53 (by decide) ?_
            refine lv_icmp_ne (tgt := 64) hx hb dX12_beginOne_54 (by decide) (fun c_203 => ?_) (fun c_203 => ?_)
            · have tc_204 : (I 393 this).toInt ≠ 1 := fun q => c_203 (Int32.toInt_inj.mp q)
              refine lv_aload_n hx hb dX12_beginOne_64 rfl (lv_at hl 0 rfl) ?_
              refine pk_i (va_runV (As := []) (rest := [.int 1, .ref this]) ⟨hx, hb, hml, hown, hts⟩ (s_X12_nameOf_x l D t σ I J ri rj rq H.size tg hSH hG.1 this hL_this hK_this) (cwV 0 hts (tw_V tw_921 tw_922 tw_923 tw_5 tw_924) rfl rfl rfl (by decide +kernel) ⟨Nat.le_of_ble_eq_true rfl, Nat.le_of_ble_eq_true rfl⟩) ⟨pq_blind, pq_recv hK hP hL_this hK_this (by decide) rfl, pq_pre hK hN hP hD⟩ rfl rfl hl.1 rfl (lv_room (Nat.le_of_ble_eq_true rfl)) dX12_beginOne_65 ⟨Nat.le_of_ble_eq_true rfl, Nat.le_of_ble_eq_true rfl⟩) hD hS hA (fun x_205 σ1 μ1 H locs hw_206 hP hD hS => ?_)
              obtain ⟨hu_207, hp_210, hr_209⟩ := hw_206
              obtain ⟨hu_207a, hu_207b⟩ := Prod.mk.inj hu_207
              rw [hu_207a, hu_207b] at hP hD
              have tt_211 := hp_210
              have hq1 := PSz_t hps
              have hq2 := PSz_w hps (Or.inl (by omega))
              refine pk_v (va_runV (As := [.int 1, .int x_205]) (rest := []) ⟨hx, hb, hml, hown, hts⟩ (s_X12_emit l D t σ I J ri rj rq H.size tg hSH hG.1 this (1 : Int32) x_205 hL_this hK_this this_a hR_this_a hL_this_a hK_this_a hN_this_a hT_this_a (by omega) (by omega)) (cwV 2 hts (tw_V tw_905 tw_906 tw_907 tw_5 tw_908) rfl rfl rfl (by decide +kernel) ⟨Nat.le_of_ble_eq_true rfl, Nat.le_of_ble_eq_true rfl⟩) ⟨pq_blind, pq_recv hK hP hL_this hK_this (by decide) rfl, pq_pre hK hN hP hD⟩ rfl rfl hl.1 rfl (lv_room (Nat.le_of_ble_eq_true rfl)) dX12_beginOne_68 ⟨Nat.le_of_ble_eq_true rfl, Nat.le_of_ble_eq_true rfl⟩) hD hS hA (fun σ1 μ1 H locs hw_213 hP hD hS => ?_)
              obtain ⟨I_214, ri_215, hu_216, hg_217, hp_219, hp_220, hp_221, hp_222⟩ := hw_213
              obtain ⟨hu_216a, hu_216b⟩ := Prod.mk.inj hu_216
              rw [hu_216a, hu_216b] at hP hD
              obtain ⟨v_223, ev_223, hv_223⟩ := hp_219
              have tt_224 : (I_214 398 this).toInt = (I 398 this).toInt + 1 := by rw [ev_223, pq_us]; exact hv_223
              have tt_225 : (I_214 403 this).toInt = (I 403 this).toInt := by rw [ev_223, pq_uf _ _ _ (by decide)]
              have hG := GM.tr hG hg_217 (by decide)
              have tt_226 : (I_214 396 this).toInt = (I 396 this).toInt := by rw [hg_217.2.1 396 (by decide) (by decide)]
              have tt_227 : (I_214 401 this).toInt = (I 401 this).toInt := by rw [hg_217.2.1 401 (by decide) (by decide)]
              have tt_228 : (I_214 402 this).toInt = (I 402 this).toInt := by rw [hg_217.2.1 402 (by decide) (by decide)]
              have tt_229 : (I_214 391 this).toInt = (I 391 this).toInt := by rw [hg_217.2.1 391 (by decide) (by decide)]
              have tt_230 : (I_214 393 this).toInt = (I 393 this).toInt := by rw [hg_217.2.1 393 (by decide) (by decide)]
              have tt_231 : (I_214 397 this).toInt = (I 397 this).toInt := by rw [hg_217.2.1 397 (by decide) (by decide)]
              refine lv_aload_n hx hb dX12_beginOne_71 rfl (lv_at hl 0 rfl) ?_
              obtain ⟨w_232, hR_w_232, hL_w_232, hK_w_232, hN_w_232, hT_w_232⟩ := sh_a hSH 387 (ci := 12) (kd := 13) (len := 300) rfl (by decide) hL_this hK_this
              refine pk_v (va_runV (As := []) (rest := []) ⟨hx, hb, hml, hown, hts⟩ (s_X12_nextToken_x l D t σ I_214 J ri_215 rj rq H.size tg hSH hG.1 this hL_this hK_this w_232 hR_w_232 hL_w_232 hK_w_232 hN_w_232 hT_w_232) (cwV 0 hts (tw_V tw_832 tw_833 tw_834 tw_5 tw_835) rfl rfl rfl (by decide +kernel) ⟨Nat.le_of_ble_eq_true rfl, Nat.le_of_ble_eq_true rfl⟩) ⟨pq_blind, pq_recv hK hP hL_this hK_this (by decide) rfl, pq_pre hK hN hP hD⟩ rfl rfl hl.1 rfl (lv_room (Nat.le_of_ble_eq_true rfl)) dX12_beginOne_72 ⟨Nat.le_of_ble_eq_true rfl, Nat.le_of_ble_eq_true rfl⟩) hD hS hA (fun σ1 μ1 H locs hw_234 hP hD hS => ?_)
              obtain ⟨I_235, J_236, hu_237, hg_238, hp_240, hp_241, hp_242⟩ := hw_234
              obtain ⟨hu_237a, hu_237b⟩ := Prod.mk.inj hu_237
              rw [hu_237a, hu_237b] at hP hD
              have tt_243 := hp_240
              have tt_244 := hp_241
              have tt_245 := hp_242
              have tt_246 : (I_235 391 this).toInt ≤ 300 := by have z := hg_238.1.1 391 this; exact z.2
              have hG := GM.tr hG hg_238 (by decide)
              have tt_247 : (I_235 396 this).toInt = (I_214 396 this).toInt := by rw [hg_238.2.1 396 (by decide) (by decide)]
              have tt_248 : (I_235 398 this).toInt = (I_214 398 this).toInt := by rw [hg_238.2.1 398 (by decide) (by decide)]
              have tt_249 : (I_235 401 this).toInt = (I_214 401 this).toInt := by rw [hg_238.2.1 401 (by decide) (by decide)]
              have tt_250 : (I_235 402 this).toInt = (I_214 402 this).toInt := by rw [hg_238.2.1 402 (by decide) (by decide)]
              have tt_251 : (I_235 397 this).toInt = (I_214 397 this).toInt := by rw [hg_238.2.1 397 (by decide) (by decide)]
              refine lv_aload_n hx hb dX12_beginOne_75 rfl (lv_at hl 0 rfl) ?_
              have hpsW : PSz (I_235 396 this).toInt (I_235 398 this).toInt (I_235 401 this).toInt (I_235 402 this).toInt (I_235 391 this).toInt (I_235 393 this).toInt (ri_215 this_a) (ri_215 this_pile) bb f0 fr ba tb nn K 1 := PSz_one hps (by omega) (x := (1 : Int32)) (fun j hj => hp_220 j (by omega)) (by rw [show (I 396 this).toInt + 250 + 2 * (I 398 this).toInt = (I 396 this).toInt + 250 + 2 * (I 398 this).toInt from by omega]; exact hp_221) (by omega) (by omega) (by omega) (by omega) (by omega) (by omega) (by omega) (by omega) (hp_222 this_pile (tg_ne hT_this_pile hT_this_a (by decide)))
              have htm : tmM (I_235 391 this).toInt (I_235 393 this).toInt < tmM (I 391 this).toInt (I 393 this).toInt := tm_lt (by omega) (by omega) (by omega)
              refine pk_v (va_runV (As := []) (rest := []) ⟨hx, hb, hml, hown, hts⟩ (s_X12_whole l D t σ I_235 J_236 ri_215 rj rq H.size tg hSH hG.1 this hL_this hK_this this_a hR_this_a hL_this_a hK_this_a hN_this_a hT_this_a this_pile hR_this_pile hL_this_pile hK_this_pile hN_this_pile hT_this_pile bb f0 fr ba tb nn K (by assumption)) (cwV 0 hts (tw_V tw_909 tw_910 tw_911 tw_5 tw_912) rfl rfl rfl (by decide +kernel) ⟨Nat.le_of_ble_eq_true rfl, Nat.le_of_ble_eq_true rfl⟩) ⟨pq_blind, pq_recv hK hP hL_this hK_this (by decide) rfl, pq_pre hK hN hP hD⟩ rfl rfl hl.1 rfl (lv_room (Nat.le_of_ble_eq_true rfl)) dX12_beginOne_76 ⟨Nat.le_of_ble_eq_true rfl, Nat.le_of_ble_eq_true rfl⟩) hD hS hA (fun σ1 μ1 H locs hw_253 hP hD hS => ?_)
              obtain ⟨I_254, ri_255, hu_256, hg_257, hp_259, hp_260⟩ := hw_253
              obtain ⟨hu_256a, hu_256b⟩ := Prod.mk.inj hu_256
              rw [hu_256a, hu_256b] at hP hD
              have tt_261 := hp_260
              have hG := GM.tr hG hg_257 (by decide)
              have tt_262 : (I_254 396 this).toInt = (I_235 396 this).toInt := by rw [hg_257.2.1 396 (by decide) (by decide)]
              have tt_263 : (I_254 391 this).toInt = (I_235 391 this).toInt := by rw [hg_257.2.1 391 (by decide) (by decide)]
              have tt_264 : (I_254 393 this).toInt = (I_235 393 this).toInt := by rw [hg_257.2.1 393 (by decide) (by decide)]
              have tt_265 : (I_254 397 this).toInt = (I_235 397 this).toInt := by rw [hg_257.2.1 397 (by decide) (by decide)]
              refine lv_iconst (v := 0) hx hb dX12_beginOne_79 (by decide) ?_
              subst hQ
              exact W.iret (v := 0) hx hb hr (fun t1 ht hW => ⟨⟨0, (σ, I_254, J_236, ri_255, rj, rq), rfl, ⟨I_254, J_236, ri_255, rfl, hG, (Or.inr ⟨(by rw [show (I_254 403 this).toInt = 1 from by omega]; exact hp_259), tm_cg htm (by omega) (by omega) rfl rfl⟩), (rg_w (rg_k (0 : Int32) 0 rfl) (by decide))⟩, by rw [ht]; exact hP, va_K.moved hW.alike hK, hD⟩, hS.F ht⟩) hS.2.2 dX12_beginOne_80
            · have tc_266 : (I 393 this).toInt = 1 := congrArg Int32.toInt c_203
              have h_267 : rg (I 393 this) 1 1 := rg_and (rg_full _) (rg_of_eq c_203 (rg_k (1 : Int32) 1 rfl)) (by decide)
              have uh_267 := h_267.1
              have vh_267 := h_267.2
              refine lv_aload_n hx hb dX12_beginOne_57 rfl (lv_at hl 0 rfl) ?_
              refine pg_f (v := .int (I 394 this)) (C := RX12) (T := TX12) (N := 31) hx hb hts (tw_i inlX12) hown hK hP hL_this hK_this (by decide) rfl 10 (by decide) (hts _ (tw_c tw_836)) rfl dX12_beginOne_58 ?_
              refine lv_goto (tgt := 68) hx hb dX12_beginOne_61 (by decide) ?_
              have hq1 := PSz_t hps
              have hq2 := PSz_w hps (Or.inl (by omega))
              refine pk_v (va_runV (As := [.int 1, .int (I 394 this)]) (rest := []) ⟨hx, hb, hml, hown, hts⟩ (s_X12_emit l D t σ I J ri rj rq H.size tg hSH hG.1 this (1 : Int32) (I 394 this) hL_this hK_this this_a hR_this_a hL_this_a hK_this_a hN_this_a hT_this_a (by omega) (by omega)) (cwV 2 hts (tw_V tw_905 tw_906 tw_907 tw_5 tw_908) rfl rfl rfl (by decide +kernel) ⟨Nat.le_of_ble_eq_true rfl, Nat.le_of_ble_eq_true rfl⟩) ⟨pq_blind, pq_recv hK hP hL_this hK_this (by decide) rfl, pq_pre hK hN hP hD⟩ rfl rfl hl.1 rfl (lv_room (Nat.le_of_ble_eq_true rfl)) dX12_beginOne_68 ⟨Nat.le_of_ble_eq_true rfl, Nat.le_of_ble_eq_true rfl⟩) hD hS hA (fun σ1 μ1 H locs hw_269 hP hD hS => ?_)
              obtain ⟨I_270, ri_271, hu_272, hg_273, hp_275, hp_276, hp_277, hp_278⟩ := hw_269
              obtain ⟨hu_272a, hu_272b⟩ := Prod.mk.inj hu_272
              rw [hu_272a, hu_272b] at hP hD
              obtain ⟨v_279, ev_279, hv_279⟩ := hp_275
              have tt_280 : (I_270 398 this).toInt = (I 398 this).toInt + 1 := by rw [ev_279, pq_us]; exact hv_279
              have tt_281 : (I_270 403 this).toInt = (I 403 this).toInt := by rw [ev_279, pq_uf _ _ _ (by decide)]
              have hG := GM.tr hG hg_273 (by decide)
              have tt_282 : (I_270 396 this).toInt = (I 396 this).toInt := by rw [hg_273.2.1 396 (by decide) (by decide)]
              have tt_283 : (I_270 401 this).toInt = (I 401 this).toInt := by rw [hg_273.2.1 401 (by decide) (by decide)]
              have tt_284 : (I_270 402 this).toInt = (I 402 this).toInt := by rw [hg_273.2.1 402 (by decide) (by decide)]
              have tt_285 : (I_270 391 this).toInt = (I 391 this).toInt := by rw [hg_273.2.1 391 (by decide) (by decide)]
              have tt_286 : (I_270 393 this).toInt = (I 393 this).toInt := by rw [hg_273.2.1 393 (by decide) (by decide)]
              have tt_287 : (I_270 397 this).toInt = (I 397 this).toInt := by rw [hg_273.2.1 397 (by decide) (by decide)]
              refine lv_aload_n hx hb dX12_beginOne_71 rfl (lv_at hl 0 rfl) ?_
              obtain ⟨w_288, hR_w_288, hL_w_288, hK_w_288, hN_w_288, hT_w_288⟩ := sh_a hSH 387 (ci := 12) (kd := 13) (len := 300) rfl (by decide) hL_this hK_this
              refine pk_v (va_runV (As := []) (rest := []) ⟨hx, hb, hml, hown, hts⟩ (s_X12_nextToken_x l D t σ I_270 J ri_271 rj rq H.size tg hSH hG.1 this hL_this hK_this w_288 hR_w_288 hL_w_288 hK_w_288 hN_w_288 hT_w_288) (cwV 0 hts (tw_V tw_832 tw_833 tw_834 tw_5 tw_835) rfl rfl rfl (by decide +kernel) ⟨Nat.le_of_ble_eq_true rfl, Nat.le_of_ble_eq_true rfl⟩) ⟨pq_blind, pq_recv hK hP hL_this hK_this (by decide) rfl, pq_pre hK hN hP hD⟩ rfl rfl hl.1 rfl (lv_room (Nat.le_of_ble_eq_true rfl)) dX12_beginOne_72 ⟨Nat.le_of_ble_eq_true rfl, Nat.le_of_ble_eq_true rfl⟩) hD hS hA (fun σ1 μ1 H locs hw_290 hP hD hS => ?_)
              obtain ⟨I_291, J_292, hu_293, hg_294, hp_296, hp_297, hp_298⟩ := hw_290
              obtain ⟨hu_293a, hu_293b⟩ := Prod.mk.inj hu_293
              rw [hu_293a, hu_293b] at hP hD
              have tt_299 := hp_296
              have tt_300 := hp_297
              have tt_301 := hp_298
              have tt_302 : (I_291 391 this).toInt ≤ 300 := by have z := hg_294.1.1 391 this; exact z.2
              have hG := GM.tr hG hg_294 (by decide)
              have tt_303 : (I_291 396 this).toInt = (I_270 396 this).toInt := by rw [hg_294.2.1 396 (by decide) (by decide)]
              have tt_304 : (I_291 398 this).toInt = (I_270 398 this).toInt := by rw [hg_294.2.1 398 (by decide) (by decide)]
              have tt_305 : (I_291 401 this).toInt = (I_270 401 this).toInt := by rw [hg_294.2.1 401 (by decide) (by decide)]
              have tt_306 : (I_291 402 this).toInt = (I_270 402 this).toInt := by rw [hg_294.2.1 402 (by decide) (by decide)]
              have tt_307 : (I_291 397 this).toInt = (I_270 397 this).toInt := by rw [hg_294.2.1 397 (by decide) (by decide)]
              refine lv_aload_n hx hb dX12_beginOne_75 rfl (lv_at hl 0 rfl) ?_
              have hpsW : PSz (I_291 396 this).toInt (I_291 398 this).toInt (I_291 401 this).toInt (I_291 402 this).toInt (I_291 391 this).toInt (I_291 393 this).toInt (ri_271 this_a) (ri_271 this_pile) bb f0 fr ba tb nn K 1 := PSz_one hps (by omega) (x := (1 : Int32)) (fun j hj => hp_276 j (by omega)) (by rw [show (I 396 this).toInt + 250 + 2 * (I 398 this).toInt = (I 396 this).toInt + 250 + 2 * (I 398 this).toInt from by omega]; exact hp_277) (by omega) (by omega) (by omega) (by omega) (by omega) (by omega) (by omega) (by omega) (hp_278 this_pile (tg_ne hT_this_pile hT_this_a (by decide)))
              have htm : tmM (I_291 391 this).toInt (I_291 393 this).toInt < tmM (I 391 this).toInt (I 393 this).toInt := tm_lt (by omega) (by omega) (by omega)
              refine pk_v (va_runV (As := []) (rest := []) ⟨hx, hb, hml, hown, hts⟩ (s_X12_whole l D t σ I_291 J_292 ri_271 rj rq H.size tg hSH hG.1 this hL_this hK_this this_a hR_this_a hL_this_a hK_this_a hN_this_a hT_this_a this_pile hR_this_pile hL_this_pile hK_this_pile hN_this_pile hT_this_pile bb f0 fr ba tb nn K (by assumption)) (cwV 0 hts (tw_V tw_909 tw_910 tw_911 tw_5 tw_912) rfl rfl rfl (by decide +kernel) ⟨Nat.le_of_ble_eq_true rfl, Nat.le_of_ble_eq_true rfl⟩) ⟨pq_blind, pq_recv hK hP hL_this hK_this (by decide) rfl, pq_pre hK hN hP hD⟩ rfl rfl hl.1 rfl (lv_room (Nat.le_of_ble_eq_true rfl)) dX12_beginOne_76 ⟨Nat.le_of_ble_eq_true rfl, Nat.le_of_ble_eq_true rfl⟩) hD hS hA (fun σ1 μ1 H locs hw_309 hP hD hS => ?_)
              obtain ⟨I_310, ri_311, hu_312, hg_313, hp_315, hp_316⟩ := hw_309
              obtain ⟨hu_312a, hu_312b⟩ := Prod.mk.inj hu_312
              rw [hu_312a, hu_312b] at hP hD
              have tt_317 := hp_316
              have hG := GM.tr hG hg_313 (by decide)
              have tt_318 : (I_310 396 this).toInt = (I_291 396 this).toInt := by rw [hg_313.2.1 396 (by decide) (by decide)]
              have tt_319 : (I_310 391 this).toInt = (I_291 391 this).toInt := by rw [hg_313.2.1 391 (by decide) (by decide)]
              have tt_320 : (I_310 393 this).toInt = (I_291 393 this).toInt := by rw [hg_313.2.1 393 (by decide) (by decide)]
              have tt_321 : (I_310 397 this).toInt = (I_291 397 this).toInt := by rw [hg_313.2.1 397 (by decide) (by decide)]
              refine lv_iconst (v := 0) hx hb dX12_beginOne_79 (by decide) ?_
              subst hQ
              exact W.iret (v := 0) hx hb hr (fun t1 ht hW => ⟨⟨0, (σ, I_310, J_292, ri_311, rj, rq), rfl, ⟨I_310, J_292, ri_311, rfl, hG, (Or.inr ⟨(by rw [show (I_310 403 this).toInt = 1 from by omega]; exact hp_315), tm_cg htm (by omega) (by omega) rfl rfl⟩), (rg_w (rg_k (0 : Int32) 0 rfl) (by decide))⟩, by rw [ht]; exact hP, va_K.moved hW.alike hK, hD⟩, hS.F ht⟩) hS.2.2 dX12_beginOne_80
          · have tc_322 : (I 393 this).toInt = 1 := congrArg Int32.toInt c_201
            have h_323 : rg (I 393 this) 1 1 := rg_and (rg_full _) (rg_of_eq c_201 (rg_k (1 : Int32) 1 rfl)) (by decide)
            have uh_323 := h_323.1
            have vh_323 := h_323.2
            refine lv_iconst (v := 0) hx hb dX12_beginOne_44 (by decide) ?_
            refine lv_goto (tgt := 49) hx hb dX12_beginOne_45 (by decide) ?_
            refine lv_aload_n hx hb dX12_beginOne_49 rfl (lv_at hl 0 rfl) ?_
            refine pg_f (v := .int (I 393 this)) (C := RX12) (T := TX12) (N := 31) hx hb hts (tw_i inlX12) hown hK hP hL_this hK_this (by decide) rfl 9 (by decide) (hts _ (tw_c tw_831)) rfl dX12_beginOne_50 ?_
            refine lv_iconst (v := 1) hx hb dX12_beginOne_53 (by decide) ?_
            refine lv_icmp_ne (tgt := 64) hx hb dX12_beginOne_54 (by decide) (fun c_324 => ?_) (fun c_324 => ?_)
            · have tc_325 : (I 393 this).toInt ≠ 1 := fun q => c_324 (Int32.toInt_inj.mp q)
              exact (rg_empty (rg_ne c_324 h_323 1 rfl (lo := 2) (hi := 0) (by decide)) (by decide)).elim
            · have tc_326 : (I 393 this).toInt = 1 := congrArg Int32.toInt c_324
              refine lv_aload_n hx hb dX12_beginOne_57 rfl (lv_at hl 0 rfl) ?_
              refine pg_f (v := .int (I 394 this)) (C := RX12) (T := TX12) (N := 31) hx hb hts (tw_i inlX12) hown hK hP hL_this hK_this (by decide) rfl 10 (by decide) (hts _ (tw_c tw_836)) rfl dX12_beginOne_58 ?_
              refine lv_goto (tgt := 68) hx hb dX12_beginOne_61 (by decide) ?_
              have hq1 := PSz_t hps
              have hq2 := PSz_w hps (Or.inl (by omega))
              refine pk_v (va_runV (As := [.int 0, .int (I 394 this)]) (rest := []) ⟨hx, hb, hml, hown, hts⟩ (s_X12_emit l D t σ I J ri rj rq H.size tg hSH hG.1 this (0 : Int32) (I 394 this) hL_this hK_this this_a hR_this_a hL_this_a hK_this_a hN_this_a hT_this_a (by omega) (by omega)) (cwV 2 hts (tw_V tw_905 tw_906 tw_907 tw_5 tw_908) rfl rfl rfl (by decide +kernel) ⟨Nat.le_of_ble_eq_true rfl, Nat.le_of_ble_eq_true rfl⟩) ⟨pq_blind, pq_recv hK hP hL_this hK_this (by decide) rfl, pq_pre hK hN hP hD⟩ rfl rfl hl.1 rfl (lv_room (Nat.le_of_ble_eq_true rfl)) dX12_beginOne_68 ⟨Nat.le_of_ble_eq_true rfl, Nat.le_of_ble_eq_true rfl⟩) hD hS hA (fun σ1 μ1 H locs hw_328 hP hD hS => ?_)
              obtain ⟨I_329, ri_330, hu_331, hg_332, hp_334, hp_335, hp_336, hp_337⟩ := hw_328
              obtain ⟨hu_331a, hu_331b⟩ := Prod.mk.inj hu_331
              rw [hu_331a, hu_331b] at hP hD
              obtain ⟨v_338, ev_338, hv_338⟩ := hp_334
              have tt_339 : (I_329 398 this).toInt = (I 398 this).toInt + 1 := by rw [ev_338, pq_us]; exact hv_338
              have tt_340 : (I_329 403 this).toInt = (I 403 this).toInt := by rw [ev_338, pq_uf _ _ _ (by decide)]
              have hG := GM.tr hG hg_332 (by decide)
              have tt_341 : (I_329 396 this).toInt = (I 396 this).toInt := by rw [hg_332.2.1 396 (by decide) (by decide)]
              have tt_342 : (I_329 401 this).toInt = (I 401 this).toInt := by rw [hg_332.2.1 401 (by decide) (by decide)]
              have tt_343 : (I_329 402 this).toInt = (I 402 this).toInt := by rw [hg_332.2.1 402 (by decide) (by decide)]
              have tt_344 : (I_329 391 this).toInt = (I 391 this).toInt := by rw [hg_332.2.1 391 (by decide) (by decide)]
              have tt_345 : (I_329 393 this).toInt = (I 393 this).toInt := by rw [hg_332.2.1 393 (by decide) (by decide)]
              have tt_346 : (I_329 397 this).toInt = (I 397 this).toInt := by rw [hg_332.2.1 397 (by decide) (by decide)]
              refine lv_aload_n hx hb dX12_beginOne_71 rfl (lv_at hl 0 rfl) ?_
              obtain ⟨w_347, hR_w_347, hL_w_347, hK_w_347, hN_w_347, hT_w_347⟩ := sh_a hSH 387 (ci := 12) (kd := 13) (len := 300) rfl (by decide) hL_this hK_this
              refine pk_v (va_runV (As := []) (rest := []) ⟨hx, hb, hml, hown, hts⟩ (s_X12_nextToken_x l D t σ I_329 J ri_330 rj rq H.size tg hSH hG.1 this hL_this hK_this w_347 hR_w_347 hL_w_347 hK_w_347 hN_w_347 hT_w_347) (cwV 0 hts (tw_V tw_832 tw_833 tw_834 tw_5 tw_835) rfl rfl rfl (by decide +kernel) ⟨Nat.le_of_ble_eq_true rfl, Nat.le_of_ble_eq_true rfl⟩) ⟨pq_blind, pq_recv hK hP hL_this hK_this (by decide) rfl, pq_pre hK hN hP hD⟩ rfl rfl hl.1 rfl (lv_room (Nat.le_of_ble_eq_true rfl)) dX12_beginOne_72 ⟨Nat.le_of_ble_eq_true rfl, Nat.le_of_ble_eq_true rfl⟩) hD hS hA (fun σ1 μ1 H locs hw_349 hP hD hS => ?_)
              obtain ⟨I_350, J_351, hu_352, hg_353, hp_355, hp_356, hp_357⟩ := hw_349
              obtain ⟨hu_352a, hu_352b⟩ := Prod.mk.inj hu_352
              rw [hu_352a, hu_352b] at hP hD
              have tt_358 := hp_355
              have tt_359 := hp_356
              have tt_360 := hp_357
              have tt_361 : (I_350 391 this).toInt ≤ 300 := by have z := hg_353.1.1 391 this; exact z.2
              have hG := GM.tr hG hg_353 (by decide)
              have tt_362 : (I_350 396 this).toInt = (I_329 396 this).toInt := by rw [hg_353.2.1 396 (by decide) (by decide)]
              have tt_363 : (I_350 398 this).toInt = (I_329 398 this).toInt := by rw [hg_353.2.1 398 (by decide) (by decide)]
              have tt_364 : (I_350 401 this).toInt = (I_329 401 this).toInt := by rw [hg_353.2.1 401 (by decide) (by decide)]
              have tt_365 : (I_350 402 this).toInt = (I_329 402 this).toInt := by rw [hg_353.2.1 402 (by decide) (by decide)]
              have tt_366 : (I_350 397 this).toInt = (I_329 397 this).toInt := by rw [hg_353.2.1 397 (by decide) (by decide)]
              refine lv_aload_n hx hb dX12_beginOne_75 rfl (lv_at hl 0 rfl) ?_
              have hpsW : PSz (I_350 396 this).toInt (I_350 398 this).toInt (I_350 401 this).toInt (I_350 402 this).toInt (I_350 391 this).toInt (I_350 393 this).toInt (ri_330 this_a) (ri_330 this_pile) bb f0 fr ba tb nn K 1 := PSz_one hps (by omega) (x := (0 : Int32)) (fun j hj => hp_335 j (by omega)) (by rw [show (I 396 this).toInt + 250 + 2 * (I 398 this).toInt = (I 396 this).toInt + 250 + 2 * (I 398 this).toInt from by omega]; exact hp_336) (by omega) (by omega) (by omega) (by omega) (by omega) (by omega) (by omega) (by omega) (hp_337 this_pile (tg_ne hT_this_pile hT_this_a (by decide)))
              have htm : tmM (I_350 391 this).toInt (I_350 393 this).toInt < tmM (I 391 this).toInt (I 393 this).toInt := tm_lt (by omega) (by omega) (by omega)
              refine pk_v (va_runV (As := []) (rest := []) ⟨hx, hb, hml, hown, hts⟩ (s_X12_whole l D t σ I_350 J_351 ri_330 rj rq H.size tg hSH hG.1 this hL_this hK_this this_a hR_this_a hL_this_a hK_this_a hN_this_a hT_this_a this_pile hR_this_pile hL_this_pile hK_this_pile hN_this_pile hT_this_pile bb f0 fr ba tb nn K (by assumption)) (cwV 0 hts (tw_V tw_909 tw_910 tw_911 tw_5 tw_912) rfl rfl rfl (by decide +kernel) ⟨Nat.le_of_ble_eq_true rfl, Nat.le_of_ble_eq_true rfl⟩) ⟨pq_blind, pq_recv hK hP hL_this hK_this (by decide) rfl, pq_pre hK hN hP hD⟩ rfl rfl hl.1 rfl (lv_room (Nat.le_of_ble_eq_true rfl)) dX12_beginOne_76 ⟨Nat.le_of_ble_eq_true rfl, Nat.le_of_ble_eq_true rfl⟩) hD hS hA (fun σ1 μ1 H locs hw_368 hP hD hS => ?_)
              obtain ⟨I_369, ri_370, hu_371, hg_372, hp_374, hp_375⟩ := hw_368
              obtain ⟨hu_371a, hu_371b⟩ := Prod.mk.inj hu_371
              rw [hu_371a, hu_371b] at hP hD
              have tt_376 := hp_375
              have hG := GM.tr hG hg_372 (by decide)
              have tt_377 : (I_369 396 this).toInt = (I_350 396 this).toInt := by rw [hg_372.2.1 396 (by decide) (by decide)]
              have tt_378 : (I_369 391 this).toInt = (I_350 391 this).toInt := by rw [hg_372.2.1 391 (by decide) (by decide)]
              have tt_379 : (I_369 393 this).toInt = (I_350 393 this).toInt := by rw [hg_372.2.1 393 (by decide) (by decide)]
              have tt_380 : (I_369 397 this).toInt = (I_350 397 this).toInt := by rw [hg_372.2.1 397 (by decide) (by decide)]
              refine lv_iconst (v := 0) hx hb dX12_beginOne_79 (by decide) ?_
              subst hQ
              exact W.iret (v := 0) hx hb hr (fun t1 ht hW => ⟨⟨0, (σ, I_369, J_351, ri_370, rj, rq), rfl, ⟨I_369, J_351, ri_370, rfl, hG, (Or.inr ⟨(by rw [show (I_369 403 this).toInt = 1 from by omega]; exact hp_374), tm_cg htm (by omega) (by omega) rfl rfl⟩), (rg_w (rg_k (0 : Int32) 0 rfl) (by decide))⟩, by rw [ht]; exact hP, va_K.moved hW.alike hK, hD⟩, hS.F ht⟩) hS.2.2 dX12_beginOne_80
    · have tc_381 : (I 393 this).toInt = 1 := congrArg Int32.toInt c_1
      have h_382 : rg (I 393 this) 1 1 := rg_and (rg_full _) (rg_of_eq c_1 (rg_k (1 : Int32) 1 rfl)) (by decide)
      have uh_382 := h_382.1
      have vh_382 := h_382.2
      refine lv_aload_n hx hb dX12_beginOne_8 rfl (lv_at hl 0 rfl) ?_
      refine pg_f (v := .int (I 394 this)) (C := RX12) (T := TX12) (N := 31) hx hb hts (tw_i inlX12) hown hK hP hL_this hK_this (by decide) rfl 10 (by decide) (hts _ (tw_c tw_836)) rfl dX12_beginOne_9 ?_
      refine lv_sipush (v := 9999) hx hb dX12_beginOne_12 (by decide) ?_
      refine lv_icmp_le (tgt := 20) hx hb dX12_beginOne_15 (by decide) (fun c_383 => ?_) (fun c_383 => ?_)
      · have tc_384 : (I 394 this).toInt ≤ 9999 := Int32.le_iff_toInt_le.mp c_383
        have h_385 : rg (I 394 this) (-2147483648) 9999 := rg_le1 c_383 (rg_full _) (rg_k (9999 : Int32) 9999 rfl) (by decide)
        have uh_385 := h_385.1
        have vh_385 := h_385.2
        refine lv_aload_n hx hb dX12_beginOne_20 rfl (lv_at hl 0 rfl) ?_
        refine pg_f (v := .int (I 393 this)) (C := RX12) (T := TX12) (N := 31) hx hb hts (tw_i inlX12) hown hK hP hL_this hK_this (by decide) rfl 9 (by decide) (hts _ (tw_c tw_831)) rfl dX12_beginOne_21 ?_
        refine lv_iconst (v := 1) hx hb dX12_beginOne_24 (by decide) ?_
        refine lv_icmp_eq (tgt := 35) hx hb dX12_beginOne_25 (by decide) (fun c_386 => ?_) (fun c_386 => ?_)
        · have tc_387 : (I 393 this).toInt = 1 := congrArg Int32.toInt c_386
          refine lv_aload_n hx hb dX12_beginOne_35 rfl (lv_at hl 0 rfl) ?_
          refine lv_aload_n hx hb dX12_beginOne_36 rfl (lv_at hl 0 rfl) ?_
          refine pg_f (v := .int (I 393 this)) (C := RX12) (T := TX12) (N := 31) hx hb hts (tw_i inlX12) hown hK hP hL_this hK_this (by decide) rfl 9 (by decide) (hts _ (tw_c tw_831)) rfl dX12_beginOne_37 ?_
          refine lv_iconst (v := 1) hx hb dX12_beginOne_40 (by decide) ?_
          refine lv_icmp_ne (tgt := 48) hx hb dX12_beginOne_41 (by decide) (fun c_388 => ?_) (fun c_388 => ?_)
          · have tc_389 : (I 393 this).toInt ≠ 1 := fun q => c_388 (Int32.toInt_inj.mp q)
            exact (rg_empty (rg_ne c_388 h_382 1 rfl (lo := 2) (hi := 0) (by decide)) (by decide)).elim
          · have tc_390 : (I 393 this).toInt = 1 := congrArg Int32.toInt c_388
            refine lv_iconst (v := 0) hx hb dX12_beginOne_44 (by decide) ?_
            refine lv_goto (tgt := 49) hx hb dX12_beginOne_45 (by decide) ?_
            refine lv_aload_n hx hb dX12_beginOne_49 rfl (lv_at hl 0 rfl) ?_
            refine pg_f (v := .int (I 393 this)) (C := RX12) (T := TX12) (N := 31) hx hb hts (tw_i inlX12) hown hK hP hL_this hK_this (by decide) rfl 9 (by decide) (hts _ (tw_c tw_831)) rfl dX12_beginOne_50 ?_
            refine lv_iconst (v := 1) hx hb dX12_beginOne_53 (by decide) ?_
            refine lv_icmp_ne (tgt := 64) hx hb dX12_beginOne_54 (by decide) (fun c_391 => ?_) (fun c_391 => ?_)
            · have tc_392 : (I 393 this).toInt ≠ 1 := fun q => c_391 (Int32.toInt_inj.mp q)
              exact (rg_empty (rg_ne c_391 h_382 1 rfl (lo := 2) (hi := 0) (by decide)) (by decide)).elim
            · have tc_393 : (I 393 this).toInt = 1 := congrArg Int32.toInt c_391
              refine lv_aload_n hx hb dX12_beginOne_57 rfl (lv_at hl 0 rfl) ?_
              refine pg_f (v := .int (I 394 this)) (C := RX12) (T := TX12) (N := 31) hx hb hts (tw_i inlX12) hown hK hP hL_this hK_this (by decide) rfl 10 (by decide) (hts _ (tw_c tw_836)) rfl dX12_beginOne_58 ?_
              refine lv_goto (tgt := 68) hx hb dX12_beginOne_61 (by decide) ?_
              have hq1 := PSz_t hps
              have hq2 := PSz_w hps (Or.inl (by omega))
              refine pk_v (va_runV (As := [.int 0, .int (I 394 this)]) (rest := []) ⟨hx, hb, hml, hown, hts⟩ (s_X12_emit l D t σ I J ri rj rq H.size tg hSH hG.1 this (0 : Int32) (I 394 this) hL_this hK_this this_a hR_this_a hL_this_a hK_this_a hN_this_a hT_this_a (by omega) (by omega)) (cwV 2 hts (tw_V tw_905 tw_906 tw_907 tw_5 tw_908) rfl rfl rfl (by decide +kernel) ⟨Nat.le_of_ble_eq_true rfl, Nat.le_of_ble_eq_true rfl⟩) ⟨pq_blind, pq_recv hK hP hL_this hK_this (by decide) rfl, pq_pre hK hN hP hD⟩ rfl rfl hl.1 rfl (lv_room (Nat.le_of_ble_eq_true rfl)) dX12_beginOne_68 ⟨Nat.le_of_ble_eq_true rfl, Nat.le_of_ble_eq_true rfl⟩) hD hS hA (fun σ1 μ1 H locs hw_395 hP hD hS => ?_)
              obtain ⟨I_396, ri_397, hu_398, hg_399, hp_401, hp_402, hp_403, hp_404⟩ := hw_395
              obtain ⟨hu_398a, hu_398b⟩ := Prod.mk.inj hu_398
              rw [hu_398a, hu_398b] at hP hD
              obtain ⟨v_405, ev_405, hv_405⟩ := hp_401
              have tt_406 : (I_396 398 this).toInt = (I 398 this).toInt + 1 := by rw [ev_405, pq_us]; exact hv_405
              have tt_407 : (I_396 403 this).toInt = (I 403 this).toInt := by rw [ev_405, pq_uf _ _ _ (by decide)]
              have hG := GM.tr hG hg_399 (by decide)
              have tt_408 : (I_396 396 this).toInt = (I 396 this).toInt := by rw [hg_399.2.1 396 (by decide) (by decide)]
              have tt_409 : (I_396 401 this).toInt = (I 401 this).toInt := by rw [hg_399.2.1 401 (by decide) (by decide)]
              have tt_410 : (I_396 402 this).toInt = (I 402 this).toInt := by rw [hg_399.2.1 402 (by decide) (by decide)]
              have tt_411 : (I_396 391 this).toInt = (I 391 this).toInt := by rw [hg_399.2.1 391 (by decide) (by decide)]
              have tt_412 : (I_396 393 this).toInt = (I 393 this).toInt := by rw [hg_399.2.1 393 (by decide) (by decide)]
              have tt_413 : (I_396 397 this).toInt = (I 397 this).toInt := by rw [hg_399.2.1 397 (by decide) (by decide)]
              refine lv_aload_n hx hb dX12_beginOne_71 rfl (lv_at hl 0 rfl) ?_
              obtain ⟨w_414, hR_w_414, hL_w_414, hK_w_414, hN_w_414, hT_w_414⟩ := sh_a hSH 387 (ci := 12) (kd := 13) (len := 300) rfl (by decide) hL_this hK_this
              refine pk_v (va_runV (As := []) (rest := []) ⟨hx, hb, hml, hown, hts⟩ (s_X12_nextToken_x l D t σ I_396 J ri_397 rj rq H.size tg hSH hG.1 this hL_this hK_this w_414 hR_w_414 hL_w_414 hK_w_414 hN_w_414 hT_w_414) (cwV 0 hts (tw_V tw_832 tw_833 tw_834 tw_5 tw_835) rfl rfl rfl (by decide +kernel) ⟨Nat.le_of_ble_eq_true rfl, Nat.le_of_ble_eq_true rfl⟩) ⟨pq_blind, pq_recv hK hP hL_this hK_this (by decide) rfl, pq_pre hK hN hP hD⟩ rfl rfl hl.1 rfl (lv_room (Nat.le_of_ble_eq_true rfl)) dX12_beginOne_72 ⟨Nat.le_of_ble_eq_true rfl, Nat.le_of_ble_eq_true rfl⟩) hD hS hA (fun σ1 μ1 H locs hw_416 hP hD hS => ?_)
              obtain ⟨I_417, J_418, hu_419, hg_420, hp_422, hp_423, hp_424⟩ := hw_416
              obtain ⟨hu_419a, hu_419b⟩ := Prod.mk.inj hu_419
              rw [hu_419a, hu_419b] at hP hD
              have tt_425 := hp_422
              have tt_426 := hp_423
              have tt_427 := hp_424
              have tt_428 : (I_417 391 this).toInt ≤ 300 := by have z := hg_420.1.1 391 this; exact z.2
              have hG := GM.tr hG hg_420 (by decide)
              have tt_429 : (I_417 396 this).toInt = (I_396 396 this).toInt := by rw [hg_420.2.1 396 (by decide) (by decide)]
              have tt_430 : (I_417 398 this).toInt = (I_396 398 this).toInt := by rw [hg_420.2.1 398 (by decide) (by decide)]
              have tt_431 : (I_417 401 this).toInt = (I_396 401 this).toInt := by rw [hg_420.2.1 401 (by decide) (by decide)]
              have tt_432 : (I_417 402 this).toInt = (I_396 402 this).toInt := by rw [hg_420.2.1 402 (by decide) (by decide)]
              have tt_433 : (I_417 397 this).toInt = (I_396 397 this).toInt := by rw [hg_420.2.1 397 (by decide) (by decide)]
              refine lv_aload_n hx hb dX12_beginOne_75 rfl (lv_at hl 0 rfl) ?_
              have hpsW : PSz (I_417 396 this).toInt (I_417 398 this).toInt (I_417 401 this).toInt (I_417 402 this).toInt (I_417 391 this).toInt (I_417 393 this).toInt (ri_397 this_a) (ri_397 this_pile) bb f0 fr ba tb nn K 1 := PSz_one hps (by omega) (x := (0 : Int32)) (fun j hj => hp_402 j (by omega)) (by rw [show (I 396 this).toInt + 250 + 2 * (I 398 this).toInt = (I 396 this).toInt + 250 + 2 * (I 398 this).toInt from by omega]; exact hp_403) (by omega) (by omega) (by omega) (by omega) (by omega) (by omega) (by omega) (by omega) (hp_404 this_pile (tg_ne hT_this_pile hT_this_a (by decide)))
              have htm : tmM (I_417 391 this).toInt (I_417 393 this).toInt < tmM (I 391 this).toInt (I 393 this).toInt := tm_lt (by omega) (by omega) (by omega)
              refine pk_v (va_runV (As := []) (rest := []) ⟨hx, hb, hml, hown, hts⟩ (s_X12_whole l D t σ I_417 J_418 ri_397 rj rq H.size tg hSH hG.1 this hL_this hK_this this_a hR_this_a hL_this_a hK_this_a hN_this_a hT_this_a this_pile hR_this_pile hL_this_pile hK_this_pile hN_this_pile hT_this_pile bb f0 fr ba tb nn K (by assumption)) (cwV 0 hts (tw_V tw_909 tw_910 tw_911 tw_5 tw_912) rfl rfl rfl (by decide +kernel) ⟨Nat.le_of_ble_eq_true rfl, Nat.le_of_ble_eq_true rfl⟩) ⟨pq_blind, pq_recv hK hP hL_this hK_this (by decide) rfl, pq_pre hK hN hP hD⟩ rfl rfl hl.1 rfl (lv_room (Nat.le_of_ble_eq_true rfl)) dX12_beginOne_76 ⟨Nat.le_of_ble_eq_true rfl, Nat.le_of_ble_eq_true rfl⟩) hD hS hA (fun σ1 μ1 H locs hw_435 hP hD hS => ?_)
              obtain ⟨I_436, ri_437, hu_438, hg_439, hp_441, hp_442⟩ := hw_435
              obtain ⟨hu_438a, hu_438b⟩ := Prod.mk.inj hu_438
              rw [hu_438a, hu_438b] at hP hD
              have tt_443 := hp_442
              have hG := GM.tr hG hg_439 (by decide)
              have tt_444 : (I_436 396 this).toInt = (I_417 396 this).toInt := by rw [hg_439.2.1 396 (by decide) (by decide)]
              have tt_445 : (I_436 391 this).toInt = (I_417 391 this).toInt := by rw [hg_439.2.1 391 (by decide) (by decide)]
              have tt_446 : (I_436 393 this).toInt = (I_417 393 this).toInt := by rw [hg_439.2.1 393 (by decide) (by decide)]
              have tt_447 : (I_436 397 this).toInt = (I_417 397 this).toInt := by rw [hg_439.2.1 397 (by decide) (by decide)]
              refine lv_iconst (v := 0) hx hb dX12_beginOne_79 (by decide) ?_
              subst hQ
              exact W.iret (v := 0) hx hb hr (fun t1 ht hW => ⟨⟨0, (σ, I_436, J_418, ri_437, rj, rq), rfl, ⟨I_436, J_418, ri_437, rfl, hG, (Or.inr ⟨(by rw [show (I_436 403 this).toInt = 1 from by omega]; exact hp_441), tm_cg htm (by omega) (by omega) rfl rfl⟩), (rg_w (rg_k (0 : Int32) 0 rfl) (by decide))⟩, by rw [ht]; exact hP, va_K.moved hW.alike hK, hD⟩, hS.F ht⟩) hS.2.2 dX12_beginOne_80
        · have tc_448 : (I 393 this).toInt ≠ 1 := fun q => c_386 (Int32.toInt_inj.mp q)
          exact (rg_empty (rg_ne c_386 h_382 1 rfl (lo := 2) (hi := 0) (by decide)) (by decide)).elim
      · have tc_449 : 9999 < (I 394 this).toInt := Int32.lt_iff_toInt_lt.mp (nle c_383)
        have h_450 : rg (I 394 this) 10000 2147483647 := rg_lt2 (nle c_383) (rg_k (9999 : Int32) 9999 rfl) (rg_full _) (by decide)
        have uh_450 := h_450.1
        have vh_450 := h_450.2
        refine lv_iconst (v := 2) hx hb dX12_beginOne_18 (by decide) ?_
        subst hQ
        exact W.iret (v := 2) hx hb hr (fun t1 ht hW => ⟨⟨2, (σ, I, J, ri, rj, rq), rfl, ⟨I, J, ri, rfl, hG, (Or.inl (by decide)), (rg_w (rg_k (2 : Int32) 2 rfl) (by decide))⟩, by rw [ht]; exact hP, va_K.moved hW.alike hK, hD⟩, hS.F ht⟩) hS.2.2 dX12_beginOne_19
  exact go _ _ _ hP hD hS hl
