theorem dX12_isWord_0 : decode cX12_isWord 0 = .ok (.aload_n 0, 1) := oc_42 (by decide +kernel)
theorem dX12_isWord_1 : decode cX12_isWord 1 = .ok (.getfield 143, 3) := oc_180 (a := 0) (b := 143) (by decide +kernel)
theorem dX12_isWord_4 : decode cX12_isWord 4 = .ok (.iconst 2, 1) := oc_5 (by decide +kernel)
theorem dX12_isWord_5 : decode cX12_isWord 5 = .ok (.if_icmp .ne 16, 3) := oc_160 (a := 0) (b := 16) (by decide +kernel)
theorem dX12_isWord_21 : decode cX12_isWord 21 = .ok (.iconst 0, 1) := oc_3 (by decide +kernel)
theorem dX12_isWord_22 : decode cX12_isWord 22 = .ok (.ireturn, 1) := oc_172 (by decide +kernel)
theorem dX12_isWord_8 : decode cX12_isWord 8 = .ok (.aload_n 0, 1) := oc_42 (by decide +kernel)
theorem dX12_isWord_9 : decode cX12_isWord 9 = .ok (.getfield 156, 3) := oc_180 (a := 0) (b := 156) (by decide +kernel)
theorem dX12_isWord_12 : decode cX12_isWord 12 = .ok (.lload_n 1, 1) := oc_31 (by decide +kernel)
theorem dX12_isWord_13 : decode cX12_isWord 13 = .ok (.lcmp, 1) := oc_148 (by decide +kernel)
theorem dX12_isWord_14 : decode cX12_isWord 14 = .ok (.ifCond .ne 7, 3) := oc_154 (a := 0) (b := 7) (by decide +kernel)
theorem dX12_isWord_17 : decode cX12_isWord 17 = .ok (.iconst 1, 1) := oc_4 (by decide +kernel)
theorem dX12_isWord_18 : decode cX12_isWord 18 = .ok (.goto 4, 3) := oc_167 (a := 0) (b := 4) (by decide +kernel)
theorem dX12_nameOf_0 : decode cX12_nameOf 0 = .ok (.aload_n 0, 1) := oc_42 (by decide +kernel)
theorem dX12_nameOf_1 : decode cX12_nameOf 1 = .ok (.getfield 143, 3) := oc_180 (a := 0) (b := 143) (by decide +kernel)
theorem dX12_nameOf_4 : decode cX12_nameOf 4 = .ok (.iconst 2, 1) := oc_5 (by decide +kernel)
theorem dX12_nameOf_5 : decode cX12_nameOf 5 = .ok (.if_icmp .eq 5, 3) := oc_159 (a := 0) (b := 5) (by decide +kernel)
theorem dX12_nameOf_10 : decode cX12_nameOf 10 = .ok (.aload_n 0, 1) := oc_42 (by decide +kernel)
theorem dX12_nameOf_11 : decode cX12_nameOf 11 = .ok (.getfield 156, 3) := oc_180 (a := 0) (b := 156) (by decide +kernel)
theorem dX12_nameOf_14 : decode cX12_nameOf 14 = .ok (.bipush 97, 2) := oc_16 (a := 97) (by decide +kernel)
theorem dX12_nameOf_16 : decode cX12_nameOf 16 = .ok (.bipush 103, 2) := oc_16 (a := 103) (by decide +kernel)
theorem dX12_nameOf_18 : decode cX12_nameOf 18 = .ok (.bipush 101, 2) := oc_16 (a := 101) (by decide +kernel)
theorem dX12_nameOf_20 : decode cX12_nameOf 20 = .ok (.invokestatic 160, 3) := oc_184 (a := 0) (b := 160) (by decide +kernel)
theorem dX12_nameOf_23 : decode cX12_nameOf 23 = .ok (.lcmp, 1) := oc_148 (by decide +kernel)
theorem dX12_nameOf_24 : decode cX12_nameOf 24 = .ok (.ifCond .ne 5, 3) := oc_154 (a := 0) (b := 5) (by decide +kernel)
theorem dX12_nameOf_29 : decode cX12_nameOf 29 = .ok (.aload_n 0, 1) := oc_42 (by decide +kernel)
theorem dX12_nameOf_30 : decode cX12_nameOf 30 = .ok (.getfield 156, 3) := oc_180 (a := 0) (b := 156) (by decide +kernel)
theorem dX12_nameOf_33 : decode cX12_nameOf 33 = .ok (.bipush 107, 2) := oc_16 (a := 107) (by decide +kernel)
theorem dX12_nameOf_35 : decode cX12_nameOf 35 = .ok (.bipush 105, 2) := oc_16 (a := 105) (by decide +kernel)
theorem dX12_nameOf_37 : decode cX12_nameOf 37 = .ok (.bipush 110, 2) := oc_16 (a := 110) (by decide +kernel)
theorem dX12_nameOf_39 : decode cX12_nameOf 39 = .ok (.invokestatic 160, 3) := oc_184 (a := 0) (b := 160) (by decide +kernel)
theorem dX12_nameOf_42 : decode cX12_nameOf 42 = .ok (.lcmp, 1) := oc_148 (by decide +kernel)
theorem dX12_nameOf_43 : decode cX12_nameOf 43 = .ok (.ifCond .ne 5, 3) := oc_154 (a := 0) (b := 5) (by decide +kernel)
theorem dX12_nameOf_48 : decode cX12_nameOf 48 = .ok (.aload_n 0, 1) := oc_42 (by decide +kernel)
theorem dX12_nameOf_49 : decode cX12_nameOf 49 = .ok (.getfield 156, 3) := oc_180 (a := 0) (b := 156) (by decide +kernel)
theorem dX12_nameOf_52 : decode cX12_nameOf 52 = .ok (.bipush 99, 2) := oc_16 (a := 99) (by decide +kernel)
theorem dX12_nameOf_54 : decode cX12_nameOf 54 = .ok (.bipush 114, 2) := oc_16 (a := 114) (by decide +kernel)
theorem dX12_nameOf_56 : decode cX12_nameOf 56 = .ok (.bipush 97, 2) := oc_16 (a := 97) (by decide +kernel)
theorem dX12_nameOf_58 : decode cX12_nameOf 58 = .ok (.bipush 102, 2) := oc_16 (a := 102) (by decide +kernel)
theorem dX12_nameOf_60 : decode cX12_nameOf 60 = .ok (.bipush 116, 2) := oc_16 (a := 116) (by decide +kernel)
theorem dX12_nameOf_62 : decode cX12_nameOf 62 = .ok (.invokestatic 168, 3) := oc_184 (a := 0) (b := 168) (by decide +kernel)
theorem dX12_nameOf_65 : decode cX12_nameOf 65 = .ok (.lcmp, 1) := oc_148 (by decide +kernel)
theorem dX12_nameOf_66 : decode cX12_nameOf 66 = .ok (.ifCond .ne 5, 3) := oc_154 (a := 0) (b := 5) (by decide +kernel)
theorem dX12_nameOf_71 : decode cX12_nameOf 71 = .ok (.aload_n 0, 1) := oc_42 (by decide +kernel)
theorem dX12_nameOf_72 : decode cX12_nameOf 72 = .ok (.getfield 156, 3) := oc_180 (a := 0) (b := 156) (by decide +kernel)
theorem dX12_nameOf_75 : decode cX12_nameOf 75 = .ok (.bipush 112, 2) := oc_16 (a := 112) (by decide +kernel)
theorem dX12_nameOf_77 : decode cX12_nameOf 77 = .ok (.bipush 108, 2) := oc_16 (a := 108) (by decide +kernel)
theorem dX12_nameOf_79 : decode cX12_nameOf 79 = .ok (.bipush 97, 2) := oc_16 (a := 97) (by decide +kernel)
theorem dX12_nameOf_81 : decode cX12_nameOf 81 = .ok (.bipush 99, 2) := oc_16 (a := 99) (by decide +kernel)
theorem dX12_nameOf_83 : decode cX12_nameOf 83 = .ok (.bipush 101, 2) := oc_16 (a := 101) (by decide +kernel)
theorem dX12_nameOf_85 : decode cX12_nameOf 85 = .ok (.invokestatic 168, 3) := oc_184 (a := 0) (b := 168) (by decide +kernel)
theorem dX12_nameOf_88 : decode cX12_nameOf 88 = .ok (.lcmp, 1) := oc_148 (by decide +kernel)
theorem dX12_nameOf_89 : decode cX12_nameOf 89 = .ok (.ifCond .ne 5, 3) := oc_154 (a := 0) (b := 5) (by decide +kernel)
theorem dX12_nameOf_94 : decode cX12_nameOf 94 = .ok (.aload_n 0, 1) := oc_42 (by decide +kernel)
theorem dX12_nameOf_95 : decode cX12_nameOf 95 = .ok (.getfield 156, 3) := oc_180 (a := 0) (b := 156) (by decide +kernel)
theorem dX12_nameOf_98 : decode cX12_nameOf 98 = .ok (.bipush 109, 2) := oc_16 (a := 109) (by decide +kernel)
theorem dX12_nameOf_100 : decode cX12_nameOf 100 = .ok (.bipush 111, 2) := oc_16 (a := 111) (by decide +kernel)
theorem dX12_nameOf_102 : decode cX12_nameOf 102 = .ok (.bipush 110, 2) := oc_16 (a := 110) (by decide +kernel)
theorem dX12_nameOf_104 : decode cX12_nameOf 104 = .ok (.bipush 116, 2) := oc_16 (a := 116) (by decide +kernel)
theorem dX12_nameOf_106 : decode cX12_nameOf 106 = .ok (.bipush 104, 2) := oc_16 (a := 104) (by decide +kernel)
theorem dX12_nameOf_108 : decode cX12_nameOf 108 = .ok (.invokestatic 168, 3) := oc_184 (a := 0) (b := 168) (by decide +kernel)
theorem dX12_nameOf_111 : decode cX12_nameOf 111 = .ok (.lcmp, 1) := oc_148 (by decide +kernel)
theorem dX12_nameOf_112 : decode cX12_nameOf 112 = .ok (.ifCond .ne 7, 3) := oc_154 (a := 0) (b := 7) (by decide +kernel)
theorem dX12_nameOf_119 : decode cX12_nameOf 119 = .ok (.aload_n 0, 1) := oc_42 (by decide +kernel)
theorem dX12_nameOf_120 : decode cX12_nameOf 120 = .ok (.getfield 156, 3) := oc_180 (a := 0) (b := 156) (by decide +kernel)
theorem dX12_nameOf_123 : decode cX12_nameOf 123 = .ok (.bipush 117, 2) := oc_16 (a := 117) (by decide +kernel)
theorem dX12_nameOf_125 : decode cX12_nameOf 125 = .ok (.bipush 110, 2) := oc_16 (a := 110) (by decide +kernel)
theorem dX12_nameOf_127 : decode cX12_nameOf 127 = .ok (.bipush 100, 2) := oc_16 (a := 100) (by decide +kernel)
theorem dX12_nameOf_129 : decode cX12_nameOf 129 = .ok (.bipush 101, 2) := oc_16 (a := 101) (by decide +kernel)
theorem dX12_nameOf_131 : decode cX12_nameOf 131 = .ok (.bipush 114, 2) := oc_16 (a := 114) (by decide +kernel)
theorem dX12_nameOf_133 : decode cX12_nameOf 133 = .ok (.invokestatic 168, 3) := oc_184 (a := 0) (b := 168) (by decide +kernel)
theorem dX12_nameOf_136 : decode cX12_nameOf 136 = .ok (.lcmp, 1) := oc_148 (by decide +kernel)
theorem dX12_nameOf_137 : decode cX12_nameOf 137 = .ok (.ifCond .ne 7, 3) := oc_154 (a := 0) (b := 7) (by decide +kernel)
theorem dX12_nameOf_144 : decode cX12_nameOf 144 = .ok (.iconst (-1), 1) := oc_2 (by decide +kernel)
theorem dX12_nameOf_145 : decode cX12_nameOf 145 = .ok (.ireturn, 1) := oc_172 (by decide +kernel)
theorem dX12_nameOf_140 : decode cX12_nameOf 140 = .ok (.iconst 5, 1) := oc_8 (by decide +kernel)
theorem dX12_nameOf_141 : decode cX12_nameOf 141 = .ok (.goto 4, 3) := oc_167 (a := 0) (b := 4) (by decide +kernel)
theorem dX12_nameOf_115 : decode cX12_nameOf 115 = .ok (.iconst 4, 1) := oc_7 (by decide +kernel)
theorem dX12_nameOf_116 : decode cX12_nameOf 116 = .ok (.goto 29, 3) := oc_167 (a := 0) (b := 29) (by decide +kernel)
theorem dX12_nameOf_92 : decode cX12_nameOf 92 = .ok (.iconst 3, 1) := oc_6 (by decide +kernel)
theorem dX12_nameOf_93 : decode cX12_nameOf 93 = .ok (.ireturn, 1) := oc_172 (by decide +kernel)
theorem dX12_nameOf_69 : decode cX12_nameOf 69 = .ok (.iconst 2, 1) := oc_5 (by decide +kernel)
theorem dX12_nameOf_70 : decode cX12_nameOf 70 = .ok (.ireturn, 1) := oc_172 (by decide +kernel)
theorem dX12_nameOf_46 : decode cX12_nameOf 46 = .ok (.iconst 1, 1) := oc_4 (by decide +kernel)
theorem dX12_nameOf_47 : decode cX12_nameOf 47 = .ok (.ireturn, 1) := oc_172 (by decide +kernel)
theorem dX12_nameOf_27 : decode cX12_nameOf 27 = .ok (.iconst 0, 1) := oc_3 (by decide +kernel)
theorem dX12_nameOf_28 : decode cX12_nameOf 28 = .ok (.ireturn, 1) := oc_172 (by decide +kernel)
theorem dX12_nameOf_8 : decode cX12_nameOf 8 = .ok (.iconst (-1), 1) := oc_2 (by decide +kernel)
theorem dX12_nameOf_9 : decode cX12_nameOf 9 = .ok (.ireturn, 1) := oc_172 (by decide +kernel)
theorem dX12_emit_0 : decode cX12_emit 0 = .ok (.aload_n 0, 1) := oc_42 (by decide +kernel)
theorem tw_176 : Cond.fieldLink RX12 7 "RingsUnderModel" "a" "[I" ∈ wsL_law := sg_8 _ (List.mem_of_getElem? (i := 8) rfl)
theorem dX12_emit_1 : decode cX12_emit 1 = .ok (.getfield 7, 3) := oc_180 (a := 0) (b := 7) (by decide +kernel)
theorem dX12_emit_4 : decode cX12_emit 4 = .ok (.aload_n 0, 1) := oc_42 (by decide +kernel)
theorem tw_821 : Cond.fieldLink RX12 172 "RingsUnderModel" "text0" "I" ∈ wsL_law := sg_35 _ (List.mem_of_getElem? (i := 5) rfl)
theorem dX12_emit_5 : decode cX12_emit 5 = .ok (.getfield 172, 3) := oc_180 (a := 0) (b := 172) (by decide +kernel)
theorem dX12_emit_8 : decode cX12_emit 8 = .ok (.sipush 250, 3) := oc_17 (a := 0) (b := 250) (by decide +kernel)
theorem dX12_emit_11 : decode cX12_emit 11 = .ok (.iadd, 1) := oc_96 (by decide +kernel)
theorem dX12_emit_12 : decode cX12_emit 12 = .ok (.iconst 2, 1) := oc_5 (by decide +kernel)
theorem dX12_emit_13 : decode cX12_emit 13 = .ok (.aload_n 0, 1) := oc_42 (by decide +kernel)
theorem tw_827 : Cond.fieldLink RX12 175 "RingsUnderModel" "written" "I" ∈ wsL_law := sg_35 _ (List.mem_of_getElem? (i := 11) rfl)
theorem dX12_emit_14 : decode cX12_emit 14 = .ok (.getfield 175, 3) := oc_180 (a := 0) (b := 175) (by decide +kernel)
theorem dX12_emit_17 : decode cX12_emit 17 = .ok (.imul, 1) := oc_104 (by decide +kernel)
theorem dX12_emit_18 : decode cX12_emit 18 = .ok (.iadd, 1) := oc_96 (by decide +kernel)
theorem dX12_emit_19 : decode cX12_emit 19 = .ok (.iload_n 1, 1) := oc_27 (by decide +kernel)
theorem dX12_emit_20 : decode cX12_emit 20 = .ok (.iastore, 1) := oc_79 (by decide +kernel)
theorem dX12_emit_21 : decode cX12_emit 21 = .ok (.aload_n 0, 1) := oc_42 (by decide +kernel)
theorem dX12_emit_22 : decode cX12_emit 22 = .ok (.getfield 7, 3) := oc_180 (a := 0) (b := 7) (by decide +kernel)
theorem dX12_emit_25 : decode cX12_emit 25 = .ok (.aload_n 0, 1) := oc_42 (by decide +kernel)
theorem dX12_emit_26 : decode cX12_emit 26 = .ok (.getfield 172, 3) := oc_180 (a := 0) (b := 172) (by decide +kernel)
theorem dX12_emit_29 : decode cX12_emit 29 = .ok (.sipush 250, 3) := oc_17 (a := 0) (b := 250) (by decide +kernel)
theorem dX12_emit_32 : decode cX12_emit 32 = .ok (.iadd, 1) := oc_96 (by decide +kernel)
theorem dX12_emit_33 : decode cX12_emit 33 = .ok (.iconst 2, 1) := oc_5 (by decide +kernel)
theorem dX12_emit_34 : decode cX12_emit 34 = .ok (.aload_n 0, 1) := oc_42 (by decide +kernel)
theorem dX12_emit_35 : decode cX12_emit 35 = .ok (.getfield 175, 3) := oc_180 (a := 0) (b := 175) (by decide +kernel)
theorem dX12_emit_38 : decode cX12_emit 38 = .ok (.imul, 1) := oc_104 (by decide +kernel)
theorem dX12_emit_39 : decode cX12_emit 39 = .ok (.iadd, 1) := oc_96 (by decide +kernel)
theorem dX12_emit_40 : decode cX12_emit 40 = .ok (.iconst 1, 1) := oc_4 (by decide +kernel)
theorem dX12_emit_41 : decode cX12_emit 41 = .ok (.iadd, 1) := oc_96 (by decide +kernel)
theorem dX12_emit_42 : decode cX12_emit 42 = .ok (.iload_n 2, 1) := oc_28 (by decide +kernel)
theorem dX12_emit_43 : decode cX12_emit 43 = .ok (.iastore, 1) := oc_79 (by decide +kernel)
theorem dX12_emit_44 : decode cX12_emit 44 = .ok (.aload_n 0, 1) := oc_42 (by decide +kernel)
theorem dX12_emit_45 : decode cX12_emit 45 = .ok (.dup, 1) := oc_89 (by decide +kernel)
theorem dX12_emit_46 : decode cX12_emit 46 = .ok (.getfield 175, 3) := oc_180 (a := 0) (b := 175) (by decide +kernel)
theorem dX12_emit_49 : decode cX12_emit 49 = .ok (.iconst 1, 1) := oc_4 (by decide +kernel)
theorem dX12_emit_50 : decode cX12_emit 50 = .ok (.iadd, 1) := oc_96 (by decide +kernel)
theorem dX12_emit_51 : decode cX12_emit 51 = .ok (.putfield 175, 3) := oc_181 (a := 0) (b := 175) (by decide +kernel)
theorem dX12_emit_54 : decode cX12_emit 54 = .ok (.return_, 1) := oc_177 (by decide +kernel)
theorem dX12_push_0 : decode cX12_push 0 = .ok (.aload_n 0, 1) := oc_42 (by decide +kernel)
theorem tw_182 : Cond.fieldLink RX12 29 "RingsUnderModel" "pile" "[I" ∈ wsL_law := sg_8 _ (List.mem_of_getElem? (i := 14) rfl)
theorem dX12_push_1 : decode cX12_push 1 = .ok (.getfield 29, 3) := oc_180 (a := 0) (b := 29) (by decide +kernel)
theorem dX12_push_4 : decode cX12_push 4 = .ok (.aload_n 0, 1) := oc_42 (by decide +kernel)
theorem tw_887 : Cond.fieldLink RX12 178 "RingsUnderModel" "piled" "I" ∈ wsL_law := sg_37 _ (List.mem_of_getElem? (i := 23) rfl)
theorem dX12_push_5 : decode cX12_push 5 = .ok (.getfield 178, 3) := oc_180 (a := 0) (b := 178) (by decide +kernel)
theorem dX12_push_8 : decode cX12_push 8 = .ok (.iload_n 1, 1) := oc_27 (by decide +kernel)
theorem dX12_push_9 : decode cX12_push 9 = .ok (.iastore, 1) := oc_79 (by decide +kernel)
theorem dX12_push_10 : decode cX12_push 10 = .ok (.aload_n 0, 1) := oc_42 (by decide +kernel)
theorem dX12_push_11 : decode cX12_push 11 = .ok (.dup, 1) := oc_89 (by decide +kernel)
theorem dX12_push_12 : decode cX12_push 12 = .ok (.getfield 178, 3) := oc_180 (a := 0) (b := 178) (by decide +kernel)
theorem dX12_push_15 : decode cX12_push 15 = .ok (.iconst 1, 1) := oc_4 (by decide +kernel)
theorem dX12_push_16 : decode cX12_push 16 = .ok (.iadd, 1) := oc_96 (by decide +kernel)
theorem dX12_push_17 : decode cX12_push 17 = .ok (.putfield 178, 3) := oc_181 (a := 0) (b := 178) (by decide +kernel)
theorem dX12_push_20 : decode cX12_push 20 = .ok (.return_, 1) := oc_177 (by decide +kernel)
theorem dX12_whole_0 : decode cX12_whole 0 = .ok (.aload_n 0, 1) := oc_42 (by decide +kernel)
theorem dX12_whole_1 : decode cX12_whole 1 = .ok (.iconst 1, 1) := oc_4 (by decide +kernel)
theorem tw_888 : Cond.fieldLink RX12 181 "RingsUnderModel" "isWhole" "Z" ∈ wsL_law := sg_38 _ (List.mem_of_getElem? (i := 0) rfl)
theorem dX12_whole_2 : decode cX12_whole 2 = .ok (.putfield 181, 3) := oc_181 (a := 0) (b := 181) (by decide +kernel)
theorem dX12_whole_5 : decode cX12_whole 5 = .ok (.aload_n 0, 1) := oc_42 (by decide +kernel)
theorem dX12_whole_6 : decode cX12_whole 6 = .ok (.getfield 178, 3) := oc_180 (a := 0) (b := 178) (by decide +kernel)
theorem dX12_whole_9 : decode cX12_whole 9 = .ok (.ifCond .le 47, 3) := oc_158 (a := 0) (b := 47) (by decide +kernel)
theorem dX12_whole_56 : decode cX12_whole 56 = .ok (.return_, 1) := oc_177 (by decide +kernel)
theorem dX12_whole_12 : decode cX12_whole 12 = .ok (.aload_n 0, 1) := oc_42 (by decide +kernel)
theorem dX12_whole_13 : decode cX12_whole 13 = .ok (.getfield 29, 3) := oc_180 (a := 0) (b := 29) (by decide +kernel)
theorem dX12_whole_16 : decode cX12_whole 16 = .ok (.aload_n 0, 1) := oc_42 (by decide +kernel)
theorem dX12_whole_17 : decode cX12_whole 17 = .ok (.getfield 178, 3) := oc_180 (a := 0) (b := 178) (by decide +kernel)
theorem dX12_whole_20 : decode cX12_whole 20 = .ok (.iconst 1, 1) := oc_4 (by decide +kernel)
theorem dX12_whole_21 : decode cX12_whole 21 = .ok (.isub, 1) := oc_100 (by decide +kernel)
theorem dX12_whole_22 : decode cX12_whole 22 = .ok (.iaload, 1) := oc_46 (by decide +kernel)
theorem dX12_whole_23 : decode cX12_whole 23 = .ok (.iconst 2, 1) := oc_5 (by decide +kernel)
theorem dX12_whole_24 : decode cX12_whole 24 = .ok (.if_icmp .ne 32, 3) := oc_160 (a := 0) (b := 32) (by decide +kernel)
theorem dX12_whole_27 : decode cX12_whole 27 = .ok (.aload_n 0, 1) := oc_42 (by decide +kernel)
theorem dX12_whole_28 : decode cX12_whole 28 = .ok (.dup, 1) := oc_89 (by decide +kernel)
theorem dX12_whole_29 : decode cX12_whole 29 = .ok (.getfield 178, 3) := oc_180 (a := 0) (b := 178) (by decide +kernel)
theorem dX12_whole_32 : decode cX12_whole 32 = .ok (.iconst 1, 1) := oc_4 (by decide +kernel)
theorem dX12_whole_33 : decode cX12_whole 33 = .ok (.isub, 1) := oc_100 (by decide +kernel)
theorem dX12_whole_34 : decode cX12_whole 34 = .ok (.putfield 178, 3) := oc_181 (a := 0) (b := 178) (by decide +kernel)
theorem dX12_whole_37 : decode cX12_whole 37 = .ok (.aload_n 0, 1) := oc_42 (by decide +kernel)
theorem dX12_whole_38 : decode cX12_whole 38 = .ok (.dup, 1) := oc_89 (by decide +kernel)
theorem tw_828 : Cond.fieldLink RX12 185 "RingsUnderModel" "opens" "I" ∈ wsL_law := sg_35 _ (List.mem_of_getElem? (i := 12) rfl)
theorem dX12_whole_39 : decode cX12_whole 39 = .ok (.getfield 185, 3) := oc_180 (a := 0) (b := 185) (by decide +kernel)
theorem dX12_whole_42 : decode cX12_whole 42 = .ok (.iconst 1, 1) := oc_4 (by decide +kernel)
theorem dX12_whole_43 : decode cX12_whole 43 = .ok (.isub, 1) := oc_100 (by decide +kernel)
theorem dX12_whole_44 : decode cX12_whole 44 = .ok (.putfield 185, 3) := oc_181 (a := 0) (b := 185) (by decide +kernel)
theorem dX12_whole_47 : decode cX12_whole 47 = .ok (.aload_n 0, 1) := oc_42 (by decide +kernel)
theorem dX12_whole_48 : decode cX12_whole 48 = .ok (.iconst 2, 1) := oc_5 (by decide +kernel)
theorem dX12_whole_49 : decode cX12_whole 49 = .ok (.iconst 0, 1) := oc_3 (by decide +kernel)
theorem tw_905 : Cond.methodLink RX12 188 yX12_emit ∈ wsL_law := sg_38 _ (List.mem_of_getElem? (i := 17) rfl)
theorem tw_906 : Cond.instanceMethod yX12_emit ∈ wsL_law := sg_38 _ (List.mem_of_getElem? (i := 18) rfl)
theorem tw_907 : Cond.selects RX12 yX12_emit yX12_emit ∈ wsL_law := sg_38 _ (List.mem_of_getElem? (i := 19) rfl)
theorem tw_908 : Cond.code yX12_emit cX12_emit 3 none ∈ wsL_law := sg_38 _ (List.mem_of_getElem? (i := 20) rfl)
theorem dX12_whole_50 : decode cX12_whole 50 = .ok (.invokevirtual 188, 3) := oc_182 (a := 0) (b := 188) (by decide +kernel)
theorem dX12_whole_53 : decode cX12_whole 53 = .ok (.goto (-48), 3) := oc_167 (a := 255) (b := 208) (by decide +kernel)
theorem dX12_settle_0 : decode cX12_settle 0 = .ok (.aload_n 0, 1) := oc_42 (by decide +kernel)
theorem dX12_settle_1 : decode cX12_settle 1 = .ok (.getfield 178, 3) := oc_180 (a := 0) (b := 178) (by decide +kernel)
theorem dX12_settle_4 : decode cX12_settle 4 = .ok (.ifCond .le 50, 3) := oc_158 (a := 0) (b := 50) (by decide +kernel)
theorem dX12_settle_54 : decode cX12_settle 54 = .ok (.return_, 1) := oc_177 (by decide +kernel)
theorem dX12_settle_7 : decode cX12_settle 7 = .ok (.aload_n 0, 1) := oc_42 (by decide +kernel)
theorem dX12_settle_8 : decode cX12_settle 8 = .ok (.getfield 29, 3) := oc_180 (a := 0) (b := 29) (by decide +kernel)
theorem dX12_settle_11 : decode cX12_settle 11 = .ok (.aload_n 0, 1) := oc_42 (by decide +kernel)
theorem dX12_settle_12 : decode cX12_settle 12 = .ok (.getfield 178, 3) := oc_180 (a := 0) (b := 178) (by decide +kernel)
theorem dX12_settle_15 : decode cX12_settle 15 = .ok (.iconst 1, 1) := oc_4 (by decide +kernel)
theorem dX12_settle_16 : decode cX12_settle 16 = .ok (.isub, 1) := oc_100 (by decide +kernel)
theorem dX12_settle_17 : decode cX12_settle 17 = .ok (.iaload, 1) := oc_46 (by decide +kernel)
theorem dX12_settle_18 : decode cX12_settle 18 = .ok (.iload_n 1, 1) := oc_27 (by decide +kernel)
theorem dX12_settle_19 : decode cX12_settle 19 = .ok (.bipush 6, 2) := oc_16 (a := 6) (by decide +kernel)
theorem dX12_settle_21 : decode cX12_settle 21 = .ok (.invokestatic 62, 3) := oc_184 (a := 0) (b := 62) (by decide +kernel)
theorem dX12_settle_24 : decode cX12_settle 24 = .ok (.ifCond .eq 30, 3) := oc_153 (a := 0) (b := 30) (by decide +kernel)
theorem dX12_settle_27 : decode cX12_settle 27 = .ok (.aload_n 0, 1) := oc_42 (by decide +kernel)
theorem dX12_settle_28 : decode cX12_settle 28 = .ok (.dup, 1) := oc_89 (by decide +kernel)
theorem dX12_settle_29 : decode cX12_settle 29 = .ok (.getfield 178, 3) := oc_180 (a := 0) (b := 178) (by decide +kernel)
theorem dX12_settle_32 : decode cX12_settle 32 = .ok (.iconst 1, 1) := oc_4 (by decide +kernel)
theorem dX12_settle_33 : decode cX12_settle 33 = .ok (.isub, 1) := oc_100 (by decide +kernel)
theorem dX12_settle_34 : decode cX12_settle 34 = .ok (.putfield 178, 3) := oc_181 (a := 0) (b := 178) (by decide +kernel)
theorem dX12_settle_37 : decode cX12_settle 37 = .ok (.aload_n 0, 1) := oc_42 (by decide +kernel)
theorem dX12_settle_38 : decode cX12_settle 38 = .ok (.aload_n 0, 1) := oc_42 (by decide +kernel)
theorem dX12_settle_39 : decode cX12_settle 39 = .ok (.getfield 29, 3) := oc_180 (a := 0) (b := 29) (by decide +kernel)
theorem dX12_settle_42 : decode cX12_settle 42 = .ok (.aload_n 0, 1) := oc_42 (by decide +kernel)
theorem dX12_settle_43 : decode cX12_settle 43 = .ok (.getfield 178, 3) := oc_180 (a := 0) (b := 178) (by decide +kernel)
theorem dX12_settle_46 : decode cX12_settle 46 = .ok (.iaload, 1) := oc_46 (by decide +kernel)
theorem dX12_settle_47 : decode cX12_settle 47 = .ok (.iconst 0, 1) := oc_3 (by decide +kernel)
theorem dX12_settle_48 : decode cX12_settle 48 = .ok (.invokevirtual 188, 3) := oc_182 (a := 0) (b := 188) (by decide +kernel)
theorem dX12_settle_51 : decode cX12_settle 51 = .ok (.goto (-51), 3) := oc_167 (a := 255) (b := 205) (by decide +kernel)
set_option maxRecDepth 100000 in
def g_X12_isWord_x (a0 : Int64) (I : Nat → Int32) (J : Nat → Int64) (ri : Nat → Nat → Int32) (rj : Nat → Nat → Int64) (rq : Nat → Nat → Option Nat) : Int32 × vM := (ap1 (I 393) fun (y_1 : Int32) => (if (y_1) = (2 : Int32) then (ap1 (J 395) fun (y_9 : Int64) => (ap1 (lg_cmp (y_9) a0) fun (x_10 : Int32) => (if x_10 = (0 : Int32) then ((1 : Int32), I, J, ri, rj, rq) else ((0 : Int32), I, J, ri, rj, rq)))) else ((0 : Int32), I, J, ri, rj, rq)))
set_option maxRecDepth 100000 in
theorem g_X12_isWord_x_e {a0 : Int64} {I : Nat → Int32} {J : Nat → Int64} {ri : Nat → Nat → Int32} {rj : Nat → Nat → Int64} {rq : Nat → Nat → Option Nat} : g_X12_isWord_x a0 I J ri rj rq = (ap1 (I 393) fun (y_1 : Int32) => (if (y_1) = (2 : Int32) then (ap1 (J 395) fun (y_9 : Int64) => (ap1 (lg_cmp (y_9) a0) fun (x_10 : Int32) => (if x_10 = (0 : Int32) then ((1 : Int32), I, J, ri, rj, rq) else ((0 : Int32), I, J, ri, rj, rq)))) else ((0 : Int32), I, J, ri, rj, rq))) := rfl
set_option maxHeartbeats 4000000 in
set_option maxRecDepth 100000 in
theorem s_X12_isWord_x (l : Launch) (D : va_G) (t : pq_T) (σ : pq_S) (I : Nat → Nat → Int32) (J : Nat → Nat → Int64) (ri : Nat → Nat → Int32) (rj : Nat → Nat → Int64) (rq : Nat → Nat → Option Nat) (sz : Nat) (tg : Nat → Nat) (hSH : SH σ tg) (hG0 : GT tg I ri) (this : Nat) (a0 : Int64) (hL_this : this ∈ σ.1) (hK_this : σ.2.1 this = 12) : MetI l yX12_isWord (wa yX12_isWord cX12_isWord 3 (some .boolean)) ({ frames := 0, cells := 0, slots := 0, locals := 0 }) [.ref this, .long a0] D t σ (I, J, ri, rj, rq) sz 0 0 (fun (r : Int32) (u : pq_S × pq_M) => u = (σ, I, J, ri, rj, rq) ∧ g_X12_isWord_x a0 (vI 12 σ this I) (vJ 12 σ this J) (vR 12 σ this ri) (vL 12 σ this rj) (vQ 12 σ this rq) = (r, (vI 12 σ this I), (vJ 12 σ this J), (vR 12 σ this ri), (vL 12 σ this rj), (vQ 12 σ this rq)) ∧ ((r = 1 ∧ ((I 393 this).toInt = 2)) ∨ (r = 0 ∧ True))) := by
  refine Met.ofW (cc := cX12_isWord) (maxL := 3) (ret := (some .boolean)) (by decide) rfl ?_
  intro p e s m args below meth c s₁ B hml hv
  obtain ⟨rfl, hsz, hP, hK, hD0, hN⟩ := hv
  have hx := B.exec
  have hb := B.bytes
  have hr := B.returns
  have hts := atoms_spec (ws := (wa yX12_isWord cX12_isWord 3 (some .boolean))) B.pre
  have hown : s.vm.findClass RX12 = some m.cls := findClass_of_methodNamed B.named
  have hlocks := B.notSynchronized
  subst hsz
  have hD : va_D (pq_B t σ (I, J, ri, rj, rq) s.heap.size) (pq_P t σ (I, J, ri, rj, rq)) := hD0.self
  generalize hAe : pq_B t σ (I, J, ri, rj, rq) s.heap.size = A at hD ⊢
  have hA : ∀ q : Nat, s.heap.size ≤ q → A q := fun q h => by rw [← hAe]; exact Or.inr h
  have hS : va_S A s.heap s.heap [] := va_S.rf
  have hG : GM [] tg σ I ri I ri rq := ⟨hG0, fun _ _ _ => rfl, fun _ _ _ _ _ => rfl, fun _ _ _ _ _ _ => rfl⟩
  have hl := lv_entry ([.ref this, .long a0]) (n := 3) (Nat.le_of_ble_eq_true rfl)
  rw [lg_entry_eq]
  generalize (lg_sl ([.ref this, .long a0]) ++ List.replicate (3 - (lg_sl ([.ref this, .long a0])).length) Slot.unset).toArray = ls at hl ⊢
  have hl : lv_has ls 3 [(0, .ref this), (1, .long a0)] := hl
  refine q_gen (fun Q hQ => ?_)
  have go : ∀ (H : Heap) (locs : List Loc) (ls : Array Slot), va_P D vwCl (pq_P t σ (I, J, ri, rj, rq)) H → va_D A (pq_P t σ (I, J, ri, rj, rq)) → va_S A s.heap H locs → lv_has ls 3 [(0, .ref this), (1, .long a0)] → W p l e ({ frames := 0, cells := 0, slots := 0, locals := 0 } : Room) s m (List.toArray ([.ref this, .long a0] : List Value)) below meth c H locs 0 0 Q (F0 m 0 ls []) := by
    intro H locs ls hP hD hS hl
    have hO_this : this = vo σ 12 this := rfl
    have hVT : VT 12 σ tg this := vt_12 hSH hL_this hK_this
    have hFr : FR 12 tg σ this (I, J, ri, rj, rq) (I, J, ri, rj, rq) := fr_rf
    obtain ⟨F, hF0⟩ : ∃ F, F = g_X12_isWord_x a0 (vI 12 σ this I) (vJ 12 σ this J) (vR 12 σ this ri) (vL 12 σ this rj) (vQ 12 σ this rq) := ⟨_, rfl⟩
    have hF := hF0.trans g_X12_isWord_x_e
    refine lv_aload_n hx hb dX12_isWord_0 rfl (lv_at hl 0 rfl) ?_
    refine pg_f (v := .int (I 393 this)) (C := RX12) (T := TX12) (N := 31) hx hb hts (tw_i inlX12) hown hK hP hL_this hK_this (by decide) rfl 9 (by decide) (hts _ (tw_c tw_831)) rfl dX12_isWord_1 ?_
    replace hF := hF.trans (ap_n (vI_e (f := 393) hO_this (by decide)))
    refine lv_iconst (v := 2) hx hb dX12_isWord_4 (by decide) ?_
    refine lv_icmp_ne (tgt := 21) hx hb dX12_isWord_5 (by decide) (fun c_2 => ?_) (fun c_2 => ?_)
    · replace hF := hF.trans (if_neg c_2)
      have tc_6 : (I 393 this).toInt ≠ 2 := fun q => c_2 (Int32.toInt_inj.mp q)
      refine lv_iconst (v := 0) hx hb dX12_isWord_21 (by decide) ?_
      subst hQ
      exact W.zret (v := 0) hx hb hr (by decide) (fun t1 ht hW => ⟨⟨0, (σ, I, J, ri, rj, rq), rfl, ⟨rfl, (hF0.symm.trans hF), (Or.inr ⟨rfl, trivial⟩)⟩, by rw [ht]; exact hP, va_K.moved hW.alike hK, hD⟩, hS.F ht⟩) hS.2.2 dX12_isWord_22
    · replace hF := hF.trans (if_pos c_2)
      have tc_7 : (I 393 this).toInt = 2 := congrArg Int32.toInt c_2
      have h_8 : rg (I 393 this) 2 2 := rg_and (rg_full _) (rg_of_eq c_2 (rg_k (2 : Int32) 2 rfl)) (by decide)
      have uh_8 := h_8.1
      have vh_8 := h_8.2
      refine lv_aload_n hx hb dX12_isWord_8 rfl (lv_at hl 0 rfl) ?_
      refine pg_f (v := .long (J 395 this)) (C := RX12) (T := TX12) (N := 31) hx hb hts (tw_i inlX12) hown hK hP hL_this hK_this (by decide) rfl 11 (by decide) (hts _ (tw_c tw_838)) rfl dX12_isWord_9 ?_
      replace hF := hF.trans (ap_n (vJ_e (f := 395) hO_this (by decide)))
      refine lv_lload_n hx hb dX12_isWord_12 rfl (lv_at hl 1 rfl) ?_
      refine W.lcmp hx hb dX12_isWord_13 ?_
      refine lv_topi (fun x_10 ex_10 => ?_)
      replace hF := hF.trans (ap_n ex_10)
      refine lv_if_ne (tgt := 21) hx hb dX12_isWord_14 (by decide) (fun c_11 => ?_) (fun c_11 => ?_)
      · replace hF := hF.trans (if_neg c_11)
        have tc_15 : (x_10).toInt ≠ 0 := fun q => c_11 (Int32.toInt_inj.mp q)
        refine lv_iconst (v := 0) hx hb dX12_isWord_21 (by decide) ?_
        subst hQ
        exact W.zret (v := 0) hx hb hr (by decide) (fun t1 ht hW => ⟨⟨0, (σ, I, J, ri, rj, rq), rfl, ⟨rfl, (hF0.symm.trans hF), (Or.inr ⟨rfl, trivial⟩)⟩, by rw [ht]; exact hP, va_K.moved hW.alike hK, hD⟩, hS.F ht⟩) hS.2.2 dX12_isWord_22
      · replace hF := hF.trans (if_pos c_11)
        have tc_16 : (x_10).toInt = 0 := congrArg Int32.toInt c_11
        have h_17 : rg x_10 0 0 := rg_and (rg_full _) (rg_of_eq c_11 (rg_k (0 : Int32) 0 rfl)) (by decide)
        have uh_17 := h_17.1
        have vh_17 := h_17.2
        refine lv_iconst (v := 1) hx hb dX12_isWord_17 (by decide) ?_
        refine lv_goto (tgt := 22) hx hb dX12_isWord_18 (by decide) ?_
        subst hQ
        exact W.zret (v := 1) hx hb hr (by decide) (fun t1 ht hW => ⟨⟨1, (σ, I, J, ri, rj, rq), rfl, ⟨rfl, (hF0.symm.trans hF), (Or.inl ⟨rfl, (by omega)⟩)⟩, by rw [ht]; exact hP, va_K.moved hW.alike hK, hD⟩, hS.F ht⟩) hS.2.2 dX12_isWord_22
  exact go _ _ _ hP hD hS hl

set_option maxRecDepth 100000 in
def g_X12_nameOf_x (I : Nat → Int32) (J : Nat → Int64) (ri : Nat → Nat → Int32) (rj : Nat → Nat → Int64) (rq : Nat → Nat → Option Nat) : Int32 × vM := (ap1 (I 393) fun (y_1 : Int32) => (if (y_1) = (2 : Int32) then (ap1 (J 395) fun (y_8 : Int64) => (ap1 (g_X12_w3_x (97 : Int32) (103 : Int32) (101 : Int32)) fun (x_9 : Int64) => (ap1 (lg_cmp (y_8) x_9) fun (x_16 : Int32) => (if x_16 = (0 : Int32) then ((0 : Int32), I, J, ri, rj, rq) else (ap1 (g_X12_w3_x (107 : Int32) (105 : Int32) (110 : Int32)) fun (x_22 : Int64) => (ap1 (lg_cmp (y_8) x_22) fun (x_29 : Int32) => (if x_29 = (0 : Int32) then ((1 : Int32), I, J, ri, rj, rq) else (ap1 (g_X12_w5_x (99 : Int32) (114 : Int32) (97 : Int32) (102 : Int32) (116 : Int32)) fun (x_35 : Int64) => (ap1 (lg_cmp (y_8) x_35) fun (x_42 : Int32) => (if x_42 = (0 : Int32) then ((2 : Int32), I, J, ri, rj, rq) else (ap1 (g_X12_w5_x (112 : Int32) (108 : Int32) (97 : Int32) (99 : Int32) (101 : Int32)) fun (x_48 : Int64) => (ap1 (lg_cmp (y_8) x_48) fun (x_55 : Int32) => (if x_55 = (0 : Int32) then ((3 : Int32), I, J, ri, rj, rq) else (ap1 (g_X12_w5_x (109 : Int32) (111 : Int32) (110 : Int32) (116 : Int32) (104 : Int32)) fun (x_61 : Int64) => (ap1 (lg_cmp (y_8) x_61) fun (x_68 : Int32) => (if x_68 = (0 : Int32) then ((4 : Int32), I, J, ri, rj, rq) else (ap1 (g_X12_w5_x (117 : Int32) (110 : Int32) (100 : Int32) (101 : Int32) (114 : Int32)) fun (x_74 : Int64) => (ap1 (lg_cmp (y_8) x_74) fun (x_81 : Int32) => (if x_81 = (0 : Int32) then ((5 : Int32), I, J, ri, rj, rq) else ((-1 : Int32), I, J, ri, rj, rq)))))))))))))))))))) else ((-1 : Int32), I, J, ri, rj, rq)))
set_option maxRecDepth 100000 in
theorem g_X12_nameOf_x_e {I : Nat → Int32} {J : Nat → Int64} {ri : Nat → Nat → Int32} {rj : Nat → Nat → Int64} {rq : Nat → Nat → Option Nat} : g_X12_nameOf_x I J ri rj rq = (ap1 (I 393) fun (y_1 : Int32) => (if (y_1) = (2 : Int32) then (ap1 (J 395) fun (y_8 : Int64) => (ap1 (g_X12_w3_x (97 : Int32) (103 : Int32) (101 : Int32)) fun (x_9 : Int64) => (ap1 (lg_cmp (y_8) x_9) fun (x_16 : Int32) => (if x_16 = (0 : Int32) then ((0 : Int32), I, J, ri, rj, rq) else (ap1 (g_X12_w3_x (107 : Int32) (105 : Int32) (110 : Int32)) fun (x_22 : Int64) => (ap1 (lg_cmp (y_8) x_22) fun (x_29 : Int32) => (if x_29 = (0 : Int32) then ((1 : Int32), I, J, ri, rj, rq) else (ap1 (g_X12_w5_x (99 : Int32) (114 : Int32) (97 : Int32) (102 : Int32) (116 : Int32)) fun (x_35 : Int64) => (ap1 (lg_cmp (y_8) x_35) fun (x_42 : Int32) => (if x_42 = (0 : Int32) then ((2 : Int32), I, J, ri, rj, rq) else (ap1 (g_X12_w5_x (112 : Int32) (108 : Int32) (97 : Int32) (99 : Int32) (101 : Int32)) fun (x_48 : Int64) => (ap1 (lg_cmp (y_8) x_48) fun (x_55 : Int32) => (if x_55 = (0 : Int32) then ((3 : Int32), I, J, ri, rj, rq) else (ap1 (g_X12_w5_x (109 : Int32) (111 : Int32) (110 : Int32) (116 : Int32) (104 : Int32)) fun (x_61 : Int64) => (ap1 (lg_cmp (y_8) x_61) fun (x_68 : Int32) => (if x_68 = (0 : Int32) then ((4 : Int32), I, J, ri, rj, rq) else (ap1 (g_X12_w5_x (117 : Int32) (110 : Int32) (100 : Int32) (101 : Int32) (114 : Int32)) fun (x_74 : Int64) => (ap1 (lg_cmp (y_8) x_74) fun (x_81 : Int32) => (if x_81 = (0 : Int32) then ((5 : Int32), I, J, ri, rj, rq) else ((-1 : Int32), I, J, ri, rj, rq)))))))))))))))))))) else ((-1 : Int32), I, J, ri, rj, rq))) := rfl
set_option maxHeartbeats 4000000 in
set_option maxRecDepth 100000 in
theorem s_X12_nameOf_x (l : Launch) (D : va_G) (t : pq_T) (σ : pq_S) (I : Nat → Nat → Int32) (J : Nat → Nat → Int64) (ri : Nat → Nat → Int32) (rj : Nat → Nat → Int64) (rq : Nat → Nat → Option Nat) (sz : Nat) (tg : Nat → Nat) (hSH : SH σ tg) (hG0 : GT tg I ri) (this : Nat) (hL_this : this ∈ σ.1) (hK_this : σ.2.1 this = 12) : MetI l yX12_nameOf (wa yX12_nameOf cX12_nameOf 1 (some .int)) ({ frames := 3, cells := 0, slots := 0, locals := 69 }) [.ref this] D t σ (I, J, ri, rj, rq) sz 0 0 (fun (r : Int32) (u : pq_S × pq_M) => u = (σ, I, J, ri, rj, rq) ∧ (r.toInt < 0 ∨ (I 393 this).toInt = 2) ∧ g_X12_nameOf_x (vI 12 σ this I) (vJ 12 σ this J) (vR 12 σ this ri) (vL 12 σ this rj) (vQ 12 σ this rq) = (r, (vI 12 σ this I), (vJ 12 σ this J), (vR 12 σ this ri), (vL 12 σ this rj), (vQ 12 σ this rq)) ∧ rg r (-1) 5) := by
  refine Met.ofW (cc := cX12_nameOf) (maxL := 1) (ret := (some .int)) (by decide) rfl ?_
  intro p e s m args below meth c s₁ B hml hv
  obtain ⟨rfl, hsz, hP, hK, hD0, hN⟩ := hv
  have hx := B.exec
  have hb := B.bytes
  have hr := B.returns
  have hts := atoms_spec (ws := (wa yX12_nameOf cX12_nameOf 1 (some .int))) B.pre
  have hown : s.vm.findClass RX12 = some m.cls := findClass_of_methodNamed B.named
  have hlocks := B.notSynchronized
  subst hsz
  have hD : va_D (pq_B t σ (I, J, ri, rj, rq) s.heap.size) (pq_P t σ (I, J, ri, rj, rq)) := hD0.self
  generalize hAe : pq_B t σ (I, J, ri, rj, rq) s.heap.size = A at hD ⊢
  have hA : ∀ q : Nat, s.heap.size ≤ q → A q := fun q h => by rw [← hAe]; exact Or.inr h
  have hS : va_S A s.heap s.heap [] := va_S.rf
  have hG : GM [] tg σ I ri I ri rq := ⟨hG0, fun _ _ _ => rfl, fun _ _ _ _ _ => rfl, fun _ _ _ _ _ _ => rfl⟩
  have hl := lv_entry ([.ref this]) (n := 1) (Nat.le_of_ble_eq_true rfl)
  rw [lg_entry_eq]
  generalize (lg_sl ([.ref this]) ++ List.replicate (1 - (lg_sl ([.ref this])).length) Slot.unset).toArray = ls at hl ⊢
  have hl : lv_has ls 1 [(0, .ref this)] := hl
  refine q_gen (fun Q hQ => ?_)
  have go : ∀ (H : Heap) (locs : List Loc) (ls : Array Slot), va_P D vwCl (pq_P t σ (I, J, ri, rj, rq)) H → va_D A (pq_P t σ (I, J, ri, rj, rq)) → va_S A s.heap H locs → lv_has ls 1 [(0, .ref this)] → W p l e ({ frames := 3, cells := 0, slots := 0, locals := 69 } : Room) s m (List.toArray ([.ref this] : List Value)) below meth c H locs 0 0 Q (F0 m 0 ls []) := by
    intro H locs ls hP hD hS hl
    have hO_this : this = vo σ 12 this := rfl
    have hVT : VT 12 σ tg this := vt_12 hSH hL_this hK_this
    have hFr : FR 12 tg σ this (I, J, ri, rj, rq) (I, J, ri, rj, rq) := fr_rf
    obtain ⟨F, hF0⟩ : ∃ F, F = g_X12_nameOf_x (vI 12 σ this I) (vJ 12 σ this J) (vR 12 σ this ri) (vL 12 σ this rj) (vQ 12 σ this rq) := ⟨_, rfl⟩
    have hF := hF0.trans g_X12_nameOf_x_e
    refine lv_aload_n hx hb dX12_nameOf_0 rfl (lv_at hl 0 rfl) ?_
    refine pg_f (v := .int (I 393 this)) (C := RX12) (T := TX12) (N := 31) hx hb hts (tw_i inlX12) hown hK hP hL_this hK_this (by decide) rfl 9 (by decide) (hts _ (tw_c tw_831)) rfl dX12_nameOf_1 ?_
    replace hF := hF.trans (ap_n (vI_e (f := 393) hO_this (by decide)))
    refine lv_iconst (v := 2) hx hb dX12_nameOf_4 (by decide) ?_
    refine lv_icmp_eq (tgt := 10) hx hb dX12_nameOf_5 (by decide) (fun c_2 => ?_) (fun c_2 => ?_)
    · replace hF := hF.trans (if_pos c_2)
      have tc_6 : (I 393 this).toInt = 2 := congrArg Int32.toInt c_2
      have h_7 : rg (I 393 this) 2 2 := rg_and (rg_full _) (rg_of_eq c_2 (rg_k (2 : Int32) 2 rfl)) (by decide)
      have uh_7 := h_7.1
      have vh_7 := h_7.2
      refine lv_aload_n hx hb dX12_nameOf_10 rfl (lv_at hl 0 rfl) ?_
      refine pg_f (v := .long (J 395 this)) (C := RX12) (T := TX12) (N := 31) hx hb hts (tw_i inlX12) hown hK hP hL_this hK_this (by decide) rfl 11 (by decide) (hts _ (tw_c tw_838)) rfl dX12_nameOf_11 ?_
      replace hF := hF.trans (ap_n (vJ_e (f := 395) hO_this (by decide)))
      refine lv_bipush (v := 97) hx hb dX12_nameOf_14 (by decide) ?_
      refine lv_bipush (v := 103) hx hb dX12_nameOf_16 (by decide) ?_
      refine lv_bipush (v := 101) hx hb dX12_nameOf_18 (by decide) ?_
      refine pk_l (va_runS (As := [.int 97, .int 103, .int 101]) (rest := [.long (J 395 this)]) ⟨hx, hb, hml, hown, hts⟩ (s_X12_w3_x l D t σ I J ri rj rq H.size tg hSH hG.1 (97 : Int32) (103 : Int32) (101 : Int32)) (va_cwS 3 hts (tw_S tw_864 tw_865 tw_5 tw_866) rfl rfl rfl cd_yX12_w3_3 ⟨Nat.le_of_ble_eq_true rfl, Nat.le_of_ble_eq_true rfl⟩) ⟨pq_blind, pq_pre hK hN hP hD⟩ rfl rfl hl.1 rfl (lv_room (Nat.le_of_ble_eq_true rfl)) dX12_nameOf_20 ⟨Nat.le_of_ble_eq_true rfl, Nat.le_of_ble_eq_true rfl⟩) hD hS hA (fun x_9 σ1 μ1 H locs hw_10 hP hD hS => ?_)
      obtain ⟨hu_11, hfn_14⟩ := hw_10
      obtain ⟨hu_11a, hu_11b⟩ := Prod.mk.inj hu_11
      rw [hu_11a, hu_11b] at hP hD
      replace hF := hF.trans (ap_n hfn_14.symm)
      refine W.lcmp hx hb dX12_nameOf_23 ?_
      refine lv_topi (fun x_16 ex_16 => ?_)
      replace hF := hF.trans (ap_n ex_16)
      refine lv_if_ne (tgt := 29) hx hb dX12_nameOf_24 (by decide) (fun c_17 => ?_) (fun c_17 => ?_)
      · replace hF := hF.trans (if_neg c_17)
        have tc_21 : (x_16).toInt ≠ 0 := fun q => c_17 (Int32.toInt_inj.mp q)
        refine lv_aload_n hx hb dX12_nameOf_29 rfl (lv_at hl 0 rfl) ?_
        refine pg_f (v := .long (J 395 this)) (C := RX12) (T := TX12) (N := 31) hx hb hts (tw_i inlX12) hown hK hP hL_this hK_this (by decide) rfl 11 (by decide) (hts _ (tw_c tw_838)) rfl dX12_nameOf_30 ?_
        refine lv_bipush (v := 107) hx hb dX12_nameOf_33 (by decide) ?_
        refine lv_bipush (v := 105) hx hb dX12_nameOf_35 (by decide) ?_
        refine lv_bipush (v := 110) hx hb dX12_nameOf_37 (by decide) ?_
        refine pk_l (va_runS (As := [.int 107, .int 105, .int 110]) (rest := [.long (J 395 this)]) ⟨hx, hb, hml, hown, hts⟩ (s_X12_w3_x l D t σ I J ri rj rq H.size tg hSH hG.1 (107 : Int32) (105 : Int32) (110 : Int32)) (va_cwS 3 hts (tw_S tw_864 tw_865 tw_5 tw_866) rfl rfl rfl cd_yX12_w3_3 ⟨Nat.le_of_ble_eq_true rfl, Nat.le_of_ble_eq_true rfl⟩) ⟨pq_blind, pq_pre hK hN hP hD⟩ rfl rfl hl.1 rfl (lv_room (Nat.le_of_ble_eq_true rfl)) dX12_nameOf_39 ⟨Nat.le_of_ble_eq_true rfl, Nat.le_of_ble_eq_true rfl⟩) hD hS hA (fun x_22 σ1 μ1 H locs hw_23 hP hD hS => ?_)
        obtain ⟨hu_24, hfn_27⟩ := hw_23
        obtain ⟨hu_24a, hu_24b⟩ := Prod.mk.inj hu_24
        rw [hu_24a, hu_24b] at hP hD
        replace hF := hF.trans (ap_n hfn_27.symm)
        refine W.lcmp hx hb dX12_nameOf_42 ?_
        refine lv_topi (fun x_29 ex_29 => ?_)
        replace hF := hF.trans (ap_n ex_29)
        refine lv_if_ne (tgt := 48) hx hb dX12_nameOf_43 (by decide) (fun c_30 => ?_) (fun c_30 => ?_)
        · replace hF := hF.trans (if_neg c_30)
          have tc_34 : (x_29).toInt ≠ 0 := fun q => c_30 (Int32.toInt_inj.mp q)
          refine lv_aload_n hx hb dX12_nameOf_48 rfl (lv_at hl 0 rfl) ?_
          refine pg_f (v := .long (J 395 this)) (C := RX12) (T := TX12) (N := 31) hx hb hts (tw_i inlX12) hown hK hP hL_this hK_this (by decide) rfl 11 (by decide) (hts _ (tw_c tw_838)) rfl dX12_nameOf_49 ?_
          refine lv_bipush (v := 99) hx hb dX12_nameOf_52 (by decide) ?_
          refine lv_bipush (v := 114) hx hb dX12_nameOf_54 (by decide) ?_
          refine lv_bipush (v := 97) hx hb dX12_nameOf_56 (by decide) ?_
          refine lv_bipush (v := 102) hx hb dX12_nameOf_58 (by decide) ?_
          refine lv_bipush (v := 116) hx hb dX12_nameOf_60 (by decide) ?_
          refine pk_l (va_runS (As := [.int 99, .int 114, .int 97, .int 102, .int 116]) (rest := [.long (J 395 this)]) ⟨hx, hb, hml, hown, hts⟩ (s_X12_w5_x l D t σ I J ri rj rq H.size tg hSH hG.1 (99 : Int32) (114 : Int32) (97 : Int32) (102 : Int32) (116 : Int32)) (va_cwS 5 hts (tw_S tw_858 tw_859 tw_5 tw_860) rfl rfl rfl cd_yX12_w5_5 ⟨Nat.le_of_ble_eq_true rfl, Nat.le_of_ble_eq_true rfl⟩) ⟨pq_blind, pq_pre hK hN hP hD⟩ rfl rfl hl.1 rfl (lv_room (Nat.le_of_ble_eq_true rfl)) dX12_nameOf_62 ⟨Nat.le_of_ble_eq_true rfl, Nat.le_of_ble_eq_true rfl⟩) hD hS hA (fun x_35 σ1 μ1 H locs hw_36 hP hD hS => ?_)
          obtain ⟨hu_37, hfn_40⟩ := hw_36
          obtain ⟨hu_37a, hu_37b⟩ := Prod.mk.inj hu_37
          rw [hu_37a, hu_37b] at hP hD
          replace hF := hF.trans (ap_n hfn_40.symm)
          refine W.lcmp hx hb dX12_nameOf_65 ?_
          refine lv_topi (fun x_42 ex_42 => ?_)
          replace hF := hF.trans (ap_n ex_42)
          refine lv_if_ne (tgt := 71) hx hb dX12_nameOf_66 (by decide) (fun c_43 => ?_) (fun c_43 => ?_)
          · replace hF := hF.trans (if_neg c_43)
            have tc_47 : (x_42).toInt ≠ 0 := fun q => c_43 (Int32.toInt_inj.mp q)
            refine lv_aload_n hx hb dX12_nameOf_71 rfl (lv_at hl 0 rfl) ?_
            refine pg_f (v := .long (J 395 this)) (C := RX12) (T := TX12) (N := 31) hx hb hts (tw_i inlX12) hown hK hP hL_this hK_this (by decide) rfl 11 (by decide) (hts _ (tw_c tw_838)) rfl dX12_nameOf_72 ?_
            refine lv_bipush (v := 112) hx hb dX12_nameOf_75 (by decide) ?_
            refine lv_bipush (v := 108) hx hb dX12_nameOf_77 (by decide) ?_
            refine lv_bipush (v := 97) hx hb dX12_nameOf_79 (by decide) ?_
            refine lv_bipush (v := 99) hx hb dX12_nameOf_81 (by decide) ?_
            refine lv_bipush (v := 101) hx hb dX12_nameOf_83 (by decide) ?_
            refine pk_l (va_runS (As := [.int 112, .int 108, .int 97, .int 99, .int 101]) (rest := [.long (J 395 this)]) ⟨hx, hb, hml, hown, hts⟩ (s_X12_w5_x l D t σ I J ri rj rq H.size tg hSH hG.1 (112 : Int32) (108 : Int32) (97 : Int32) (99 : Int32) (101 : Int32)) (va_cwS 5 hts (tw_S tw_858 tw_859 tw_5 tw_860) rfl rfl rfl cd_yX12_w5_5 ⟨Nat.le_of_ble_eq_true rfl, Nat.le_of_ble_eq_true rfl⟩) ⟨pq_blind, pq_pre hK hN hP hD⟩ rfl rfl hl.1 rfl (lv_room (Nat.le_of_ble_eq_true rfl)) dX12_nameOf_85 ⟨Nat.le_of_ble_eq_true rfl, Nat.le_of_ble_eq_true rfl⟩) hD hS hA (fun x_48 σ1 μ1 H locs hw_49 hP hD hS => ?_)
            obtain ⟨hu_50, hfn_53⟩ := hw_49
            obtain ⟨hu_50a, hu_50b⟩ := Prod.mk.inj hu_50
            rw [hu_50a, hu_50b] at hP hD
            replace hF := hF.trans (ap_n hfn_53.symm)
            refine W.lcmp hx hb dX12_nameOf_88 ?_
            refine lv_topi (fun x_55 ex_55 => ?_)
            replace hF := hF.trans (ap_n ex_55)
            refine lv_if_ne (tgt := 94) hx hb dX12_nameOf_89 (by decide) (fun c_56 => ?_) (fun c_56 => ?_)
            · replace hF := hF.trans (if_neg c_56)
              have tc_60 : (x_55).toInt ≠ 0 := fun q => c_56 (Int32.toInt_inj.mp q)
              refine lv_aload_n hx hb dX12_nameOf_94 rfl (lv_at hl 0 rfl) ?_
              refine pg_f (v := .long (J 395 this)) (C := RX12) (T := TX12) (N := 31) hx hb hts (tw_i inlX12) hown hK hP hL_this hK_this (by decide) rfl 11 (by decide) (hts _ (tw_c tw_838)) rfl dX12_nameOf_95 ?_
              refine lv_bipush (v := 109) hx hb dX12_nameOf_98 (by decide) ?_
              refine lv_bipush (v := 111) hx hb dX12_nameOf_100 (by decide) ?_
              refine lv_bipush (v := 110) hx hb dX12_nameOf_102 (by decide) ?_
              refine lv_bipush (v := 116) hx hb dX12_nameOf_104 (by decide) ?_
              refine lv_bipush (v := 104) hx hb dX12_nameOf_106 (by decide) ?_
              refine pk_l (va_runS (As := [.int 109, .int 111, .int 110, .int 116, .int 104]) (rest := [.long (J 395 this)]) ⟨hx, hb, hml, hown, hts⟩ (s_X12_w5_x l D t σ I J ri rj rq H.size tg hSH hG.1 (109 : Int32) (111 : Int32) (110 : Int32) (116 : Int32) (104 : Int32)) (va_cwS 5 hts (tw_S tw_858 tw_859 tw_5 tw_860) rfl rfl rfl cd_yX12_w5_5 ⟨Nat.le_of_ble_eq_true rfl, Nat.le_of_ble_eq_true rfl⟩) ⟨pq_blind, pq_pre hK hN hP hD⟩ rfl rfl hl.1 rfl (lv_room (Nat.le_of_ble_eq_true rfl)) dX12_nameOf_108 ⟨Nat.le_of_ble_eq_true rfl, Nat.le_of_ble_eq_true rfl⟩) hD hS hA (fun x_61 σ1 μ1 H locs hw_62 hP hD hS => ?_)
              obtain ⟨hu_63, hfn_66⟩ := hw_62
              obtain ⟨hu_63a, hu_63b⟩ := Prod.mk.inj hu_63
              rw [hu_63a, hu_63b] at hP hD
              replace hF := hF.trans (ap_n hfn_66.symm)
              refine W.lcmp hx hb dX12_nameOf_111 ?_
              refine lv_topi (fun x_68 ex_68 => ?_)
              replace hF := hF.trans (ap_n ex_68)
              refine lv_if_ne (tgt := 119) hx hb dX12_nameOf_112 (by decide) (fun c_69 => ?_) (fun c_69 => ?_)
              · replace hF := hF.trans (if_neg c_69)
                have tc_73 : (x_68).toInt ≠ 0 := fun q => c_69 (Int32.toInt_inj.mp q)
                refine lv_aload_n hx hb dX12_nameOf_119 rfl (lv_at hl 0 rfl) ?_
                refine pg_f (v := .long (J 395 this)) (C := RX12) (T := TX12) (N := 31) hx hb hts (tw_i inlX12) hown hK hP hL_this hK_this (by decide) rfl 11 (by decide) (hts _ (tw_c tw_838)) rfl dX12_nameOf_120 ?_
                refine lv_bipush (v := 117) hx hb dX12_nameOf_123 (by decide) ?_
                refine lv_bipush (v := 110) hx hb dX12_nameOf_125 (by decide) ?_
                refine lv_bipush (v := 100) hx hb dX12_nameOf_127 (by decide) ?_
                refine lv_bipush (v := 101) hx hb dX12_nameOf_129 (by decide) ?_
                refine lv_bipush (v := 114) hx hb dX12_nameOf_131 (by decide) ?_
                refine pk_l (va_runS (As := [.int 117, .int 110, .int 100, .int 101, .int 114]) (rest := [.long (J 395 this)]) ⟨hx, hb, hml, hown, hts⟩ (s_X12_w5_x l D t σ I J ri rj rq H.size tg hSH hG.1 (117 : Int32) (110 : Int32) (100 : Int32) (101 : Int32) (114 : Int32)) (va_cwS 5 hts (tw_S tw_858 tw_859 tw_5 tw_860) rfl rfl rfl cd_yX12_w5_5 ⟨Nat.le_of_ble_eq_true rfl, Nat.le_of_ble_eq_true rfl⟩) ⟨pq_blind, pq_pre hK hN hP hD⟩ rfl rfl hl.1 rfl (lv_room (Nat.le_of_ble_eq_true rfl)) dX12_nameOf_133 ⟨Nat.le_of_ble_eq_true rfl, Nat.le_of_ble_eq_true rfl⟩) hD hS hA (fun x_74 σ1 μ1 H locs hw_75 hP hD hS => ?_)
                obtain ⟨hu_76, hfn_79⟩ := hw_75
                obtain ⟨hu_76a, hu_76b⟩ := Prod.mk.inj hu_76
                rw [hu_76a, hu_76b] at hP hD
                replace hF := hF.trans (ap_n hfn_79.symm)
                refine W.lcmp hx hb dX12_nameOf_136 ?_
                refine lv_topi (fun x_81 ex_81 => ?_)
                replace hF := hF.trans (ap_n ex_81)
                refine lv_if_ne (tgt := 144) hx hb dX12_nameOf_137 (by decide) (fun c_82 => ?_) (fun c_82 => ?_)
                · replace hF := hF.trans (if_neg c_82)
                  have tc_86 : (x_81).toInt ≠ 0 := fun q => c_82 (Int32.toInt_inj.mp q)
                  refine lv_iconst (v := (-1)) hx hb dX12_nameOf_144 (by decide) ?_
                  subst hQ
                  exact W.iret (v := (-1)) hx hb hr (fun t1 ht hW => ⟨⟨(-1), (σ, I, J, ri, rj, rq), rfl, ⟨rfl, (by have z9 : ((-1) : Int32).toInt = (-1) := rfl; omega), (hF0.symm.trans hF), (rg_w (rg_k (-1 : Int32) (-1) rfl) (by decide))⟩, by rw [ht]; exact hP, va_K.moved hW.alike hK, hD⟩, hS.F ht⟩) hS.2.2 dX12_nameOf_145
                · replace hF := hF.trans (if_pos c_82)
                  have tc_87 : (x_81).toInt = 0 := congrArg Int32.toInt c_82
                  have h_88 : rg x_81 0 0 := rg_and (rg_full _) (rg_of_eq c_82 (rg_k (0 : Int32) 0 rfl)) (by decide)
                  have uh_88 := h_88.1
                  have vh_88 := h_88.2
                  refine lv_iconst (v := 5) hx hb dX12_nameOf_140 (by decide) ?_
                  refine lv_goto (tgt := 145) hx hb dX12_nameOf_141 (by decide) ?_
                  subst hQ
                  exact W.iret (v := 5) hx hb hr (fun t1 ht hW => ⟨⟨5, (σ, I, J, ri, rj, rq), rfl, ⟨rfl, (by have z9 : (5 : Int32).toInt = 5 := rfl; omega), (hF0.symm.trans hF), (rg_w (rg_k (5 : Int32) 5 rfl) (by decide))⟩, by rw [ht]; exact hP, va_K.moved hW.alike hK, hD⟩, hS.F ht⟩) hS.2.2 dX12_nameOf_145
              · replace hF := hF.trans (if_pos c_69)
                have tc_89 : (x_68).toInt = 0 := congrArg Int32.toInt c_69
                have h_90 : rg x_68 0 0 := rg_and (rg_full _) (rg_of_eq c_69 (rg_k (0 : Int32) 0 rfl)) (by decide)
                have uh_90 := h_90.1
                have vh_90 := h_90.2
                refine lv_iconst (v := 4) hx hb dX12_nameOf_115 (by decide) ?_
                refine lv_goto (tgt := 145) hx hb dX12_nameOf_116 (by decide) ?_
                subst hQ
                exact W.iret (v := 4) hx hb hr (fun t1 ht hW => ⟨⟨4, (σ, I, J, ri, rj, rq), rfl, ⟨rfl, (by have z9 : (4 : Int32).toInt = 4 := rfl; omega), (hF0.symm.trans hF), (rg_w (rg_k (4 : Int32) 4 rfl) (by decide))⟩, by rw [ht]; exact hP, va_K.moved hW.alike hK, hD⟩, hS.F ht⟩) hS.2.2 dX12_nameOf_145
            · replace hF := hF.trans (if_pos c_56)
              have tc_91 : (x_55).toInt = 0 := congrArg Int32.toInt c_56
              have h_92 : rg x_55 0 0 := rg_and (rg_full _) (rg_of_eq c_56 (rg_k (0 : Int32) 0 rfl)) (by decide)
              have uh_92 := h_92.1
              have vh_92 := h_92.2
              refine lv_iconst (v := 3) hx hb dX12_nameOf_92 (by decide) ?_
              subst hQ
              exact W.iret (v := 3) hx hb hr (fun t1 ht hW => ⟨⟨3, (σ, I, J, ri, rj, rq), rfl, ⟨rfl, (by have z9 : (3 : Int32).toInt = 3 := rfl; omega), (hF0.symm.trans hF), (rg_w (rg_k (3 : Int32) 3 rfl) (by decide))⟩, by rw [ht]; exact hP, va_K.moved hW.alike hK, hD⟩, hS.F ht⟩) hS.2.2 dX12_nameOf_93
          · replace hF := hF.trans (if_pos c_43)
            have tc_93 : (x_42).toInt = 0 := congrArg Int32.toInt c_43
            have h_94 : rg x_42 0 0 := rg_and (rg_full _) (rg_of_eq c_43 (rg_k (0 : Int32) 0 rfl)) (by decide)
            have uh_94 := h_94.1
            have vh_94 := h_94.2
            refine lv_iconst (v := 2) hx hb dX12_nameOf_69 (by decide) ?_
            subst hQ
            exact W.iret (v := 2) hx hb hr (fun t1 ht hW => ⟨⟨2, (σ, I, J, ri, rj, rq), rfl, ⟨rfl, (by have z9 : (2 : Int32).toInt = 2 := rfl; omega), (hF0.symm.trans hF), (rg_w (rg_k (2 : Int32) 2 rfl) (by decide))⟩, by rw [ht]; exact hP, va_K.moved hW.alike hK, hD⟩, hS.F ht⟩) hS.2.2 dX12_nameOf_70
        · replace hF := hF.trans (if_pos c_30)
          have tc_95 : (x_29).toInt = 0 := congrArg Int32.toInt c_30
          have h_96 : rg x_29 0 0 := rg_and (rg_full _) (rg_of_eq c_30 (rg_k (0 : Int32) 0 rfl)) (by decide)
          have uh_96 := h_96.1
          have vh_96 := h_96.2
          refine lv_iconst (v := 1) hx hb dX12_nameOf_46 (by decide) ?_
          subst hQ
          exact W.iret (v := 1) hx hb hr (fun t1 ht hW => ⟨⟨1, (σ, I, J, ri, rj, rq), rfl, ⟨rfl, (by have z9 : (1 : Int32).toInt = 1 := rfl; omega), (hF0.symm.trans hF), (rg_w (rg_k (1 : Int32) 1 rfl) (by decide))⟩, by rw [ht]; exact hP, va_K.moved hW.alike hK, hD⟩, hS.F ht⟩) hS.2.2 dX12_nameOf_47
      · replace hF := hF.trans (if_pos c_17)
        have tc_97 : (x_16).toInt = 0 := congrArg Int32.toInt c_17
        have h_98 : rg x_16 0 0 := rg_and (rg_full _) (rg_of_eq c_17 (rg_k (0 : Int32) 0 rfl)) (by decide)
        have uh_98 := h_98.1
        have vh_98 := h_98.2
        refine lv_iconst (v := 0) hx hb dX12_nameOf_27 (by decide) ?_
        subst hQ
        exact W.iret (v := 0) hx hb hr (fun t1 ht hW => ⟨⟨0, (σ, I, J, ri, rj, rq), rfl, ⟨rfl, (by have z9 : (0 : Int32).toInt = 0 := rfl; omega), (hF0.symm.trans hF), (rg_w (rg_k (0 : Int32) 0 rfl) (by decide))⟩, by rw [ht]; exact hP, va_K.moved hW.alike hK, hD⟩, hS.F ht⟩) hS.2.2 dX12_nameOf_28
    · replace hF := hF.trans (if_neg c_2)
      have tc_99 : (I 393 this).toInt ≠ 2 := fun q => c_2 (Int32.toInt_inj.mp q)
      refine lv_iconst (v := (-1)) hx hb dX12_nameOf_8 (by decide) ?_
      subst hQ
      exact W.iret (v := (-1)) hx hb hr (fun t1 ht hW => ⟨⟨(-1), (σ, I, J, ri, rj, rq), rfl, ⟨rfl, (by have z9 : ((-1) : Int32).toInt = (-1) := rfl; omega), (hF0.symm.trans hF), (rg_w (rg_k (-1 : Int32) (-1) rfl) (by decide))⟩, by rw [ht]; exact hP, va_K.moved hW.alike hK, hD⟩, hS.F ht⟩) hS.2.2 dX12_nameOf_9
  exact go _ _ _ hP hD hS hl

set_option maxRecDepth 100000 in
def g_X12_emit (a0 : Int32) (a1 : Int32) (I : Nat → Int32) (J : Nat → Int64) (ri : Nat → Nat → Int32) (rj : Nat → Nat → Int64) (rq : Nat → Nat → Option Nat) : vM := (ap1 (I 396) fun (y_2 : Int32) => (ap1 ((y_2) + (250 : Int32)) fun (x_3 : Int32) => (ap1 (I 398) fun (y_5 : Int32) => (ap1 ((2 : Int32) * (y_5)) fun (x_6 : Int32) => (ap1 (x_3 + x_6) fun (x_8 : Int32) => (ap1 (va_up ri 384 (upd (ri 384) (x_8).toNatClampNeg a0)) fun (r_10 : Nat → Nat → Int32) => (ap1 ((y_2) + (250 : Int32)) fun (x_11 : Int32) => (ap1 ((2 : Int32) * (y_5)) fun (x_13 : Int32) => (ap1 (x_11 + x_13) fun (x_15 : Int32) => (ap1 (x_15 + (1 : Int32)) fun (x_17 : Int32) => (ap1 (va_up r_10 384 (upd (r_10 384) (x_17).toNatClampNeg a1)) fun (r_19 : Nat → Nat → Int32) => (ap1 ((y_5) + (1 : Int32)) fun (x_20 : Int32) => (ap1 (va_up I 398 x_20) fun (I_22 : Nat → Int32) => (I_22, J, r_19, rj, rq))))))))))))))
set_option maxRecDepth 100000 in
theorem g_X12_emit_e {a0 : Int32} {a1 : Int32} {I : Nat → Int32} {J : Nat → Int64} {ri : Nat → Nat → Int32} {rj : Nat → Nat → Int64} {rq : Nat → Nat → Option Nat} : g_X12_emit a0 a1 I J ri rj rq = (ap1 (I 396) fun (y_2 : Int32) => (ap1 ((y_2) + (250 : Int32)) fun (x_3 : Int32) => (ap1 (I 398) fun (y_5 : Int32) => (ap1 ((2 : Int32) * (y_5)) fun (x_6 : Int32) => (ap1 (x_3 + x_6) fun (x_8 : Int32) => (ap1 (va_up ri 384 (upd (ri 384) (x_8).toNatClampNeg a0)) fun (r_10 : Nat → Nat → Int32) => (ap1 ((y_2) + (250 : Int32)) fun (x_11 : Int32) => (ap1 ((2 : Int32) * (y_5)) fun (x_13 : Int32) => (ap1 (x_11 + x_13) fun (x_15 : Int32) => (ap1 (x_15 + (1 : Int32)) fun (x_17 : Int32) => (ap1 (va_up r_10 384 (upd (r_10 384) (x_17).toNatClampNeg a1)) fun (r_19 : Nat → Nat → Int32) => (ap1 ((y_5) + (1 : Int32)) fun (x_20 : Int32) => (ap1 (va_up I 398 x_20) fun (I_22 : Nat → Int32) => (I_22, J, r_19, rj, rq)))))))))))))) := rfl
set_option maxHeartbeats 4000000 in
set_option maxRecDepth 100000 in
theorem s_X12_emit (l : Launch) (D : va_G) (t : pq_T) (σ : pq_S) (I : Nat → Nat → Int32) (J : Nat → Nat → Int64) (ri : Nat → Nat → Int32) (rj : Nat → Nat → Int64) (rq : Nat → Nat → Option Nat) (sz : Nat) (tg : Nat → Nat) (hSH : SH σ tg) (hG0 : GT tg I ri) (this : Nat) (a0 : Int32) (a1 : Int32) (hL_this : this ∈ σ.1) (hK_this : σ.2.1 this = 12) (this_a : Nat) (hR_this_a : σ.2.2.1 384 this = some this_a) (hL_this_a : this_a ∈ σ.1) (hK_this_a : σ.2.1 this_a = 13) (hN_this_a : σ.2.2.2 this_a = 12720) (hT_this_a : tg this_a = 384) (ht0 : (I 396 this).toInt = 3720 + 900 * (ri this_a 6).toInt ∧ 0 ≤ (ri this_a 6).toInt ∧ (ri this_a 6).toInt ≤ 9) (hwr : 0 ≤ (I 398 this).toInt ∧ (I 398 this).toInt ≤ 299) : MetV l yX12_emit (wa yX12_emit cX12_emit 3 none) ({ frames := 0, cells := 0, slots := 0, locals := 0 }) [.ref this, .int a0, .int a1] D t σ (I, J, ri, rj, rq) sz 0 0 (fun (u : pq_S × pq_M) => ∃ I' : Nat → Nat → Int32, ∃ ri' : Nat → Nat → Int32, u = (σ, I', J, ri', rj, rq) ∧ GM [1930, 1931, 398] tg σ I ri I' ri' rq ∧ (∃ v : Int32, I' = pq_u I 398 this v ∧ v.toInt = (I 398 this).toInt + 1) ∧ (∀ j : Nat, (j : Int) < (I 396 this).toInt + 250 + 2 * (I 398 this).toInt → ri' this_a j = ri this_a j) ∧ (ri' this_a ((I 396 this).toInt + 250 + 2 * (I 398 this).toInt).toNat = a0) ∧ (∀ q, q ≠ this_a → ri' q = ri q) ∧ g_X12_emit a0 a1 (vI 12 σ this I) (vJ 12 σ this J) (vR 12 σ this ri) (vL 12 σ this rj) (vQ 12 σ this rq) = ((vI 12 σ this I'), (vJ 12 σ this J), (vR 12 σ this ri'), (vL 12 σ this rj), (vQ 12 σ this rq)) ∧ FR 12 tg σ this (I, J, ri, rj, rq) (I', J, ri', rj, rq)) := by
  refine Met.ofW (cc := cX12_emit) (maxL := 3) (ret := none) (by decide) rfl ?_
  intro p e s m args below meth c s₁ B hml hv
  obtain ⟨rfl, hsz, hP, hK, hD0, hN⟩ := hv
  have hx := B.exec
  have hb := B.bytes
  have hr := B.returns
  have hts := atoms_spec (ws := (wa yX12_emit cX12_emit 3 none)) B.pre
  have hown : s.vm.findClass RX12 = some m.cls := findClass_of_methodNamed B.named
  have hlocks := B.notSynchronized
  subst hsz
  have hD : va_D (pq_B t σ (I, J, ri, rj, rq) s.heap.size) (pq_P t σ (I, J, ri, rj, rq)) := hD0.self
  generalize hAe : pq_B t σ (I, J, ri, rj, rq) s.heap.size = A at hD ⊢
  have hA : ∀ q : Nat, s.heap.size ≤ q → A q := fun q h => by rw [← hAe]; exact Or.inr h
  have hS : va_S A s.heap s.heap [] := va_S.rf
  have hG : GM [1930, 1931, 398] tg σ I ri I ri rq := ⟨hG0, fun _ _ _ => rfl, fun _ _ _ _ _ => rfl, fun _ _ _ _ _ _ => rfl⟩
  have hl := lv_entry ([.ref this, .int a0, .int a1]) (n := 3) (Nat.le_of_ble_eq_true rfl)
  rw [lg_entry_eq]
  generalize (lg_sl ([.ref this, .int a0, .int a1]) ++ List.replicate (3 - (lg_sl ([.ref this, .int a0, .int a1])).length) Slot.unset).toArray = ls at hl ⊢
  have hl : lv_has ls 3 [(0, .ref this), (1, .int a0), (2, .int a1)] := hl
  refine q_gen (fun Q hQ => ?_)
  have go : ∀ (H : Heap) (locs : List Loc) (ls : Array Slot), va_P D vwCl (pq_P t σ (I, J, ri, rj, rq)) H → va_D A (pq_P t σ (I, J, ri, rj, rq)) → va_S A s.heap H locs → lv_has ls 3 [(0, .ref this), (1, .int a0), (2, .int a1)] → W p l e ({ frames := 0, cells := 0, slots := 0, locals := 0 } : Room) s m (List.toArray ([.ref this, .int a0, .int a1] : List Value)) below meth c H locs 0 0 Q (F0 m 0 ls []) := by
    intro H locs ls hP hD hS hl
    have hO_this : this = vo σ 12 this := rfl
    have hVT : VT 12 σ tg this := vt_12 hSH hL_this hK_this
    have hFr : FR 12 tg σ this (I, J, ri, rj, rq) (I, J, ri, rj, rq) := fr_rf
    have hO_this_a : this_a = vrow σ 384 this := vo_k (c := 12) hO_this hR_this_a
    obtain ⟨F, hF0⟩ : ∃ F, F = g_X12_emit a0 a1 (vI 12 σ this I) (vJ 12 σ this J) (vR 12 σ this ri) (vL 12 σ this rj) (vQ 12 σ this rq) := ⟨_, rfl⟩
    have hF := hF0.trans g_X12_emit_e
    have ce6 := clampE (ri this_a 6)
    refine lv_aload_n hx hb dX12_emit_0 rfl (lv_at hl 0 rfl) ?_
    refine pg_f (v := .ref this_a) (C := RX12) (T := TX12) (N := 31) hx hb hts (tw_i inlX12) hown hK hP hL_this hK_this (by decide) rfl 0 (by decide) (hts _ (tw_c tw_176)) (pq_hv rfl hR_this_a) dX12_emit_1 ?_
    refine lv_aload_n hx hb dX12_emit_4 rfl (lv_at hl 0 rfl) ?_
    refine pg_f (v := .int (I 396 this)) (C := RX12) (T := TX12) (N := 31) hx hb hts (tw_i inlX12) hown hK hP hL_this hK_this (by decide) rfl 12 (by decide) (hts _ (tw_c tw_821)) rfl dX12_emit_5 ?_
    have h_1 : rg (I 396 this) 0 11820 := GM.rI hG 396 rfl
    have uh_1 := h_1.1
    have vh_1 := h_1.2
    replace hF := hF.trans (ap_n (vI_e (f := 396) hO_this (by decide)))
    refine lv_sipush (v := 250) hx hb dX12_emit_8 (by decide) ?_
    refine lv_iadd hx hb dX12_emit_11 ?_
    refine lv_topi (fun x_3 ex_3 => ?_)
    replace hF := hF.trans (ap_n ex_3)
    have h_4 : rg x_3 250 12070 := rg_of_eq ex_3 (rg_add h_1 (rg_k (250 : Int32) 250 rfl) (by decide))
    have uh_4 := h_4.1
    have vh_4 := h_4.2
    have tx_3 : (x_3).toInt = (I 396 this).toInt + 250 := by rw [ex_3]; exact i_add_rg (a2 := (I 396 this).toInt) (b2 := 250) rfl rfl h_1 (rg_k (250 : Int32) 250 rfl) (by decide)
    refine lv_iconst (v := 2) hx hb dX12_emit_12 (by decide) ?_
    refine lv_aload_n hx hb dX12_emit_13 rfl (lv_at hl 0 rfl) ?_
    refine pg_f (v := .int (I 398 this)) (C := RX12) (T := TX12) (N := 31) hx hb hts (tw_i inlX12) hown hK hP hL_this hK_this (by decide) rfl 14 (by decide) (hts _ (tw_c tw_827)) rfl dX12_emit_14 ?_
    replace hF := hF.trans (ap_n (vI_e (f := 398) hO_this (by decide)))
    refine lv_imul hx hb dX12_emit_17 ?_
    refine lv_topi (fun x_6 ex_6 => ?_)
    replace hF := hF.trans (ap_n ex_6)
    have h_7 : rg x_6 0 598 := rg_of_eq ex_6 (rg_mul (rg_k (2 : Int32) 2 rfl) ⟨hwr.1, hwr.2⟩ (by decide))
    have uh_7 := h_7.1
    have vh_7 := h_7.2
    have tx_6 : (x_6).toInt = 2 * (I 398 this).toInt := by rw [ex_6]; exact i_mul_rg (a2 := 2) (b2 := (I 398 this).toInt) rfl rfl (rg_k (2 : Int32) 2 rfl) ⟨hwr.1, hwr.2⟩ (by decide)
    refine lv_iadd hx hb dX12_emit_18 ?_
    refine lv_topi (fun x_8 ex_8 => ?_)
    replace hF := hF.trans (ap_n ex_8)
    have h_9 : rg x_8 250 12668 := rg_of_eq ex_8 (rg_add h_4 h_7 (by decide))
    have uh_9 := h_9.1
    have vh_9 := h_9.2
    have tx_8 : (x_8).toInt = (x_3).toInt + (x_6).toInt := by rw [ex_8]; exact i_add_rg (a2 := (x_3).toInt) (b2 := (x_6).toInt) rfl rfl h_4 h_7 (by decide)
    refine lv_iload_n hx hb dX12_emit_19 rfl (lv_at hl 1 rfl) ?_
    refine pt_i hx hb hK hP hD hS hL_this_a hK_this_a hN_this_a (rg_in h_9 (by decide)) dX12_emit_20 (fun r_10 H locs er_10 hP hD hS => ?_)
    replace hFr := fr_R hFr hO_this_a (by decide) er_10
    replace hF := hF.trans (ap_n (vR_st hVT hO_this_a (by decide) er_10))
    have hG := GM.wt hG hT_this_a (by decide) er_10 (zn_tk (t := (ri this_a 6).toNatClampNeg) (c := (I 398 this).toNatClampNeg) (k := 0) (by have z_i := clampE x_8; have z_0 := clampE (ri this_a 6); have z_1 := clampE (I 398 this); omega) (rg_cl1 ⟨ht0.2.1, ht0.2.2⟩ (by decide)) (rg_cl1 ⟨hwr.1, hwr.2⟩ (by decide)) (by decide)) rfl (rg_w (rg_full _) (by decide)) (by have z6 := congrArg Int32.toInt (hG.2.2.1 this_a hT_this_a 6 (by decide) (by decide)); have z_i := clampE x_8; omega) (by decide)
    refine lv_aload_n hx hb dX12_emit_21 rfl (lv_at hl 0 rfl) ?_
    refine pg_f (v := .ref this_a) (C := RX12) (T := TX12) (N := 31) hx hb hts (tw_i inlX12) hown hK hP hL_this hK_this (by decide) rfl 0 (by decide) (hts _ (tw_c tw_176)) (pq_hv rfl hR_this_a) dX12_emit_22 ?_
    refine lv_aload_n hx hb dX12_emit_25 rfl (lv_at hl 0 rfl) ?_
    refine pg_f (v := .int (I 396 this)) (C := RX12) (T := TX12) (N := 31) hx hb hts (tw_i inlX12) hown hK hP hL_this hK_this (by decide) rfl 12 (by decide) (hts _ (tw_c tw_821)) rfl dX12_emit_26 ?_
    refine lv_sipush (v := 250) hx hb dX12_emit_29 (by decide) ?_
    refine lv_iadd hx hb dX12_emit_32 ?_
    refine lv_topi (fun x_11 ex_11 => ?_)
    replace hF := hF.trans (ap_n ex_11)
    have h_12 : rg x_11 250 12070 := rg_of_eq ex_11 (rg_add h_1 (rg_k (250 : Int32) 250 rfl) (by decide))
    have uh_12 := h_12.1
    have vh_12 := h_12.2
    have tx_11 : (x_11).toInt = (I 396 this).toInt + 250 := by rw [ex_11]; exact i_add_rg (a2 := (I 396 this).toInt) (b2 := 250) rfl rfl h_1 (rg_k (250 : Int32) 250 rfl) (by decide)
    refine lv_iconst (v := 2) hx hb dX12_emit_33 (by decide) ?_
    refine lv_aload_n hx hb dX12_emit_34 rfl (lv_at hl 0 rfl) ?_
    refine pg_f (v := .int (I 398 this)) (C := RX12) (T := TX12) (N := 31) hx hb hts (tw_i inlX12) hown hK hP hL_this hK_this (by decide) rfl 14 (by decide) (hts _ (tw_c tw_827)) rfl dX12_emit_35 ?_
    refine lv_imul hx hb dX12_emit_38 ?_
    refine lv_topi (fun x_13 ex_13 => ?_)
    replace hF := hF.trans (ap_n ex_13)
    have h_14 : rg x_13 0 598 := rg_of_eq ex_13 (rg_mul (rg_k (2 : Int32) 2 rfl) ⟨hwr.1, hwr.2⟩ (by decide))
    have uh_14 := h_14.1
    have vh_14 := h_14.2
    have tx_13 : (x_13).toInt = 2 * (I 398 this).toInt := by rw [ex_13]; exact i_mul_rg (a2 := 2) (b2 := (I 398 this).toInt) rfl rfl (rg_k (2 : Int32) 2 rfl) ⟨hwr.1, hwr.2⟩ (by decide)
    refine lv_iadd hx hb dX12_emit_39 ?_
    refine lv_topi (fun x_15 ex_15 => ?_)
    replace hF := hF.trans (ap_n ex_15)
    have h_16 : rg x_15 250 12668 := rg_of_eq ex_15 (rg_add h_12 h_14 (by decide))
    have uh_16 := h_16.1
    have vh_16 := h_16.2
    have tx_15 : (x_15).toInt = (x_11).toInt + (x_13).toInt := by rw [ex_15]; exact i_add_rg (a2 := (x_11).toInt) (b2 := (x_13).toInt) rfl rfl h_12 h_14 (by decide)
    refine lv_iconst (v := 1) hx hb dX12_emit_40 (by decide) ?_
    refine lv_iadd hx hb dX12_emit_41 ?_
    refine lv_topi (fun x_17 ex_17 => ?_)
    replace hF := hF.trans (ap_n ex_17)
    have h_18 : rg x_17 251 12669 := rg_of_eq ex_17 (rg_add h_16 (rg_k (1 : Int32) 1 rfl) (by decide))
    have uh_18 := h_18.1
    have vh_18 := h_18.2
    have tx_17 : (x_17).toInt = (x_15).toInt + 1 := by rw [ex_17]; exact i_add_rg (a2 := (x_15).toInt) (b2 := 1) rfl rfl h_16 (rg_k (1 : Int32) 1 rfl) (by decide)
    refine lv_iload_n hx hb dX12_emit_42 rfl (lv_at hl 2 rfl) ?_
    refine pt_i hx hb hK hP hD hS hL_this_a hK_this_a hN_this_a (rg_in h_18 (by decide)) dX12_emit_43 (fun r_19 H locs er_19 hP hD hS => ?_)
    replace hFr := fr_R hFr hO_this_a (by decide) er_19
    replace hF := hF.trans (ap_n (vR_st hVT hO_this_a (by decide) er_19))
    have hG := GM.wt hG hT_this_a (by decide) er_19 (zn_tk (t := (ri this_a 6).toNatClampNeg) (c := (I 398 this).toNatClampNeg) (k := 1) (by have z_i := clampE x_17; have z_0 := clampE (ri this_a 6); have z_1 := clampE (I 398 this); omega) (rg_cl1 ⟨ht0.2.1, ht0.2.2⟩ (by decide)) (rg_cl1 ⟨hwr.1, hwr.2⟩ (by decide)) (by decide)) rfl (rg_w (rg_full _) (by decide)) (by have z6 := congrArg Int32.toInt (hG.2.2.1 this_a hT_this_a 6 (by decide) (by decide)); have z_i := clampE x_17; omega) (by decide)
    refine lv_aload_n hx hb dX12_emit_44 rfl (lv_at hl 0 rfl) ?_
    refine lv_dup hx hb dX12_emit_45 rfl ?_
    refine pg_f (v := .int (I 398 this)) (C := RX12) (T := TX12) (N := 31) hx hb hts (tw_i inlX12) hown hK hP hL_this hK_this (by decide) rfl 14 (by decide) (hts _ (tw_c tw_827)) rfl dX12_emit_46 ?_
    refine lv_iconst (v := 1) hx hb dX12_emit_49 (by decide) ?_
    refine lv_iadd hx hb dX12_emit_50 ?_
    refine lv_topi (fun x_20 ex_20 => ?_)
    replace hF := hF.trans (ap_n ex_20)
    have h_21 : rg x_20 1 300 := rg_of_eq ex_20 (rg_add ⟨hwr.1, hwr.2⟩ (rg_k (1 : Int32) 1 rfl) (by decide))
    have uh_21 := h_21.1
    have vh_21 := h_21.2
    have tx_20 : (x_20).toInt = (I 398 this).toInt + 1 := by rw [ex_20]; exact i_add_rg (a2 := (I 398 this).toInt) (b2 := 1) rfl rfl ⟨hwr.1, hwr.2⟩ (rg_k (1 : Int32) 1 rfl) (by decide)
    refine pp_i (v := x_20) (ty := .int) (C := RX12) (T := TX12) (N := 31) hx hb hts (tw_i inlX12) tyX12 tyX12_ok nmX12 hown hK hP hD hS hL_this hK_this (by decide) rfl 14 398 (by decide) (hts _ (tw_c tw_827)) rfl (tyX12_ok 14 (by decide)) rfl rfl (Nat.le_of_ble_eq_true rfl) (ps_398 _ _ _ _ _) dX12_emit_51 (fun I_22 H locs eI_22 hP hD hS => ?_)
    replace hFr := fr_I (f := 398) hFr hO_this (by decide) eI_22
    replace hF := hF.trans (ap_n (vI_st (f := 398) hO_this (by decide) eI_22))
    have hG := GM.wI hG 398 rfl eI_22 (rg_w h_21 (by decide)) (by decide)
    have tt_23 : (I_22 398 this).toInt = (x_20).toInt := by rw [eI_22, pq_us]
    have tt_24 : (I_22 396 this).toInt = (I 396 this).toInt := by rw [eI_22, pq_uf _ _ _ (by decide)]
    subst hQ
    exact W.vret hx hb hr (fun t1 ht hW => ⟨⟨(σ, I_22, J, r_19, rj, rq), rfl, ⟨I_22, r_19, rfl, hG, ⟨x_20, eI_22, by omega⟩, (fun j hj => by rw [er_19, er_10, va_up_self, va_up_self]; unfold upd; rw [if_neg (by have z0 := clampE x_8; have z1 := clampE x_17; have z2 := clampE (I 398 this); have z3 := clampE (I 396 this); omega), if_neg (by have z0 := clampE x_8; have z1 := clampE x_17; have z2 := clampE (I 398 this); have z3 := clampE (I 396 this); omega)]), (by rw [er_19, er_10, va_up_self, va_up_self]; unfold upd; rw [if_neg (by have z0 := clampE x_8; have z1 := clampE x_17; have z2 := clampE (I 398 this); have z3 := clampE (I 396 this); omega), if_pos (by have z0 := clampE x_8; have z1 := clampE x_17; have z2 := clampE (I 398 this); have z3 := clampE (I 396 this); omega)]), (fun q hq => (ro_ne er_19 hq).trans (ro_ne er_10 hq)), (hF0.symm.trans hF), hFr⟩, by rw [ht]; exact hP, va_K.moved hW.alike hK, hD⟩, hS.F ht⟩) hS.2.2 dX12_emit_54
  exact go _ _ _ hP hD hS hl

set_option maxRecDepth 100000 in
def g_X12_push (a0 : Int32) (I : Nat → Int32) (J : Nat → Int64) (ri : Nat → Nat → Int32) (rj : Nat → Nat → Int64) (rq : Nat → Nat → Option Nat) : vM := (ap1 (I 401) fun (y_1 : Int32) => (ap1 (va_up ri 400 (upd (ri 400) ((y_1)).toNatClampNeg a0)) fun (r_2 : Nat → Nat → Int32) => (ap1 ((y_1) + (1 : Int32)) fun (x_3 : Int32) => (ap1 (va_up I 401 x_3) fun (I_5 : Nat → Int32) => (I_5, J, r_2, rj, rq)))))
set_option maxRecDepth 100000 in
theorem g_X12_push_e {a0 : Int32} {I : Nat → Int32} {J : Nat → Int64} {ri : Nat → Nat → Int32} {rj : Nat → Nat → Int64} {rq : Nat → Nat → Option Nat} : g_X12_push a0 I J ri rj rq = (ap1 (I 401) fun (y_1 : Int32) => (ap1 (va_up ri 400 (upd (ri 400) ((y_1)).toNatClampNeg a0)) fun (r_2 : Nat → Nat → Int32) => (ap1 ((y_1) + (1 : Int32)) fun (x_3 : Int32) => (ap1 (va_up I 401 x_3) fun (I_5 : Nat → Int32) => (I_5, J, r_2, rj, rq))))) := rfl
set_option maxHeartbeats 4000000 in
set_option maxRecDepth 100000 in
theorem s_X12_push (l : Launch) (D : va_G) (t : pq_T) (σ : pq_S) (I : Nat → Nat → Int32) (J : Nat → Nat → Int64) (ri : Nat → Nat → Int32) (rj : Nat → Nat → Int64) (rq : Nat → Nat → Option Nat) (sz : Nat) (tg : Nat → Nat) (hSH : SH σ tg) (hG0 : GT tg I ri) (this : Nat) (a0 : Int32) (hL_this : this ∈ σ.1) (hK_this : σ.2.1 this = 12) (h_a0 : rg a0 2 40) (this_pile : Nat) (hR_this_pile : σ.2.2.1 400 this = some this_pile) (hL_this_pile : this_pile ∈ σ.1) (hK_this_pile : σ.2.1 this_pile = 13) (hN_this_pile : σ.2.2.2 this_pile = 160) (hT_this_pile : tg this_pile = 400) (hpl : 0 ≤ (I 401 this).toInt ∧ (I 401 this).toInt ≤ 158) : MetV l yX12_push (wa yX12_push cX12_push 2 none) ({ frames := 0, cells := 0, slots := 0, locals := 0 }) [.ref this, .int a0] D t σ (I, J, ri, rj, rq) sz 0 0 (fun (u : pq_S × pq_M) => ∃ I' : Nat → Nat → Int32, ∃ ri' : Nat → Nat → Int32, u = (σ, I', J, ri', rj, rq) ∧ GM [401] tg σ I ri I' ri' rq ∧ (∃ v : Int32, I' = pq_u I 401 this v ∧ v.toInt = (I 401 this).toInt + 1) ∧ (ri' this_pile = upd (ri this_pile) (I 401 this).toInt.toNat a0) ∧ (∀ q, q ≠ this_pile → ri' q = ri q) ∧ g_X12_push a0 (vI 12 σ this I) (vJ 12 σ this J) (vR 12 σ this ri) (vL 12 σ this rj) (vQ 12 σ this rq) = ((vI 12 σ this I'), (vJ 12 σ this J), (vR 12 σ this ri'), (vL 12 σ this rj), (vQ 12 σ this rq)) ∧ FR 12 tg σ this (I, J, ri, rj, rq) (I', J, ri', rj, rq)) := by
  refine Met.ofW (cc := cX12_push) (maxL := 2) (ret := none) (by decide) rfl ?_
  intro p e s m args below meth c s₁ B hml hv
  obtain ⟨rfl, hsz, hP, hK, hD0, hN⟩ := hv
  have hx := B.exec
  have hb := B.bytes
  have hr := B.returns
  have hts := atoms_spec (ws := (wa yX12_push cX12_push 2 none)) B.pre
  have hown : s.vm.findClass RX12 = some m.cls := findClass_of_methodNamed B.named
  have hlocks := B.notSynchronized
  subst hsz
  have hD : va_D (pq_B t σ (I, J, ri, rj, rq) s.heap.size) (pq_P t σ (I, J, ri, rj, rq)) := hD0.self
  generalize hAe : pq_B t σ (I, J, ri, rj, rq) s.heap.size = A at hD ⊢
  have hA : ∀ q : Nat, s.heap.size ≤ q → A q := fun q h => by rw [← hAe]; exact Or.inr h
  have hS : va_S A s.heap s.heap [] := va_S.rf
  have hG : GM [401] tg σ I ri I ri rq := ⟨hG0, fun _ _ _ => rfl, fun _ _ _ _ _ => rfl, fun _ _ _ _ _ _ => rfl⟩
  have hl := lv_entry ([.ref this, .int a0]) (n := 2) (Nat.le_of_ble_eq_true rfl)
  rw [lg_entry_eq]
  generalize (lg_sl ([.ref this, .int a0]) ++ List.replicate (2 - (lg_sl ([.ref this, .int a0])).length) Slot.unset).toArray = ls at hl ⊢
  have hl : lv_has ls 2 [(0, .ref this), (1, .int a0)] := hl
  refine q_gen (fun Q hQ => ?_)
  have go : ∀ (H : Heap) (locs : List Loc) (ls : Array Slot), va_P D vwCl (pq_P t σ (I, J, ri, rj, rq)) H → va_D A (pq_P t σ (I, J, ri, rj, rq)) → va_S A s.heap H locs → lv_has ls 2 [(0, .ref this), (1, .int a0)] → W p l e ({ frames := 0, cells := 0, slots := 0, locals := 0 } : Room) s m (List.toArray ([.ref this, .int a0] : List Value)) below meth c H locs 0 0 Q (F0 m 0 ls []) := by
    intro H locs ls hP hD hS hl
    have hO_this : this = vo σ 12 this := rfl
    have hVT : VT 12 σ tg this := vt_12 hSH hL_this hK_this
    have hFr : FR 12 tg σ this (I, J, ri, rj, rq) (I, J, ri, rj, rq) := fr_rf
    have hO_this_pile : this_pile = vrow σ 400 this := vo_k (c := 12) hO_this hR_this_pile
    obtain ⟨F, hF0⟩ : ∃ F, F = g_X12_push a0 (vI 12 σ this I) (vJ 12 σ this J) (vR 12 σ this ri) (vL 12 σ this rj) (vQ 12 σ this rq) := ⟨_, rfl⟩
    have hF := hF0.trans g_X12_push_e
    refine lv_aload_n hx hb dX12_push_0 rfl (lv_at hl 0 rfl) ?_
    refine pg_f (v := .ref this_pile) (C := RX12) (T := TX12) (N := 31) hx hb hts (tw_i inlX12) hown hK hP hL_this hK_this (by decide) rfl 16 (by decide) (hts _ (tw_c tw_182)) (pq_hv rfl hR_this_pile) dX12_push_1 ?_
    refine lv_aload_n hx hb dX12_push_4 rfl (lv_at hl 0 rfl) ?_
    refine pg_f (v := .int (I 401 this)) (C := RX12) (T := TX12) (N := 31) hx hb hts (tw_i inlX12) hown hK hP hL_this hK_this (by decide) rfl 17 (by decide) (hts _ (tw_c tw_887)) rfl dX12_push_5 ?_
    replace hF := hF.trans (ap_n (vI_e (f := 401) hO_this (by decide)))
    refine lv_iload_n hx hb dX12_push_8 rfl (lv_at hl 1 rfl) ?_
    refine pt_i hx hb hK hP hD hS hL_this_pile hK_this_pile hN_this_pile (rg_in ⟨hpl.1, hpl.2⟩ (by decide)) dX12_push_9 (fun r_2 H locs er_2 hP hD hS => ?_)
    replace hFr := fr_R hFr hO_this_pile (by decide) er_2
    replace hF := hF.trans (ap_n (vR_st hVT hO_this_pile (by decide) er_2))
    have hG := GM.wR hG hSH hT_this_pile rfl er_2 (rg_w h_a0 (by decide)) (by decide)
    refine lv_aload_n hx hb dX12_push_10 rfl (lv_at hl 0 rfl) ?_
    refine lv_dup hx hb dX12_push_11 rfl ?_
    refine pg_f (v := .int (I 401 this)) (C := RX12) (T := TX12) (N := 31) hx hb hts (tw_i inlX12) hown hK hP hL_this hK_this (by decide) rfl 17 (by decide) (hts _ (tw_c tw_887)) rfl dX12_push_12 ?_
    refine lv_iconst (v := 1) hx hb dX12_push_15 (by decide) ?_
    refine lv_iadd hx hb dX12_push_16 ?_
    refine lv_topi (fun x_3 ex_3 => ?_)
    replace hF := hF.trans (ap_n ex_3)
    have h_4 : rg x_3 1 159 := rg_of_eq ex_3 (rg_add ⟨hpl.1, hpl.2⟩ (rg_k (1 : Int32) 1 rfl) (by decide))
    have uh_4 := h_4.1
    have vh_4 := h_4.2
    have tx_3 : (x_3).toInt = (I 401 this).toInt + 1 := by rw [ex_3]; exact i_add_rg (a2 := (I 401 this).toInt) (b2 := 1) rfl rfl ⟨hpl.1, hpl.2⟩ (rg_k (1 : Int32) 1 rfl) (by decide)
    refine pp_i (v := x_3) (ty := .int) (C := RX12) (T := TX12) (N := 31) hx hb hts (tw_i inlX12) tyX12 tyX12_ok nmX12 hown hK hP hD hS hL_this hK_this (by decide) rfl 17 401 (by decide) (hts _ (tw_c tw_887)) rfl (tyX12_ok 17 (by decide)) rfl rfl (Nat.le_of_ble_eq_true rfl) (ps_401 _ _ _ _ _) dX12_push_17 (fun I_5 H locs eI_5 hP hD hS => ?_)
    replace hFr := fr_I (f := 401) hFr hO_this (by decide) eI_5
    replace hF := hF.trans (ap_n (vI_st (f := 401) hO_this (by decide) eI_5))
    have hG := GM.wI hG 401 rfl eI_5 (rg_w h_4 (by decide)) (by decide)
    have tt_6 : (I_5 401 this).toInt = (x_3).toInt := by rw [eI_5, pq_us]
    subst hQ
    exact W.vret hx hb hr (fun t1 ht hW => ⟨⟨(σ, I_5, J, r_2, rj, rq), rfl, ⟨I_5, r_2, rfl, hG, ⟨x_3, eI_5, by omega⟩, ((congrFun er_2 _).trans (va_up_self _ _ _)), (fun q hq => ro_ne er_2 hq), (hF0.symm.trans hF), hFr⟩, by rw [ht]; exact hP, va_K.moved hW.alike hK, hD⟩, hS.F ht⟩) hS.2.2 dX12_push_20
  exact go _ _ _ hP hD hS hl

set_option maxRecDepth 100000 in
def g_X12_whole_L5 (J : Nat → Int64) (rj : Nat → Nat → Int64) (rq : Nat → Nat → Option Nat) : Nat → (Nat → Int32) → (Nat → Nat → Int32) → vM
  | 0, I_203, ri_204 => (I_203, J, ri_204, rj, rq)
  | n_269 + 1, I_203, ri_204 => (ap1 (I_203 401) fun (y_277 : Int32) => (if (y_277) ≤ (0 : Int32) then (I_203, J, ri_204, rj, rq) else (ap1 ((y_277) - (1 : Int32)) fun (x_287 : Int32) => (ap1 (ri_204 400 (x_287).toNatClampNeg) fun (x_289 : Int32) => (if x_289 = (2 : Int32) then (ap1 ((y_277) - (1 : Int32)) fun (x_298 : Int32) => (ap1 (va_up I_203 401 x_298) fun (I_300 : Nat → Int32) => (ap1 (I_300 402) fun (y_309 : Int32) => (ap1 ((y_309) - (1 : Int32)) fun (x_311 : Int32) => (ap1 (va_up I_300 402 x_311) fun (I_313 : Nat → Int32) => (bnV (g_X12_emit (2 : Int32) (0 : Int32) I_313 J ri_204 rj rq) fun (I_324 : Nat → Int32) (_ : Nat → Int64) (ri_325 : Nat → Nat → Int32) (_ : Nat → Nat → Int64) (_ : Nat → Nat → Option Nat) => ((g_X12_whole_L5 J rj rq n_269) I_324 ri_325))))))) else (I_203, J, ri_204, rj, rq))))))
set_option maxRecDepth 100000 in
theorem g_X12_whole_L5_e {J : Nat → Int64} {rj : Nat → Nat → Int64} {rq : Nat → Nat → Option Nat} {n_269 : Nat} {I_203 : Nat → Int32} {ri_204 : Nat → Nat → Int32} : g_X12_whole_L5 J rj rq (n_269 + 1) I_203 ri_204 = (ap1 (I_203 401) fun (y_277 : Int32) => (if (y_277) ≤ (0 : Int32) then (I_203, J, ri_204, rj, rq) else (ap1 ((y_277) - (1 : Int32)) fun (x_287 : Int32) => (ap1 (ri_204 400 (x_287).toNatClampNeg) fun (x_289 : Int32) => (if x_289 = (2 : Int32) then (ap1 ((y_277) - (1 : Int32)) fun (x_298 : Int32) => (ap1 (va_up I_203 401 x_298) fun (I_300 : Nat → Int32) => (ap1 (I_300 402) fun (y_309 : Int32) => (ap1 ((y_309) - (1 : Int32)) fun (x_311 : Int32) => (ap1 (va_up I_300 402 x_311) fun (I_313 : Nat → Int32) => (bnV (g_X12_emit (2 : Int32) (0 : Int32) I_313 J ri_204 rj rq) fun (I_324 : Nat → Int32) (_ : Nat → Int64) (ri_325 : Nat → Nat → Int32) (_ : Nat → Nat → Int64) (_ : Nat → Nat → Option Nat) => ((g_X12_whole_L5 J rj rq n_269) I_324 ri_325))))))) else (I_203, J, ri_204, rj, rq)))))) := rfl
set_option maxRecDepth 100000 in
def g_X12_whole (I : Nat → Int32) (J : Nat → Int64) (ri : Nat → Nat → Int32) (rj : Nat → Nat → Int64) (rq : Nat → Nat → Option Nat) : vM := (ap1 (va_up I 403 (1 : Int32)) fun (I_1 : Nat → Int32) => (ap1 (I_1 401) fun (y_344 : Int32) => (g_X12_whole_L5 J rj rq (((y_344).toInt - 0).toNat + 1) I_1 ri)))
set_option maxRecDepth 100000 in
theorem g_X12_whole_e {I : Nat → Int32} {J : Nat → Int64} {ri : Nat → Nat → Int32} {rj : Nat → Nat → Int64} {rq : Nat → Nat → Option Nat} : g_X12_whole I J ri rj rq = (ap1 (va_up I 403 (1 : Int32)) fun (I_1 : Nat → Int32) => (ap1 (I_1 401) fun (y_344 : Int32) => (g_X12_whole_L5 J rj rq (((y_344).toInt - 0).toNat + 1) I_1 ri))) := rfl
set_option maxHeartbeats 4000000 in
set_option maxRecDepth 100000 in
theorem s_X12_whole (l : Launch) (D : va_G) (t : pq_T) (σ : pq_S) (I : Nat → Nat → Int32) (J : Nat → Nat → Int64) (ri : Nat → Nat → Int32) (rj : Nat → Nat → Int64) (rq : Nat → Nat → Option Nat) (sz : Nat) (tg : Nat → Nat) (hSH : SH σ tg) (hG0 : GT tg I ri) (this : Nat) (hL_this : this ∈ σ.1) (hK_this : σ.2.1 this = 12) (this_a : Nat) (hR_this_a : σ.2.2.1 384 this = some this_a) (hL_this_a : this_a ∈ σ.1) (hK_this_a : σ.2.1 this_a = 13) (hN_this_a : σ.2.2.2 this_a = 12720) (hT_this_a : tg this_a = 384) (this_pile : Nat) (hR_this_pile : σ.2.2.1 400 this = some this_pile) (hL_this_pile : this_pile ∈ σ.1) (hK_this_pile : σ.2.1 this_pile = 13) (hN_this_pile : σ.2.2.2 this_pile = 160) (hT_this_pile : tg this_pile = 400) (bb : Nat) (f0 : Nat → Int32) (fr : Int) (ba : Int) (tb : Int) (nn : Int) (K : Int) (hps : PSz (I 396 this).toInt (I 398 this).toInt (I 401 this).toInt (I 402 this).toInt (I 391 this).toInt (I 393 this).toInt (ri this_a) (ri this_pile) bb f0 fr ba tb nn K 1) : MetV l yX12_whole (wa yX12_whole cX12_whole 1 none) ({ frames := 1, cells := 0, slots := 0, locals := 22 }) [.ref this] D t σ (I, J, ri, rj, rq) sz 0 0 (fun (u : pq_S × pq_M) => ∃ I' : Nat → Nat → Int32, ∃ ri' : Nat → Nat → Int32, u = (σ, I', J, ri', rj, rq) ∧ GM [401, 402, 1930, 1931, 398] tg σ I ri I' ri' rq ∧ (PSz (I' 396 this).toInt (I' 398 this).toInt (I' 401 this).toInt (I' 402 this).toInt (I' 391 this).toInt (I' 393 this).toInt (ri' this_a) (ri' this_pile) bb f0 fr ba tb nn K 1) ∧ ((I' 403 this).toInt = 1) ∧ g_X12_whole (vI 12 σ this I) (vJ 12 σ this J) (vR 12 σ this ri) (vL 12 σ this rj) (vQ 12 σ this rq) = ((vI 12 σ this I'), (vJ 12 σ this J), (vR 12 σ this ri'), (vL 12 σ this rj), (vQ 12 σ this rq)) ∧ FR 12 tg σ this (I, J, ri, rj, rq) (I', J, ri', rj, rq)) := by
  refine Met.ofW (cc := cX12_whole) (maxL := 1) (ret := none) (by decide) rfl ?_
  intro p e s m args below meth c s₁ B hml hv
  obtain ⟨rfl, hsz, hP, hK, hD0, hN⟩ := hv
  have hx := B.exec
  have hb := B.bytes
  have hr := B.returns
  have hts := atoms_spec (ws := (wa yX12_whole cX12_whole 1 none)) B.pre
  have hown : s.vm.findClass RX12 = some m.cls := findClass_of_methodNamed B.named
  have hlocks := B.notSynchronized
  subst hsz
  have hD : va_D (pq_B t σ (I, J, ri, rj, rq) s.heap.size) (pq_P t σ (I, J, ri, rj, rq)) := hD0.self
  generalize hAe : pq_B t σ (I, J, ri, rj, rq) s.heap.size = A at hD ⊢
  have hA : ∀ q : Nat, s.heap.size ≤ q → A q := fun q h => by rw [← hAe]; exact Or.inr h
  have hS : va_S A s.heap s.heap [] := va_S.rf
  have hG : GM [401, 402, 1930, 1931, 398] tg σ I ri I ri rq := ⟨hG0, fun _ _ _ => rfl, fun _ _ _ _ _ => rfl, fun _ _ _ _ _ _ => rfl⟩
  have hl := lv_entry ([.ref this]) (n := 1) (Nat.le_of_ble_eq_true rfl)
  rw [lg_entry_eq]
  generalize (lg_sl ([.ref this]) ++ List.replicate (1 - (lg_sl ([.ref this])).length) Slot.unset).toArray = ls at hl ⊢
  have hl : lv_has ls 1 [(0, .ref this)] := hl
  refine q_gen (fun Q hQ => ?_)
  have go : ∀ (H : Heap) (locs : List Loc) (ls : Array Slot), va_P D vwCl (pq_P t σ (I, J, ri, rj, rq)) H → va_D A (pq_P t σ (I, J, ri, rj, rq)) → va_S A s.heap H locs → lv_has ls 1 [(0, .ref this)] → W p l e ({ frames := 1, cells := 0, slots := 0, locals := 22 } : Room) s m (List.toArray ([.ref this] : List Value)) below meth c H locs 0 0 Q (F0 m 0 ls []) := by
    intro H locs ls hP hD hS hl
    have hO_this : this = vo σ 12 this := rfl
    have hVT : VT 12 σ tg this := vt_12 hSH hL_this hK_this
    have hFr : FR 12 tg σ this (I, J, ri, rj, rq) (I, J, ri, rj, rq) := fr_rf
    have hO_this_a : this_a = vrow σ 384 this := vo_k (c := 12) hO_this hR_this_a
    have hO_this_pile : this_pile = vrow σ 400 this := vo_k (c := 12) hO_this hR_this_pile
    obtain ⟨F, hF0⟩ : ∃ F, F = g_X12_whole (vI 12 σ this I) (vJ 12 σ this J) (vR 12 σ this ri) (vL 12 σ this rj) (vQ 12 σ this rq) := ⟨_, rfl⟩
    have hF := hF0.trans g_X12_whole_e
    refine lv_aload_n hx hb dX12_whole_0 rfl (lv_at hl 0 rfl) ?_
    refine lv_iconst (v := 1) hx hb dX12_whole_1 (by decide) ?_
    refine pp_i (v := 1) (ty := .boolean) (C := RX12) (T := TX12) (N := 31) hx hb hts (tw_i inlX12) tyX12 tyX12_ok nmX12 hown hK hP hD hS hL_this hK_this (by decide) rfl 19 403 (by decide) (hts _ (tw_c tw_888)) rfl (tyX12_ok 19 (by decide)) rfl (by decide) (Nat.le_of_ble_eq_true rfl) (ps_403 _ _ _ _ _) dX12_whole_2 (fun I_1 H locs eI_1 hP hD hS => ?_)
    replace hFr := fr_I (f := 403) hFr hO_this (by decide) eI_1
    replace hF := hF.trans (ap_n (vI_st (f := 403) hO_this (by decide) eI_1))
    have hG := GM.wI hG 403 rfl eI_1 (rg_w (rg_k (1 : Int32) 1 rfl) (by decide)) (by decide)
    have tt_2 : (I_1 396 this).toInt = (I 396 this).toInt := by rw [eI_1, pq_uf _ _ _ (by decide)]
    have tt_3 : (I_1 398 this).toInt = (I 398 this).toInt := by rw [eI_1, pq_uf _ _ _ (by decide)]
    have tt_4 : (I_1 401 this).toInt = (I 401 this).toInt := by rw [eI_1, pq_uf _ _ _ (by decide)]
    have tt_5 : (I_1 402 this).toInt = (I 402 this).toInt := by rw [eI_1, pq_uf _ _ _ (by decide)]
    have tt_6 : (I_1 391 this).toInt = (I 391 this).toInt := by rw [eI_1, pq_uf _ _ _ (by decide)]
    have tt_7 : (I_1 393 this).toInt = (I 393 this).toInt := by rw [eI_1, pq_uf _ _ _ (by decide)]
    have tt_8 : (I_1 403 this).toInt = 1 := by rw [eI_1, pq_us]; rfl
    have tt_9 : (I_1 397 this).toInt = (I 397 this).toInt := by rw [eI_1, pq_uf _ _ _ (by decide)]
    have L_270 : ∀ (n_269 : Nat) (I_203 : Nat → Nat → Int32) (ri_204 : Nat → Nat → Int32) (H : Heap) (locs : List Loc) (ls : Array Slot), ((I_203 403 this).toInt = 1) → (PSz (I_203 396 this).toInt (I_203 398 this).toInt (I_203 401 this).toInt (I_203 402 this).toInt (I_203 391 this).toInt (I_203 393 this).toInt (ri_204 this_a) (ri_204 this_pile) bb f0 fr ba tb nn K 1) → ((I_203 401 this).toInt - 0).toNat < n_269 → F = g_X12_whole_L5 (vJ 12 σ this J) (vL 12 σ this rj) (vQ 12 σ this rq) n_269 (vI 12 σ this I_203) (vR 12 σ this ri_204) → FR 12 tg σ this (I, J, ri, rj, rq) (I_203, J, ri_204, rj, rq) → GM [401, 402, 1930, 1931, 398] tg σ I ri I_203 ri_204 rq → va_P D vwCl (pq_P t σ (I_203, J, ri_204, rj, rq)) H → va_D A (pq_P t σ (I_203, J, ri_204, rj, rq)) → va_S A s.heap H locs → lv_has ls 1 [(0, .ref this)] → W p l e ({ frames := 1, cells := 0, slots := 0, locals := 22 } : Room) s m (List.toArray ([.ref this] : List Value)) below meth c H locs 0 0 Q (F0 m 5 ls []) := by
      intro n_269
      induction n_269 with
      | zero => intro I_203 ri_204 H locs ls hrel_274 hrel_275 hm_268 hF hFr hG hP hD hS hl; exact absurd hm_268 (Nat.not_lt_zero _)
      | succ n_269 ih_271 =>
        intro I_203 ri_204 H locs ls hrel_274 hrel_275 hm_268 hF hFr hG hP hD hS hl
        replace hF := hF.trans g_X12_whole_L5_e
        refine lv_aload_n hx hb dX12_whole_5 rfl (lv_at hl 0 rfl) ?_
        refine pg_f (v := .int (I_203 401 this)) (C := RX12) (T := TX12) (N := 31) hx hb hts (tw_i inlX12) hown hK hP hL_this hK_this (by decide) rfl 17 (by decide) (hts _ (tw_c tw_887)) rfl dX12_whole_6 ?_
        have h_276 : rg (I_203 401 this) 0 160 := GM.rI hG 401 rfl
        have uh_276 := h_276.1
        have vh_276 := h_276.2
        replace hF := hF.trans (ap_n (vI_e (f := 401) hO_this (by decide)))
        refine lv_if_le (tgt := 56) hx hb dX12_whole_9 (by decide) (fun c_278 => ?_) (fun c_278 => ?_)
        · replace hF := hF.trans (if_pos c_278)
          have tc_283 : (I_203 401 this).toInt ≤ 0 := Int32.le_iff_toInt_le.mp c_278
          have h_284 : rg (I_203 401 this) 0 0 := rg_le1 c_278 h_276 (rg_k (0 : Int32) 0 rfl) (by decide)
          have uh_284 := h_284.1
          have vh_284 := h_284.2
          subst hQ
          exact W.vret hx hb hr (fun t1 ht hW => ⟨⟨(σ, I_203, J, ri_204, rj, rq), rfl, ⟨I_203, ri_204, rfl, hG, hrel_275, (by omega), (hF0.symm.trans hF), hFr⟩, by rw [ht]; exact hP, va_K.moved hW.alike hK, hD⟩, hS.F ht⟩) hS.2.2 dX12_whole_56
        · replace hF := hF.trans (if_neg c_278)
          have tc_285 : 0 < (I_203 401 this).toInt := Int32.lt_iff_toInt_lt.mp (nle c_278)
          have h_286 : rg (I_203 401 this) 1 160 := rg_lt2 (nle c_278) (rg_k (0 : Int32) 0 rfl) h_276 (by decide)
          have uh_286 := h_286.1
          have vh_286 := h_286.2
          refine lv_aload_n hx hb dX12_whole_12 rfl (lv_at hl 0 rfl) ?_
          refine pg_f (v := .ref this_pile) (C := RX12) (T := TX12) (N := 31) hx hb hts (tw_i inlX12) hown hK hP hL_this hK_this (by decide) rfl 16 (by decide) (hts _ (tw_c tw_182)) (pq_hv rfl hR_this_pile) dX12_whole_13 ?_
          refine lv_aload_n hx hb dX12_whole_16 rfl (lv_at hl 0 rfl) ?_
          refine pg_f (v := .int (I_203 401 this)) (C := RX12) (T := TX12) (N := 31) hx hb hts (tw_i inlX12) hown hK hP hL_this hK_this (by decide) rfl 17 (by decide) (hts _ (tw_c tw_887)) rfl dX12_whole_17 ?_
          refine lv_iconst (v := 1) hx hb dX12_whole_20 (by decide) ?_
          refine lv_isub hx hb dX12_whole_21 ?_
          refine lv_topi (fun x_287 ex_287 => ?_)
          replace hF := hF.trans (ap_n ex_287)
          have h_288 : rg x_287 0 159 := rg_of_eq ex_287 (rg_sub h_286 (rg_k (1 : Int32) 1 rfl) (by decide))
          have uh_288 := h_288.1
          have vh_288 := h_288.2
          have tx_287 : (x_287).toInt = (I_203 401 this).toInt - 1 := by rw [ex_287]; exact i_sub_rg (a2 := (I_203 401 this).toInt) (b2 := 1) rfl rfl h_286 (rg_k (1 : Int32) 1 rfl) (by decide)
          refine pl_i hx hb hK hP hL_this_pile hK_this_pile hN_this_pile (rg_in h_288 (by decide)) dX12_whole_22 ?_
          refine lv_topi (fun x_289 ex_289 => ?_)
          replace hF := hF.trans (ap_n (vR_r hO_this_pile (by decide) ex_289))
          have ex_289 : x_289 = ri_204 this_pile (x_287).toNatClampNeg := ex_289
          have h_290 : rg x_289 0 40 := rg_of_eq ex_289 (GM.rR hG hT_this_pile rfl)
          have uh_290 := h_290.1
          have vh_290 := h_290.2
          refine lv_iconst (v := 2) hx hb dX12_whole_23 (by decide) ?_
          refine lv_icmp_ne (tgt := 56) hx hb dX12_whole_24 (by decide) (fun c_291 => ?_) (fun c_291 => ?_)
          · replace hF := hF.trans (if_neg c_291)
            have tc_295 : (x_289).toInt ≠ 2 := fun q => c_291 (Int32.toInt_inj.mp q)
            subst hQ
            exact W.vret hx hb hr (fun t1 ht hW => ⟨⟨(σ, I_203, J, ri_204, rj, rq), rfl, ⟨I_203, ri_204, rfl, hG, hrel_275, (by omega), (hF0.symm.trans hF), hFr⟩, by rw [ht]; exact hP, va_K.moved hW.alike hK, hD⟩, hS.F ht⟩) hS.2.2 dX12_whole_56
          · replace hF := hF.trans (if_pos c_291)
            have tc_296 : (x_289).toInt = 2 := congrArg Int32.toInt c_291
            have h_297 : rg x_289 2 2 := rg_and h_290 (rg_of_eq c_291 (rg_k (2 : Int32) 2 rfl)) (by decide)
            have uh_297 := h_297.1
            have vh_297 := h_297.2
            refine lv_aload_n hx hb dX12_whole_27 rfl (lv_at hl 0 rfl) ?_
            refine lv_dup hx hb dX12_whole_28 rfl ?_
            refine pg_f (v := .int (I_203 401 this)) (C := RX12) (T := TX12) (N := 31) hx hb hts (tw_i inlX12) hown hK hP hL_this hK_this (by decide) rfl 17 (by decide) (hts _ (tw_c tw_887)) rfl dX12_whole_29 ?_
            refine lv_iconst (v := 1) hx hb dX12_whole_32 (by decide) ?_
            refine lv_isub hx hb dX12_whole_33 ?_
            refine lv_topi (fun x_298 ex_298 => ?_)
            replace hF := hF.trans (ap_n ex_298)
            have h_299 : rg x_298 0 159 := rg_of_eq ex_298 (rg_sub h_286 (rg_k (1 : Int32) 1 rfl) (by decide))
            have uh_299 := h_299.1
            have vh_299 := h_299.2
            have tx_298 : (x_298).toInt = (I_203 401 this).toInt - 1 := by rw [ex_298]; exact i_sub_rg (a2 := (I_203 401 this).toInt) (b2 := 1) rfl rfl h_286 (rg_k (1 : Int32) 1 rfl) (by decide)
            refine pp_i (v := x_298) (ty := .int) (C := RX12) (T := TX12) (N := 31) hx hb hts (tw_i inlX12) tyX12 tyX12_ok nmX12 hown hK hP hD hS hL_this hK_this (by decide) rfl 17 401 (by decide) (hts _ (tw_c tw_887)) rfl (tyX12_ok 17 (by decide)) rfl rfl (Nat.le_of_ble_eq_true rfl) (ps_401 _ _ _ _ _) dX12_whole_34 (fun I_300 H locs eI_300 hP hD hS => ?_)
            replace hFr := fr_I (f := 401) hFr hO_this (by decide) eI_300
            replace hF := hF.trans (ap_n (vI_st (f := 401) hO_this (by decide) eI_300))
            have hG := GM.wI hG 401 rfl eI_300 (rg_w h_299 (by decide)) (by decide)
            have tt_301 : (I_300 396 this).toInt = (I_203 396 this).toInt := by rw [eI_300, pq_uf _ _ _ (by decide)]
            have tt_302 : (I_300 398 this).toInt = (I_203 398 this).toInt := by rw [eI_300, pq_uf _ _ _ (by decide)]
            have tt_303 : (I_300 401 this).toInt = (x_298).toInt := by rw [eI_300, pq_us]
            have tt_304 : (I_300 402 this).toInt = (I_203 402 this).toInt := by rw [eI_300, pq_uf _ _ _ (by decide)]
            have tt_305 : (I_300 391 this).toInt = (I_203 391 this).toInt := by rw [eI_300, pq_uf _ _ _ (by decide)]
            have tt_306 : (I_300 393 this).toInt = (I_203 393 this).toInt := by rw [eI_300, pq_uf _ _ _ (by decide)]
            have tt_307 : (I_300 403 this).toInt = (I_203 403 this).toInt := by rw [eI_300, pq_uf _ _ _ (by decide)]
            have tt_308 : (I_300 397 this).toInt = (I_203 397 this).toInt := by rw [eI_300, pq_uf _ _ _ (by decide)]
            refine lv_aload_n hx hb dX12_whole_37 rfl (lv_at hl 0 rfl) ?_
            refine lv_dup hx hb dX12_whole_38 rfl ?_
            refine pg_f (v := .int (I_300 402 this)) (C := RX12) (T := TX12) (N := 31) hx hb hts (tw_i inlX12) hown hK hP hL_this hK_this (by decide) rfl 18 (by decide) (hts _ (tw_c tw_828)) rfl dX12_whole_39 ?_
            replace hF := hF.trans (ap_n (vI_e (f := 402) hO_this (by decide)))
            have hq0 := PSz_bd hrel_275
            have h_310 : rg (I_300 402 this) 0 8 := ⟨by omega, by omega⟩
            have uh_310 := h_310.1
            have vh_310 := h_310.2
            refine lv_iconst (v := 1) hx hb dX12_whole_42 (by decide) ?_
            refine lv_isub hx hb dX12_whole_43 ?_
            refine lv_topi (fun x_311 ex_311 => ?_)
            replace hF := hF.trans (ap_n ex_311)
            have h_312 : rg x_311 (-1) 7 := rg_of_eq ex_311 (rg_sub h_310 (rg_k (1 : Int32) 1 rfl) (by decide))
            have uh_312 := h_312.1
            have vh_312 := h_312.2
            have tx_311 : (x_311).toInt = (I_300 402 this).toInt - 1 := by rw [ex_311]; exact i_sub_rg (a2 := (I_300 402 this).toInt) (b2 := 1) rfl rfl h_310 (rg_k (1 : Int32) 1 rfl) (by decide)
            refine pp_i (v := x_311) (ty := .int) (C := RX12) (T := TX12) (N := 31) hx hb hts (tw_i inlX12) tyX12 tyX12_ok nmX12 hown hK hP hD hS hL_this hK_this (by decide) rfl 18 402 (by decide) (hts _ (tw_c tw_828)) rfl (tyX12_ok 18 (by decide)) rfl rfl (Nat.le_of_ble_eq_true rfl) (ps_402 _ _ _ _ _) dX12_whole_44 (fun I_313 H locs eI_313 hP hD hS => ?_)
            replace hFr := fr_I (f := 402) hFr hO_this (by decide) eI_313
            replace hF := hF.trans (ap_n (vI_st (f := 402) hO_this (by decide) eI_313))
            have hG := GM.wI hG 402 rfl eI_313 (rg_w h_312 (by decide)) (by decide)
            have tt_314 : (I_313 396 this).toInt = (I_300 396 this).toInt := by rw [eI_313, pq_uf _ _ _ (by decide)]
            have tt_315 : (I_313 398 this).toInt = (I_300 398 this).toInt := by rw [eI_313, pq_uf _ _ _ (by decide)]
            have tt_316 : (I_313 401 this).toInt = (I_300 401 this).toInt := by rw [eI_313, pq_uf _ _ _ (by decide)]
            have tt_317 : (I_313 402 this).toInt = (x_311).toInt := by rw [eI_313, pq_us]
            have tt_318 : (I_313 391 this).toInt = (I_300 391 this).toInt := by rw [eI_313, pq_uf _ _ _ (by decide)]
            have tt_319 : (I_313 393 this).toInt = (I_300 393 this).toInt := by rw [eI_313, pq_uf _ _ _ (by decide)]
            have tt_320 : (I_313 403 this).toInt = (I_300 403 this).toInt := by rw [eI_313, pq_uf _ _ _ (by decide)]
            have tt_321 : (I_313 397 this).toInt = (I_300 397 this).toInt := by rw [eI_313, pq_uf _ _ _ (by decide)]
            refine lv_aload_n hx hb dX12_whole_47 rfl (lv_at hl 0 rfl) ?_
            refine lv_iconst (v := 2) hx hb dX12_whole_48 (by decide) ?_
            refine lv_iconst (v := 0) hx hb dX12_whole_49 (by decide) ?_
            have hq1 := PSz_t hrel_275
            have hq2 := PSz_w hrel_275 (Or.inr (by omega))
            refine pk_v (va_runV (As := [.int 2, .int 0]) (rest := []) ⟨hx, hb, hml, hown, hts⟩ (s_X12_emit l D t σ I_313 J ri_204 rj rq H.size tg hSH hG.1 this (2 : Int32) (0 : Int32) hL_this hK_this this_a hR_this_a hL_this_a hK_this_a hN_this_a hT_this_a (by omega) (by omega)) (cwV 2 hts (tw_V tw_905 tw_906 tw_907 tw_5 tw_908) rfl rfl rfl cv_yX12_emit_2 ⟨Nat.le_of_ble_eq_true rfl, Nat.le_of_ble_eq_true rfl⟩) ⟨pq_blind, pq_recv hK hP hL_this hK_this (by decide) rfl, pq_pre hK hN hP hD⟩ rfl rfl hl.1 rfl (lv_room (Nat.le_of_ble_eq_true rfl)) dX12_whole_50 ⟨Nat.le_of_ble_eq_true rfl, Nat.le_of_ble_eq_true rfl⟩) hD hS hA (fun σ1 μ1 H locs hw_323 hP hD hS => ?_)
            obtain ⟨I_324, ri_325, hu_326, hg_327, hp_329, hp_330, hp_331, hp_332, hfn_333, hfr_334⟩ := hw_323
            obtain ⟨hu_326a, hu_326b⟩ := Prod.mk.inj hu_326
            rw [hu_326a, hu_326b] at hP hD
            replace hF := hF.trans (bv_n hfn_333)
            replace hFr := fr_tr hFr hfr_334
            obtain ⟨v_335, ev_335, hv_335⟩ := hp_329
            have tt_336 : (I_324 398 this).toInt = (I_313 398 this).toInt + 1 := by rw [ev_335, pq_us]; exact hv_335
            have tt_337 : (I_324 403 this).toInt = (I_313 403 this).toInt := by rw [ev_335, pq_uf _ _ _ (by decide)]
            have hG := GM.tr hG hg_327 (by decide)
            have tt_338 : (I_324 396 this).toInt = (I_313 396 this).toInt := by rw [hg_327.2.1 396 (by decide) (by decide)]
            have tt_339 : (I_324 401 this).toInt = (I_313 401 this).toInt := by rw [hg_327.2.1 401 (by decide) (by decide)]
            have tt_340 : (I_324 402 this).toInt = (I_313 402 this).toInt := by rw [hg_327.2.1 402 (by decide) (by decide)]
            have tt_341 : (I_324 391 this).toInt = (I_313 391 this).toInt := by rw [hg_327.2.1 391 (by decide) (by decide)]
            have tt_342 : (I_324 393 this).toInt = (I_313 393 this).toInt := by rw [hg_327.2.1 393 (by decide) (by decide)]
            have tt_343 : (I_324 397 this).toInt = (I_313 397 this).toInt := by rw [hg_327.2.1 397 (by decide) (by decide)]
            refine lv_goto (tgt := 5) hx hb dX12_whole_53 (by decide) ?_
            exact ih_271 I_324 ri_325 _ _ _ (by omega) (PSz_popO hrel_275 (by omega) (by rw [show (I_203 401 this).toInt.toNat - 1 = (x_287).toNatClampNeg from by have z0 := clampE x_287; omega, ← ex_289]; omega) (x := (2 : Int32)) rfl (fun j hj => hp_330 j (by omega)) (by rw [show (I_203 396 this).toInt + 250 + 2 * (I_203 398 this).toInt = (I_313 396 this).toInt + 250 + 2 * (I_313 398 this).toInt from by omega]; exact hp_331) (by omega) (by omega) (by omega) (by omega) (by omega) (by omega) (hp_332 this_pile (tg_ne hT_this_pile hT_this_a (by decide)))) (ms_fd_isub hm_268 ((congrFun (hg_327.2.1 401 (by decide) (by decide)) this).trans ((congrFun (show I_313 401 = I_300 401 from by rw [eI_313]; exact pq_uf _ _ _ (by decide)) this).trans (by rw [eI_300]; exact pq_us _ _ _ _))) ex_298 rfl (kk := 1) rfl (by decide) h_286 (by decide) (by decide)) hF hFr hG hP hD hS (lv_sub hl [0] rfl)
    replace hF := hF.trans (ap_n (vI_e (f := 401) hO_this (by decide)))
    exact L_270 _ I_1 ri _ _ _ (by omega) (PSz_cg hps (by omega) (by omega) (by omega) (by omega) (by omega) (by omega) rfl rfl) (Nat.lt_succ_self _) hF hFr hG hP hD hS (lv_sub hl [0] rfl)
  exact go _ _ _ hP hD hS hl

set_option maxRecDepth 100000 in
def g_X12_settle_L0 (a0 : Int32) (J : Nat → Int64) (rj : Nat → Nat → Int64) (rq : Nat → Nat → Option Nat) : Nat → (Nat → Int32) → (Nat → Nat → Int32) → vM
  | 0, I_309, ri_310 => (I_309, J, ri_310, rj, rq)
  | n_385 + 1, I_309, ri_310 => (ap1 (I_309 401) fun (y_397 : Int32) => (if (y_397) ≤ (0 : Int32) then (I_309, J, ri_310, rj, rq) else (ap1 ((y_397) - (1 : Int32)) fun (x_407 : Int32) => (ap1 (ri_310 400 (x_407).toNatClampNeg) fun (x_409 : Int32) => (ap1 (g_X12_isIn_x x_409 a0 (6 : Int32)) fun (x_411 : Int32) => (if x_411 = (0 : Int32) then (I_309, J, ri_310, rj, rq) else (ap1 ((y_397) - (1 : Int32)) fun (x_444 : Int32) => (ap1 (va_up I_309 401 x_444) fun (I_446 : Nat → Int32) => (ap1 (I_446 401) fun (y_456 : Int32) => (ap1 (ri_310 400 ((y_456)).toNatClampNeg) fun (x_457 : Int32) => (bnV (g_X12_emit x_457 (0 : Int32) I_446 J ri_310 rj rq) fun (I_461 : Nat → Int32) (_ : Nat → Int64) (ri_462 : Nat → Nat → Int32) (_ : Nat → Nat → Int64) (_ : Nat → Nat → Option Nat) => ((g_X12_settle_L0 a0 J rj rq n_385) I_461 ri_462))))))))))))
set_option maxRecDepth 100000 in
theorem g_X12_settle_L0_e {a0 : Int32} {J : Nat → Int64} {rj : Nat → Nat → Int64} {rq : Nat → Nat → Option Nat} {n_385 : Nat} {I_309 : Nat → Int32} {ri_310 : Nat → Nat → Int32} : g_X12_settle_L0 a0 J rj rq (n_385 + 1) I_309 ri_310 = (ap1 (I_309 401) fun (y_397 : Int32) => (if (y_397) ≤ (0 : Int32) then (I_309, J, ri_310, rj, rq) else (ap1 ((y_397) - (1 : Int32)) fun (x_407 : Int32) => (ap1 (ri_310 400 (x_407).toNatClampNeg) fun (x_409 : Int32) => (ap1 (g_X12_isIn_x x_409 a0 (6 : Int32)) fun (x_411 : Int32) => (if x_411 = (0 : Int32) then (I_309, J, ri_310, rj, rq) else (ap1 ((y_397) - (1 : Int32)) fun (x_444 : Int32) => (ap1 (va_up I_309 401 x_444) fun (I_446 : Nat → Int32) => (ap1 (I_446 401) fun (y_456 : Int32) => (ap1 (ri_310 400 ((y_456)).toNatClampNeg) fun (x_457 : Int32) => (bnV (g_X12_emit x_457 (0 : Int32) I_446 J ri_310 rj rq) fun (I_461 : Nat → Int32) (_ : Nat → Int64) (ri_462 : Nat → Nat → Int32) (_ : Nat → Nat → Int64) (_ : Nat → Nat → Option Nat) => ((g_X12_settle_L0 a0 J rj rq n_385) I_461 ri_462)))))))))))) := rfl
set_option maxRecDepth 100000 in
def g_X12_settle (a0 : Int32) (I : Nat → Int32) (J : Nat → Int64) (ri : Nat → Nat → Int32) (rj : Nat → Nat → Int64) (rq : Nat → Nat → Option Nat) : vM := (ap1 (I 401) fun (y_2 : Int32) => (if (y_2) ≤ (0 : Int32) then (I, J, ri, rj, rq) else (ap1 ((y_2) - (1 : Int32)) fun (x_12 : Int32) => (ap1 (ri 400 (x_12).toNatClampNeg) fun (x_14 : Int32) => (ap1 (g_X12_isIn_x x_14 a0 (6 : Int32)) fun (x_16 : Int32) => (if x_16 = (0 : Int32) then (I, J, ri, rj, rq) else (ap1 ((y_2) - (1 : Int32)) fun (x_49 : Int32) => (ap1 (va_up I 401 x_49) fun (I_51 : Nat → Int32) => (ap1 (I_51 401) fun (y_61 : Int32) => (ap1 (ri 400 ((y_61)).toNatClampNeg) fun (x_62 : Int32) => (bnV (g_X12_emit x_62 (0 : Int32) I_51 J ri rj rq) fun (I_66 : Nat → Int32) (_ : Nat → Int64) (ri_67 : Nat → Nat → Int32) (_ : Nat → Nat → Int64) (_ : Nat → Nat → Option Nat) => (ap1 (I_66 401) fun (y_481 : Int32) => (g_X12_settle_L0 a0 J rj rq (((y_481).toInt - 0).toNat + 1) I_66 ri_67)))))))))))))
set_option maxRecDepth 100000 in
theorem g_X12_settle_e {a0 : Int32} {I : Nat → Int32} {J : Nat → Int64} {ri : Nat → Nat → Int32} {rj : Nat → Nat → Int64} {rq : Nat → Nat → Option Nat} : g_X12_settle a0 I J ri rj rq = (ap1 (I 401) fun (y_2 : Int32) => (if (y_2) ≤ (0 : Int32) then (I, J, ri, rj, rq) else (ap1 ((y_2) - (1 : Int32)) fun (x_12 : Int32) => (ap1 (ri 400 (x_12).toNatClampNeg) fun (x_14 : Int32) => (ap1 (g_X12_isIn_x x_14 a0 (6 : Int32)) fun (x_16 : Int32) => (if x_16 = (0 : Int32) then (I, J, ri, rj, rq) else (ap1 ((y_2) - (1 : Int32)) fun (x_49 : Int32) => (ap1 (va_up I 401 x_49) fun (I_51 : Nat → Int32) => (ap1 (I_51 401) fun (y_61 : Int32) => (ap1 (ri 400 ((y_61)).toNatClampNeg) fun (x_62 : Int32) => (bnV (g_X12_emit x_62 (0 : Int32) I_51 J ri rj rq) fun (I_66 : Nat → Int32) (_ : Nat → Int64) (ri_67 : Nat → Nat → Int32) (_ : Nat → Nat → Int64) (_ : Nat → Nat → Option Nat) => (ap1 (I_66 401) fun (y_481 : Int32) => (g_X12_settle_L0 a0 J rj rq (((y_481).toInt - 0).toNat + 1) I_66 ri_67))))))))))))) := rfl
set_option maxHeartbeats 4000000 in
set_option maxRecDepth 100000 in
theorem s_X12_settle (l : Launch) (D : va_G) (t : pq_T) (σ : pq_S) (I : Nat → Nat → Int32) (J : Nat → Nat → Int64) (ri : Nat → Nat → Int32) (rj : Nat → Nat → Int64) (rq : Nat → Nat → Option Nat) (sz : Nat) (tg : Nat → Nat) (hSH : SH σ tg) (hG0 : GT tg I ri) (this : Nat) (a0 : Int32) (hL_this : this ∈ σ.1) (hK_this : σ.2.1 this = 12) (h_a0 : rg a0 3 5) (this_a : Nat) (hR_this_a : σ.2.2.1 384 this = some this_a) (hL_this_a : this_a ∈ σ.1) (hK_this_a : σ.2.1 this_a = 13) (hN_this_a : σ.2.2.2 this_a = 12720) (hT_this_a : tg this_a = 384) (this_pile : Nat) (hR_this_pile : σ.2.2.1 400 this = some this_pile) (hL_this_pile : this_pile ∈ σ.1) (hK_this_pile : σ.2.1 this_pile = 13) (hN_this_pile : σ.2.2.2 this_pile = 160) (hT_this_pile : tg this_pile = 400) (bb : Nat) (f0 : Nat → Int32) (fr : Int) (ba : Int) (tb : Int) (nn : Int) (K : Int) (hps : PSz (I 396 this).toInt (I 398 this).toInt (I 401 this).toInt (I 402 this).toInt (I 391 this).toInt (I 393 this).toInt (ri this_a) (ri this_pile) bb f0 fr ba tb nn K 1) : MetV l yX12_settle (wa yX12_settle cX12_settle 2 none) ({ frames := 1, cells := 0, slots := 0, locals := 22 }) [.ref this, .int a0] D t σ (I, J, ri, rj, rq) sz 0 0 (fun (u : pq_S × pq_M) => ∃ I' : Nat → Nat → Int32, ∃ ri' : Nat → Nat → Int32, u = (σ, I', J, ri', rj, rq) ∧ GM [401, 1930, 1931, 398] tg σ I ri I' ri' rq ∧ (PSz (I' 396 this).toInt (I' 398 this).toInt (I' 401 this).toInt (I' 402 this).toInt (I' 391 this).toInt (I' 393 this).toInt (ri' this_a) (ri' this_pile) bb f0 fr ba tb nn K 1) ∧ ((I' 401 this).toInt = 0 ∨ (ri' this_pile ((I' 401 this).toInt.toNat - 1)).toInt < a0.toInt ∨ 6 < (ri' this_pile ((I' 401 this).toInt.toNat - 1)).toInt) ∧ (∀ j : Nat, (j : Int) < (I 401 this).toInt → isO (ri this_pile j) → (j : Int) < (I' 401 this).toInt) ∧ (ri' this_pile = ri this_pile) ∧ ((I' 403 this).toInt = (I 403 this).toInt) ∧ g_X12_settle a0 (vI 12 σ this I) (vJ 12 σ this J) (vR 12 σ this ri) (vL 12 σ this rj) (vQ 12 σ this rq) = ((vI 12 σ this I'), (vJ 12 σ this J), (vR 12 σ this ri'), (vL 12 σ this rj), (vQ 12 σ this rq)) ∧ FR 12 tg σ this (I, J, ri, rj, rq) (I', J, ri', rj, rq)) := by
  refine Met.ofW (cc := cX12_settle) (maxL := 2) (ret := none) (by decide) rfl ?_
  intro p e s m args below meth c s₁ B hml hv
  obtain ⟨rfl, hsz, hP, hK, hD0, hN⟩ := hv
  have hx := B.exec
  have hb := B.bytes
  have hr := B.returns
  have hts := atoms_spec (ws := (wa yX12_settle cX12_settle 2 none)) B.pre
  have hown : s.vm.findClass RX12 = some m.cls := findClass_of_methodNamed B.named
  have hlocks := B.notSynchronized
  subst hsz
  have hD : va_D (pq_B t σ (I, J, ri, rj, rq) s.heap.size) (pq_P t σ (I, J, ri, rj, rq)) := hD0.self
  generalize hAe : pq_B t σ (I, J, ri, rj, rq) s.heap.size = A at hD ⊢
  have hA : ∀ q : Nat, s.heap.size ≤ q → A q := fun q h => by rw [← hAe]; exact Or.inr h
  have hS : va_S A s.heap s.heap [] := va_S.rf
  have hG : GM [401, 1930, 1931, 398] tg σ I ri I ri rq := ⟨hG0, fun _ _ _ => rfl, fun _ _ _ _ _ => rfl, fun _ _ _ _ _ _ => rfl⟩
  have hl := lv_entry ([.ref this, .int a0]) (n := 2) (Nat.le_of_ble_eq_true rfl)
  rw [lg_entry_eq]
  generalize (lg_sl ([.ref this, .int a0]) ++ List.replicate (2 - (lg_sl ([.ref this, .int a0])).length) Slot.unset).toArray = ls at hl ⊢
  have hl : lv_has ls 2 [(0, .ref this), (1, .int a0)] := hl
  refine q_gen (fun Q hQ => ?_)
  have go : ∀ (H : Heap) (locs : List Loc) (ls : Array Slot), va_P D vwCl (pq_P t σ (I, J, ri, rj, rq)) H → va_D A (pq_P t σ (I, J, ri, rj, rq)) → va_S A s.heap H locs → lv_has ls 2 [(0, .ref this), (1, .int a0)] → W p l e ({ frames := 1, cells := 0, slots := 0, locals := 22 } : Room) s m (List.toArray ([.ref this, .int a0] : List Value)) below meth c H locs 0 0 Q (F0 m 0 ls []) := by
    intro H locs ls hP hD hS hl
    have hO_this : this = vo σ 12 this := rfl
    have hVT : VT 12 σ tg this := vt_12 hSH hL_this hK_this
    have hFr : FR 12 tg σ this (I, J, ri, rj, rq) (I, J, ri, rj, rq) := fr_rf
    have hO_this_a : this_a = vrow σ 384 this := vo_k (c := 12) hO_this hR_this_a
    have hO_this_pile : this_pile = vrow σ 400 this := vo_k (c := 12) hO_this hR_this_pile
    obtain ⟨F, hF0⟩ : ∃ F, F = g_X12_settle a0 (vI 12 σ this I) (vJ 12 σ this J) (vR 12 σ this ri) (vL 12 σ this rj) (vQ 12 σ this rq) := ⟨_, rfl⟩
    have hF := hF0.trans g_X12_settle_e
    refine lv_aload_n hx hb dX12_settle_0 rfl (lv_at hl 0 rfl) ?_
    refine pg_f (v := .int (I 401 this)) (C := RX12) (T := TX12) (N := 31) hx hb hts (tw_i inlX12) hown hK hP hL_this hK_this (by decide) rfl 17 (by decide) (hts _ (tw_c tw_887)) rfl dX12_settle_1 ?_
    have h_1 : rg (I 401 this) 0 160 := GM.rI hG 401 rfl
    have uh_1 := h_1.1
    have vh_1 := h_1.2
    replace hF := hF.trans (ap_n (vI_e (f := 401) hO_this (by decide)))
    refine lv_if_le (tgt := 54) hx hb dX12_settle_4 (by decide) (fun c_3 => ?_) (fun c_3 => ?_)
    · replace hF := hF.trans (if_pos c_3)
      have tc_8 : (I 401 this).toInt ≤ 0 := Int32.le_iff_toInt_le.mp c_3
      have h_9 : rg (I 401 this) 0 0 := rg_le1 c_3 h_1 (rg_k (0 : Int32) 0 rfl) (by decide)
      have uh_9 := h_9.1
      have vh_9 := h_9.2
      subst hQ
      exact W.vret hx hb hr (fun t1 ht hW => ⟨⟨(σ, I, J, ri, rj, rq), rfl, ⟨I, ri, rfl, hG, hps, (Or.inl (by have z9 := (PSz_bd hps).2.1; omega)), (fun (j : Nat) (hj : (j : Int) < (I 401 this).toInt) (_ : isO (ri this_pile j)) => hj), (rfl : ri this_pile = ri this_pile), (by omega), (hF0.symm.trans hF), hFr⟩, by rw [ht]; exact hP, va_K.moved hW.alike hK, hD⟩, hS.F ht⟩) hS.2.2 dX12_settle_54
    · replace hF := hF.trans (if_neg c_3)
      have tc_10 : 0 < (I 401 this).toInt := Int32.lt_iff_toInt_lt.mp (nle c_3)
      have h_11 : rg (I 401 this) 1 160 := rg_lt2 (nle c_3) (rg_k (0 : Int32) 0 rfl) h_1 (by decide)
      have uh_11 := h_11.1
      have vh_11 := h_11.2
      refine lv_aload_n hx hb dX12_settle_7 rfl (lv_at hl 0 rfl) ?_
      refine pg_f (v := .ref this_pile) (C := RX12) (T := TX12) (N := 31) hx hb hts (tw_i inlX12) hown hK hP hL_this hK_this (by decide) rfl 16 (by decide) (hts _ (tw_c tw_182)) (pq_hv rfl hR_this_pile) dX12_settle_8 ?_
      refine lv_aload_n hx hb dX12_settle_11 rfl (lv_at hl 0 rfl) ?_
      refine pg_f (v := .int (I 401 this)) (C := RX12) (T := TX12) (N := 31) hx hb hts (tw_i inlX12) hown hK hP hL_this hK_this (by decide) rfl 17 (by decide) (hts _ (tw_c tw_887)) rfl dX12_settle_12 ?_
      refine lv_iconst (v := 1) hx hb dX12_settle_15 (by decide) ?_
      refine lv_isub hx hb dX12_settle_16 ?_
      refine lv_topi (fun x_12 ex_12 => ?_)
      replace hF := hF.trans (ap_n ex_12)
      have h_13 : rg x_12 0 159 := rg_of_eq ex_12 (rg_sub h_11 (rg_k (1 : Int32) 1 rfl) (by decide))
      have uh_13 := h_13.1
      have vh_13 := h_13.2
      have tx_12 : (x_12).toInt = (I 401 this).toInt - 1 := by rw [ex_12]; exact i_sub_rg (a2 := (I 401 this).toInt) (b2 := 1) rfl rfl h_11 (rg_k (1 : Int32) 1 rfl) (by decide)
      refine pl_i hx hb hK hP hL_this_pile hK_this_pile hN_this_pile (rg_in h_13 (by decide)) dX12_settle_17 ?_
      refine lv_topi (fun x_14 ex_14 => ?_)
      replace hF := hF.trans (ap_n (vR_r hO_this_pile (by decide) ex_14))
      have ex_14 : x_14 = ri this_pile (x_12).toNatClampNeg := ex_14
      have h_15 : rg x_14 0 40 := rg_of_eq ex_14 (GM.rR hG hT_this_pile rfl)
      have uh_15 := h_15.1
      have vh_15 := h_15.2
      refine lv_iload_n hx hb dX12_settle_18 rfl (lv_at hl 1 rfl) ?_
      refine lv_bipush (v := 6) hx hb dX12_settle_19 (by decide) ?_
      refine pk_i (va_runS (As := [.int x_14, .int a0, .int 6]) (rest := []) ⟨hx, hb, hml, hown, hts⟩ (s_X12_isIn_x l D t σ I J ri rj rq H.size tg hSH hG.1 x_14 a0 (6 : Int32)) (va_cwS 3 hts (tw_S tw_235 tw_236 tw_5 tw_237) rfl rfl rfl cd_yX12_isIn_3 ⟨Nat.le_of_ble_eq_true rfl, Nat.le_of_ble_eq_true rfl⟩) ⟨pq_blind, pq_pre hK hN hP hD⟩ rfl rfl hl.1 rfl (lv_room (Nat.le_of_ble_eq_true rfl)) dX12_settle_21 ⟨Nat.le_of_ble_eq_true rfl, Nat.le_of_ble_eq_true rfl⟩) hD hS hA (fun x_16 σ1 μ1 H locs hw_17 hP hD hS => ?_)
      obtain ⟨hu_18, hfn_21, hr_20⟩ := hw_17
      obtain ⟨hu_18a, hu_18b⟩ := Prod.mk.inj hu_18
      rw [hu_18a, hu_18b] at hP hD
      replace hF := hF.trans (ap_n hfn_21.symm)
      have h_23 : rg x_16 0 1 := by rcases hr_20 with ⟨q, -⟩ | ⟨q, -⟩ <;> rw [q] <;> exact ⟨by decide, by decide⟩
      have uh_23 := h_23.1
      have vh_23 := h_23.2
      refine lv_if_eq (tgt := 54) hx hb dX12_settle_24 (by decide) (fun c_24 => ?_) (fun c_24 => ?_)
      · replace hF := hF.trans (if_pos c_24)
        have f_37 := (hr_20.resolve_left (fun q => absurd (q.1.symm.trans c_24) (by decide))).2
        have zk_38 : (6 : Int32).toInt = 6 := rfl
        have tc_39 : (x_16).toInt = 0 := congrArg Int32.toInt c_24
        have h_40 : rg x_16 0 0 := rg_and h_23 (rg_of_eq c_24 (rg_k (0 : Int32) 0 rfl)) (by decide)
        have uh_40 := h_40.1
        have vh_40 := h_40.2
        subst hQ
        exact W.vret hx hb hr (fun t1 ht hW => ⟨⟨(σ, I, J, ri, rj, rq), rfl, ⟨I, ri, rfl, hG, hps, (Or.inr (by rw [show (I 401 this).toInt.toNat - 1 = (x_12).toNatClampNeg from by have z0 := clampE x_12; omega, ← ex_14]; omega)), (fun (j : Nat) (hj : (j : Int) < (I 401 this).toInt) (_ : isO (ri this_pile j)) => hj), (rfl : ri this_pile = ri this_pile), (by omega), (hF0.symm.trans hF), hFr⟩, by rw [ht]; exact hP, va_K.moved hW.alike hK, hD⟩, hS.F ht⟩) hS.2.2 dX12_settle_54
      · replace hF := hF.trans (if_neg c_24)
        obtain ⟨f_41, f_42⟩ := (hr_20.resolve_right (fun q => c_24 q.1)).2
        have tc_43 : (a0).toInt ≤ (x_14).toInt := Int32.le_iff_toInt_le.mp f_41
        have h_44 : rg x_14 3 40 := rg_le2 f_41 h_a0 h_15 (by decide)
        have uh_44 := h_44.1
        have vh_44 := h_44.2
        have tc_45 : (x_14).toInt ≤ 6 := Int32.le_iff_toInt_le.mp f_42
        have h_46 : rg x_14 3 6 := rg_le1 f_42 h_44 (rg_k (6 : Int32) 6 rfl) (by decide)
        have uh_46 := h_46.1
        have vh_46 := h_46.2
        have tc_47 : (x_16).toInt ≠ 0 := fun q => c_24 (Int32.toInt_inj.mp q)
        have h_48 : rg x_16 1 1 := rg_ne c_24 h_23 0 rfl (by decide)
        have uh_48 := h_48.1
        have vh_48 := h_48.2
        refine lv_aload_n hx hb dX12_settle_27 rfl (lv_at hl 0 rfl) ?_
        refine lv_dup hx hb dX12_settle_28 rfl ?_
        refine pg_f (v := .int (I 401 this)) (C := RX12) (T := TX12) (N := 31) hx hb hts (tw_i inlX12) hown hK hP hL_this hK_this (by decide) rfl 17 (by decide) (hts _ (tw_c tw_887)) rfl dX12_settle_29 ?_
        refine lv_iconst (v := 1) hx hb dX12_settle_32 (by decide) ?_
        refine lv_isub hx hb dX12_settle_33 ?_
        refine lv_topi (fun x_49 ex_49 => ?_)
        replace hF := hF.trans (ap_n ex_49)
        have h_50 : rg x_49 0 159 := rg_of_eq ex_49 (rg_sub h_11 (rg_k (1 : Int32) 1 rfl) (by decide))
        have uh_50 := h_50.1
        have vh_50 := h_50.2
        have tx_49 : (x_49).toInt = (I 401 this).toInt - 1 := by rw [ex_49]; exact i_sub_rg (a2 := (I 401 this).toInt) (b2 := 1) rfl rfl h_11 (rg_k (1 : Int32) 1 rfl) (by decide)
        refine pp_i (v := x_49) (ty := .int) (C := RX12) (T := TX12) (N := 31) hx hb hts (tw_i inlX12) tyX12 tyX12_ok nmX12 hown hK hP hD hS hL_this hK_this (by decide) rfl 17 401 (by decide) (hts _ (tw_c tw_887)) rfl (tyX12_ok 17 (by decide)) rfl rfl (Nat.le_of_ble_eq_true rfl) (ps_401 _ _ _ _ _) dX12_settle_34 (fun I_51 H locs eI_51 hP hD hS => ?_)
        replace hFr := fr_I (f := 401) hFr hO_this (by decide) eI_51
        replace hF := hF.trans (ap_n (vI_st (f := 401) hO_this (by decide) eI_51))
        have hG := GM.wI hG 401 rfl eI_51 (rg_w h_50 (by decide)) (by decide)
        have tt_52 : (I_51 396 this).toInt = (I 396 this).toInt := by rw [eI_51, pq_uf _ _ _ (by decide)]
        have tt_53 : (I_51 398 this).toInt = (I 398 this).toInt := by rw [eI_51, pq_uf _ _ _ (by decide)]
        have tt_54 : (I_51 401 this).toInt = (x_49).toInt := by rw [eI_51, pq_us]
        have tt_55 : (I_51 402 this).toInt = (I 402 this).toInt := by rw [eI_51, pq_uf _ _ _ (by decide)]
        have tt_56 : (I_51 391 this).toInt = (I 391 this).toInt := by rw [eI_51, pq_uf _ _ _ (by decide)]
        have tt_57 : (I_51 393 this).toInt = (I 393 this).toInt := by rw [eI_51, pq_uf _ _ _ (by decide)]
        have tt_58 : (I_51 403 this).toInt = (I 403 this).toInt := by rw [eI_51, pq_uf _ _ _ (by decide)]
        have tt_59 : (I_51 397 this).toInt = (I 397 this).toInt := by rw [eI_51, pq_uf _ _ _ (by decide)]
        refine lv_aload_n hx hb dX12_settle_37 rfl (lv_at hl 0 rfl) ?_
        refine lv_aload_n hx hb dX12_settle_38 rfl (lv_at hl 0 rfl) ?_
        refine pg_f (v := .ref this_pile) (C := RX12) (T := TX12) (N := 31) hx hb hts (tw_i inlX12) hown hK hP hL_this hK_this (by decide) rfl 16 (by decide) (hts _ (tw_c tw_182)) (pq_hv rfl hR_this_pile) dX12_settle_39 ?_
        refine lv_aload_n hx hb dX12_settle_42 rfl (lv_at hl 0 rfl) ?_
        refine pg_f (v := .int (I_51 401 this)) (C := RX12) (T := TX12) (N := 31) hx hb hts (tw_i inlX12) hown hK hP hL_this hK_this (by decide) rfl 17 (by decide) (hts _ (tw_c tw_887)) rfl dX12_settle_43 ?_
        have h_60 : rg (I_51 401 this) 0 159 := (by rw [eI_51, pq_us]; exact h_50)
        have uh_60 := h_60.1
        have vh_60 := h_60.2
        replace hF := hF.trans (ap_n (vI_e (f := 401) hO_this (by decide)))
        refine pl_i hx hb hK hP hL_this_pile hK_this_pile hN_this_pile (rg_in h_60 (by decide)) dX12_settle_46 ?_
        refine lv_topi (fun x_62 ex_62 => ?_)
        replace hF := hF.trans (ap_n (vR_r hO_this_pile (by decide) ex_62))
        have ex_62 : x_62 = ri this_pile ((I_51 401 this)).toNatClampNeg := ex_62
        have h_63 : rg x_62 0 40 := rg_of_eq ex_62 (GM.rR hG hT_this_pile rfl)
        have uh_63 := h_63.1
        have vh_63 := h_63.2
        refine lv_iconst (v := 0) hx hb dX12_settle_47 (by decide) ?_
        have hzz : (x_62).toInt = (x_14).toInt := by rw [ex_62, ex_14, show ((I_51 401 this)).toNatClampNeg = (x_12).toNatClampNeg from by have z0 := clampE x_12; have z1 := clampE (I_51 401 this); omega]
        have hq1 := PSz_t hps
        have hq2 := PSz_w hps (Or.inr (by omega))
        refine pk_v (va_runV (As := [.int x_62, .int 0]) (rest := []) ⟨hx, hb, hml, hown, hts⟩ (s_X12_emit l D t σ I_51 J ri rj rq H.size tg hSH hG.1 this x_62 (0 : Int32) hL_this hK_this this_a hR_this_a hL_this_a hK_this_a hN_this_a hT_this_a (by omega) (by omega)) (cwV 2 hts (tw_V tw_905 tw_906 tw_907 tw_5 tw_908) rfl rfl rfl cv_yX12_emit_2 ⟨Nat.le_of_ble_eq_true rfl, Nat.le_of_ble_eq_true rfl⟩) ⟨pq_blind, pq_recv hK hP hL_this hK_this (by decide) rfl, pq_pre hK hN hP hD⟩ rfl rfl hl.1 rfl (lv_room (Nat.le_of_ble_eq_true rfl)) dX12_settle_48 ⟨Nat.le_of_ble_eq_true rfl, Nat.le_of_ble_eq_true rfl⟩) hD hS hA (fun σ1 μ1 H locs hw_65 hP hD hS => ?_)
        obtain ⟨I_66, ri_67, hu_68, hg_69, hp_71, hp_72, hp_73, hp_74, hfn_75, hfr_76⟩ := hw_65
        obtain ⟨hu_68a, hu_68b⟩ := Prod.mk.inj hu_68
        rw [hu_68a, hu_68b] at hP hD
        replace hF := hF.trans (bv_n hfn_75)
        replace hFr := fr_tr hFr hfr_76
        obtain ⟨v_77, ev_77, hv_77⟩ := hp_71
        have tt_78 : (I_66 398 this).toInt = (I_51 398 this).toInt + 1 := by rw [ev_77, pq_us]; exact hv_77
        have tt_79 : (I_66 403 this).toInt = (I_51 403 this).toInt := by rw [ev_77, pq_uf _ _ _ (by decide)]
        have hG := GM.tr hG hg_69 (by decide)
        have tt_80 : (I_66 396 this).toInt = (I_51 396 this).toInt := by rw [hg_69.2.1 396 (by decide) (by decide)]
        have tt_81 : (I_66 401 this).toInt = (I_51 401 this).toInt := by rw [hg_69.2.1 401 (by decide) (by decide)]
        have tt_82 : (I_66 402 this).toInt = (I_51 402 this).toInt := by rw [hg_69.2.1 402 (by decide) (by decide)]
        have tt_83 : (I_66 391 this).toInt = (I_51 391 this).toInt := by rw [hg_69.2.1 391 (by decide) (by decide)]
        have tt_84 : (I_66 393 this).toInt = (I_51 393 this).toInt := by rw [hg_69.2.1 393 (by decide) (by decide)]
        have tt_85 : (I_66 397 this).toInt = (I_51 397 this).toInt := by rw [hg_69.2.1 397 (by decide) (by decide)]
        refine lv_goto (tgt := 0) hx hb dX12_settle_51 (by decide) ?_
        have L_386 : ∀ (n_385 : Nat) (I_309 : Nat → Nat → Int32) (ri_310 : Nat → Nat → Int32) (H : Heap) (locs : List Loc) (ls : Array Slot), ((I_309 403 this).toInt = (I 403 this).toInt) → (PSz (I_309 396 this).toInt (I_309 398 this).toInt (I_309 401 this).toInt (I_309 402 this).toInt (I_309 391 this).toInt (I_309 393 this).toInt (ri_310 this_a) (ri_310 this_pile) bb f0 fr ba tb nn K 1) → (∀ j : Nat, (j : Int) < (I 401 this).toInt → isO (ri this_pile j) → (j : Int) < (I_309 401 this).toInt) → (ri_310 this_pile = ri this_pile) → ((I_309 401 this).toInt - 0).toNat < n_385 → F = g_X12_settle_L0 a0 (vJ 12 σ this J) (vL 12 σ this rj) (vQ 12 σ this rq) n_385 (vI 12 σ this I_309) (vR 12 σ this ri_310) → FR 12 tg σ this (I, J, ri, rj, rq) (I_309, J, ri_310, rj, rq) → GM [401, 1930, 1931, 398] tg σ I ri I_309 ri_310 rq → va_P D vwCl (pq_P t σ (I_309, J, ri_310, rj, rq)) H → va_D A (pq_P t σ (I_309, J, ri_310, rj, rq)) → va_S A s.heap H locs → lv_has ls 2 [(0, .ref this), (1, .int a0)] → W p l e ({ frames := 1, cells := 0, slots := 0, locals := 22 } : Room) s m (List.toArray ([.ref this, .int a0] : List Value)) below meth c H locs 0 0 Q (F0 m 0 ls []) := by
          intro n_385
          induction n_385 with
          | zero => intro I_309 ri_310 H locs ls hrel_392 hrel_393 hrel_394 hrel_395 hm_384 hF hFr hG hP hD hS hl; exact absurd hm_384 (Nat.not_lt_zero _)
          | succ n_385 ih_387 =>
            intro I_309 ri_310 H locs ls hrel_392 hrel_393 hrel_394 hrel_395 hm_384 hF hFr hG hP hD hS hl
            replace hF := hF.trans g_X12_settle_L0_e
            refine lv_aload_n hx hb dX12_settle_0 rfl (lv_at hl 0 rfl) ?_
            refine pg_f (v := .int (I_309 401 this)) (C := RX12) (T := TX12) (N := 31) hx hb hts (tw_i inlX12) hown hK hP hL_this hK_this (by decide) rfl 17 (by decide) (hts _ (tw_c tw_887)) rfl dX12_settle_1 ?_
            have h_396 : rg (I_309 401 this) 0 160 := GM.rI hG 401 rfl
            have uh_396 := h_396.1
            have vh_396 := h_396.2
            replace hF := hF.trans (ap_n (vI_e (f := 401) hO_this (by decide)))
            refine lv_if_le (tgt := 54) hx hb dX12_settle_4 (by decide) (fun c_398 => ?_) (fun c_398 => ?_)
            · replace hF := hF.trans (if_pos c_398)
              have tc_403 : (I_309 401 this).toInt ≤ 0 := Int32.le_iff_toInt_le.mp c_398
              have h_404 : rg (I_309 401 this) 0 0 := rg_le1 c_398 h_396 (rg_k (0 : Int32) 0 rfl) (by decide)
              have uh_404 := h_404.1
              have vh_404 := h_404.2
              subst hQ
              exact W.vret hx hb hr (fun t1 ht hW => ⟨⟨(σ, I_309, J, ri_310, rj, rq), rfl, ⟨I_309, ri_310, rfl, hG, hrel_393, (Or.inl (by have z9 := (PSz_bd hrel_393).2.1; omega)), hrel_394, hrel_395, (by omega), (hF0.symm.trans hF), hFr⟩, by rw [ht]; exact hP, va_K.moved hW.alike hK, hD⟩, hS.F ht⟩) hS.2.2 dX12_settle_54
            · replace hF := hF.trans (if_neg c_398)
              have tc_405 : 0 < (I_309 401 this).toInt := Int32.lt_iff_toInt_lt.mp (nle c_398)
              have h_406 : rg (I_309 401 this) 1 160 := rg_lt2 (nle c_398) (rg_k (0 : Int32) 0 rfl) h_396 (by decide)
              have uh_406 := h_406.1
              have vh_406 := h_406.2
              refine lv_aload_n hx hb dX12_settle_7 rfl (lv_at hl 0 rfl) ?_
              refine pg_f (v := .ref this_pile) (C := RX12) (T := TX12) (N := 31) hx hb hts (tw_i inlX12) hown hK hP hL_this hK_this (by decide) rfl 16 (by decide) (hts _ (tw_c tw_182)) (pq_hv rfl hR_this_pile) dX12_settle_8 ?_
              refine lv_aload_n hx hb dX12_settle_11 rfl (lv_at hl 0 rfl) ?_
              refine pg_f (v := .int (I_309 401 this)) (C := RX12) (T := TX12) (N := 31) hx hb hts (tw_i inlX12) hown hK hP hL_this hK_this (by decide) rfl 17 (by decide) (hts _ (tw_c tw_887)) rfl dX12_settle_12 ?_
              refine lv_iconst (v := 1) hx hb dX12_settle_15 (by decide) ?_
              refine lv_isub hx hb dX12_settle_16 ?_
              refine lv_topi (fun x_407 ex_407 => ?_)
              replace hF := hF.trans (ap_n ex_407)
              have h_408 : rg x_407 0 159 := rg_of_eq ex_407 (rg_sub h_406 (rg_k (1 : Int32) 1 rfl) (by decide))
              have uh_408 := h_408.1
              have vh_408 := h_408.2
              have tx_407 : (x_407).toInt = (I_309 401 this).toInt - 1 := by rw [ex_407]; exact i_sub_rg (a2 := (I_309 401 this).toInt) (b2 := 1) rfl rfl h_406 (rg_k (1 : Int32) 1 rfl) (by decide)
              refine pl_i hx hb hK hP hL_this_pile hK_this_pile hN_this_pile (rg_in h_408 (by decide)) dX12_settle_17 ?_
              refine lv_topi (fun x_409 ex_409 => ?_)
              replace hF := hF.trans (ap_n (vR_r hO_this_pile (by decide) ex_409))
              have ex_409 : x_409 = ri_310 this_pile (x_407).toNatClampNeg := ex_409
              have h_410 : rg x_409 0 40 := rg_of_eq ex_409 (GM.rR hG hT_this_pile rfl)
              have uh_410 := h_410.1
              have vh_410 := h_410.2
              refine lv_iload_n hx hb dX12_settle_18 rfl (lv_at hl 1 rfl) ?_
              refine lv_bipush (v := 6) hx hb dX12_settle_19 (by decide) ?_
              refine pk_i (va_runS (As := [.int x_409, .int a0, .int 6]) (rest := []) ⟨hx, hb, hml, hown, hts⟩ (s_X12_isIn_x l D t σ I_309 J ri_310 rj rq H.size tg hSH hG.1 x_409 a0 (6 : Int32)) (va_cwS 3 hts (tw_S tw_235 tw_236 tw_5 tw_237) rfl rfl rfl cd_yX12_isIn_3 ⟨Nat.le_of_ble_eq_true rfl, Nat.le_of_ble_eq_true rfl⟩) ⟨pq_blind, pq_pre hK hN hP hD⟩ rfl rfl hl.1 rfl (lv_room (Nat.le_of_ble_eq_true rfl)) dX12_settle_21 ⟨Nat.le_of_ble_eq_true rfl, Nat.le_of_ble_eq_true rfl⟩) hD hS hA (fun x_411 σ1 μ1 H locs hw_412 hP hD hS => ?_)
              obtain ⟨hu_413, hfn_416, hr_415⟩ := hw_412
              obtain ⟨hu_413a, hu_413b⟩ := Prod.mk.inj hu_413
              rw [hu_413a, hu_413b] at hP hD
              replace hF := hF.trans (ap_n hfn_416.symm)
              have h_418 : rg x_411 0 1 := by rcases hr_415 with ⟨q, -⟩ | ⟨q, -⟩ <;> rw [q] <;> exact ⟨by decide, by decide⟩
              have uh_418 := h_418.1
              have vh_418 := h_418.2
              refine lv_if_eq (tgt := 54) hx hb dX12_settle_24 (by decide) (fun c_419 => ?_) (fun c_419 => ?_)
              · replace hF := hF.trans (if_pos c_419)
                have f_432 := (hr_415.resolve_left (fun q => absurd (q.1.symm.trans c_419) (by decide))).2
                have zk_433 : (6 : Int32).toInt = 6 := rfl
                have tc_434 : (x_411).toInt = 0 := congrArg Int32.toInt c_419
                have h_435 : rg x_411 0 0 := rg_and h_418 (rg_of_eq c_419 (rg_k (0 : Int32) 0 rfl)) (by decide)
                have uh_435 := h_435.1
                have vh_435 := h_435.2
                subst hQ
                exact W.vret hx hb hr (fun t1 ht hW => ⟨⟨(σ, I_309, J, ri_310, rj, rq), rfl, ⟨I_309, ri_310, rfl, hG, hrel_393, (Or.inr (by rw [show (I_309 401 this).toInt.toNat - 1 = (x_407).toNatClampNeg from by have z0 := clampE x_407; omega, ← ex_409]; omega)), hrel_394, hrel_395, (by omega), (hF0.symm.trans hF), hFr⟩, by rw [ht]; exact hP, va_K.moved hW.alike hK, hD⟩, hS.F ht⟩) hS.2.2 dX12_settle_54
              · replace hF := hF.trans (if_neg c_419)
                obtain ⟨f_436, f_437⟩ := (hr_415.resolve_right (fun q => c_419 q.1)).2
                have tc_438 : (a0).toInt ≤ (x_409).toInt := Int32.le_iff_toInt_le.mp f_436
                have h_439 : rg x_409 3 40 := rg_le2 f_436 h_a0 h_410 (by decide)
                have uh_439 := h_439.1
                have vh_439 := h_439.2
                have tc_440 : (x_409).toInt ≤ 6 := Int32.le_iff_toInt_le.mp f_437
                have h_441 : rg x_409 3 6 := rg_le1 f_437 h_439 (rg_k (6 : Int32) 6 rfl) (by decide)
                have uh_441 := h_441.1
                have vh_441 := h_441.2
                have tc_442 : (x_411).toInt ≠ 0 := fun q => c_419 (Int32.toInt_inj.mp q)
                have h_443 : rg x_411 1 1 := rg_ne c_419 h_418 0 rfl (by decide)
                have uh_443 := h_443.1
                have vh_443 := h_443.2
                refine lv_aload_n hx hb dX12_settle_27 rfl (lv_at hl 0 rfl) ?_
                refine lv_dup hx hb dX12_settle_28 rfl ?_
                refine pg_f (v := .int (I_309 401 this)) (C := RX12) (T := TX12) (N := 31) hx hb hts (tw_i inlX12) hown hK hP hL_this hK_this (by decide) rfl 17 (by decide) (hts _ (tw_c tw_887)) rfl dX12_settle_29 ?_
                refine lv_iconst (v := 1) hx hb dX12_settle_32 (by decide) ?_
                refine lv_isub hx hb dX12_settle_33 ?_
                refine lv_topi (fun x_444 ex_444 => ?_)
                replace hF := hF.trans (ap_n ex_444)
                have h_445 : rg x_444 0 159 := rg_of_eq ex_444 (rg_sub h_406 (rg_k (1 : Int32) 1 rfl) (by decide))
                have uh_445 := h_445.1
                have vh_445 := h_445.2
                have tx_444 : (x_444).toInt = (I_309 401 this).toInt - 1 := by rw [ex_444]; exact i_sub_rg (a2 := (I_309 401 this).toInt) (b2 := 1) rfl rfl h_406 (rg_k (1 : Int32) 1 rfl) (by decide)
                refine pp_i (v := x_444) (ty := .int) (C := RX12) (T := TX12) (N := 31) hx hb hts (tw_i inlX12) tyX12 tyX12_ok nmX12 hown hK hP hD hS hL_this hK_this (by decide) rfl 17 401 (by decide) (hts _ (tw_c tw_887)) rfl (tyX12_ok 17 (by decide)) rfl rfl (Nat.le_of_ble_eq_true rfl) (ps_401 _ _ _ _ _) dX12_settle_34 (fun I_446 H locs eI_446 hP hD hS => ?_)
                replace hFr := fr_I (f := 401) hFr hO_this (by decide) eI_446
                replace hF := hF.trans (ap_n (vI_st (f := 401) hO_this (by decide) eI_446))
                have hG := GM.wI hG 401 rfl eI_446 (rg_w h_445 (by decide)) (by decide)
                have tt_447 : (I_446 396 this).toInt = (I_309 396 this).toInt := by rw [eI_446, pq_uf _ _ _ (by decide)]
                have tt_448 : (I_446 398 this).toInt = (I_309 398 this).toInt := by rw [eI_446, pq_uf _ _ _ (by decide)]
                have tt_449 : (I_446 401 this).toInt = (x_444).toInt := by rw [eI_446, pq_us]
                have tt_450 : (I_446 402 this).toInt = (I_309 402 this).toInt := by rw [eI_446, pq_uf _ _ _ (by decide)]
                have tt_451 : (I_446 391 this).toInt = (I_309 391 this).toInt := by rw [eI_446, pq_uf _ _ _ (by decide)]
                have tt_452 : (I_446 393 this).toInt = (I_309 393 this).toInt := by rw [eI_446, pq_uf _ _ _ (by decide)]
                have tt_453 : (I_446 403 this).toInt = (I_309 403 this).toInt := by rw [eI_446, pq_uf _ _ _ (by decide)]
                have tt_454 : (I_446 397 this).toInt = (I_309 397 this).toInt := by rw [eI_446, pq_uf _ _ _ (by decide)]
                refine lv_aload_n hx hb dX12_settle_37 rfl (lv_at hl 0 rfl) ?_
                refine lv_aload_n hx hb dX12_settle_38 rfl (lv_at hl 0 rfl) ?_
                refine pg_f (v := .ref this_pile) (C := RX12) (T := TX12) (N := 31) hx hb hts (tw_i inlX12) hown hK hP hL_this hK_this (by decide) rfl 16 (by decide) (hts _ (tw_c tw_182)) (pq_hv rfl hR_this_pile) dX12_settle_39 ?_
                refine lv_aload_n hx hb dX12_settle_42 rfl (lv_at hl 0 rfl) ?_
                refine pg_f (v := .int (I_446 401 this)) (C := RX12) (T := TX12) (N := 31) hx hb hts (tw_i inlX12) hown hK hP hL_this hK_this (by decide) rfl 17 (by decide) (hts _ (tw_c tw_887)) rfl dX12_settle_43 ?_
                have h_455 : rg (I_446 401 this) 0 159 := (by rw [eI_446, pq_us]; exact h_445)
                have uh_455 := h_455.1
                have vh_455 := h_455.2
                replace hF := hF.trans (ap_n (vI_e (f := 401) hO_this (by decide)))
                refine pl_i hx hb hK hP hL_this_pile hK_this_pile hN_this_pile (rg_in h_455 (by decide)) dX12_settle_46 ?_
                refine lv_topi (fun x_457 ex_457 => ?_)
                replace hF := hF.trans (ap_n (vR_r hO_this_pile (by decide) ex_457))
                have ex_457 : x_457 = ri_310 this_pile ((I_446 401 this)).toNatClampNeg := ex_457
                have h_458 : rg x_457 0 40 := rg_of_eq ex_457 (GM.rR hG hT_this_pile rfl)
                have uh_458 := h_458.1
                have vh_458 := h_458.2
                refine lv_iconst (v := 0) hx hb dX12_settle_47 (by decide) ?_
                have hzz : (x_457).toInt = (x_409).toInt := by rw [ex_457, ex_409, show ((I_446 401 this)).toNatClampNeg = (x_407).toNatClampNeg from by have z0 := clampE x_407; have z1 := clampE (I_446 401 this); omega]
                have hq1 := PSz_t hrel_393
                have hq2 := PSz_w hrel_393 (Or.inr (by omega))
                refine pk_v (va_runV (As := [.int x_457, .int 0]) (rest := []) ⟨hx, hb, hml, hown, hts⟩ (s_X12_emit l D t σ I_446 J ri_310 rj rq H.size tg hSH hG.1 this x_457 (0 : Int32) hL_this hK_this this_a hR_this_a hL_this_a hK_this_a hN_this_a hT_this_a (by omega) (by omega)) (cwV 2 hts (tw_V tw_905 tw_906 tw_907 tw_5 tw_908) rfl rfl rfl cv_yX12_emit_2 ⟨Nat.le_of_ble_eq_true rfl, Nat.le_of_ble_eq_true rfl⟩) ⟨pq_blind, pq_recv hK hP hL_this hK_this (by decide) rfl, pq_pre hK hN hP hD⟩ rfl rfl hl.1 rfl (lv_room (Nat.le_of_ble_eq_true rfl)) dX12_settle_48 ⟨Nat.le_of_ble_eq_true rfl, Nat.le_of_ble_eq_true rfl⟩) hD hS hA (fun σ1 μ1 H locs hw_460 hP hD hS => ?_)
                obtain ⟨I_461, ri_462, hu_463, hg_464, hp_466, hp_467, hp_468, hp_469, hfn_470, hfr_471⟩ := hw_460
                obtain ⟨hu_463a, hu_463b⟩ := Prod.mk.inj hu_463
                rw [hu_463a, hu_463b] at hP hD
                replace hF := hF.trans (bv_n hfn_470)
                replace hFr := fr_tr hFr hfr_471
                obtain ⟨v_472, ev_472, hv_472⟩ := hp_466
                have tt_473 : (I_461 398 this).toInt = (I_446 398 this).toInt + 1 := by rw [ev_472, pq_us]; exact hv_472
                have tt_474 : (I_461 403 this).toInt = (I_446 403 this).toInt := by rw [ev_472, pq_uf _ _ _ (by decide)]
                have hG := GM.tr hG hg_464 (by decide)
                have tt_475 : (I_461 396 this).toInt = (I_446 396 this).toInt := by rw [hg_464.2.1 396 (by decide) (by decide)]
                have tt_476 : (I_461 401 this).toInt = (I_446 401 this).toInt := by rw [hg_464.2.1 401 (by decide) (by decide)]
                have tt_477 : (I_461 402 this).toInt = (I_446 402 this).toInt := by rw [hg_464.2.1 402 (by decide) (by decide)]
                have tt_478 : (I_461 391 this).toInt = (I_446 391 this).toInt := by rw [hg_464.2.1 391 (by decide) (by decide)]
                have tt_479 : (I_461 393 this).toInt = (I_446 393 this).toInt := by rw [hg_464.2.1 393 (by decide) (by decide)]
                have tt_480 : (I_461 397 this).toInt = (I_446 397 this).toInt := by rw [hg_464.2.1 397 (by decide) (by decide)]
                refine lv_goto (tgt := 0) hx hb dX12_settle_51 (by decide) ?_
                exact ih_387 I_461 ri_462 _ _ _ (by omega) (PSz_popB hrel_393 (by omega) (by rw [show (I_309 401 this).toInt.toNat - 1 = ((I_446 401 this)).toNatClampNeg from by have z0 := clampE (I_446 401 this); omega]; exact ex_457.symm) (x := x_457) (by omega) (fun j hj => hp_467 j (by omega)) (by rw [show (I_309 396 this).toInt + 250 + 2 * (I_309 398 this).toInt = (I_446 396 this).toInt + 250 + 2 * (I_446 398 this).toInt from by omega]; exact hp_468) (by omega) (by omega) (by omega) (by omega) (by omega) (by omega) (hp_469 this_pile (tg_ne hT_this_pile hT_this_a (by decide)))) (fun j hj ho => by have q := hrel_394 j hj ho; by_cases hjj : j = ((I_446 401 this)).toNatClampNeg; (exfalso; rw [hjj, ← hrel_395, ← ex_457] at ho; unfold isO at ho; omega); (have z0 := clampE (I_446 401 this); omega)) ((hp_469 this_pile (tg_ne hT_this_pile hT_this_a (by decide))).trans hrel_395) (ms_fd_isub hm_384 ((congrFun (hg_464.2.1 401 (by decide) (by decide)) this).trans (by rw [eI_446]; exact pq_us _ _ _ _)) ex_444 rfl (kk := 1) rfl (by decide) h_406 (by decide) (by decide)) hF hFr hG hP hD hS (lv_sub hl [0, 1] rfl)
        replace hF := hF.trans (ap_n (vI_e (f := 401) hO_this (by decide)))
        exact L_386 _ I_66 ri_67 _ _ _ (by omega) (PSz_popB hps (by omega) (by rw [show (I 401 this).toInt.toNat - 1 = ((I_51 401 this)).toNatClampNeg from by have z0 := clampE (I_51 401 this); omega]; exact ex_62.symm) (x := x_62) (by omega) (fun j hj => hp_72 j (by omega)) (by rw [show (I 396 this).toInt + 250 + 2 * (I 398 this).toInt = (I_51 396 this).toInt + 250 + 2 * (I_51 398 this).toInt from by omega]; exact hp_73) (by omega) (by omega) (by omega) (by omega) (by omega) (by omega) (hp_74 this_pile (tg_ne hT_this_pile hT_this_a (by decide)))) (fun j hj ho => by have q := (fun (j : Nat) (hj : (j : Int) < (I 401 this).toInt) (_ : isO (ri this_pile j)) => hj) j hj ho; by_cases hjj : j = ((I_51 401 this)).toNatClampNeg; (exfalso; rw [hjj, ← (rfl : ri this_pile = ri this_pile), ← ex_62] at ho; unfold isO at ho; omega); (have z0 := clampE (I_51 401 this); omega)) ((hp_74 this_pile (tg_ne hT_this_pile hT_this_a (by decide))).trans (rfl : ri this_pile = ri this_pile)) (Nat.lt_succ_self _) hF hFr hG hP hD hS (lv_sub hl [0, 1] rfl)
  exact go _ _ _ hP hD hS hl
