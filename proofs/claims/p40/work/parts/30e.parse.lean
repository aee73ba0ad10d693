theorem dX12_isWord_0 : decode cX12_isWord 0 = .ok (.aload_n 0, 1) := oc_42 (by decide +kernel)
theorem dX12_isWord_1 : decode cX12_isWord 1 = .ok (.getfield 143, 3) := oc_180 (a := 0) (b := 143) (by decide +kernel)
theorem dX12_isWord_4 : decode cX12_isWord 4 = .ok (.iconst 2, 1) := oc_5 (by decide +kernel)
theorem dX12_isWord_5 : decode cX12_isWord 5 = .ok (.if_icmp .ne 16, 3) := oc_160 (a := 0) (b := 16) (by decide +kernel)
theorem dX12_isWord_21 : decode cX12_isWord 21 = .ok (.iconst 0, 1) := oc_3 (by decide +kernel)
theorem dX12_isWord_22 : decode cX12_isWord 22 = .ok (.ireturn, 1) := oc_172 (by decide +kernel)
theorem dX12_isWord_8 : decode cX12_isWord 8 = .ok (.aload_n 0, 1) := oc_42 (by decide +kernel)
theorem dX12_isWord_9 : decode cX12_isWord 9 = .ok (.getfield 156, 3) := oc_180 (a := 0) (b := 156) (by decide +kernel)
theorem dX12_isWord_12 : decode cX12_isWord 12 = .ok (.lload_n 1, 1) := oc_31 (by decide +kernel)
theorem dX12_isWord_13 : decode cX12_isWord 13 = .ok (.lcmp, 1) := oc_148 (by decide +kernel)
theorem dX12_isWord_14 : decode cX12_isWord 14 = .ok (.ifCond .ne 7, 3) := oc_154 (a := 0) (b := 7) (by decide +kernel)
theorem dX12_isWord_17 : decode cX12_isWord 17 = .ok (.iconst 1, 1) := oc_4 (by decide +kernel)
theorem dX12_isWord_18 : decode cX12_isWord 18 = .ok (.goto 4, 3) := oc_167 (a := 0) (b := 4) (by decide +kernel)
theorem dX12_nameOf_0 : decode cX12_nameOf 0 = .ok (.aload_n 0, 1) := oc_42 (by decide +kernel)
theorem dX12_nameOf_1 : decode cX12_nameOf 1 = .ok (.getfield 143, 3) := oc_180 (a := 0) (b := 143) (by decide +kernel)
theorem dX12_nameOf_4 : decode cX12_nameOf 4 = .ok (.iconst 2, 1) := oc_5 (by decide +kernel)
theorem dX12_nameOf_5 : decode cX12_nameOf 5 = .ok (.if_icmp .eq 5, 3) := oc_159 (a := 0) (b := 5) (by decide +kernel)
theorem dX12_nameOf_10 : decode cX12_nameOf 10 = .ok (.aload_n 0, 1) := oc_42 (by decide +kernel)
theorem dX12_nameOf_11 : decode cX12_nameOf 11 = .ok (.getfield 156, 3) := oc_180 (a := 0) (b := 156) (by decide +kernel)
theorem dX12_nameOf_14 : decode cX12_nameOf 14 = .ok (.bipush 97, 2) := oc_16 (a := 97) (by decide +kernel)
theorem dX12_nameOf_16 : decode cX12_nameOf 16 = .ok (.bipush 103, 2) := oc_16 (a := 103) (by decide +kernel)
theorem dX12_nameOf_18 : decode cX12_nameOf 18 = .ok (.bipush 101, 2) := oc_16 (a := 101) (by decide +kernel)
theorem dX12_nameOf_20 : decode cX12_nameOf 20 = .ok (.invokestatic 160, 3) := oc_184 (a := 0) (b := 160) (by decide +kernel)
theorem dX12_nameOf_23 : decode cX12_nameOf 23 = .ok (.lcmp, 1) := oc_148 (by decide +kernel)
theorem dX12_nameOf_24 : decode cX12_nameOf 24 = .ok (.ifCond .ne 5, 3) := oc_154 (a := 0) (b := 5) (by decide +kernel)
theorem dX12_nameOf_29 : decode cX12_nameOf 29 = .ok (.aload_n 0, 1) := oc_42 (by decide +kernel)
theorem dX12_nameOf_30 : decode cX12_nameOf 30 = .ok (.getfield 156, 3) := oc_180 (a := 0) (b := 156) (by decide +kernel)
theorem dX12_nameOf_33 : decode cX12_nameOf 33 = .ok (.bipush 107, 2) := oc_16 (a := 107) (by decide +kernel)
theorem dX12_nameOf_35 : decode cX12_nameOf 35 = .ok (.bipush 105, 2) := oc_16 (a := 105) (by decide +kernel)
theorem dX12_nameOf_37 : decode cX12_nameOf 37 = .ok (.bipush 110, 2) := oc_16 (a := 110) (by decide +kernel)
theorem dX12_nameOf_39 : decode cX12_nameOf 39 = .ok (.invokestatic 160, 3) := oc_184 (a := 0) (b := 160) (by decide +kernel)
theorem dX12_nameOf_42 : decode cX12_nameOf 42 = .ok (.lcmp, 1) := oc_148 (by decide +kernel)
theorem dX12_nameOf_43 : decode cX12_nameOf 43 = .ok (.ifCond .ne 5, 3) := oc_154 (a := 0) (b := 5) (by decide +kernel)
theorem dX12_nameOf_48 : decode cX12_nameOf 48 = .ok (.aload_n 0, 1) := oc_42 (by decide +kernel)
theorem dX12_nameOf_49 : decode cX12_nameOf 49 = .ok (.getfield 156, 3) := oc_180 (a := 0) (b := 156) (by decide +kernel)
theorem dX12_nameOf_52 : decode cX12_nameOf 52 = .ok (.bipush 99, 2) := oc_16 (a := 99) (by decide +kernel)
theorem dX12_nameOf_54 : decode cX12_nameOf 54 = .ok (.bipush 114, 2) := oc_16 (a := 114) (by decide +kernel)
theorem dX12_nameOf_56 : decode cX12_nameOf 56 = .ok (.bipush 97, 2) := oc_16 (a := 97) (by decide +kernel)
theorem dX12_nameOf_58 : decode cX12_nameOf 58 = .ok (.bipush 102, 2) := oc_16 (a := 102) (by decide +kernel)
theorem dX12_nameOf_60 : decode cX12_nameOf 60 = .ok (.bipush 116, 2) := oc_16 (a := 116) (by decide +kernel)
theorem dX12_nameOf_62 : decode cX12_nameOf 62 = .ok (.invokestatic 168, 3) := oc_184 (a := 0) (b := 168) (by decide +kernel)
theorem dX12_nameOf_65 : decode cX12_nameOf 65 = .ok (.lcmp, 1) := oc_148 (by decide +kernel)
theorem dX12_nameOf_66 : decode cX12_nameOf 66 = .ok (.ifCond .ne 5, 3) := oc_154 (a := 0) (b := 5) (by decide +kernel)
theorem dX12_nameOf_71 : decode cX12_nameOf 71 = .ok (.aload_n 0, 1) := oc_42 (by decide +kernel)
theorem dX12_nameOf_72 : decode cX12_nameOf 72 = .ok (.getfield 156, 3) := oc_180 (a := 0) (b := 156) (by decide +kernel)
theorem dX12_nameOf_75 : decode cX12_nameOf 75 = .ok (.bipush 112, 2) := oc_16 (a := 112) (by decide +kernel)
theorem dX12_nameOf_77 : decode cX12_nameOf 77 = .ok (.bipush 108, 2) := oc_16 (a := 108) (by decide +kernel)
theorem dX12_nameOf_79 : decode cX12_nameOf 79 = .ok (.bipush 97, 2) := oc_16 (a := 97) (by decide +kernel)
theorem dX12_nameOf_81 : decode cX12_nameOf 81 = .ok (.bipush 99, 2) := oc_16 (a := 99) (by decide +kernel)
theorem dX12_nameOf_83 : decode cX12_nameOf 83 = .ok (.bipush 101, 2) := oc_16 (a := 101) (by decide +kernel)
theorem dX12_nameOf_85 : decode cX12_nameOf 85 = .ok (.invokestatic 168, 3) := oc_184 (a := 0) (b := 168) (by decide +kernel)
theorem dX12_nameOf_88 : decode cX12_nameOf 88 = .ok (.lcmp, 1) := oc_148 (by decide +kernel)
theorem dX12_nameOf_89 : decode cX12_nameOf 89 = .ok (.ifCond .ne 5, 3) := oc_154 (a := 0) (b := 5) (by decide +kernel)
theorem dX12_nameOf_94 : decode cX12_nameOf 94 = .ok (.aload_n 0, 1) := oc_42 (by decide +kernel)
theorem dX12_nameOf_95 : decode cX12_nameOf 95 = .ok (.getfield 156, 3) := oc_180 (a := 0) (b := 156) (by decide +kernel)
theorem dX12_nameOf_98 : decode cX12_nameOf 98 = .ok (.bipush 109, 2) := oc_16 (a := 109) (by decide +kernel)
theorem dX12_nameOf_100 : decode cX12_nameOf 100 = .ok (.bipush 111, 2) := oc_16 (a := 111) (by decide +kernel)
theorem dX12_nameOf_102 : decode cX12_nameOf 102 = .ok (.bipush 110, 2) := oc_16 (a := 110) (by decide +kernel)
theorem dX12_nameOf_104 : decode cX12_nameOf 104 = .ok (.bipush 116, 2) := oc_16 (a := 116) (by decide +kernel)
theorem dX12_nameOf_106 : decode cX12_nameOf 106 = .ok (.bipush 104, 2) := oc_16 (a := 104) (by decide +kernel)
theorem dX12_nameOf_108 : decode cX12_nameOf 108 = .ok (.invokestatic 168, 3) := oc_184 (a := 0) (b := 168) (by decide +kernel)
theorem dX12_nameOf_111 : decode cX12_nameOf 111 = .ok (.lcmp, 1) := oc_148 (by decide +kernel)
theorem dX12_nameOf_112 : decode cX12_nameOf 112 = .ok (.ifCond .ne 7, 3) := oc_154 (a := 0) (b := 7) (by decide +kernel)
theorem dX12_nameOf_119 : decode cX12_nameOf 119 = .ok (.aload_n 0, 1) := oc_42 (by decide +kernel)
theorem dX12_nameOf_120 : decode cX12_nameOf 120 = .ok (.getfield 156, 3) := oc_180 (a := 0) (b := 156) (by decide +kernel)
theorem dX12_nameOf_123 : decode cX12_nameOf 123 = .ok (.bipush 117, 2) := oc_16 (a := 117) (by decide +kernel)
theorem dX12_nameOf_125 : decode cX12_nameOf 125 = .ok (.bipush 110, 2) := oc_16 (a := 110) (by decide +kernel)
theorem dX12_nameOf_127 : decode cX12_nameOf 127 = .ok (.bipush 100, 2) := oc_16 (a := 100) (by decide +kernel)
theorem dX12_nameOf_129 : decode cX12_nameOf 129 = .ok (.bipush 101, 2) := oc_16 (a := 101) (by decide +kernel)
theorem dX12_nameOf_131 : decode cX12_nameOf 131 = .ok (.bipush 114, 2) := oc_16 (a := 114) (by decide +kernel)
theorem dX12_nameOf_133 : decode cX12_nameOf 133 = .ok (.invokestatic 168, 3) := oc_184 (a := 0) (b := 168) (by decide +kernel)
theorem dX12_nameOf_136 : decode cX12_nameOf 136 = .ok (.lcmp, 1) := oc_148 (by decide +kernel)
theorem dX12_nameOf_137 : decode cX12_nameOf 137 = .ok (.ifCond .ne 7, 3) := oc_154 (a := 0) (b := 7) (by decide +kernel)
theorem dX12_nameOf_144 : decode cX12_nameOf 144 = .ok (.iconst (-1), 1) := oc_2 (by decide +kernel)
theorem dX12_nameOf_145 : decode cX12_nameOf 145 = .ok (.ireturn, 1) := oc_172 (by decide +kernel)
theorem dX12_nameOf_140 : decode cX12_nameOf 140 = .ok (.iconst 5, 1) := oc_8 (by decide +kernel)
theorem dX12_nameOf_141 : decode cX12_nameOf 141 = .ok (.goto 4, 3) := oc_167 (a := 0) (b := 4) (by decide +kernel)
theorem dX12_nameOf_115 : decode cX12_nameOf 115 = .ok (.iconst 4, 1) := oc_7 (by decide +kernel)
theorem dX12_nameOf_116 : decode cX12_nameOf 116 = .ok (.goto 29, 3) := oc_167 (a := 0) (b := 29) (by decide +kernel)
theorem dX12_nameOf_92 : decode cX12_nameOf 92 = .ok (.iconst 3, 1) := oc_6 (by decide +kernel)
theorem dX12_nameOf_93 : decode cX12_nameOf 93 = .ok (.ireturn, 1) := oc_172 (by decide +kernel)
theorem dX12_nameOf_69 : decode cX12_nameOf 69 = .ok (.iconst 2, 1) := oc_5 (by decide +kernel)
theorem dX12_nameOf_70 : decode cX12_nameOf 70 = .ok (.ireturn, 1) := oc_172 (by decide +kernel)
theorem dX12_nameOf_46 : decode cX12_nameOf 46 = .ok (.iconst 1, 1) := oc_4 (by decide +kernel)
theorem dX12_nameOf_47 : decode cX12_nameOf 47 = .ok (.ireturn, 1) := oc_172 (by decide +kernel)
theorem dX12_nameOf_27 : decode cX12_nameOf 27 = .ok (.iconst 0, 1) := oc_3 (by decide +kernel)
theorem dX12_nameOf_28 : decode cX12_nameOf 28 = .ok (.ireturn, 1) := oc_172 (by decide +kernel)
theorem dX12_nameOf_8 : decode cX12_nameOf 8 = .ok (.iconst (-1), 1) := oc_2 (by decide +kernel)
theorem dX12_nameOf_9 : decode cX12_nameOf 9 = .ok (.ireturn, 1) := oc_172 (by decide +kernel)
theorem dX12_emit_0 : decode cX12_emit 0 = .ok (.aload_n 0, 1) := oc_42 (by decide +kernel)
theorem tw_176 : Cond.fieldLink RX12 7 "RingsUnderModel" "a" "[I" ∈ wsL_law := sg_8 _ (List.mem_of_getElem? (i := 8) rfl)
theorem dX12_emit_1 : decode cX12_emit 1 = .ok (.getfield 7, 3) := oc_180 (a := 0) (b := 7) (by decide +kernel)
theorem dX12_emit_4 : decode cX12_emit 4 = .ok (.aload_n 0, 1) := oc_42 (by decide +kernel)
theorem tw_821 : Cond.fieldLink RX12 172 "RingsUnderModel" "text0" "I" ∈ wsL_law := sg_35 _ (List.mem_of_getElem? (i := 5) rfl)
theorem dX12_emit_5 : decode cX12_emit 5 = .ok (.getfield 172, 3) := oc_180 (a := 0) (b := 172) (by decide +kernel)
theorem dX12_emit_8 : decode cX12_emit 8 = .ok (.sipush 250, 3) := oc_17 (a := 0) (b := 250) (by decide +kernel)
theorem dX12_emit_11 : decode cX12_emit 11 = .ok (.iadd, 1) := oc_96 (by decide +kernel)
theorem dX12_emit_12 : decode cX12_emit 12 = .ok (.iconst 2, 1) := oc_5 (by decide +kernel)
theorem dX12_emit_13 : decode cX12_emit 13 = .ok (.aload_n 0, 1) := oc_42 (by decide +kernel)
theorem tw_827 : Cond.fieldLink RX12 175 "RingsUnderModel" "written" "I" ∈ wsL_law := sg_35 _ (List.mem_of_getElem? (i := 11) rfl)
theorem dX12_emit_14 : decode cX12_emit 14 = .ok (.getfield 175, 3) := oc_180 (a := 0) (b := 175) (by decide +kernel)
theorem dX12_emit_17 : decode cX12_emit 17 = .ok (.imul, 1) := oc_104 (by decide +kernel)
theorem dX12_emit_18 : decode cX12_emit 18 = .ok (.iadd, 1) := oc_96 (by decide +kernel)
theorem dX12_emit_19 : decode cX12_emit 19 = .ok (.iload_n 1, 1) := oc_27 (by decide +kernel)
theorem dX12_emit_20 : decode cX12_emit 20 = .ok (.iastore, 1) := oc_79 (by decide +kernel)
theorem dX12_emit_21 : decode cX12_emit 21 = .ok (.aload_n 0, 1) := oc_42 (by decide +kernel)
theorem dX12_emit_22 : decode cX12_emit 22 = .ok (.getfield 7, 3) := oc_180 (a := 0) (b := 7) (by decide +kernel)
theorem dX12_emit_25 : decode cX12_emit 25 = .ok (.aload_n 0, 1) := oc_42 (by decide +kernel)
theorem dX12_emit_26 : decode cX12_emit 26 = .ok (.getfield 172, 3) := oc_180 (a := 0) (b := 172) (by decide +kernel)
theorem dX12_emit_29 : decode cX12_emit 29 = .ok (.sipush 250, 3) := oc_17 (a := 0) (b := 250) (by decide +kernel)
theorem dX12_emit_32 : decode cX12_emit 32 = .ok (.iadd, 1) := oc_96 (by decide +kernel)
theorem dX12_emit_33 : decode cX12_emit 33 = .ok (.iconst 2, 1) := oc_5 (by decide +kernel)
theorem dX12_emit_34 : decode cX12_emit 34 = .ok (.aload_n 0, 1) := oc_42 (by decide +kernel)
theorem dX12_emit_35 : decode cX12_emit 35 = .ok (.getfield 175, 3) := oc_180 (a := 0) (b := 175) (by decide +kernel)
theorem dX12_emit_38 : decode cX12_emit 38 = .ok (.imul, 1) := oc_104 (by decide +kernel)
theorem dX12_emit_39 : decode cX12_emit 39 = .ok (.iadd, 1) := oc_96 (by decide +kernel)
theorem dX12_emit_40 : decode cX12_emit 40 = .ok (.iconst 1, 1) := oc_4 (by decide +kernel)
theorem dX12_emit_41 : decode cX12_emit 41 = .ok (.iadd, 1) := oc_96 (by decide +kernel)
theorem dX12_emit_42 : decode cX12_emit 42 = .ok (.iload_n 2, 1) := oc_28 (by decide +kernel)
theorem dX12_emit_43 : decode cX12_emit 43 = .ok (.iastore, 1) := oc_79 (by decide +kernel)
theorem dX12_emit_44 : decode cX12_emit 44 = .ok (.aload_n 0, 1) := oc_42 (by decide +kernel)
theorem dX12_emit_45 : decode cX12_emit 45 = .ok (.dup, 1) := oc_89 (by decide +kernel)
theorem dX12_emit_46 : decode cX12_emit 46 = .ok (.getfield 175, 3) := oc_180 (a := 0) (b := 175) (by decide +kernel)
theorem dX12_emit_49 : decode cX12_emit 49 = .ok (.iconst 1, 1) := oc_4 (by decide +kernel)
theorem dX12_emit_50 : decode cX12_emit 50 = .ok (.iadd, 1) := oc_96 (by decide +kernel)
theorem dX12_emit_51 : decode cX12_emit 51 = .ok (.putfield 175, 3) := oc_181 (a := 0) (b := 175) (by decide +kernel)
theorem dX12_emit_54 : decode cX12_emit 54 = .ok (.return_, 1) := oc_177 (by decide +kernel)
theorem dX12_push_0 : decode cX12_push 0 = .ok (.aload_n 0, 1) := oc_42 (by decide +kernel)
theorem tw_182 : Cond.fieldLink RX12 29 "RingsUnderModel" "pile" "[I" ∈ wsL_law := sg_8 _ (List.mem_of_getElem? (i := 14) rfl)
theorem dX12_push_1 : decode cX12_push 1 = .ok (.getfield 29, 3) := oc_180 (a := 0) (b := 29) (by decide +kernel)
theorem dX12_push_4 : decode cX12_push 4 = .ok (.aload_n 0, 1) := oc_42 (by decide +kernel)
theorem tw_887 : Cond.fieldLink RX12 178 "RingsUnderModel" "piled" "I" ∈ wsL_law := sg_37 _ (List.mem_of_getElem? (i := 23) rfl)
theorem dX12_push_5 : decode cX12_push 5 = .ok (.getfield 178, 3) := oc_180 (a := 0) (b := 178) (by decide +kernel)
theorem dX12_push_8 : decode cX12_push 8 = .ok (.iload_n 1, 1) := oc_27 (by decide +kernel)
theorem dX12_push_9 : decode cX12_push 9 = .ok (.iastore, 1) := oc_79 (by decide +kernel)
theorem dX12_push_10 : decode cX12_push 10 = .ok (.aload_n 0, 1) := oc_42 (by decide +kernel)
theorem dX12_push_11 : decode cX12_push 11 = .ok (.dup, 1) := oc_89 (by decide +kernel)
theorem dX12_push_12 : decode cX12_push 12 = .ok (.getfield 178, 3) := oc_180 (a := 0) (b := 178) (by decide +kernel)
theorem dX12_push_15 : decode cX12_push 15 = .ok (.iconst 1, 1) := oc_4 (by decide +kernel)
theorem dX12_push_16 : decode cX12_push 16 = .ok (.iadd, 1) := oc_96 (by decide +kernel)
theorem dX12_push_17 : decode cX12_push 17 = .ok (.putfield 178, 3) := oc_181 (a := 0) (b := 178) (by decide +kernel)
theorem dX12_push_20 : decode cX12_push 20 = .ok (.return_, 1) := oc_177 (by decide +kernel)
theorem dX12_whole_0 : decode cX12_whole 0 = .ok (.aload_n 0, 1) := oc_42 (by decide +kernel)
theorem dX12_whole_1 : decode cX12_whole 1 = .ok (.iconst 1, 1) := oc_4 (by decide +kernel)
theorem tw_888 : Cond.fieldLink RX12 181 "RingsUnderModel" "isWhole" "Z" ∈ wsL_law := sg_38 _ (List.mem_of_getElem? (i := 0) rfl)
theorem dX12_whole_2 : decode cX12_whole 2 = .ok (.putfield 181, 3) := oc_181 (a := 0) (b := 181) (by decide +kernel)
theorem dX12_whole_5 : decode cX12_whole 5 = .ok (.aload_n 0, 1) := oc_42 (by decide +kernel)
theorem dX12_whole_6 : decode cX12_whole 6 = .ok (.getfield 178, 3) := oc_180 (a := 0) (b := 178) (by decide +kernel)
theorem dX12_whole_9 : decode cX12_whole 9 = .ok (.ifCond .le 47, 3) := oc_158 (a := 0) (b := 47) (by decide +kernel)
theorem dX12_whole_56 : decode cX12_whole 56 = .ok (.return_, 1) := oc_177 (by decide +kernel)
theorem dX12_whole_12 : decode cX12_whole 12 = .ok (.aload_n 0, 1) := oc_42 (by decide +kernel)
theorem dX12_whole_13 : decode cX12_whole 13 = .ok (.getfield 29, 3) := oc_180 (a := 0) (b := 29) (by decide +kernel)
theorem dX12_whole_16 : decode cX12_whole 16 = .ok (.aload_n 0, 1) := oc_42 (by decide +kernel)
theorem dX12_whole_17 : decode cX12_whole 17 = .ok (.getfield 178, 3) := oc_180 (a := 0) (b := 178) (by decide +kernel)
theorem dX12_whole_20 : decode cX12_whole 20 = .ok (.iconst 1, 1) := oc_4 (by decide +kernel)
theorem dX12_whole_21 : decode cX12_whole 21 = .ok (.isub, 1) := oc_100 (by decide +kernel)
theorem dX12_whole_22 : decode cX12_whole 22 = .ok (.iaload, 1) := oc_46 (by decide +kernel)
theorem dX12_whole_23 : decode cX12_whole 23 = .ok (.iconst 2, 1) := oc_5 (by decide +kernel)
theorem dX12_whole_24 : decode cX12_whole 24 = .ok (.if_icmp .ne 32, 3) := oc_160 (a := 0) (b := 32) (by decide +kernel)
theorem dX12_whole_27 : decode cX12_whole 27 = .ok (.aload_n 0, 1) := oc_42 (by decide +kernel)
theorem dX12_whole_28 : decode cX12_whole 28 = .ok (.dup, 1) := oc_89 (by decide +kernel)
theorem dX12_whole_29 : decode cX12_whole 29 = .ok (.getfield 178, 3) := oc_180 (a := 0) (b := 178) (by decide +kernel)
theorem dX12_whole_32 : decode cX12_whole 32 = .ok (.iconst 1, 1) := oc_4 (by decide +kernel)
theorem dX12_whole_33 : decode cX12_whole 33 = .ok (.isub, 1) := oc_100 (by decide +kernel)
theorem dX12_whole_34 : decode cX12_whole 34 = .ok (.putfield 178, 3) := oc_181 (a := 0) (b := 178) (by decide +kernel)
theorem dX12_whole_37 : decode cX12_whole 37 = .ok (.aload_n 0, 1) := oc_42 (by decide +kernel)
theorem dX12_whole_38 : decode cX12_whole 38 = .ok (.dup, 1) := oc_89 (by decide +kernel)
theorem tw_828 : Cond.fieldLink RX12 185 "RingsUnderModel" "opens" "I" ∈ wsL_law := sg_35 _ (List.mem_of_getElem? (i := 12) rfl)
theorem dX12_whole_39 : decode cX12_whole 39 = .ok (.getfield 185, 3) := oc_180 (a := 0) (b := 185) (by decide +kernel)
theorem dX12_whole_42 : decode cX12_whole 42 = .ok (.iconst 1, 1) := oc_4 (by decide +kernel)
theorem dX12_whole_43 : decode cX12_whole 43 = .ok (.isub, 1) := oc_100 (by decide +kernel)
theorem dX12_whole_44 : decode cX12_whole 44 = .ok (.putfield 185, 3) := oc_181 (a := 0) (b := 185) (by decide +kernel)
theorem dX12_whole_47 : decode cX12_whole 47 = .ok (.aload_n 0, 1) := oc_42 (by decide +kernel)
theorem dX12_whole_48 : decode cX12_whole 48 = .ok (.iconst 2, 1) := oc_5 (by decide +kernel)
theorem dX12_whole_49 : decode cX12_whole 49 = .ok (.iconst 0, 1) := oc_3 (by decide +kernel)
theorem tw_905 : Cond.methodLink RX12 188 yX12_emit ∈ wsL_law := sg_38 _ (List.mem_of_getElem? (i := 17) rfl)
theorem tw_906 : Cond.instanceMethod yX12_emit ∈ wsL_law := sg_38 _ (List.mem_of_getElem? (i := 18) rfl)
theorem tw_907 : Cond.selects RX12 yX12_emit yX12_emit ∈ wsL_law := sg_38 _ (List.mem_of_getElem? (i := 19) rfl)
theorem tw_908 : Cond.code yX12_emit cX12_emit 3 none ∈ wsL_law := sg_38 _ (List.mem_of_getElem? (i := 20) rfl)
theorem dX12_whole_50 : decode cX12_whole 50 = .ok (.invokevirtual 188, 3) := oc_182 (a := 0) (b := 188) (by decide +kernel)
theorem dX12_whole_53 : decode cX12_whole 53 = .ok (.goto (-48), 3) := oc_167 (a := 255) (b := 208) (by decide +kernel)
theorem dX12_settle_0 : decode cX12_settle 0 = .ok (.aload_n 0, 1) := oc_42 (by decide +kernel)
theorem dX12_settle_1 : decode cX12_settle 1 = .ok (.getfield 178, 3) := oc_180 (a := 0) (b := 178) (by decide +kernel)
theorem dX12_settle_4 : decode cX12_settle 4 = .ok (.ifCond .le 50, 3) := oc_158 (a := 0) (b := 50) (by decide +kernel)
theorem dX12_settle_54 : decode cX12_settle 54 = .ok (.return_, 1) := oc_177 (by decide +kernel)
theorem dX12_settle_7 : decode cX12_settle 7 = .ok (.aload_n 0, 1) := oc_42 (by decide +kernel)
theorem dX12_settle_8 : decode cX12_settle 8 = .ok (.getfield 29, 3) := oc_180 (a := 0) (b := 29) (by decide +kernel)
theorem dX12_settle_11 : decode cX12_settle 11 = .ok (.aload_n 0, 1) := oc_42 (by decide +kernel)
theorem dX12_settle_12 : decode cX12_settle 12 = .ok (.getfield 178, 3) := oc_180 (a := 0) (b := 178) (by decide +kernel)
theorem dX12_settle_15 : decode cX12_settle 15 = .ok (.iconst 1, 1) := oc_4 (by decide +kernel)
theorem dX12_settle_16 : decode cX12_settle 16 = .ok (.isub, 1) := oc_100 (by decide +kernel)
theorem dX12_settle_17 : decode cX12_settle 17 = .ok (.iaload, 1) := oc_46 (by decide +kernel)
theorem dX12_settle_18 : decode cX12_settle 18 = .ok (.iload_n 1, 1) := oc_27 (by decide +kernel)
theorem dX12_settle_19 : decode cX12_settle 19 = .ok (.bipush 6, 2) := oc_16 (a := 6) (by decide +kernel)
theorem dX12_settle_21 : decode cX12_settle 21 = .ok (.invokestatic 62, 3) := oc_184 (a := 0) (b := 62) (by decide +kernel)
theorem dX12_settle_24 : decode cX12_settle 24 = .ok (.ifCond .eq 30, 3) := oc_153 (a := 0) (b := 30) (by decide +kernel)
theorem dX12_settle_27 : decode cX12_settle 27 = .ok (.aload_n 0, 1) := oc_42 (by decide +kernel)
theorem dX12_settle_28 : decode cX12_settle 28 = .ok (.dup, 1) := oc_89 (by decide +kernel)
theorem dX12_settle_29 : decode cX12_settle 29 = .ok (.getfield 178, 3) := oc_180 (a := 0) (b := 178) (by decide +kernel)
theorem dX12_settle_32 : decode cX12_settle 32 = .ok (.iconst 1, 1) := oc_4 (by decide +kernel)
theorem dX12_settle_33 : decode cX12_settle 33 = .ok (.isub, 1) := oc_100 (by decide +kernel)
theorem dX12_settle_34 : decode cX12_settle 34 = .ok (.putfield 178, 3) := oc_181 (a := 0) (b := 178) (by decide +kernel)
theorem dX12_settle_37 : decode cX12_settle 37 = .ok (.aload_n 0, 1) := oc_42 (by decide +kernel)
theorem dX12_settle_38 : decode cX12_settle 38 = .ok (.aload_n 0, 1) := oc_42 (by decide +kernel)
theorem dX12_settle_39 : decode cX12_settle 39 = .ok (.getfield 29, 3) := oc_180 (a := 0) (b := 29) (by decide +kernel)
theorem dX12_settle_42 : decode cX12_settle 42 = .ok (.aload_n 0, 1) := oc_42 (by decide +kernel)
theorem dX12_settle_43 : decode cX12_settle 43 = .ok (.getfield 178, 3) := oc_180 (a := 0) (b := 178) (by decide +kernel)
theorem dX12_settle_46 : decode cX12_settle 46 = .ok (.iaload, 1) := oc_46 (by decide +kernel)
theorem dX12_settle_47 : decode cX12_settle 47 = .ok (.iconst 0, 1) := oc_3 (by decide +kernel)
theorem dX12_settle_48 : decode cX12_settle 48 = .ok (.invokevirtual 188, 3) := oc_182 (a := 0) (b := 188) (by decide +kernel)
theorem dX12_settle_51 : decode cX12_settle 51 = .ok (.goto (-51), 3) := oc_167 (a := 255) (b := 205) (by decide +kernel)
theorem dX12_hasParen_0 : decode cX12_hasParen 0 = .ok (.iconst 0, 1) := oc_3 (by decide +kernel)
theorem dX12_hasParen_1 : decode cX12_hasParen 1 = .ok (.istore_n 1, 1) := oc_60 (by decide +kernel)
theorem dX12_hasParen_2 : decode cX12_hasParen 2 = .ok (.iload_n 1, 1) := oc_27 (by decide +kernel)
theorem dX12_hasParen_3 : decode cX12_hasParen 3 = .ok (.aload_n 0, 1) := oc_42 (by decide +kernel)
theorem dX12_hasParen_4 : decode cX12_hasParen 4 = .ok (.getfield 178, 3) := oc_180 (a := 0) (b := 178) (by decide +kernel)
theorem dX12_hasParen_7 : decode cX12_hasParen 7 = .ok (.if_icmp .ge 22, 3) := oc_162 (a := 0) (b := 22) (by decide +kernel)
theorem dX12_hasParen_29 : decode cX12_hasParen 29 = .ok (.iconst 0, 1) := oc_3 (by decide +kernel)
theorem dX12_hasParen_30 : decode cX12_hasParen 30 = .ok (.ireturn, 1) := oc_172 (by decide +kernel)
theorem dX12_hasParen_10 : decode cX12_hasParen 10 = .ok (.aload_n 0, 1) := oc_42 (by decide +kernel)
theorem dX12_hasParen_11 : decode cX12_hasParen 11 = .ok (.getfield 29, 3) := oc_180 (a := 0) (b := 29) (by decide +kernel)
theorem dX12_hasParen_14 : decode cX12_hasParen 14 = .ok (.iload_n 1, 1) := oc_27 (by decide +kernel)
theorem dX12_hasParen_15 : decode cX12_hasParen 15 = .ok (.iaload, 1) := oc_46 (by decide +kernel)
theorem dX12_hasParen_16 : decode cX12_hasParen 16 = .ok (.bipush 40, 2) := oc_16 (a := 40) (by decide +kernel)
theorem dX12_hasParen_18 : decode cX12_hasParen 18 = .ok (.if_icmp .ne 5, 3) := oc_160 (a := 0) (b := 5) (by decide +kernel)
theorem dX12_hasParen_23 : decode cX12_hasParen 23 = .ok (.iinc 1 1, 3) := oc_132 (b := 1) (by decide +kernel)
theorem dX12_hasParen_26 : decode cX12_hasParen 26 = .ok (.goto (-24), 3) := oc_167 (a := 255) (b := 232) (by decide +kernel)
theorem dX12_hasParen_21 : decode cX12_hasParen 21 = .ok (.iconst 1, 1) := oc_4 (by decide +kernel)
theorem dX12_hasParen_22 : decode cX12_hasParen 22 = .ok (.ireturn, 1) := oc_172 (by decide +kernel)
theorem dX12_goesOn_0 : decode cX12_goesOn 0 = .ok (.aload_n 0, 1) := oc_42 (by decide +kernel)
theorem dX12_goesOn_1 : decode cX12_goesOn 1 = .ok (.getfield 143, 3) := oc_180 (a := 0) (b := 143) (by decide +kernel)
theorem dX12_goesOn_4 : decode cX12_goesOn 4 = .ok (.bipush 43, 2) := oc_16 (a := 43) (by decide +kernel)
theorem dX12_goesOn_6 : decode cX12_goesOn 6 = .ok (.if_icmp .eq 46, 3) := oc_159 (a := 0) (b := 46) (by decide +kernel)
theorem dX12_goesOn_52 : decode cX12_goesOn 52 = .ok (.iconst 1, 1) := oc_4 (by decide +kernel)
theorem dX12_goesOn_53 : decode cX12_goesOn 53 = .ok (.goto 4, 3) := oc_167 (a := 0) (b := 4) (by decide +kernel)
theorem dX12_goesOn_57 : decode cX12_goesOn 57 = .ok (.ireturn, 1) := oc_172 (by decide +kernel)
theorem dX12_goesOn_9 : decode cX12_goesOn 9 = .ok (.aload_n 0, 1) := oc_42 (by decide +kernel)
theorem dX12_goesOn_10 : decode cX12_goesOn 10 = .ok (.getfield 143, 3) := oc_180 (a := 0) (b := 143) (by decide +kernel)
theorem dX12_goesOn_13 : decode cX12_goesOn 13 = .ok (.bipush 45, 2) := oc_16 (a := 45) (by decide +kernel)
theorem dX12_goesOn_15 : decode cX12_goesOn 15 = .ok (.if_icmp .eq 37, 3) := oc_159 (a := 0) (b := 37) (by decide +kernel)
theorem dX12_goesOn_18 : decode cX12_goesOn 18 = .ok (.aload_n 0, 1) := oc_42 (by decide +kernel)
theorem dX12_goesOn_19 : decode cX12_goesOn 19 = .ok (.getfield 143, 3) := oc_180 (a := 0) (b := 143) (by decide +kernel)
theorem dX12_goesOn_22 : decode cX12_goesOn 22 = .ok (.bipush 42, 2) := oc_16 (a := 42) (by decide +kernel)
theorem dX12_goesOn_24 : decode cX12_goesOn 24 = .ok (.if_icmp .eq 28, 3) := oc_159 (a := 0) (b := 28) (by decide +kernel)
theorem dX12_goesOn_27 : decode cX12_goesOn 27 = .ok (.aload_n 0, 1) := oc_42 (by decide +kernel)
theorem dX12_goesOn_28 : decode cX12_goesOn 28 = .ok (.getfield 143, 3) := oc_180 (a := 0) (b := 143) (by decide +kernel)
theorem dX12_goesOn_31 : decode cX12_goesOn 31 = .ok (.bipush 47, 2) := oc_16 (a := 47) (by decide +kernel)
theorem dX12_goesOn_33 : decode cX12_goesOn 33 = .ok (.if_icmp .eq 19, 3) := oc_159 (a := 0) (b := 19) (by decide +kernel)
theorem dX12_goesOn_36 : decode cX12_goesOn 36 = .ok (.aload_n 0, 1) := oc_42 (by decide +kernel)
theorem dX12_goesOn_37 : decode cX12_goesOn 37 = .ok (.getfield 143, 3) := oc_180 (a := 0) (b := 143) (by decide +kernel)
theorem dX12_goesOn_40 : decode cX12_goesOn 40 = .ok (.bipush 41, 2) := oc_16 (a := 41) (by decide +kernel)
theorem dX12_goesOn_42 : decode cX12_goesOn 42 = .ok (.if_icmp .ne 14, 3) := oc_160 (a := 0) (b := 14) (by decide +kernel)
theorem dX12_goesOn_56 : decode cX12_goesOn 56 = .ok (.iconst 0, 1) := oc_3 (by decide +kernel)
theorem dX12_goesOn_45 : decode cX12_goesOn 45 = .ok (.aload_n 0, 1) := oc_42 (by decide +kernel)
theorem tw_893 : Cond.methodLink RX12 205 yX12_hasParen ∈ wsL_law := sg_38 _ (List.mem_of_getElem? (i := 5) rfl)
theorem tw_894 : Cond.instanceMethod yX12_hasParen ∈ wsL_law := sg_38 _ (List.mem_of_getElem? (i := 6) rfl)
theorem tw_895 : Cond.selects RX12 yX12_hasParen yX12_hasParen ∈ wsL_law := sg_38 _ (List.mem_of_getElem? (i := 7) rfl)
theorem tw_896 : Cond.code yX12_hasParen cX12_hasParen 2 (some .boolean) ∈ wsL_law := sg_38 _ (List.mem_of_getElem? (i := 8) rfl)
theorem dX12_goesOn_46 : decode cX12_goesOn 46 = .ok (.invokevirtual 205, 3) := oc_182 (a := 0) (b := 205) (by decide +kernel)
theorem dX12_goesOn_49 : decode cX12_goesOn 49 = .ok (.ifCond .eq 7, 3) := oc_153 (a := 0) (b := 7) (by decide +kernel)
theorem dX12_beginOne_0 : decode cX12_beginOne 0 = .ok (.aload_n 0, 1) := oc_42 (by decide +kernel)
theorem dX12_beginOne_1 : decode cX12_beginOne 1 = .ok (.getfield 143, 3) := oc_180 (a := 0) (b := 143) (by decide +kernel)
theorem dX12_beginOne_4 : decode cX12_beginOne 4 = .ok (.iconst 1, 1) := oc_4 (by decide +kernel)
theorem dX12_beginOne_5 : decode cX12_beginOne 5 = .ok (.if_icmp .ne 15, 3) := oc_160 (a := 0) (b := 15) (by decide +kernel)
theorem dX12_beginOne_20 : decode cX12_beginOne 20 = .ok (.aload_n 0, 1) := oc_42 (by decide +kernel)
theorem dX12_beginOne_21 : decode cX12_beginOne 21 = .ok (.getfield 143, 3) := oc_180 (a := 0) (b := 143) (by decide +kernel)
theorem dX12_beginOne_24 : decode cX12_beginOne 24 = .ok (.iconst 1, 1) := oc_4 (by decide +kernel)
theorem dX12_beginOne_25 : decode cX12_beginOne 25 = .ok (.if_icmp .eq 10, 3) := oc_159 (a := 0) (b := 10) (by decide +kernel)
theorem dX12_beginOne_35 : decode cX12_beginOne 35 = .ok (.aload_n 0, 1) := oc_42 (by decide +kernel)
theorem dX12_beginOne_36 : decode cX12_beginOne 36 = .ok (.aload_n 0, 1) := oc_42 (by decide +kernel)
theorem dX12_beginOne_37 : decode cX12_beginOne 37 = .ok (.getfield 143, 3) := oc_180 (a := 0) (b := 143) (by decide +kernel)
theorem dX12_beginOne_40 : decode cX12_beginOne 40 = .ok (.iconst 1, 1) := oc_4 (by decide +kernel)
theorem dX12_beginOne_41 : decode cX12_beginOne 41 = .ok (.if_icmp .ne 7, 3) := oc_160 (a := 0) (b := 7) (by decide +kernel)
theorem dX12_beginOne_44 : decode cX12_beginOne 44 = .ok (.iconst 0, 1) := oc_3 (by decide +kernel)
theorem dX12_beginOne_45 : decode cX12_beginOne 45 = .ok (.goto 4, 3) := oc_167 (a := 0) (b := 4) (by decide +kernel)
theorem dX12_beginOne_49 : decode cX12_beginOne 49 = .ok (.aload_n 0, 1) := oc_42 (by decide +kernel)
theorem dX12_beginOne_50 : decode cX12_beginOne 50 = .ok (.getfield 143, 3) := oc_180 (a := 0) (b := 143) (by decide +kernel)
theorem dX12_beginOne_53 : decode cX12_beginOne 53 = .ok (.iconst 1, 1) := oc_4 (by decide +kernel)
theorem dX12_beginOne_54 : decode cX12_beginOne 54 = .ok (.if_icmp .ne 10, 3) := oc_160 (a := 0) (b := 10) (by decide +kernel)
theorem dX12_beginOne_57 : decode cX12_beginOne 57 = .ok (.aload_n 0, 1) := oc_42 (by decide +kernel)
theorem dX12_beginOne_58 : decode cX12_beginOne 58 = .ok (.getfield 149, 3) := oc_180 (a := 0) (b := 149) (by decide +kernel)
theorem dX12_beginOne_61 : decode cX12_beginOne 61 = .ok (.goto 7, 3) := oc_167 (a := 0) (b := 7) (by decide +kernel)
theorem dX12_beginOne_68 : decode cX12_beginOne 68 = .ok (.invokevirtual 188, 3) := oc_182 (a := 0) (b := 188) (by decide +kernel)
theorem dX12_beginOne_71 : decode cX12_beginOne 71 = .ok (.aload_n 0, 1) := oc_42 (by decide +kernel)
theorem tw_832 : Cond.methodLink RX12 196 yX12_nextToken ∈ wsL_law := sg_35 _ (List.mem_of_getElem? (i := 16) rfl)
theorem tw_833 : Cond.instanceMethod yX12_nextToken ∈ wsL_law := sg_35 _ (List.mem_of_getElem? (i := 17) rfl)
theorem tw_834 : Cond.selects RX12 yX12_nextToken yX12_nextToken ∈ wsL_law := sg_35 _ (List.mem_of_getElem? (i := 18) rfl)
theorem tw_835 : Cond.code yX12_nextToken cX12_nextToken 3 none ∈ wsL_law := sg_35 _ (List.mem_of_getElem? (i := 19) rfl)
theorem dX12_beginOne_72 : decode cX12_beginOne 72 = .ok (.invokevirtual 196, 3) := oc_182 (a := 0) (b := 196) (by decide +kernel)
theorem dX12_beginOne_75 : decode cX12_beginOne 75 = .ok (.aload_n 0, 1) := oc_42 (by decide +kernel)
theorem tw_909 : Cond.methodLink RX12 199 yX12_whole ∈ wsL_law := sg_38 _ (List.mem_of_getElem? (i := 21) rfl)
theorem tw_910 : Cond.instanceMethod yX12_whole ∈ wsL_law := sg_38 _ (List.mem_of_getElem? (i := 22) rfl)
theorem tw_911 : Cond.selects RX12 yX12_whole yX12_whole ∈ wsL_law := sg_38 _ (List.mem_of_getElem? (i := 23) rfl)
theorem tw_912 : Cond.code yX12_whole cX12_whole 1 none ∈ wsL_law := sg_39 _ (List.mem_of_getElem? (i := 0) rfl)
theorem dX12_beginOne_76 : decode cX12_beginOne 76 = .ok (.invokevirtual 199, 3) := oc_182 (a := 0) (b := 199) (by decide +kernel)
theorem dX12_beginOne_79 : decode cX12_beginOne 79 = .ok (.iconst 0, 1) := oc_3 (by decide +kernel)
theorem dX12_beginOne_80 : decode cX12_beginOne 80 = .ok (.ireturn, 1) := oc_172 (by decide +kernel)
theorem dX12_beginOne_28 : decode cX12_beginOne 28 = .ok (.aload_n 0, 1) := oc_42 (by decide +kernel)
theorem tw_921 : Cond.methodLink RX12 192 yX12_nameOf ∈ wsL_law := sg_39 _ (List.mem_of_getElem? (i := 9) rfl)
theorem tw_922 : Cond.instanceMethod yX12_nameOf ∈ wsL_law := sg_39 _ (List.mem_of_getElem? (i := 10) rfl)
theorem tw_923 : Cond.selects RX12 yX12_nameOf yX12_nameOf ∈ wsL_law := sg_39 _ (List.mem_of_getElem? (i := 11) rfl)
theorem tw_924 : Cond.code yX12_nameOf cX12_nameOf 1 (some .int) ∈ wsL_law := sg_39 _ (List.mem_of_getElem? (i := 12) rfl)
theorem dX12_beginOne_29 : decode cX12_beginOne 29 = .ok (.invokevirtual 192, 3) := oc_182 (a := 0) (b := 192) (by decide +kernel)
theorem dX12_beginOne_32 : decode cX12_beginOne 32 = .ok (.ifCond .lt 49, 3) := oc_155 (a := 0) (b := 49) (by decide +kernel)
theorem dX12_beginOne_81 : decode cX12_beginOne 81 = .ok (.aload_n 0, 1) := oc_42 (by decide +kernel)
theorem dX12_beginOne_82 : decode cX12_beginOne 82 = .ok (.getfield 143, 3) := oc_180 (a := 0) (b := 143) (by decide +kernel)
theorem dX12_beginOne_85 : decode cX12_beginOne 85 = .ok (.bipush 40, 2) := oc_16 (a := 40) (by decide +kernel)
theorem dX12_beginOne_87 : decode cX12_beginOne 87 = .ok (.if_icmp .eq 14, 3) := oc_159 (a := 0) (b := 14) (by decide +kernel)
theorem dX12_beginOne_101 : decode cX12_beginOne 101 = .ok (.aload_n 0, 1) := oc_42 (by decide +kernel)
theorem dX12_beginOne_102 : decode cX12_beginOne 102 = .ok (.getfield 185, 3) := oc_180 (a := 0) (b := 185) (by decide +kernel)
theorem dX12_beginOne_105 : decode cX12_beginOne 105 = .ok (.bipush 8, 2) := oc_16 (a := 8) (by decide +kernel)
theorem dX12_beginOne_107 : decode cX12_beginOne 107 = .ok (.if_icmp .ne 5, 3) := oc_160 (a := 0) (b := 5) (by decide +kernel)
theorem dX12_beginOne_112 : decode cX12_beginOne 112 = .ok (.aload_n 0, 1) := oc_42 (by decide +kernel)
theorem dX12_beginOne_113 : decode cX12_beginOne 113 = .ok (.dup, 1) := oc_89 (by decide +kernel)
theorem dX12_beginOne_114 : decode cX12_beginOne 114 = .ok (.getfield 185, 3) := oc_180 (a := 0) (b := 185) (by decide +kernel)
theorem dX12_beginOne_117 : decode cX12_beginOne 117 = .ok (.iconst 1, 1) := oc_4 (by decide +kernel)
theorem dX12_beginOne_118 : decode cX12_beginOne 118 = .ok (.iadd, 1) := oc_96 (by decide +kernel)
theorem dX12_beginOne_119 : decode cX12_beginOne 119 = .ok (.putfield 185, 3) := oc_181 (a := 0) (b := 185) (by decide +kernel)
theorem dX12_beginOne_122 : decode cX12_beginOne 122 = .ok (.aload_n 0, 1) := oc_42 (by decide +kernel)
theorem dX12_beginOne_123 : decode cX12_beginOne 123 = .ok (.aload_n 0, 1) := oc_42 (by decide +kernel)
theorem dX12_beginOne_124 : decode cX12_beginOne 124 = .ok (.getfield 143, 3) := oc_180 (a := 0) (b := 143) (by decide +kernel)
theorem dX12_beginOne_127 : decode cX12_beginOne 127 = .ok (.bipush 40, 2) := oc_16 (a := 40) (by decide +kernel)
theorem dX12_beginOne_129 : decode cX12_beginOne 129 = .ok (.if_icmp .ne 8, 3) := oc_160 (a := 0) (b := 8) (by decide +kernel)
theorem dX12_beginOne_132 : decode cX12_beginOne 132 = .ok (.bipush 40, 2) := oc_16 (a := 40) (by decide +kernel)
theorem dX12_beginOne_134 : decode cX12_beginOne 134 = .ok (.goto 4, 3) := oc_167 (a := 0) (b := 4) (by decide +kernel)
theorem tw_913 : Cond.methodLink RX12 202 yX12_push ∈ wsL_law := sg_39 _ (List.mem_of_getElem? (i := 1) rfl)
theorem tw_914 : Cond.instanceMethod yX12_push ∈ wsL_law := sg_39 _ (List.mem_of_getElem? (i := 2) rfl)
theorem tw_915 : Cond.selects RX12 yX12_push yX12_push ∈ wsL_law := sg_39 _ (List.mem_of_getElem? (i := 3) rfl)
theorem tw_916 : Cond.code yX12_push cX12_push 2 none ∈ wsL_law := sg_39 _ (List.mem_of_getElem? (i := 4) rfl)
theorem dX12_beginOne_138 : decode cX12_beginOne 138 = .ok (.invokevirtual 202, 3) := oc_182 (a := 0) (b := 202) (by decide +kernel)
theorem dX12_beginOne_141 : decode cX12_beginOne 141 = .ok (.aload_n 0, 1) := oc_42 (by decide +kernel)
theorem dX12_beginOne_142 : decode cX12_beginOne 142 = .ok (.invokevirtual 196, 3) := oc_182 (a := 0) (b := 196) (by decide +kernel)
theorem dX12_beginOne_145 : decode cX12_beginOne 145 = .ok (.iconst 0, 1) := oc_3 (by decide +kernel)
theorem dX12_beginOne_146 : decode cX12_beginOne 146 = .ok (.ireturn, 1) := oc_172 (by decide +kernel)
theorem dX12_beginOne_110 : decode cX12_beginOne 110 = .ok (.iconst 3, 1) := oc_6 (by decide +kernel)
theorem dX12_beginOne_111 : decode cX12_beginOne 111 = .ok (.ireturn, 1) := oc_172 (by decide +kernel)
theorem dX12_beginOne_90 : decode cX12_beginOne 90 = .ok (.aload_n 0, 1) := oc_42 (by decide +kernel)
theorem dX12_beginOne_91 : decode cX12_beginOne 91 = .ok (.getfield 143, 3) := oc_180 (a := 0) (b := 143) (by decide +kernel)
theorem dX12_beginOne_94 : decode cX12_beginOne 94 = .ok (.bipush 45, 2) := oc_16 (a := 45) (by decide +kernel)
theorem dX12_beginOne_96 : decode cX12_beginOne 96 = .ok (.if_icmp .eq 5, 3) := oc_159 (a := 0) (b := 5) (by decide +kernel)
theorem dX12_beginOne_137 : decode cX12_beginOne 137 = .ok (.iconst 2, 1) := oc_5 (by decide +kernel)
theorem dX12_beginOne_99 : decode cX12_beginOne 99 = .ok (.iconst 1, 1) := oc_4 (by decide +kernel)
theorem dX12_beginOne_100 : decode cX12_beginOne 100 = .ok (.ireturn, 1) := oc_172 (by decide +kernel)
theorem dX12_beginOne_48 : decode cX12_beginOne 48 = .ok (.iconst 1, 1) := oc_4 (by decide +kernel)
theorem dX12_beginOne_64 : decode cX12_beginOne 64 = .ok (.aload_n 0, 1) := oc_42 (by decide +kernel)
theorem dX12_beginOne_65 : decode cX12_beginOne 65 = .ok (.invokevirtual 192, 3) := oc_182 (a := 0) (b := 192) (by decide +kernel)
theorem dX12_beginOne_8 : decode cX12_beginOne 8 = .ok (.aload_n 0, 1) := oc_42 (by decide +kernel)
theorem dX12_beginOne_9 : decode cX12_beginOne 9 = .ok (.getfield 149, 3) := oc_180 (a := 0) (b := 149) (by decide +kernel)
theorem dX12_beginOne_12 : decode cX12_beginOne 12 = .ok (.sipush 9999, 3) := oc_17 (a := 39) (b := 15) (by decide +kernel)
theorem dX12_beginOne_15 : decode cX12_beginOne 15 = .ok (.if_icmp .le 5, 3) := oc_164 (a := 0) (b := 5) (by decide +kernel)
theorem dX12_beginOne_18 : decode cX12_beginOne 18 = .ok (.iconst 2, 1) := oc_5 (by decide +kernel)
theorem dX12_beginOne_19 : decode cX12_beginOne 19 = .ok (.ireturn, 1) := oc_172 (by decide +kernel)
set_option maxHeartbeats 4000000 in
set_option maxRecDepth 100000 in
theorem s_X12_isWord_x (l : Launch) (D : va_G) (t : pq_T) (σ : pq_S) (I : Nat → Nat → Int32) (J : Nat → Nat → Int64) (ri : Nat → Nat → Int32) (rj : Nat → Nat → Int64) (rq : Nat → Nat → Option Nat) (sz : Nat) (tg : Nat → Nat) (hSH : SH σ tg) (hG0 : GT tg I ri) (this : Nat) (a0 : Int64) (hL_this : this ∈ σ.1) (hK_this : σ.2.1 this = 12) : MetI l yX12_isWord (wa yX12_isWord cX12_isWord 3 (some .boolean)) ({ frames := 0, cells := 0, slots := 0, locals := 0 }) [.ref this, .long a0] D t σ (I, J, ri, rj, rq) sz 0 0 (fun (r : Int32) (u : pq_S × pq_M) => u = (σ, I, J, ri, rj, rq) ∧ ((r = 1 ∧ ((I 393 this).toInt = 2)) ∨ (r = 0 ∧ True))) := by
  refine Met.ofW (cc := cX12_isWord) (maxL := 3) (ret := (some .boolean)) (by decide) rfl ?_
  intro p e s m args below meth c s₁ B hml hv
  obtain ⟨rfl, hsz, hP, hK, hD0, hN⟩ := hv
  have hx := B.exec
  have hb := B.bytes
  have hr := B.returns
  have hts := atoms_spec (ws := (wa yX12_isWord cX12_isWord 3 (some .boolean))) B.pre
  have hown : s.vm.findClass RX12 = some m.cls := findClass_of_methodNamed B.named
  have hlocks := B.notSynchronized
  subst hsz
  have hD : va_D (pq_B t σ (I, J, ri, rj, rq) s.heap.size) (pq_P t σ (I, J, ri, rj, rq)) := hD0.self
  generalize hAe : pq_B t σ (I, J, ri, rj, rq) s.heap.size = A at hD ⊢
  have hA : ∀ q : Nat, s.heap.size ≤ q → A q := fun q h => by rw [← hAe]; exact Or.inr h
  have hS : va_S A s.heap s.heap [] := va_S.rf
  have hG : GM [] tg σ I ri I ri rq := ⟨hG0, fun _ _ _ => rfl, fun _ _ _ _ _ => rfl, fun _ _ _ _ _ _ => rfl⟩
  have hl := lv_entry ([.ref this, .long a0]) (n := 3) (Nat.le_of_ble_eq_true rfl)
  rw [lg_entry_eq]
  generalize (lg_sl ([.ref this, .long a0]) ++ List.replicate (3 - (lg_sl ([.ref this, .long a0])).length) Slot.unset).toArray = ls at hl ⊢
  have hl : lv_has ls 3 [(0, .ref this), (1, .long a0)] := hl
  refine q_gen (fun Q hQ => ?_)
  have go : ∀ (H : Heap) (locs : List Loc) (ls : Array Slot), va_P D vwCl (pq_P t σ (I, J, ri, rj, rq)) H → va_D A (pq_P t σ (I, J, ri, rj, rq)) → va_S A s.heap H locs → lv_has ls 3 [(0, .ref this), (1, .long a0)] → W p l e ({ frames := 0, cells := 0, slots := 0, locals := 0 } : Room) s m (List.toArray ([.ref this, .long a0] : List Value)) below meth c H locs 0 0 Q (F0 m 0 ls []) := by
    intro H locs ls hP hD hS hl
    refine lv_aload_n hx hb dX12_isWord_0 rfl (lv_at hl 0 rfl) ?_
    refine pg_f (v := .int (I 393 this)) (C := RX12) (T := TX12) (N := 31) hx hb hts (tw_i inlX12) hown hK hP hL_this hK_this (by decide) rfl 9 (by decide) (hts _ (tw_c tw_831)) rfl dX12_isWord_1 ?_
    refine lv_iconst (v := 2) hx hb dX12_isWord_4 (by decide) ?_
    refine lv_icmp_ne (tgt := 21) hx hb dX12_isWord_5 (by decide) (fun c_1 => ?_) (fun c_1 => ?_)
    · have tc_2 : (I 393 this).toInt ≠ 2 := fun q => c_1 (Int32.toInt_inj.mp q)
      refine lv_iconst (v := 0) hx hb dX12_isWord_21 (by decide) ?_
      subst hQ
      exact W.zret (v := 0) hx hb hr (by decide) (fun t1 ht hW => ⟨⟨0, (σ, I, J, ri, rj, rq), rfl, ⟨rfl, (Or.inr ⟨rfl, trivial⟩)⟩, by rw [ht]; exact hP, va_K.moved hW.alike hK, hD⟩, hS.F ht⟩) hS.2.2 dX12_isWord_22
    · have tc_3 : (I 393 this).toInt = 2 := congrArg Int32.toInt c_1
      have h_4 : rg (I 393 this) 2 2 := rg_and (rg_full _) (rg_of_eq c_1 (rg_k (2 : Int32) 2 rfl)) (by decide)
      have uh_4 := h_4.1
      have vh_4 := h_4.2
      refine lv_aload_n hx hb dX12_isWord_8 rfl (lv_at hl 0 rfl) ?_
      refine pg_f (v := .long (J 395 this)) (C := RX12) (T := TX12) (N := 31) hx hb hts (tw_i inlX12) hown hK hP hL_this hK_this (by decide) rfl 11 (by decide) (hts _ (tw_c tw_838)) rfl dX12_isWord_9 ?_
      refine lv_lload_n hx hb dX12_isWord_12 rfl (lv_at hl 1 rfl) ?_
      refine W.lcmp hx hb dX12_isWord_13 ?_
      refine lv_topi (fun x_5 ex_5 => ?_)
      refine lv_if_ne (tgt := 21) hx hb dX12_isWord_14 (by decide) (fun c_6 => ?_) (fun c_6 => ?_)
      · have tc_7 : (x_5).toInt ≠ 0 := fun q => c_6 (Int32.toInt_inj.mp q)
        refine lv_iconst (v := 0) hx hb dX12_isWord_21 (by decide) ?_
        subst hQ
        exact W.zret (v := 0) hx hb hr (by decide) (fun t1 ht hW => ⟨⟨0, (σ, I, J, ri, rj, rq), rfl, ⟨rfl, (Or.inr ⟨rfl, trivial⟩)⟩, by rw [ht]; exact hP, va_K.moved hW.alike hK, hD⟩, hS.F ht⟩) hS.2.2 dX12_isWord_22
      · have tc_8 : (x_5).toInt = 0 := congrArg Int32.toInt c_6
        have h_9 : rg x_5 0 0 := rg_and (rg_full _) (rg_of_eq c_6 (rg_k (0 : Int32) 0 rfl)) (by decide)
        have uh_9 := h_9.1
        have vh_9 := h_9.2
        refine lv_iconst (v := 1) hx hb dX12_isWord_17 (by decide) ?_
        refine lv_goto (tgt := 22) hx hb dX12_isWord_18 (by decide) ?_
        subst hQ
        exact W.zret (v := 1) hx hb hr (by decide) (fun t1 ht hW => ⟨⟨1, (σ, I, J, ri, rj, rq), rfl, ⟨rfl, (Or.inl ⟨rfl, (by omega)⟩)⟩, by rw [ht]; exact hP, va_K.moved hW.alike hK, hD⟩, hS.F ht⟩) hS.2.2 dX12_isWord_22
  exact go _ _ _ hP hD hS hl

set_option maxHeartbeats 4000000 in
set_option maxRecDepth 100000 in
theorem s_X12_nameOf_x (l : Launch) (D : va_G) (t : pq_T) (σ : pq_S) (I : Nat → Nat → Int32) (J : Nat → Nat → Int64) (ri : Nat → Nat → Int32) (rj : Nat → Nat → Int64) (rq : Nat → Nat → Option Nat) (sz : Nat) (tg : Nat → Nat) (hSH : SH σ tg) (hG0 : GT tg I ri) (this : Nat) (hL_this : this ∈ σ.1) (hK_this : σ.2.1 this = 12) : MetI l yX12_nameOf (wa yX12_nameOf cX12_nameOf 1 (some .int)) ({ frames := 3, cells := 0, slots := 0, locals := 69 }) [.ref this] D t σ (I, J, ri, rj, rq) sz 0 0 (fun (r : Int32) (u : pq_S × pq_M) => u = (σ, I, J, ri, rj, rq) ∧ (r.toInt < 0 ∨ (I 393 this).toInt = 2) ∧ rg r (-1) 5) := by
  refine Met.ofW (cc := cX12_nameOf) (maxL := 1) (ret := (some .int)) (by decide) rfl ?_
  intro p e s m args below meth c s₁ B hml hv
  obtain ⟨rfl, hsz, hP, hK, hD0, hN⟩ := hv
  have hx := B.exec
  have hb := B.bytes
  have hr := B.returns
  have hts := atoms_spec (ws := (wa yX12_nameOf cX12_nameOf 1 (some .int))) B.pre
  have hown : s.vm.findClass RX12 = some m.cls := findClass_of_methodNamed B.named
  have hlocks := B.notSynchronized
  subst hsz
  have hD : va_D (pq_B t σ (I, J, ri, rj, rq) s.heap.size) (pq_P t σ (I, J, ri, rj, rq)) := hD0.self
  generalize hAe : pq_B t σ (I, J, ri, rj, rq) s.heap.size = A at hD ⊢
  have hA : ∀ q : Nat, s.heap.size ≤ q → A q := fun q h => by rw [← hAe]; exact Or.inr h
  have hS : va_S A s.heap s.heap [] := va_S.rf
  have hG : GM [] tg σ I ri I ri rq := ⟨hG0, fun _ _ _ => rfl, fun _ _ _ _ _ => rfl, fun _ _ _ _ _ _ => rfl⟩
  have hl := lv_entry ([.ref this]) (n := 1) (Nat.le_of_ble_eq_true rfl)
  rw [lg_entry_eq]
  generalize (lg_sl ([.ref this]) ++ List.replicate (1 - (lg_sl ([.ref this])).length) Slot.unset).toArray = ls at hl ⊢
  have hl : lv_has ls 1 [(0, .ref this)] := hl
  refine q_gen (fun Q hQ => ?_)
  have go : ∀ (H : Heap) (locs : List Loc) (ls : Array Slot), va_P D vwCl (pq_P t σ (I, J, ri, rj, rq)) H → va_D A (pq_P t σ (I, J, ri, rj, rq)) → va_S A s.heap H locs → lv_has ls 1 [(0, .ref this)] → W p l e ({ frames := 3, cells := 0, slots := 0, locals := 69 } : Room) s m (List.toArray ([.ref this] : List Value)) below meth c H locs 0 0 Q (F0 m 0 ls []) := by
    intro H locs ls hP hD hS hl
    refine lv_aload_n hx hb dX12_nameOf_0 rfl (lv_at hl 0 rfl) ?_
    refine pg_f (v := .int (I 393 this)) (C := RX12) (T := TX12) (N := 31) hx hb hts (tw_i inlX12) hown hK hP hL_this hK_this (by decide) rfl 9 (by decide) (hts _ (tw_c tw_831)) rfl dX12_nameOf_1 ?_
    refine lv_iconst (v := 2) hx hb dX12_nameOf_4 (by decide) ?_
    refine lv_icmp_eq (tgt := 10) hx hb dX12_nameOf_5 (by decide) (fun c_1 => ?_) (fun c_1 => ?_)
    · have tc_2 : (I 393 this).toInt = 2 := congrArg Int32.toInt c_1
      have h_3 : rg (I 393 this) 2 2 := rg_and (rg_full _) (rg_of_eq c_1 (rg_k (2 : Int32) 2 rfl)) (by decide)
      have uh_3 := h_3.1
      have vh_3 := h_3.2
      refine lv_aload_n hx hb dX12_nameOf_10 rfl (lv_at hl 0 rfl) ?_
      refine pg_f (v := .long (J 395 this)) (C := RX12) (T := TX12) (N := 31) hx hb hts (tw_i inlX12) hown hK hP hL_this hK_this (by decide) rfl 11 (by decide) (hts _ (tw_c tw_838)) rfl dX12_nameOf_11 ?_
      refine lv_bipush (v := 97) hx hb dX12_nameOf_14 (by decide) ?_
      refine lv_bipush (v := 103) hx hb dX12_nameOf_16 (by decide) ?_
      refine lv_bipush (v := 101) hx hb dX12_nameOf_18 (by decide) ?_
      refine pk_l (va_runS (As := [.int 97, .int 103, .int 101]) (rest := [.long (J 395 this)]) ⟨hx, hb, hml, hown, hts⟩ (s_X12_w3_x l D t σ I J ri rj rq H.size tg hSH hG.1 (97 : Int32) (103 : Int32) (101 : Int32)) (va_cwS 3 hts (tw_S tw_864 tw_865 tw_5 tw_866) rfl rfl rfl cd_yX12_w3_3 ⟨Nat.le_of_ble_eq_true rfl, Nat.le_of_ble_eq_true rfl⟩) ⟨pq_blind, pq_pre hK hN hP hD⟩ rfl rfl hl.1 rfl (lv_room (Nat.le_of_ble_eq_true rfl)) dX12_nameOf_20 ⟨Nat.le_of_ble_eq_true rfl, Nat.le_of_ble_eq_true rfl⟩) hD hS hA (fun x_4 σ1 μ1 H locs hw_5 hP hD hS => ?_)
      have hu_6 := hw_5
      obtain ⟨hu_6a, hu_6b⟩ := Prod.mk.inj hu_6
      rw [hu_6a, hu_6b] at hP hD
      refine W.lcmp hx hb dX12_nameOf_23 ?_
      refine lv_topi (fun x_9 ex_9 => ?_)
      refine lv_if_ne (tgt := 29) hx hb dX12_nameOf_24 (by decide) (fun c_10 => ?_) (fun c_10 => ?_)
      · have tc_11 : (x_9).toInt ≠ 0 := fun q => c_10 (Int32.toInt_inj.mp q)
        refine lv_aload_n hx hb dX12_nameOf_29 rfl (lv_at hl 0 rfl) ?_
        refine pg_f (v := .long (J 395 this)) (C := RX12) (T := TX12) (N := 31) hx hb hts (tw_i inlX12) hown hK hP hL_this hK_this (by decide) rfl 11 (by decide) (hts _ (tw_c tw_838)) rfl dX12_nameOf_30 ?_
        refine lv_bipush (v := 107) hx hb dX12_nameOf_33 (by decide) ?_
        refine lv_bipush (v := 105) hx hb dX12_nameOf_35 (by decide) ?_
        refine lv_bipush (v := 110) hx hb dX12_nameOf_37 (by decide) ?_
        refine pk_l (va_runS (As := [.int 107, .int 105, .int 110]) (rest := [.long (J 395 this)]) ⟨hx, hb, hml, hown, hts⟩ (s_X12_w3_x l D t σ I J ri rj rq H.size tg hSH hG.1 (107 : Int32) (105 : Int32) (110 : Int32)) (va_cwS 3 hts (tw_S tw_864 tw_865 tw_5 tw_866) rfl rfl rfl cd_yX12_w3_3 ⟨Nat.le_of_ble_eq_true rfl, Nat.le_of_ble_eq_true rfl⟩) ⟨pq_blind, pq_pre hK hN hP hD⟩ rfl rfl hl.1 rfl (lv_room (Nat.le_of_ble_eq_true rfl)) dX12_nameOf_39 ⟨Nat.le_of_ble_eq_true rfl, Nat.le_of_ble_eq_true rfl⟩) hD hS hA (fun x_12 σ1 μ1 H locs hw_13 hP hD hS => ?_)
        have hu_14 := hw_13
        obtain ⟨hu_14a, hu_14b⟩ := Prod.mk.inj hu_14
        rw [hu_14a, hu_14b] at hP hD
        refine W.lcmp hx hb dX12_nameOf_42 ?_
        refine lv_topi (fun x_17 ex_17 => ?_)
        refine lv_if_ne (tgt := 48) hx hb dX12_nameOf_43 (by decide) (fun c_18 => ?_) (fun c_18 => ?_)
        · have tc_19 : (x_17).toInt ≠ 0 := fun q => c_18 (Int32.toInt_inj.mp q)
          refine lv_aload_n hx hb dX12_nameOf_48 rfl (lv_at hl 0 rfl) ?_
          refine pg_f (v := .long (J 395 this)) (C := RX12) (T := TX12) (N := 31) hx hb hts (tw_i inlX12) hown hK hP hL_this hK_this (by decide) rfl 11 (by decide) (hts _ (tw_c tw_838)) rfl dX12_nameOf_49 ?_
          refine lv_bipush (v := 99) hx hb dX12_nameOf_52 (by decide) ?_
          refine lv_bipush (v := 114) hx hb dX12_nameOf_54 (by decide) ?_
          refine lv_bipush (v := 97) hx hb dX12_nameOf_56 (by decide) ?_
          refine lv_bipush (v := 102) hx hb dX12_nameOf_58 (by decide) ?_
          refine lv_bipush (v := 116) hx hb dX12_nameOf_60 (by decide) ?_
          refine pk_l (va_runS (As := [.int 99, .int 114, .int 97, .int 102, .int 116]) (rest := [.long (J 395 this)]) ⟨hx, hb, hml, hown, hts⟩ (s_X12_w5_x l D t σ I J ri rj rq H.size tg hSH hG.1 (99 : Int32) (114 : Int32) (97 : Int32) (102 : Int32) (116 : Int32)) (va_cwS 5 hts (tw_S tw_858 tw_859 tw_5 tw_860) rfl rfl rfl cd_yX12_w5_5 ⟨Nat.le_of_ble_eq_true rfl, Nat.le_of_ble_eq_true rfl⟩) ⟨pq_blind, pq_pre hK hN hP hD⟩ rfl rfl hl.1 rfl (lv_room (Nat.le_of_ble_eq_true rfl)) dX12_nameOf_62 ⟨Nat.le_of_ble_eq_true rfl, Nat.le_of_ble_eq_true rfl⟩) hD hS hA (fun x_20 σ1 μ1 H locs hw_21 hP hD hS => ?_)
          have hu_22 := hw_21
          obtain ⟨hu_22a, hu_22b⟩ := Prod.mk.inj hu_22
          rw [hu_22a, hu_22b] at hP hD
          refine W.lcmp hx hb dX12_nameOf_65 ?_
          refine lv_topi (fun x_25 ex_25 => ?_)
          refine lv_if_ne (tgt := 71) hx hb dX12_nameOf_66 (by decide) (fun c_26 => ?_) (fun c_26 => ?_)
          · have tc_27 : (x_25).toInt ≠ 0 := fun q => c_26 (Int32.toInt_inj.mp q)
            refine lv_aload_n hx hb dX12_nameOf_71 rfl (lv_at hl 0 rfl) ?_
            refine pg_f (v := .long (J 395 this)) (C := RX12) (T := TX12) (N := 31) hx hb hts (tw_i inlX12) hown hK hP hL_this hK_this (by decide) rfl 11 (by decide) (hts _ (tw_c tw_838)) rfl dX12_nameOf_72 ?_
            refine lv_bipush (v := 112) hx hb dX12_nameOf_75 (by decide) ?_
            refine lv_bipush (v := 108) hx hb dX12_nameOf_77 (by decide) ?_
            refine lv_bipush (v := 97) hx hb dX12_nameOf_79 (by decide) ?_
            refine lv_bipush (v := 99) hx hb dX12_nameOf_81 (by decide) ?_
            refine lv_bipush (v := 101) hx hb dX12_nameOf_83 (by decide) ?_
            refine pk_l (va_runS (As := [.int 112, .int 108, .int 97, .int 99, .int 101]) (rest := [.long (J 395 this)]) ⟨hx, hb, hml, hown, hts⟩ (s_X12_w5_x l D t σ I J ri rj rq H.size tg hSH hG.1 (112 : Int32) (108 : Int32) (97 : Int32) (99 : Int32) (101 : Int32)) (va_cwS 5 hts (tw_S tw_858 tw_859 tw_5 tw_860) rfl rfl rfl cd_yX12_w5_5 ⟨Nat.le_of_ble_eq_true rfl, Nat.le_of_ble_eq_true rfl⟩) ⟨pq_blind, pq_pre hK hN hP hD⟩ rfl rfl hl.1 rfl (lv_room (Nat.le_of_ble_eq_true rfl)) dX12_nameOf_85 ⟨Nat.le_of_ble_eq_true rfl, Nat.le_of_ble_eq_true rfl⟩) hD hS hA (fun x_28 σ1 μ1 H locs hw_29 hP hD hS => ?_)
            have hu_30 := hw_29
            obtain ⟨hu_30a, hu_30b⟩ := Prod.mk.inj hu_30
            rw [hu_30a, hu_30b] at hP hD
            refine W.lcmp hx hb dX12_nameOf_88 ?_
            refine lv_topi (fun x_33 ex_33 => ?_)
            refine lv_if_ne (tgt := 94) hx hb dX12_nameOf_89 (by decide) (fun c_34 => ?_) (fun c_34 => ?_)
            · have tc_35 : (x_33).toInt ≠ 0 := fun q => c_34 (Int32.toInt_inj.mp q)
              refine lv_aload_n hx hb dX12_nameOf_94 rfl (lv_at hl 0 rfl) ?_
              refine pg_f (v := .long (J 395 this)) (C := RX12) (T := TX12) (N := 31) hx hb hts (tw_i inlX12) hown hK hP hL_this hK_this (by decide) rfl 11 (by decide) (hts _ (tw_c tw_838)) rfl dX12_nameOf_95 ?_
              refine lv_bipush (v := 109) hx hb dX12_nameOf_98 (by decide) ?_
              refine lv_bipush (v := 111) hx hb dX12_nameOf_100 (by decide) ?_
              refine lv_bipush (v := 110) hx hb dX12_nameOf_102 (by decide) ?_
              refine lv_bipush (v := 116) hx hb dX12_nameOf_104 (by decide) ?_
              refine lv_bipush (v := 104) hx hb dX12_nameOf_106 (by decide) ?_
              refine pk_l (va_runS (As := [.int 109, .int 111, .int 110, .int 116, .int 104]) (rest := [.long (J 395 this)]) ⟨hx, hb, hml, hown, hts⟩ (s_X12_w5_x l D t σ I J ri rj rq H.size tg hSH hG.1 (109 : Int32) (111 : Int32) (110 : Int32) (116 : Int32) (104 : Int32)) (va_cwS 5 hts (tw_S tw_858 tw_859 tw_5 tw_860) rfl rfl rfl cd_yX12_w5_5 ⟨Nat.le_of_ble_eq_true rfl, Nat.le_of_ble_eq_true rfl⟩) ⟨pq_blind, pq_pre hK hN hP hD⟩ rfl rfl hl.1 rfl (lv_room (Nat.le_of_ble_eq_true rfl)) dX12_nameOf_108 ⟨Nat.le_of_ble_eq_true rfl, Nat.le_of_ble_eq_true rfl⟩) hD hS hA (fun x_36 σ1 μ1 H locs hw_37 hP hD hS => ?_)
              have hu_38 := hw_37
              obtain ⟨hu_38a, hu_38b⟩ := Prod.mk.inj hu_38
              rw [hu_38a, hu_38b] at hP hD
              refine W.lcmp hx hb dX12_nameOf_111 ?_
              refine lv_topi (fun x_41 ex_41 => ?_)
              refine lv_if_ne (tgt := 119) hx hb dX12_nameOf_112 (by decide) (fun c_42 => ?_) (fun c_42 => ?_)
              · have tc_43 : (x_41).toInt ≠ 0 := fun q => c_42 (Int32.toInt_inj.mp q)
                refine lv_aload_n hx hb dX12_nameOf_119 rfl (lv_at hl 0 rfl) ?_
                refine pg_f (v := .long (J 395 this)) (C := RX12) (T := TX12) (N := 31) hx hb hts (tw_i inlX12) hown hK hP hL_this hK_this (by decide) rfl 11 (by decide) (hts _ (tw_c tw_838)) rfl dX12_nameOf_120 ?_
                refine lv_bipush (v := 117) hx hb dX12_nameOf_123 (by decide) ?_
                refine lv_bipush (v := 110) hx hb dX12_nameOf_125 (by decide) ?_
                refine lv_bipush (v := 100) hx hb dX12_nameOf_127 (by decide) ?_
                refine lv_bipush (v := 101) hx hb dX12_nameOf_129 (by decide) ?_
                refine lv_bipush (v := 114) hx hb dX12_nameOf_131 (by decide) ?_
                refine pk_l (va_runS (As := [.int 117, .int 110, .int 100, .int 101, .int 114]) (rest := [.long (J 395 this)]) ⟨hx, hb, hml, hown, hts⟩ (s_X12_w5_x l D t σ I J ri rj rq H.size tg hSH hG.1 (117 : Int32) (110 : Int32) (100 : Int32) (101 : Int32) (114 : Int32)) (va_cwS 5 hts (tw_S tw_858 tw_859 tw_5 tw_860) rfl rfl rfl cd_yX12_w5_5 ⟨Nat.le_of_ble_eq_true rfl, Nat.le_of_ble_eq_true rfl⟩) ⟨pq_blind, pq_pre hK hN hP hD⟩ rfl rfl hl.1 rfl (lv_room (Nat.le_of_ble_eq_true rfl)) dX12_nameOf_133 ⟨Nat.le_of_ble_eq_true rfl, Nat.le_of_ble_eq_true rfl⟩) hD hS hA (fun x_44 σ1 μ1 H locs hw_45 hP hD hS => ?_)
                have hu_46 := hw_45
                obtain ⟨hu_46a, hu_46b⟩ := Prod.mk.inj hu_46
                rw [hu_46a, hu_46b] at hP hD
                refine W.lcmp hx hb dX12_nameOf_136 ?_
                refine lv_topi (fun x_49 ex_49 => ?_)
                refine lv_if_ne (tgt := 144) hx hb dX12_nameOf_137 (by decide) (fun c_50 => ?_) (fun c_50 => ?_)
                · have tc_51 : (x_49).toInt ≠ 0 := fun q => c_50 (Int32.toInt_inj.mp q)
                  refine lv_iconst (v := (-1)) hx hb dX12_nameOf_144 (by decide) ?_
                  subst hQ
                  exact W.iret (v := (-1)) hx hb hr (fun t1 ht hW => ⟨⟨(-1), (σ, I, J, ri, rj, rq), rfl, ⟨rfl, (by have z9 : ((-1) : Int32).toInt = (-1) := rfl; omega), (rg_w (rg_k (-1 : Int32) (-1) rfl) (by decide))⟩, by rw [ht]; exact hP, va_K.moved hW.alike hK, hD⟩, hS.F ht⟩) hS.2.2 dX12_nameOf_145
                · have tc_52 : (x_49).toInt = 0 := congrArg Int32.toInt c_50
                  have h_53 : rg x_49 0 0 := rg_and (rg_full _) (rg_of_eq c_50 (rg_k (0 : Int32) 0 rfl)) (by decide)
                  have uh_53 := h_53.1
                  have vh_53 := h_53.2
                  refine lv_iconst (v := 5) hx hb dX12_nameOf_140 (by decide) ?_
                  refine lv_goto (tgt := 145) hx hb dX12_nameOf_141 (by decide) ?_
                  subst hQ
                  exact W.iret (v := 5) hx hb hr (fun t1 ht hW => ⟨⟨5, (σ, I, J, ri, rj, rq), rfl, ⟨rfl, (by have z9 : (5 : Int32).toInt = 5 := rfl; omega), (rg_w (rg_k (5 : Int32) 5 rfl) (by decide))⟩, by rw [ht]; exact hP, va_K.moved hW.alike hK, hD⟩, hS.F ht⟩) hS.2.2 dX12_nameOf_145
              · have tc_54 : (x_41).toInt = 0 := congrArg Int32.toInt c_42
                have h_55 : rg x_41 0 0 := rg_and (rg_full _) (rg_of_eq c_42 (rg_k (0 : Int32) 0 rfl)) (by decide)
                have uh_55 := h_55.1
                have vh_55 := h_55.2
                refine lv_iconst (v := 4) hx hb dX12_nameOf_115 (by decide) ?_
                refine lv_goto (tgt := 145) hx hb dX12_nameOf_116 (by decide) ?_
                subst hQ
                exact W.iret (v := 4) hx hb hr (fun t1 ht hW => ⟨⟨4, (σ, I, J, ri, rj, rq), rfl, ⟨rfl, (by have z9 : (4 : Int32).toInt = 4 := rfl; omega), (rg_w (rg_k (4 : Int32) 4 rfl) (by decide))⟩, by rw [ht]; exact hP, va_K.moved hW.alike hK, hD⟩, hS.F ht⟩) hS.2.2 dX12_nameOf_145
            · have tc_56 : (x_33).toInt = 0 := congrArg Int32.toInt c_34
              have h_57 : rg x_33 0 0 := rg_and (rg_full _) (rg_of_eq c_34 (rg_k (0 : Int32) 0 rfl)) (by decide)
              have uh_57 := h_57.1
              have vh_57 := h_57.2
              refine lv_iconst (v := 3) hx hb dX12_nameOf_92 (by decide) ?_
              subst hQ
              exact W.iret (v := 3) hx hb hr (fun t1 ht hW => ⟨⟨3, (σ, I, J, ri, rj, rq), rfl, ⟨rfl, (by have z9 : (3 : Int32).toInt = 3 := rfl; omega), (rg_w (rg_k (3 : Int32) 3 rfl) (by decide))⟩, by rw [ht]; exact hP, va_K.moved hW.alike hK, hD⟩, hS.F ht⟩) hS.2.2 dX12_nameOf_93
          · have tc_58 : (x_25).toInt = 0 := congrArg Int32.toInt c_26
            have h_59 : rg x_25 0 0 := rg_and (rg_full _) (rg_of_eq c_26 (rg_k (0 : Int32) 0 rfl)) (by decide)
            have uh_59 := h_59.1
            have vh_59 := h_59.2
            refine lv_iconst (v := 2) hx hb dX12_nameOf_69 (by decide) ?_
            subst hQ
            exact W.iret (v := 2) hx hb hr (fun t1 ht hW => ⟨⟨2, (σ, I, J, ri, rj, rq), rfl, ⟨rfl, (by have z9 : (2 : Int32).toInt = 2 := rfl; omega), (rg_w (rg_k (2 : Int32) 2 rfl) (by decide))⟩, by rw [ht]; exact hP, va_K.moved hW.alike hK, hD⟩, hS.F ht⟩) hS.2.2 dX12_nameOf_70
        · have tc_60 : (x_17).toInt = 0 := congrArg Int32.toInt c_18
          have h_61 : rg x_17 0 0 := rg_and (rg_full _) (rg_of_eq c_18 (rg_k (0 : Int32) 0 rfl)) (by decide)
          have uh_61 := h_61.1
          have vh_61 := h_61.2
          refine lv_iconst (v := 1) hx hb dX12_nameOf_46 (by decide) ?_
          subst hQ
          exact W.iret (v := 1) hx hb hr (fun t1 ht hW => ⟨⟨1, (σ, I, J, ri, rj, rq), rfl, ⟨rfl, (by have z9 : (1 : Int32).toInt = 1 := rfl; omega), (rg_w (rg_k (1 : Int32) 1 rfl) (by decide))⟩, by rw [ht]; exact hP, va_K.moved hW.alike hK, hD⟩, hS.F ht⟩) hS.2.2 dX12_nameOf_47
      · have tc_62 : (x_9).toInt = 0 := congrArg Int32.toInt c_10
        have h_63 : rg x_9 0 0 := rg_and (rg_full _) (rg_of_eq c_10 (rg_k (0 : Int32) 0 rfl)) (by decide)
        have uh_63 := h_63.1
        have vh_63 := h_63.2
        refine lv_iconst (v := 0) hx hb dX12_nameOf_27 (by decide) ?_
        subst hQ
        exact W.iret (v := 0) hx hb hr (fun t1 ht hW => ⟨⟨0, (σ, I, J, ri, rj, rq), rfl, ⟨rfl, (by have z9 : (0 : Int32).toInt = 0 := rfl; omega), (rg_w (rg_k (0 : Int32) 0 rfl) (by decide))⟩, by rw [ht]; exact hP, va_K.moved hW.alike hK, hD⟩, hS.F ht⟩) hS.2.2 dX12_nameOf_28
    · have tc_64 : (I 393 this).toInt ≠ 2 := fun q => c_1 (Int32.toInt_inj.mp q)
      refine lv_iconst (v := (-1)) hx hb dX12_nameOf_8 (by decide) ?_
      subst hQ
      exact W.iret (v := (-1)) hx hb hr (fun t1 ht hW => ⟨⟨(-1), (σ, I, J, ri, rj, rq), rfl, ⟨rfl, (by have z9 : ((-1) : Int32).toInt = (-1) := rfl; omega), (rg_w (rg_k (-1 : Int32) (-1) rfl) (by decide))⟩, by rw [ht]; exact hP, va_K.moved hW.alike hK, hD⟩, hS.F ht⟩) hS.2.2 dX12_nameOf_9
  exact go _ _ _ hP hD hS hl

set_option maxHeartbeats 4000000 in
set_option maxRecDepth 100000 in
theorem s_X12_emit (l : Launch) (D : va_G) (t : pq_T) (σ : pq_S) (I : Nat → Nat → Int32) (J : Nat → Nat → Int64) (ri : Nat → Nat → Int32) (rj : Nat → Nat → Int64) (rq : Nat → Nat → Option Nat) (sz : Nat) (tg : Nat → Nat) (hSH : SH σ tg) (hG0 : GT tg I ri) (this : Nat) (a0 : Int32) (a1 : Int32) (hL_this : this ∈ σ.1) (hK_this : σ.2.1 this = 12) (this_a : Nat) (hR_this_a : σ.2.2.1 384 this = some this_a) (hL_this_a : this_a ∈ σ.1) (hK_this_a : σ.2.1 this_a = 13) (hN_this_a : σ.2.2.2 this_a = 12720) (hT_this_a : tg this_a = 384) (ht0 : (I 396 this).toInt = 3720 + 900 * (ri this_a 6).toInt ∧ 0 ≤ (ri this_a 6).toInt ∧ (ri this_a 6).toInt ≤ 9) (hwr : 0 ≤ (I 398 this).toInt ∧ (I 398 this).toInt ≤ 299) : MetV l yX12_emit (wa yX12_emit cX12_emit 3 none) ({ frames := 0, cells := 0, slots := 0, locals := 0 }) [.ref this, .int a0, .int a1] D t σ (I, J, ri, rj, rq) sz 0 0 (fun (u : pq_S × pq_M) => ∃ I' : Nat → Nat → Int32, ∃ ri' : Nat → Nat → Int32, u = (σ, I', J, ri', rj, rq) ∧ GM [398] tg σ I ri I' ri' rq ∧ (∃ v : Int32, I' = pq_u I 398 this v ∧ v.toInt = (I 398 this).toInt + 1) ∧ (∀ j : Nat, (j : Int) < (I 396 this).toInt + 250 + 2 * (I 398 this).toInt → ri' this_a j = ri this_a j) ∧ (ri' this_a ((I 396 this).toInt + 250 + 2 * (I 398 this).toInt).toNat = a0) ∧ (∀ q, q ≠ this_a → ri' q = ri q)) := by
  refine Met.ofW (cc := cX12_emit) (maxL := 3) (ret := none) (by decide) rfl ?_
  intro p e s m args below meth c s₁ B hml hv
  obtain ⟨rfl, hsz, hP, hK, hD0, hN⟩ := hv
  have hx := B.exec
  have hb := B.bytes
  have hr := B.returns
  have hts := atoms_spec (ws := (wa yX12_emit cX12_emit 3 none)) B.pre
  have hown : s.vm.findClass RX12 = some m.cls := findClass_of_methodNamed B.named
  have hlocks := B.notSynchronized
  subst hsz
  have hD : va_D (pq_B t σ (I, J, ri, rj, rq) s.heap.size) (pq_P t σ (I, J, ri, rj, rq)) := hD0.self
  generalize hAe : pq_B t σ (I, J, ri, rj, rq) s.heap.size = A at hD ⊢
  have hA : ∀ q : Nat, s.heap.size ≤ q → A q := fun q h => by rw [← hAe]; exact Or.inr h
  have hS : va_S A s.heap s.heap [] := va_S.rf
  have hG : GM [398] tg σ I ri I ri rq := ⟨hG0, fun _ _ _ => rfl, fun _ _ _ _ _ => rfl, fun _ _ _ _ _ _ => rfl⟩
  have hl := lv_entry ([.ref this, .int a0, .int a1]) (n := 3) (Nat.le_of_ble_eq_true rfl)
  rw [lg_entry_eq]
  generalize (lg_sl ([.ref this, .int a0, .int a1]) ++ List.replicate (3 - (lg_sl ([.ref this, .int a0, .int a1])).length) Slot.unset).toArray = ls at hl ⊢
  have hl : lv_has ls 3 [(0, .ref this), (1, .int a0), (2, .int a1)] := hl
  refine q_gen (fun Q hQ => ?_)
  have go : ∀ (H : Heap) (locs : List Loc) (ls : Array Slot), va_P D vwCl (pq_P t σ (I, J, ri, rj, rq)) H → va_D A (pq_P t σ (I, J, ri, rj, rq)) → va_S A s.heap H locs → lv_has ls 3 [(0, .ref this), (1, .int a0), (2, .int a1)] → W p l e ({ frames := 0, cells := 0, slots := 0, locals := 0 } : Room) s m (List.toArray ([.ref this, .int a0, .int a1] : List Value)) below meth c H locs 0 0 Q (F0 m 0 ls []) := by
    intro H locs ls hP hD hS hl
    have ce6 := clampE (ri this_a 6)
    refine lv_aload_n hx hb dX12_emit_0 rfl (lv_at hl 0 rfl) ?_
    refine pg_f (v := .ref this_a) (C := RX12) (T := TX12) (N := 31) hx hb hts (tw_i inlX12) hown hK hP hL_this hK_this (by decide) rfl 0 (by decide) (hts _ (tw_c tw_176)) (pq_hv rfl hR_this_a) dX12_emit_1 ?_
    refine lv_aload_n hx hb dX12_emit_4 rfl (lv_at hl 0 rfl) ?_
    refine pg_f (v := .int (I 396 this)) (C := RX12) (T := TX12) (N := 31) hx hb hts (tw_i inlX12) hown hK hP hL_this hK_this (by decide) rfl 12 (by decide) (hts _ (tw_c tw_821)) rfl dX12_emit_5 ?_
    have h_1 : rg (I 396 this) 0 11820 := GM.rI hG 396 rfl
    have uh_1 := h_1.1
    have vh_1 := h_1.2
    refine lv_sipush (v := 250) hx hb dX12_emit_8 (by decide) ?_
    refine lv_iadd hx hb dX12_emit_11 ?_
    refine lv_topi (fun x_2 ex_2 => ?_)
    have h_3 : rg x_2 250 12070 := rg_of_eq ex_2 (rg_add h_1 (rg_k (250 : Int32) 250 rfl) (by decide))
    have uh_3 := h_3.1
    have vh_3 := h_3.2
    have tx_2 : (x_2).toInt = (I 396 this).toInt + 250 := by rw [ex_2]; exact i_add_rg (a2 := (I 396 this).toInt) (b2 := 250) rfl rfl h_1 (rg_k (250 : Int32) 250 rfl) (by decide)
    refine lv_iconst (v := 2) hx hb dX12_emit_12 (by decide) ?_
    refine lv_aload_n hx hb dX12_emit_13 rfl (lv_at hl 0 rfl) ?_
    refine pg_f (v := .int (I 398 this)) (C := RX12) (T := TX12) (N := 31) hx hb hts (tw_i inlX12) hown hK hP hL_this hK_this (by decide) rfl 14 (by decide) (hts _ (tw_c tw_827)) rfl dX12_emit_14 ?_
    refine lv_imul hx hb dX12_emit_17 ?_
    refine lv_topi (fun x_4 ex_4 => ?_)
    have h_5 : rg x_4 0 598 := rg_of_eq ex_4 (rg_mul (rg_k (2 : Int32) 2 rfl) ⟨hwr.1, hwr.2⟩ (by decide))
    have uh_5 := h_5.1
    have vh_5 := h_5.2
    have tx_4 : (x_4).toInt = 2 * (I 398 this).toInt := by rw [ex_4]; exact i_mul_rg (a2 := 2) (b2 := (I 398 this).toInt) rfl rfl (rg_k (2 : Int32) 2 rfl) ⟨hwr.1, hwr.2⟩ (by decide)
    refine lv_iadd hx hb dX12_emit_18 ?_
    refine lv_topi (fun x_6 ex_6 => ?_)
    have h_7 : rg x_6 250 12668 := rg_of_eq ex_6 (rg_add h_3 h_5 (by decide))
    have uh_7 := h_7.1
    have vh_7 := h_7.2
    have tx_6 : (x_6).toInt = (x_2).toInt + (x_4).toInt := by rw [ex_6]; exact i_add_rg (a2 := (x_2).toInt) (b2 := (x_4).toInt) rfl rfl h_3 h_5 (by decide)
    refine lv_iload_n hx hb dX12_emit_19 rfl (lv_at hl 1 rfl) ?_
    refine pt_i hx hb hK hP hD hS hL_this_a hK_this_a hN_this_a (rg_in h_7 (by decide)) dX12_emit_20 (fun r_8 H locs er_8 hP hD hS => ?_)
    have hG := GM.wt hG hT_this_a (by decide) er_8 (zn_tk (t := (ri this_a 6).toNatClampNeg) (c := (I 398 this).toNatClampNeg) (k := 0) (by have z_i := clampE x_6; have z_0 := clampE (ri this_a 6); have z_1 := clampE (I 398 this); omega) (rg_cl1 ⟨ht0.2.1, ht0.2.2⟩ (by decide)) (rg_cl1 ⟨hwr.1, hwr.2⟩ (by decide)) (by decide)) rfl (rg_w (rg_full _) (by decide)) (by have z6 := congrArg Int32.toInt (hG.2.2.1 this_a hT_this_a 6 (by decide) (by decide)); have z_i := clampE x_6; omega) (by decide)
    refine lv_aload_n hx hb dX12_emit_21 rfl (lv_at hl 0 rfl) ?_
    refine pg_f (v := .ref this_a) (C := RX12) (T := TX12) (N := 31) hx hb hts (tw_i inlX12) hown hK hP hL_this hK_this (by decide) rfl 0 (by decide) (hts _ (tw_c tw_176)) (pq_hv rfl hR_this_a) dX12_emit_22 ?_
    refine lv_aload_n hx hb dX12_emit_25 rfl (lv_at hl 0 rfl) ?_
    refine pg_f (v := .int (I 396 this)) (C := RX12) (T := TX12) (N := 31) hx hb hts (tw_i inlX12) hown hK hP hL_this hK_this (by decide) rfl 12 (by decide) (hts _ (tw_c tw_821)) rfl dX12_emit_26 ?_
    refine lv_sipush (v := 250) hx hb dX12_emit_29 (by decide) ?_
    refine lv_iadd hx hb dX12_emit_32 ?_
    refine lv_topi (fun x_9 ex_9 => ?_)
    have h_10 : rg x_9 250 12070 := rg_of_eq ex_9 (rg_add h_1 (rg_k (250 : Int32) 250 rfl) (by decide))
    have uh_10 := h_10.1
    have vh_10 := h_10.2
    have tx_9 : (x_9).toInt = (I 396 this).toInt + 250 := by rw [ex_9]; exact i_add_rg (a2 := (I 396 this).toInt) (b2 := 250) rfl rfl h_1 (rg_k (250 : Int32) 250 rfl) (by decide)
    refine lv_iconst (v := 2) hx hb dX12_emit_33 (by decide) ?_
    refine lv_aload_n hx hb dX12_emit_34 rfl (lv_at hl 0 rfl) ?_
    refine pg_f (v := .int (I 398 this)) (C := RX12) (T := TX12) (N := 31) hx hb hts (tw_i inlX12) hown hK hP hL_this hK_this (by decide) rfl 14 (by decide) (hts _ (tw_c tw_827)) rfl dX12_emit_35 ?_
    refine lv_imul hx hb dX12_emit_38 ?_
    refine lv_topi (fun x_11 ex_11 => ?_)
    have h_12 : rg x_11 0 598 := rg_of_eq ex_11 (rg_mul (rg_k (2 : Int32) 2 rfl) ⟨hwr.1, hwr.2⟩ (by decide))
    have uh_12 := h_12.1
    have vh_12 := h_12.2
    have tx_11 : (x_11).toInt = 2 * (I 398 this).toInt := by rw [ex_11]; exact i_mul_rg (a2 := 2) (b2 := (I 398 this).toInt) rfl rfl (rg_k (2 : Int32) 2 rfl) ⟨hwr.1, hwr.2⟩ (by decide)
    refine lv_iadd hx hb dX12_emit_39 ?_
    refine lv_topi (fun x_13 ex_13 => ?_)
    have h_14 : rg x_13 250 12668 := rg_of_eq ex_13 (rg_add h_10 h_12 (by decide))
    have uh_14 := h_14.1
    have vh_14 := h_14.2
    have tx_13 : (x_13).toInt = (x_9).toInt + (x_11).toInt := by rw [ex_13]; exact i_add_rg (a2 := (x_9).toInt) (b2 := (x_11).toInt) rfl rfl h_10 h_12 (by decide)
    refine lv_iconst (v := 1) hx hb dX12_emit_40 (by decide) ?_
    refine lv_iadd hx hb dX12_emit_41 ?_
    refine lv_topi (fun x_15 ex_15 => ?_)
    have h_16 : rg x_15 251 12669 := rg_of_eq ex_15 (rg_add h_14 (rg_k (1 : Int32) 1 rfl) (by decide))
    have uh_16 := h_16.1
    have vh_16 := h_16.2
    have tx_15 : (x_15).toInt = (x_13).toInt + 1 := by rw [ex_15]; exact i_add_rg (a2 := (x_13).toInt) (b2 := 1) rfl rfl h_14 (rg_k (1 : Int32) 1 rfl) (by decide)
    refine lv_iload_n hx hb dX12_emit_42 rfl (lv_at hl 2 rfl) ?_
    refine pt_i hx hb hK hP hD hS hL_this_a hK_this_a hN_this_a (rg_in h_16 (by decide)) dX12_emit_43 (fun r_17 H locs er_17 hP hD hS => ?_)
    have hG := GM.wt hG hT_this_a (by decide) er_17 (zn_tk (t := (ri this_a 6).toNatClampNeg) (c := (I 398 this).toNatClampNeg) (k := 1) (by have z_i := clampE x_15; have z_0 := clampE (ri this_a 6); have z_1 := clampE (I 398 this); omega) (rg_cl1 ⟨ht0.2.1, ht0.2.2⟩ (by decide)) (rg_cl1 ⟨hwr.1, hwr.2⟩ (by decide)) (by decide)) rfl (rg_w (rg_full _) (by decide)) (by have z6 := congrArg Int32.toInt (hG.2.2.1 this_a hT_this_a 6 (by decide) (by decide)); have z_i := clampE x_15; omega) (by decide)
    refine lv_aload_n hx hb dX12_emit_44 rfl (lv_at hl 0 rfl) ?_
    refine lv_dup hx hb dX12_emit_45 rfl ?_
    refine pg_f (v := .int (I 398 this)) (C := RX12) (T := TX12) (N := 31) hx hb hts (tw_i inlX12) hown hK hP hL_this hK_this (by decide) rfl 14 (by decide) (hts _ (tw_c tw_827)) rfl dX12_emit_46 ?_
    refine lv_iconst (v := 1) hx hb dX12_emit_49 (by decide) ?_
    refine lv_iadd hx hb dX12_emit_50 ?_
    refine lv_topi (fun x_18 ex_18 => ?_)
    have h_19 : rg x_18 1 300 := rg_of_eq ex_18 (rg_add ⟨hwr.1, hwr.2⟩ (rg_k (1 : Int32) 1 rfl) (by decide))
    have uh_19 := h_19.1
    have vh_19 := h_19.2
    have tx_18 : (x_18).toInt = (I 398 this).toInt + 1 := by rw [ex_18]; exact i_add_rg (a2 := (I 398 this).toInt) (b2 := 1) rfl rfl ⟨hwr.1, hwr.2⟩ (rg_k (1 : Int32) 1 rfl) (by decide)
    refine pp_i (v := x_18) (ty := .int) (C := RX12) (T := TX12) (N := 31) hx hb hts (tw_i inlX12) tyX12 tyX12_ok nmX12 hown hK hP hD hS hL_this hK_this (by decide) rfl 14 398 (by decide) (hts _ (tw_c tw_827)) rfl (tyX12_ok 14 (by decide)) rfl rfl (Nat.le_of_ble_eq_true rfl) (ps_398 _ _ _ _ _) dX12_emit_51 (fun I_20 H locs eI_20 hP hD hS => ?_)
    have hG := GM.wI hG 398 rfl eI_20 (rg_w h_19 (by decide)) (by decide)
    have tt_21 : (I_20 398 this).toInt = (x_18).toInt := by rw [eI_20, pq_us]
    have tt_22 : (I_20 396 this).toInt = (I 396 this).toInt := by rw [eI_20, pq_uf _ _ _ (by decide)]
    subst hQ
    exact W.vret hx hb hr (fun t1 ht hW => ⟨⟨(σ, I_20, J, r_17, rj, rq), rfl, ⟨I_20, r_17, rfl, hG, ⟨x_18, eI_20, by omega⟩, (fun j hj => by rw [er_17, er_8, va_up_self, va_up_self]; unfold upd; rw [if_neg (by have z0 := clampE x_6; have z1 := clampE x_15; have z2 := clampE (I 398 this); have z3 := clampE (I 396 this); omega), if_neg (by have z0 := clampE x_6; have z1 := clampE x_15; have z2 := clampE (I 398 this); have z3 := clampE (I 396 this); omega)]), (by rw [er_17, er_8, va_up_self, va_up_self]; unfold upd; rw [if_neg (by have z0 := clampE x_6; have z1 := clampE x_15; have z2 := clampE (I 398 this); have z3 := clampE (I 396 this); omega), if_pos (by have z0 := clampE x_6; have z1 := clampE x_15; have z2 := clampE (I 398 this); have z3 := clampE (I 396 this); omega)]), (fun q hq => (ro_ne er_17 hq).trans (ro_ne er_8 hq))⟩, by rw [ht]; exact hP, va_K.moved hW.alike hK, hD⟩, hS.F ht⟩) hS.2.2 dX12_emit_54
  exact go _ _ _ hP hD hS hl

set_option maxHeartbeats 4000000 in
set_option maxRecDepth 100000 in
theorem s_X12_push (l : Launch) (D : va_G) (t : pq_T) (σ : pq_S) (I : Nat → Nat → Int32) (J : Nat → Nat → Int64) (ri : Nat → Nat → Int32) (rj : Nat → Nat → Int64) (rq : Nat → Nat → Option Nat) (sz : Nat) (tg : Nat → Nat) (hSH : SH σ tg) (hG0 : GT tg I ri) (this : Nat) (a0 : Int32) (hL_this : this ∈ σ.1) (hK_this : σ.2.1 this = 12) (h_a0 : rg a0 2 40) (this_pile : Nat) (hR_this_pile : σ.2.2.1 400 this = some this_pile) (hL_this_pile : this_pile ∈ σ.1) (hK_this_pile : σ.2.1 this_pile = 13) (hN_this_pile : σ.2.2.2 this_pile = 160) (hT_this_pile : tg this_pile = 400) (hpl : 0 ≤ (I 401 this).toInt ∧ (I 401 this).toInt ≤ 158) : MetV l yX12_push (wa yX12_push cX12_push 2 none) ({ frames := 0, cells := 0, slots := 0, locals := 0 }) [.ref this, .int a0] D t σ (I, J, ri, rj, rq) sz 0 0 (fun (u : pq_S × pq_M) => ∃ I' : Nat → Nat → Int32, ∃ ri' : Nat → Nat → Int32, u = (σ, I', J, ri', rj, rq) ∧ GM [401] tg σ I ri I' ri' rq ∧ (∃ v : Int32, I' = pq_u I 401 this v ∧ v.toInt = (I 401 this).toInt + 1) ∧ (ri' this_pile = upd (ri this_pile) (I 401 this).toInt.toNat a0) ∧ (∀ q, q ≠ this_pile → ri' q = ri q)) := by
  refine Met.ofW (cc := cX12_push) (maxL := 2) (ret := none) (by decide) rfl ?_
  intro p e s m args below meth c s₁ B hml hv
  obtain ⟨rfl, hsz, hP, hK, hD0, hN⟩ := hv
  have hx := B.exec
  have hb := B.bytes
  have hr := B.returns
  have hts := atoms_spec (ws := (wa yX12_push cX12_push 2 none)) B.pre
  have hown : s.vm.findClass RX12 = some m.cls := findClass_of_methodNamed B.named
  have hlocks := B.notSynchronized
  subst hsz
  have hD : va_D (pq_B t σ (I, J, ri, rj, rq) s.heap.size) (pq_P t σ (I, J, ri, rj, rq)) := hD0.self
  generalize hAe : pq_B t σ (I, J, ri, rj, rq) s.heap.size = A at hD ⊢
  have hA : ∀ q : Nat, s.heap.size ≤ q → A q := fun q h => by rw [← hAe]; exact Or.inr h
  have hS : va_S A s.heap s.heap [] := va_S.rf
  have hG : GM [401] tg σ I ri I ri rq := ⟨hG0, fun _ _ _ => rfl, fun _ _ _ _ _ => rfl, fun _ _ _ _ _ _ => rfl⟩
  have hl := lv_entry ([.ref this, .int a0]) (n := 2) (Nat.le_of_ble_eq_true rfl)
  rw [lg_entry_eq]
  generalize (lg_sl ([.ref this, .int a0]) ++ List.replicate (2 - (lg_sl ([.ref this, .int a0])).length) Slot.unset).toArray = ls at hl ⊢
  have hl : lv_has ls 2 [(0, .ref this), (1, .int a0)] := hl
  refine q_gen (fun Q hQ => ?_)
  have go : ∀ (H : Heap) (locs : List Loc) (ls : Array Slot), va_P D vwCl (pq_P t σ (I, J, ri, rj, rq)) H → va_D A (pq_P t σ (I, J, ri, rj, rq)) → va_S A s.heap H locs → lv_has ls 2 [(0, .ref this), (1, .int a0)] → W p l e ({ frames := 0, cells := 0, slots := 0, locals := 0 } : Room) s m (List.toArray ([.ref this, .int a0] : List Value)) below meth c H locs 0 0 Q (F0 m 0 ls []) := by
    intro H locs ls hP hD hS hl
    refine lv_aload_n hx hb dX12_push_0 rfl (lv_at hl 0 rfl) ?_
    refine pg_f (v := .ref this_pile) (C := RX12) (T := TX12) (N := 31) hx hb hts (tw_i inlX12) hown hK hP hL_this hK_this (by decide) rfl 16 (by decide) (hts _ (tw_c tw_182)) (pq_hv rfl hR_this_pile) dX12_push_1 ?_
    refine lv_aload_n hx hb dX12_push_4 rfl (lv_at hl 0 rfl) ?_
    refine pg_f (v := .int (I 401 this)) (C := RX12) (T := TX12) (N := 31) hx hb hts (tw_i inlX12) hown hK hP hL_this hK_this (by decide) rfl 17 (by decide) (hts _ (tw_c tw_887)) rfl dX12_push_5 ?_
    refine lv_iload_n hx hb dX12_push_8 rfl (lv_at hl 1 rfl) ?_
    refine pt_i hx hb hK hP hD hS hL_this_pile hK_this_pile hN_this_pile (rg_in ⟨hpl.1, hpl.2⟩ (by decide)) dX12_push_9 (fun r_1 H locs er_1 hP hD hS => ?_)
    have hG := GM.wR hG hSH hT_this_pile rfl er_1 (rg_w h_a0 (by decide)) (by decide)
    refine lv_aload_n hx hb dX12_push_10 rfl (lv_at hl 0 rfl) ?_
    refine lv_dup hx hb dX12_push_11 rfl ?_
    refine pg_f (v := .int (I 401 this)) (C := RX12) (T := TX12) (N := 31) hx hb hts (tw_i inlX12) hown hK hP hL_this hK_this (by decide) rfl 17 (by decide) (hts _ (tw_c tw_887)) rfl dX12_push_12 ?_
    refine lv_iconst (v := 1) hx hb dX12_push_15 (by decide) ?_
    refine lv_iadd hx hb dX12_push_16 ?_
    refine lv_topi (fun x_2 ex_2 => ?_)
    have h_3 : rg x_2 1 159 := rg_of_eq ex_2 (rg_add ⟨hpl.1, hpl.2⟩ (rg_k (1 : Int32) 1 rfl) (by decide))
    have uh_3 := h_3.1
    have vh_3 := h_3.2
    have tx_2 : (x_2).toInt = (I 401 this).toInt + 1 := by rw [ex_2]; exact i_add_rg (a2 := (I 401 this).toInt) (b2 := 1) rfl rfl ⟨hpl.1, hpl.2⟩ (rg_k (1 : Int32) 1 rfl) (by decide)
    refine pp_i (v := x_2) (ty := .int) (C := RX12) (T := TX12) (N := 31) hx hb hts (tw_i inlX12) tyX12 tyX12_ok nmX12 hown hK hP hD hS hL_this hK_this (by decide) rfl 17 401 (by decide) (hts _ (tw_c tw_887)) rfl (tyX12_ok 17 (by decide)) rfl rfl (Nat.le_of_ble_eq_true rfl) (ps_401 _ _ _ _ _) dX12_push_17 (fun I_4 H locs eI_4 hP hD hS => ?_)
    have hG := GM.wI hG 401 rfl eI_4 (rg_w h_3 (by decide)) (by decide)
    have tt_5 : (I_4 401 this).toInt = (x_2).toInt := by rw [eI_4, pq_us]
    subst hQ
    exact W.vret hx hb hr (fun t1 ht hW => ⟨⟨(σ, I_4, J, r_1, rj, rq), rfl, ⟨I_4, r_1, rfl, hG, ⟨x_2, eI_4, by omega⟩, ((congrFun er_1 _).trans (va_up_self _ _ _)), (fun q hq => ro_ne er_1 hq)⟩, by rw [ht]; exact hP, va_K.moved hW.alike hK, hD⟩, hS.F ht⟩) hS.2.2 dX12_push_20
  exact go _ _ _ hP hD hS hl

set_option maxHeartbeats 4000000 in
set_option maxRecDepth 100000 in
theorem s_X12_whole (l : Launch) (D : va_G) (t : pq_T) (σ : pq_S) (I : Nat → Nat → Int32) (J : Nat → Nat → Int64) (ri : Nat → Nat → Int32) (rj : Nat → Nat → Int64) (rq : Nat → Nat → Option Nat) (sz : Nat) (tg : Nat → Nat) (hSH : SH σ tg) (hG0 : GT tg I ri) (this : Nat) (hL_this : this ∈ σ.1) (hK_this : σ.2.1 this = 12) (this_a : Nat) (hR_this_a : σ.2.2.1 384 this = some this_a) (hL_this_a : this_a ∈ σ.1) (hK_this_a : σ.2.1 this_a = 13) (hN_this_a : σ.2.2.2 this_a = 12720) (hT_this_a : tg this_a = 384) (this_pile : Nat) (hR_this_pile : σ.2.2.1 400 this = some this_pile) (hL_this_pile : this_pile ∈ σ.1) (hK_this_pile : σ.2.1 this_pile = 13) (hN_this_pile : σ.2.2.2 this_pile = 160) (hT_this_pile : tg this_pile = 400) (bb : Nat) (f0 : Nat → Int32) (fr : Int) (ba : Int) (tb : Int) (nn : Int) (K : Int) (hps : PSz (I 396 this).toInt (I 398 this).toInt (I 401 this).toInt (I 402 this).toInt (I 391 this).toInt (I 393 this).toInt (ri this_a) (ri this_pile) bb f0 fr ba tb nn K 1) : MetV l yX12_whole (wa yX12_whole cX12_whole 1 none) ({ frames := 1, cells := 0, slots := 0, locals := 22 }) [.ref this] D t σ (I, J, ri, rj, rq) sz 0 0 (fun (u : pq_S × pq_M) => ∃ I' : Nat → Nat → Int32, ∃ ri' : Nat → Nat → Int32, u = (σ, I', J, ri', rj, rq) ∧ GM [401, 402, 398] tg σ I ri I' ri' rq ∧ (PSz (I' 396 this).toInt (I' 398 this).toInt (I' 401 this).toInt (I' 402 this).toInt (I' 391 this).toInt (I' 393 this).toInt (ri' this_a) (ri' this_pile) bb f0 fr ba tb nn K 1) ∧ ((I' 403 this).toInt = 1)) := by
  refine Met.ofW (cc := cX12_whole) (maxL := 1) (ret := none) (by decide) rfl ?_
  intro p e s m args below meth c s₁ B hml hv
  obtain ⟨rfl, hsz, hP, hK, hD0, hN⟩ := hv
  have hx := B.exec
  have hb := B.bytes
  have hr := B.returns
  have hts := atoms_spec (ws := (wa yX12_whole cX12_whole 1 none)) B.pre
  have hown : s.vm.findClass RX12 = some m.cls := findClass_of_methodNamed B.named
  have hlocks := B.notSynchronized
  subst hsz
  have hD : va_D (pq_B t σ (I, J, ri, rj, rq) s.heap.size) (pq_P t σ (I, J, ri, rj, rq)) := hD0.self
  generalize hAe : pq_B t σ (I, J, ri, rj, rq) s.heap.size = A at hD ⊢
  have hA : ∀ q : Nat, s.heap.size ≤ q → A q := fun q h => by rw [← hAe]; exact Or.inr h
  have hS : va_S A s.heap s.heap [] := va_S.rf
  have hG : GM [401, 402, 398] tg σ I ri I ri rq := ⟨hG0, fun _ _ _ => rfl, fun _ _ _ _ _ => rfl, fun _ _ _ _ _ _ => rfl⟩
  have hl := lv_entry ([.ref this]) (n := 1) (Nat.le_of_ble_eq_true rfl)
  rw [lg_entry_eq]
  generalize (lg_sl ([.ref this]) ++ List.replicate (1 - (lg_sl ([.ref this])).length) Slot.unset).toArray = ls at hl ⊢
  have hl : lv_has ls 1 [(0, .ref this)] := hl
  refine q_gen (fun Q hQ => ?_)
  have go : ∀ (H : Heap) (locs : List Loc) (ls : Array Slot), va_P D vwCl (pq_P t σ (I, J, ri, rj, rq)) H → va_D A (pq_P t σ (I, J, ri, rj, rq)) → va_S A s.heap H locs → lv_has ls 1 [(0, .ref this)] → W p l e ({ frames := 1, cells := 0, slots := 0, locals := 22 } : Room) s m (List.toArray ([.ref this] : List Value)) below meth c H locs 0 0 Q (F0 m 0 ls []) := by
    intro H locs ls hP hD hS hl
    refine lv_aload_n hx hb dX12_whole_0 rfl (lv_at hl 0 rfl) ?_
    refine lv_iconst (v := 1) hx hb dX12_whole_1 (by decide) ?_
    refine pp_i (v := 1) (ty := .boolean) (C := RX12) (T := TX12) (N := 31) hx hb hts (tw_i inlX12) tyX12 tyX12_ok nmX12 hown hK hP hD hS hL_this hK_this (by decide) rfl 19 403 (by decide) (hts _ (tw_c tw_888)) rfl (tyX12_ok 19 (by decide)) rfl (by decide) (Nat.le_of_ble_eq_true rfl) (ps_403 _ _ _ _ _) dX12_whole_2 (fun I_1 H locs eI_1 hP hD hS => ?_)
    have hG := GM.wI hG 403 rfl eI_1 (rg_w (rg_k (1 : Int32) 1 rfl) (by decide)) (by decide)
    have tt_2 : (I_1 396 this).toInt = (I 396 this).toInt := by rw [eI_1, pq_uf _ _ _ (by decide)]
    have tt_3 : (I_1 398 this).toInt = (I 398 this).toInt := by rw [eI_1, pq_uf _ _ _ (by decide)]
    have tt_4 : (I_1 401 this).toInt = (I 401 this).toInt := by rw [eI_1, pq_uf _ _ _ (by decide)]
    have tt_5 : (I_1 402 this).toInt = (I 402 this).toInt := by rw [eI_1, pq_uf _ _ _ (by decide)]
    have tt_6 : (I_1 391 this).toInt = (I 391 this).toInt := by rw [eI_1, pq_uf _ _ _ (by decide)]
    have tt_7 : (I_1 393 this).toInt = (I 393 this).toInt := by rw [eI_1, pq_uf _ _ _ (by decide)]
    have tt_8 : (I_1 403 this).toInt = 1 := by rw [eI_1, pq_us]; rfl
    have tt_9 : (I_1 397 this).toInt = (I 397 this).toInt := by rw [eI_1, pq_uf _ _ _ (by decide)]
    have L_254 : ∀ (n_253 : Nat) (I_191 : Nat → Nat → Int32) (ri_192 : Nat → Nat → Int32) (H : Heap) (locs : List Loc) (ls : Array Slot), ((I_191 403 this).toInt = 1) → (PSz (I_191 396 this).toInt (I_191 398 this).toInt (I_191 401 this).toInt (I_191 402 this).toInt (I_191 391 this).toInt (I_191 393 this).toInt (ri_192 this_a) (ri_192 this_pile) bb f0 fr ba tb nn K 1) → ((I_191 401 this).toInt - 0).toNat < n_253 → GM [401, 402, 398] tg σ I ri I_191 ri_192 rq → va_P D vwCl (pq_P t σ (I_191, J, ri_192, rj, rq)) H → va_D A (pq_P t σ (I_191, J, ri_192, rj, rq)) → va_S A s.heap H locs → lv_has ls 1 [(0, .ref this)] → W p l e ({ frames := 1, cells := 0, slots := 0, locals := 22 } : Room) s m (List.toArray ([.ref this] : List Value)) below meth c H locs 0 0 Q (F0 m 5 ls []) := by
      intro n_253
      induction n_253 with
      | zero => intro I_191 ri_192 H locs ls hrel_258 hrel_259 hm_252 hG hP hD hS hl; exact absurd hm_252 (Nat.not_lt_zero _)
      | succ n_253 ih_255 =>
        intro I_191 ri_192 H locs ls hrel_258 hrel_259 hm_252 hG hP hD hS hl
        refine lv_aload_n hx hb dX12_whole_5 rfl (lv_at hl 0 rfl) ?_
        refine pg_f (v := .int (I_191 401 this)) (C := RX12) (T := TX12) (N := 31) hx hb hts (tw_i inlX12) hown hK hP hL_this hK_this (by decide) rfl 17 (by decide) (hts _ (tw_c tw_887)) rfl dX12_whole_6 ?_
        have h_260 : rg (I_191 401 this) 0 160 := GM.rI hG 401 rfl
        have uh_260 := h_260.1
        have vh_260 := h_260.2
        refine lv_if_le (tgt := 56) hx hb dX12_whole_9 (by decide) (fun c_261 => ?_) (fun c_261 => ?_)
        · have tc_262 : (I_191 401 this).toInt ≤ 0 := Int32.le_iff_toInt_le.mp c_261
          have h_263 : rg (I_191 401 this) 0 0 := rg_le1 c_261 h_260 (rg_k (0 : Int32) 0 rfl) (by decide)
          have uh_263 := h_263.1
          have vh_263 := h_263.2
          subst hQ
          exact W.vret hx hb hr (fun t1 ht hW => ⟨⟨(σ, I_191, J, ri_192, rj, rq), rfl, ⟨I_191, ri_192, rfl, hG, hrel_259, (by omega)⟩, by rw [ht]; exact hP, va_K.moved hW.alike hK, hD⟩, hS.F ht⟩) hS.2.2 dX12_whole_56
        · have tc_264 : 0 < (I_191 401 this).toInt := Int32.lt_iff_toInt_lt.mp (nle c_261)
          have h_265 : rg (I_191 401 this) 1 160 := rg_lt2 (nle c_261) (rg_k (0 : Int32) 0 rfl) h_260 (by decide)
          have uh_265 := h_265.1
          have vh_265 := h_265.2
          refine lv_aload_n hx hb dX12_whole_12 rfl (lv_at hl 0 rfl) ?_
          refine pg_f (v := .ref this_pile) (C := RX12) (T := TX12) (N := 31) hx hb hts (tw_i inlX12) hown hK hP hL_this hK_this (by decide) rfl 16 (by decide) (hts _ (tw_c tw_182)) (pq_hv rfl hR_this_pile) dX12_whole_13 ?_
          refine lv_aload_n hx hb dX12_whole_16 rfl (lv_at hl 0 rfl) ?_
          refine pg_f (v := .int (I_191 401 this)) (C := RX12) (T := TX12) (N := 31) hx hb hts (tw_i inlX12) hown hK hP hL_this hK_this (by decide) rfl 17 (by decide) (hts _ (tw_c tw_887)) rfl dX12_whole_17 ?_
          refine lv_iconst (v := 1) hx hb dX12_whole_20 (by decide) ?_
          refine lv_isub hx hb dX12_whole_21 ?_
          refine lv_topi (fun x_266 ex_266 => ?_)
          have h_267 : rg x_266 0 159 := rg_of_eq ex_266 (rg_sub h_265 (rg_k (1 : Int32) 1 rfl) (by decide))
          have uh_267 := h_267.1
          have vh_267 := h_267.2
          have tx_266 : (x_266).toInt = (I_191 401 this).toInt - 1 := by rw [ex_266]; exact i_sub_rg (a2 := (I_191 401 this).toInt) (b2 := 1) rfl rfl h_265 (rg_k (1 : Int32) 1 rfl) (by decide)
          refine pl_i hx hb hK hP hL_this_pile hK_this_pile hN_this_pile (rg_in h_267 (by decide)) dX12_whole_22 ?_
          refine lv_topi (fun x_268 ex_268 => ?_)
          have ex_268 : x_268 = ri_192 this_pile (x_266).toNatClampNeg := ex_268
          have h_269 : rg x_268 0 40 := rg_of_eq ex_268 (GM.rR hG hT_this_pile rfl)
          have uh_269 := h_269.1
          have vh_269 := h_269.2
          refine lv_iconst (v := 2) hx hb dX12_whole_23 (by decide) ?_
          refine lv_icmp_ne (tgt := 56) hx hb dX12_whole_24 (by decide) (fun c_270 => ?_) (fun c_270 => ?_)
          · have tc_271 : (x_268).toInt ≠ 2 := fun q => c_270 (Int32.toInt_inj.mp q)
            subst hQ
            exact W.vret hx hb hr (fun t1 ht hW => ⟨⟨(σ, I_191, J, ri_192, rj, rq), rfl, ⟨I_191, ri_192, rfl, hG, hrel_259, (by omega)⟩, by rw [ht]; exact hP, va_K.moved hW.alike hK, hD⟩, hS.F ht⟩) hS.2.2 dX12_whole_56
          · have tc_272 : (x_268).toInt = 2 := congrArg Int32.toInt c_270
            have h_273 : rg x_268 2 2 := rg_and h_269 (rg_of_eq c_270 (rg_k (2 : Int32) 2 rfl)) (by decide)
            have uh_273 := h_273.1
            have vh_273 := h_273.2
            refine lv_aload_n hx hb dX12_whole_27 rfl (lv_at hl 0 rfl) ?_
            refine lv_dup hx hb dX12_whole_28 rfl ?_
            refine pg_f (v := .int (I_191 401 this)) (C := RX12) (T := TX12) (N := 31) hx hb hts (tw_i inlX12) hown hK hP hL_this hK_this (by decide) rfl 17 (by decide) (hts _ (tw_c tw_887)) rfl dX12_whole_29 ?_
            refine lv_iconst (v := 1) hx hb dX12_whole_32 (by decide) ?_
            refine lv_isub hx hb dX12_whole_33 ?_
            refine lv_topi (fun x_274 ex_274 => ?_)
            have h_275 : rg x_274 0 159 := rg_of_eq ex_274 (rg_sub h_265 (rg_k (1 : Int32) 1 rfl) (by decide))
            have uh_275 := h_275.1
            have vh_275 := h_275.2
            have tx_274 : (x_274).toInt = (I_191 401 this).toInt - 1 := by rw [ex_274]; exact i_sub_rg (a2 := (I_191 401 this).toInt) (b2 := 1) rfl rfl h_265 (rg_k (1 : Int32) 1 rfl) (by decide)
            refine pp_i (v := x_274) (ty := .int) (C := RX12) (T := TX12) (N := 31) hx hb hts (tw_i inlX12) tyX12 tyX12_ok nmX12 hown hK hP hD hS hL_this hK_this (by decide) rfl 17 401 (by decide) (hts _ (tw_c tw_887)) rfl (tyX12_ok 17 (by decide)) rfl rfl (Nat.le_of_ble_eq_true rfl) (ps_401 _ _ _ _ _) dX12_whole_34 (fun I_276 H locs eI_276 hP hD hS => ?_)
            have hG := GM.wI hG 401 rfl eI_276 (rg_w h_275 (by decide)) (by decide)
            have tt_277 : (I_276 396 this).toInt = (I_191 396 this).toInt := by rw [eI_276, pq_uf _ _ _ (by decide)]
            have tt_278 : (I_276 398 this).toInt = (I_191 398 this).toInt := by rw [eI_276, pq_uf _ _ _ (by decide)]
            have tt_279 : (I_276 401 this).toInt = (x_274).toInt := by rw [eI_276, pq_us]
            have tt_280 : (I_276 402 this).toInt = (I_191 402 this).toInt := by rw [eI_276, pq_uf _ _ _ (by decide)]
            have tt_281 : (I_276 391 this).toInt = (I_191 391 this).toInt := by rw [eI_276, pq_uf _ _ _ (by decide)]
            have tt_282 : (I_276 393 this).toInt = (I_191 393 this).toInt := by rw [eI_276, pq_uf _ _ _ (by decide)]
            have tt_283 : (I_276 403 this).toInt = (I_191 403 this).toInt := by rw [eI_276, pq_uf _ _ _ (by decide)]
            have tt_284 : (I_276 397 this).toInt = (I_191 397 this).toInt := by rw [eI_276, pq_uf _ _ _ (by decide)]
            refine lv_aload_n hx hb dX12_whole_37 rfl (lv_at hl 0 rfl) ?_
            refine lv_dup hx hb dX12_whole_38 rfl ?_
            refine pg_f (v := .int (I_276 402 this)) (C := RX12) (T := TX12) (N := 31) hx hb hts (tw_i inlX12) hown hK hP hL_this hK_this (by decide) rfl 18 (by decide) (hts _ (tw_c tw_828)) rfl dX12_whole_39 ?_
            have hq0 := PSz_bd hrel_259
            have h_285 : rg (I_276 402 this) 0 8 := ⟨by omega, by omega⟩
            have uh_285 := h_285.1
            have vh_285 := h_285.2
            refine lv_iconst (v := 1) hx hb dX12_whole_42 (by decide) ?_
            refine lv_isub hx hb dX12_whole_43 ?_
            refine lv_topi (fun x_286 ex_286 => ?_)
            have h_287 : rg x_286 (-1) 7 := rg_of_eq ex_286 (rg_sub h_285 (rg_k (1 : Int32) 1 rfl) (by decide))
            have uh_287 := h_287.1
            have vh_287 := h_287.2
            have tx_286 : (x_286).toInt = (I_276 402 this).toInt - 1 := by rw [ex_286]; exact i_sub_rg (a2 := (I_276 402 this).toInt) (b2 := 1) rfl rfl h_285 (rg_k (1 : Int32) 1 rfl) (by decide)
            refine pp_i (v := x_286) (ty := .int) (C := RX12) (T := TX12) (N := 31) hx hb hts (tw_i inlX12) tyX12 tyX12_ok nmX12 hown hK hP hD hS hL_this hK_this (by decide) rfl 18 402 (by decide) (hts _ (tw_c tw_828)) rfl (tyX12_ok 18 (by decide)) rfl rfl (Nat.le_of_ble_eq_true rfl) (ps_402 _ _ _ _ _) dX12_whole_44 (fun I_288 H locs eI_288 hP hD hS => ?_)
            have hG := GM.wI hG 402 rfl eI_288 (rg_w h_287 (by decide)) (by decide)
            have tt_289 : (I_288 396 this).toInt = (I_276 396 this).toInt := by rw [eI_288, pq_uf _ _ _ (by decide)]
            have tt_290 : (I_288 398 this).toInt = (I_276 398 this).toInt := by rw [eI_288, pq_uf _ _ _ (by decide)]
            have tt_291 : (I_288 401 this).toInt = (I_276 401 this).toInt := by rw [eI_288, pq_uf _ _ _ (by decide)]
            have tt_292 : (I_288 402 this).toInt = (x_286).toInt := by rw [eI_288, pq_us]
            have tt_293 : (I_288 391 this).toInt = (I_276 391 this).toInt := by rw [eI_288, pq_uf _ _ _ (by decide)]
            have tt_294 : (I_288 393 this).toInt = (I_276 393 this).toInt := by rw [eI_288, pq_uf _ _ _ (by decide)]
            have tt_295 : (I_288 403 this).toInt = (I_276 403 this).toInt := by rw [eI_288, pq_uf _ _ _ (by decide)]
            have tt_296 : (I_288 397 this).toInt = (I_276 397 this).toInt := by rw [eI_288, pq_uf _ _ _ (by decide)]
            refine lv_aload_n hx hb dX12_whole_47 rfl (lv_at hl 0 rfl) ?_
            refine lv_iconst (v := 2) hx hb dX12_whole_48 (by decide) ?_
            refine lv_iconst (v := 0) hx hb dX12_whole_49 (by decide) ?_
            have hq1 := PSz_t hrel_259
            have hq2 := PSz_w hrel_259 (Or.inr (by omega))
            refine pk_v (va_runV (As := [.int 2, .int 0]) (rest := []) ⟨hx, hb, hml, hown, hts⟩ (s_X12_emit l D t σ I_288 J ri_192 rj rq H.size tg hSH hG.1 this (2 : Int32) (0 : Int32) hL_this hK_this this_a hR_this_a hL_this_a hK_this_a hN_this_a hT_this_a (by omega) (by omega)) (cwV 2 hts (tw_V tw_905 tw_906 tw_907 tw_5 tw_908) rfl rfl rfl cv_yX12_emit_2 ⟨Nat.le_of_ble_eq_true rfl, Nat.le_of_ble_eq_true rfl⟩) ⟨pq_blind, pq_recv hK hP hL_this hK_this (by decide) rfl, pq_pre hK hN hP hD⟩ rfl rfl hl.1 rfl (lv_room (Nat.le_of_ble_eq_true rfl)) dX12_whole_50 ⟨Nat.le_of_ble_eq_true rfl, Nat.le_of_ble_eq_true rfl⟩) hD hS hA (fun σ1 μ1 H locs hw_298 hP hD hS => ?_)
            obtain ⟨I_299, ri_300, hu_301, hg_302, hp_304, hp_305, hp_306, hp_307⟩ := hw_298
            obtain ⟨hu_301a, hu_301b⟩ := Prod.mk.inj hu_301
            rw [hu_301a, hu_301b] at hP hD
            obtain ⟨v_308, ev_308, hv_308⟩ := hp_304
            have tt_309 : (I_299 398 this).toInt = (I_288 398 this).toInt + 1 := by rw [ev_308, pq_us]; exact hv_308
            have tt_310 : (I_299 403 this).toInt = (I_288 403 this).toInt := by rw [ev_308, pq_uf _ _ _ (by decide)]
            have hG := GM.tr hG hg_302 (by decide)
            have tt_311 : (I_299 396 this).toInt = (I_288 396 this).toInt := by rw [hg_302.2.1 396 (by decide) (by decide)]
            have tt_312 : (I_299 401 this).toInt = (I_288 401 this).toInt := by rw [hg_302.2.1 401 (by decide) (by decide)]
            have tt_313 : (I_299 402 this).toInt = (I_288 402 this).toInt := by rw [hg_302.2.1 402 (by decide) (by decide)]
            have tt_314 : (I_299 391 this).toInt = (I_288 391 this).toInt := by rw [hg_302.2.1 391 (by decide) (by decide)]
            have tt_315 : (I_299 393 this).toInt = (I_288 393 this).toInt := by rw [hg_302.2.1 393 (by decide) (by decide)]
            have tt_316 : (I_299 397 this).toInt = (I_288 397 this).toInt := by rw [hg_302.2.1 397 (by decide) (by decide)]
            refine lv_goto (tgt := 5) hx hb dX12_whole_53 (by decide) ?_
            exact ih_255 I_299 ri_300 _ _ _ (by omega) (PSz_popO hrel_259 (by omega) (by rw [show (I_191 401 this).toInt.toNat - 1 = (x_266).toNatClampNeg from by have z0 := clampE x_266; omega, ← ex_268]; omega) (x := (2 : Int32)) rfl (fun j hj => hp_305 j (by omega)) (by rw [show (I_191 396 this).toInt + 250 + 2 * (I_191 398 this).toInt = (I_288 396 this).toInt + 250 + 2 * (I_288 398 this).toInt from by omega]; exact hp_306) (by omega) (by omega) (by omega) (by omega) (by omega) (by omega) (hp_307 this_pile (tg_ne hT_this_pile hT_this_a (by decide)))) (ms_fd_isub hm_252 ((congrFun (hg_302.2.1 401 (by decide) (by decide)) this).trans ((congrFun (show I_288 401 = I_276 401 from by rw [eI_288]; exact pq_uf _ _ _ (by decide)) this).trans (by rw [eI_276]; exact pq_us _ _ _ _))) ex_274 rfl (kk := 1) rfl (by decide) h_265 (by decide) (by decide)) hG hP hD hS (lv_sub hl [0] rfl)
    exact L_254 _ I_1 ri _ _ _ (by omega) (PSz_cg hps (by omega) (by omega) (by omega) (by omega) (by omega) (by omega) rfl rfl) (Nat.lt_succ_self _) hG hP hD hS (lv_sub hl [0] rfl)
  exact go _ _ _ hP hD hS hl

set_option maxHeartbeats 4000000 in
set_option maxRecDepth 100000 in
theorem s_X12_settle (l : Launch) (D : va_G) (t : pq_T) (σ : pq_S) (I : Nat → Nat → Int32) (J : Nat → Nat → Int64) (ri : Nat → Nat → Int32) (rj : Nat → Nat → Int64) (rq : Nat → Nat → Option Nat) (sz : Nat) (tg : Nat → Nat) (hSH : SH σ tg) (hG0 : GT tg I ri) (this : Nat) (a0 : Int32) (hL_this : this ∈ σ.1) (hK_this : σ.2.1 this = 12) (h_a0 : rg a0 3 5) (this_a : Nat) (hR_this_a : σ.2.2.1 384 this = some this_a) (hL_this_a : this_a ∈ σ.1) (hK_this_a : σ.2.1 this_a = 13) (hN_this_a : σ.2.2.2 this_a = 12720) (hT_this_a : tg this_a = 384) (this_pile : Nat) (hR_this_pile : σ.2.2.1 400 this = some this_pile) (hL_this_pile : this_pile ∈ σ.1) (hK_this_pile : σ.2.1 this_pile = 13) (hN_this_pile : σ.2.2.2 this_pile = 160) (hT_this_pile : tg this_pile = 400) (bb : Nat) (f0 : Nat → Int32) (fr : Int) (ba : Int) (tb : Int) (nn : Int) (K : Int) (hps : PSz (I 396 this).toInt (I 398 this).toInt (I 401 this).toInt (I 402 this).toInt (I 391 this).toInt (I 393 this).toInt (ri this_a) (ri this_pile) bb f0 fr ba tb nn K 1) : MetV l yX12_settle (wa yX12_settle cX12_settle 2 none) ({ frames := 1, cells := 0, slots := 0, locals := 22 }) [.ref this, .int a0] D t σ (I, J, ri, rj, rq) sz 0 0 (fun (u : pq_S × pq_M) => ∃ I' : Nat → Nat → Int32, ∃ ri' : Nat → Nat → Int32, u = (σ, I', J, ri', rj, rq) ∧ GM [401, 398] tg σ I ri I' ri' rq ∧ (PSz (I' 396 this).toInt (I' 398 this).toInt (I' 401 this).toInt (I' 402 this).toInt (I' 391 this).toInt (I' 393 this).toInt (ri' this_a) (ri' this_pile) bb f0 fr ba tb nn K 1) ∧ ((I' 401 this).toInt = 0 ∨ (ri' this_pile ((I' 401 this).toInt.toNat - 1)).toInt < a0.toInt ∨ 6 < (ri' this_pile ((I' 401 this).toInt.toNat - 1)).toInt) ∧ (∀ j : Nat, (j : Int) < (I 401 this).toInt → isO (ri this_pile j) → (j : Int) < (I' 401 this).toInt) ∧ (ri' this_pile = ri this_pile) ∧ ((I' 403 this).toInt = (I 403 this).toInt)) := by
  refine Met.ofW (cc := cX12_settle) (maxL := 2) (ret := none) (by decide) rfl ?_
  intro p e s m args below meth c s₁ B hml hv
  obtain ⟨rfl, hsz, hP, hK, hD0, hN⟩ := hv
  have hx := B.exec
  have hb := B.bytes
  have hr := B.returns
  have hts := atoms_spec (ws := (wa yX12_settle cX12_settle 2 none)) B.pre
  have hown : s.vm.findClass RX12 = some m.cls := findClass_of_methodNamed B.named
  have hlocks := B.notSynchronized
  subst hsz
  have hD : va_D (pq_B t σ (I, J, ri, rj, rq) s.heap.size) (pq_P t σ (I, J, ri, rj, rq)) := hD0.self
  generalize hAe : pq_B t σ (I, J, ri, rj, rq) s.heap.size = A at hD ⊢
  have hA : ∀ q : Nat, s.heap.size ≤ q → A q := fun q h => by rw [← hAe]; exact Or.inr h
  have hS : va_S A s.heap s.heap [] := va_S.rf
  have hG : GM [401, 398] tg σ I ri I ri rq := ⟨hG0, fun _ _ _ => rfl, fun _ _ _ _ _ => rfl, fun _ _ _ _ _ _ => rfl⟩
  have hl := lv_entry ([.ref this, .int a0]) (n := 2) (Nat.le_of_ble_eq_true rfl)
  rw [lg_entry_eq]
  generalize (lg_sl ([.ref this, .int a0]) ++ List.replicate (2 - (lg_sl ([.ref this, .int a0])).length) Slot.unset).toArray = ls at hl ⊢
  have hl : lv_has ls 2 [(0, .ref this), (1, .int a0)] := hl
  refine q_gen (fun Q hQ => ?_)
  have go : ∀ (H : Heap) (locs : List Loc) (ls : Array Slot), va_P D vwCl (pq_P t σ (I, J, ri, rj, rq)) H → va_D A (pq_P t σ (I, J, ri, rj, rq)) → va_S A s.heap H locs → lv_has ls 2 [(0, .ref this), (1, .int a0)] → W p l e ({ frames := 1, cells := 0, slots := 0, locals := 22 } : Room) s m (List.toArray ([.ref this, .int a0] : List Value)) below meth c H locs 0 0 Q (F0 m 0 ls []) := by
    intro H locs ls hP hD hS hl
    refine lv_aload_n hx hb dX12_settle_0 rfl (lv_at hl 0 rfl) ?_
    refine pg_f (v := .int (I 401 this)) (C := RX12) (T := TX12) (N := 31) hx hb hts (tw_i inlX12) hown hK hP hL_this hK_this (by decide) rfl 17 (by decide) (hts _ (tw_c tw_887)) rfl dX12_settle_1 ?_
    have h_1 : rg (I 401 this) 0 160 := GM.rI hG 401 rfl
    have uh_1 := h_1.1
    have vh_1 := h_1.2
    refine lv_if_le (tgt := 54) hx hb dX12_settle_4 (by decide) (fun c_2 => ?_) (fun c_2 => ?_)
    · have tc_3 : (I 401 this).toInt ≤ 0 := Int32.le_iff_toInt_le.mp c_2
      have h_4 : rg (I 401 this) 0 0 := rg_le1 c_2 h_1 (rg_k (0 : Int32) 0 rfl) (by decide)
      have uh_4 := h_4.1
      have vh_4 := h_4.2
      subst hQ
      exact W.vret hx hb hr (fun t1 ht hW => ⟨⟨(σ, I, J, ri, rj, rq), rfl, ⟨I, ri, rfl, hG, hps, (Or.inl (by have z9 := (PSz_bd hps).2.1; omega)), (fun (j : Nat) (hj : (j : Int) < (I 401 this).toInt) (_ : isO (ri this_pile j)) => hj), (rfl : ri this_pile = ri this_pile), (by omega)⟩, by rw [ht]; exact hP, va_K.moved hW.alike hK, hD⟩, hS.F ht⟩) hS.2.2 dX12_settle_54
    · have tc_5 : 0 < (I 401 this).toInt := Int32.lt_iff_toInt_lt.mp (nle c_2)
      have h_6 : rg (I 401 this) 1 160 := rg_lt2 (nle c_2) (rg_k (0 : Int32) 0 rfl) h_1 (by decide)
      have uh_6 := h_6.1
      have vh_6 := h_6.2
      refine lv_aload_n hx hb dX12_settle_7 rfl (lv_at hl 0 rfl) ?_
      refine pg_f (v := .ref this_pile) (C := RX12) (T := TX12) (N := 31) hx hb hts (tw_i inlX12) hown hK hP hL_this hK_this (by decide) rfl 16 (by decide) (hts _ (tw_c tw_182)) (pq_hv rfl hR_this_pile) dX12_settle_8 ?_
      refine lv_aload_n hx hb dX12_settle_11 rfl (lv_at hl 0 rfl) ?_
      refine pg_f (v := .int (I 401 this)) (C := RX12) (T := TX12) (N := 31) hx hb hts (tw_i inlX12) hown hK hP hL_this hK_this (by decide) rfl 17 (by decide) (hts _ (tw_c tw_887)) rfl dX12_settle_12 ?_
      refine lv_iconst (v := 1) hx hb dX12_settle_15 (by decide) ?_
      refine lv_isub hx hb dX12_settle_16 ?_
      refine lv_topi (fun x_7 ex_7 => ?_)
      have h_8 : rg x_7 0 159 := rg_of_eq ex_7 (rg_sub h_6 (rg_k (1 : Int32) 1 rfl) (by decide))
      have uh_8 := h_8.1
      have vh_8 := h_8.2
      have tx_7 : (x_7).toInt = (I 401 this).toInt - 1 := by rw [ex_7]; exact i_sub_rg (a2 := (I 401 this).toInt) (b2 := 1) rfl rfl h_6 (rg_k (1 : Int32) 1 rfl) (by decide)
      refine pl_i hx hb hK hP hL_this_pile hK_this_pile hN_this_pile (rg_in h_8 (by decide)) dX12_settle_17 ?_
      refine lv_topi (fun x_9 ex_9 => ?_)
      have ex_9 : x_9 = ri this_pile (x_7).toNatClampNeg := ex_9
      have h_10 : rg x_9 0 40 := rg_of_eq ex_9 (GM.rR hG hT_this_pile rfl)
      have uh_10 := h_10.1
      have vh_10 := h_10.2
      refine lv_iload_n hx hb dX12_settle_18 rfl (lv_at hl 1 rfl) ?_
      refine lv_bipush (v := 6) hx hb dX12_settle_19 (by decide) ?_
      refine pk_i (va_runS (As := [.int x_9, .int a0, .int 6]) (rest := []) ⟨hx, hb, hml, hown, hts⟩ (s_X12_isIn_x l D t σ I J ri rj rq H.size tg hSH hG.1 x_9 a0 (6 : Int32)) (va_cwS 3 hts (tw_S tw_235 tw_236 tw_5 tw_237) rfl rfl rfl cd_yX12_isIn_3 ⟨Nat.le_of_ble_eq_true rfl, Nat.le_of_ble_eq_true rfl⟩) ⟨pq_blind, pq_pre hK hN hP hD⟩ rfl rfl hl.1 rfl (lv_room (Nat.le_of_ble_eq_true rfl)) dX12_settle_21 ⟨Nat.le_of_ble_eq_true rfl, Nat.le_of_ble_eq_true rfl⟩) hD hS hA (fun x_11 σ1 μ1 H locs hw_12 hP hD hS => ?_)
      obtain ⟨hu_13, hr_15⟩ := hw_12
      obtain ⟨hu_13a, hu_13b⟩ := Prod.mk.inj hu_13
      rw [hu_13a, hu_13b] at hP hD
      have h_16 : rg x_11 0 1 := by rcases hr_15 with ⟨q, -⟩ | ⟨q, -⟩ <;> rw [q] <;> exact ⟨by decide, by decide⟩
      have uh_16 := h_16.1
      have vh_16 := h_16.2
      refine lv_if_eq (tgt := 54) hx hb dX12_settle_24 (by decide) (fun c_17 => ?_) (fun c_17 => ?_)
      · have f_18 := (hr_15.resolve_left (fun q => absurd (q.1.symm.trans c_17) (by decide))).2
        have zk_19 : (6 : Int32).toInt = 6 := rfl
        have tc_20 : (x_11).toInt = 0 := congrArg Int32.toInt c_17
        have h_21 : rg x_11 0 0 := rg_and h_16 (rg_of_eq c_17 (rg_k (0 : Int32) 0 rfl)) (by decide)
        have uh_21 := h_21.1
        have vh_21 := h_21.2
        subst hQ
        exact W.vret hx hb hr (fun t1 ht hW => ⟨⟨(σ, I, J, ri, rj, rq), rfl, ⟨I, ri, rfl, hG, hps, (Or.inr (by rw [show (I 401 this).toInt.toNat - 1 = (x_7).toNatClampNeg from by have z0 := clampE x_7; omega, ← ex_9]; omega)), (fun (j : Nat) (hj : (j : Int) < (I 401 this).toInt) (_ : isO (ri this_pile j)) => hj), (rfl : ri this_pile = ri this_pile), (by omega)⟩, by rw [ht]; exact hP, va_K.moved hW.alike hK, hD⟩, hS.F ht⟩) hS.2.2 dX12_settle_54
      · obtain ⟨f_22, f_23⟩ := (hr_15.resolve_right (fun q => c_17 q.1)).2
        have tc_24 : (a0).toInt ≤ (x_9).toInt := Int32.le_iff_toInt_le.mp f_22
        have h_25 : rg x_9 3 40 := rg_le2 f_22 h_a0 h_10 (by decide)
        have uh_25 := h_25.1
        have vh_25 := h_25.2
        have tc_26 : (x_9).toInt ≤ 6 := Int32.le_iff_toInt_le.mp f_23
        have h_27 : rg x_9 3 6 := rg_le1 f_23 h_25 (rg_k (6 : Int32) 6 rfl) (by decide)
        have uh_27 := h_27.1
        have vh_27 := h_27.2
        have tc_28 : (x_11).toInt ≠ 0 := fun q => c_17 (Int32.toInt_inj.mp q)
        have h_29 : rg x_11 1 1 := rg_ne c_17 h_16 0 rfl (by decide)
        have uh_29 := h_29.1
        have vh_29 := h_29.2
        refine lv_aload_n hx hb dX12_settle_27 rfl (lv_at hl 0 rfl) ?_
        refine lv_dup hx hb dX12_settle_28 rfl ?_
        refine pg_f (v := .int (I 401 this)) (C := RX12) (T := TX12) (N := 31) hx hb hts (tw_i inlX12) hown hK hP hL_this hK_this (by decide) rfl 17 (by decide) (hts _ (tw_c tw_887)) rfl dX12_settle_29 ?_
        refine lv_iconst (v := 1) hx hb dX12_settle_32 (by decide) ?_
        refine lv_isub hx hb dX12_settle_33 ?_
        refine lv_topi (fun x_30 ex_30 => ?_)
        have h_31 : rg x_30 0 159 := rg_of_eq ex_30 (rg_sub h_6 (rg_k (1 : Int32) 1 rfl) (by decide))
        have uh_31 := h_31.1
        have vh_31 := h_31.2
        have tx_30 : (x_30).toInt = (I 401 this).toInt - 1 := by rw [ex_30]; exact i_sub_rg (a2 := (I 401 this).toInt) (b2 := 1) rfl rfl h_6 (rg_k (1 : Int32) 1 rfl) (by decide)
        refine pp_i (v := x_30) (ty := .int) (C := RX12) (T := TX12) (N := 31) hx hb hts (tw_i inlX12) tyX12 tyX12_ok nmX12 hown hK hP hD hS hL_this hK_this (by decide) rfl 17 401 (by decide) (hts _ (tw_c tw_887)) rfl (tyX12_ok 17 (by decide)) rfl rfl (Nat.le_of_ble_eq_true rfl) (ps_401 _ _ _ _ _) dX12_settle_34 (fun I_32 H locs eI_32 hP hD hS => ?_)
        have hG := GM.wI hG 401 rfl eI_32 (rg_w h_31 (by decide)) (by decide)
        have tt_33 : (I_32 396 this).toInt = (I 396 this).toInt := by rw [eI_32, pq_uf _ _ _ (by decide)]
        have tt_34 : (I_32 398 this).toInt = (I 398 this).toInt := by rw [eI_32, pq_uf _ _ _ (by decide)]
        have tt_35 : (I_32 401 this).toInt = (x_30).toInt := by rw [eI_32, pq_us]
        have tt_36 : (I_32 402 this).toInt = (I 402 this).toInt := by rw [eI_32, pq_uf _ _ _ (by decide)]
        have tt_37 : (I_32 391 this).toInt = (I 391 this).toInt := by rw [eI_32, pq_uf _ _ _ (by decide)]
        have tt_38 : (I_32 393 this).toInt = (I 393 this).toInt := by rw [eI_32, pq_uf _ _ _ (by decide)]
        have tt_39 : (I_32 403 this).toInt = (I 403 this).toInt := by rw [eI_32, pq_uf _ _ _ (by decide)]
        have tt_40 : (I_32 397 this).toInt = (I 397 this).toInt := by rw [eI_32, pq_uf _ _ _ (by decide)]
        refine lv_aload_n hx hb dX12_settle_37 rfl (lv_at hl 0 rfl) ?_
        refine lv_aload_n hx hb dX12_settle_38 rfl (lv_at hl 0 rfl) ?_
        refine pg_f (v := .ref this_pile) (C := RX12) (T := TX12) (N := 31) hx hb hts (tw_i inlX12) hown hK hP hL_this hK_this (by decide) rfl 16 (by decide) (hts _ (tw_c tw_182)) (pq_hv rfl hR_this_pile) dX12_settle_39 ?_
        refine lv_aload_n hx hb dX12_settle_42 rfl (lv_at hl 0 rfl) ?_
        refine pg_f (v := .int (I_32 401 this)) (C := RX12) (T := TX12) (N := 31) hx hb hts (tw_i inlX12) hown hK hP hL_this hK_this (by decide) rfl 17 (by decide) (hts _ (tw_c tw_887)) rfl dX12_settle_43 ?_
        have h_41 : rg (I_32 401 this) 0 159 := (by rw [eI_32, pq_us]; exact h_31)
        have uh_41 := h_41.1
        have vh_41 := h_41.2
        refine pl_i hx hb hK hP hL_this_pile hK_this_pile hN_this_pile (rg_in h_41 (by decide)) dX12_settle_46 ?_
        refine lv_topi (fun x_42 ex_42 => ?_)
        have ex_42 : x_42 = ri this_pile ((I_32 401 this)).toNatClampNeg := ex_42
        have h_43 : rg x_42 0 40 := rg_of_eq ex_42 (GM.rR hG hT_this_pile rfl)
        have uh_43 := h_43.1
        have vh_43 := h_43.2
        refine lv_iconst (v := 0) hx hb dX12_settle_47 (by decide) ?_
        have hzz : (x_42).toInt = (x_9).toInt := by rw [ex_42, ex_9, show ((I_32 401 this)).toNatClampNeg = (x_7).toNatClampNeg from by have z0 := clampE x_7; have z1 := clampE (I_32 401 this); omega]
        have hq1 := PSz_t hps
        have hq2 := PSz_w hps (Or.inr (by omega))
        refine pk_v (va_runV (As := [.int x_42, .int 0]) (rest := []) ⟨hx, hb, hml, hown, hts⟩ (s_X12_emit l D t σ I_32 J ri rj rq H.size tg hSH hG.1 this x_42 (0 : Int32) hL_this hK_this this_a hR_this_a hL_this_a hK_this_a hN_this_a hT_this_a (by omega) (by omega)) (cwV 2 hts (tw_V tw_905 tw_906 tw_907 tw_5 tw_908) rfl rfl rfl cv_yX12_emit_2 ⟨Nat.le_of_ble_eq_true rfl, Nat.le_of_ble_eq_true rfl⟩) ⟨pq_blind, pq_recv hK hP hL_this hK_this (by decide) rfl, pq_pre hK hN hP hD⟩ rfl rfl hl.1 rfl (lv_room (Nat.le_of_ble_eq_true rfl)) dX12_settle_48 ⟨Nat.le_of_ble_eq_true rfl, Nat.le_of_ble_eq_true rfl⟩) hD hS hA (fun σ1 μ1 H locs hw_45 hP hD hS => ?_)
        obtain ⟨I_46, ri_47, hu_48, hg_49, hp_51, hp_52, hp_53, hp_54⟩ := hw_45
        obtain ⟨hu_48a, hu_48b⟩ := Prod.mk.inj hu_48
        rw [hu_48a, hu_48b] at hP hD
        obtain ⟨v_55, ev_55, hv_55⟩ := hp_51
        have tt_56 : (I_46 398 this).toInt = (I_32 398 this).toInt + 1 := by rw [ev_55, pq_us]; exact hv_55
        have tt_57 : (I_46 403 this).toInt = (I_32 403 this).toInt := by rw [ev_55, pq_uf _ _ _ (by decide)]
        have hG := GM.tr hG hg_49 (by decide)
        have tt_58 : (I_46 396 this).toInt = (I_32 396 this).toInt := by rw [hg_49.2.1 396 (by decide) (by decide)]
        have tt_59 : (I_46 401 this).toInt = (I_32 401 this).toInt := by rw [hg_49.2.1 401 (by decide) (by decide)]
        have tt_60 : (I_46 402 this).toInt = (I_32 402 this).toInt := by rw [hg_49.2.1 402 (by decide) (by decide)]
        have tt_61 : (I_46 391 this).toInt = (I_32 391 this).toInt := by rw [hg_49.2.1 391 (by decide) (by decide)]
        have tt_62 : (I_46 393 this).toInt = (I_32 393 this).toInt := by rw [hg_49.2.1 393 (by decide) (by decide)]
        have tt_63 : (I_46 397 this).toInt = (I_32 397 this).toInt := by rw [hg_49.2.1 397 (by decide) (by decide)]
        refine lv_goto (tgt := 0) hx hb dX12_settle_51 (by decide) ?_
        have L_340 : ∀ (n_339 : Nat) (I_269 : Nat → Nat → Int32) (ri_270 : Nat → Nat → Int32) (H : Heap) (locs : List Loc) (ls : Array Slot), ((I_269 403 this).toInt = (I 403 this).toInt) → (PSz (I_269 396 this).toInt (I_269 398 this).toInt (I_269 401 this).toInt (I_269 402 this).toInt (I_269 391 this).toInt (I_269 393 this).toInt (ri_270 this_a) (ri_270 this_pile) bb f0 fr ba tb nn K 1) → (∀ j : Nat, (j : Int) < (I 401 this).toInt → isO (ri this_pile j) → (j : Int) < (I_269 401 this).toInt) → (ri_270 this_pile = ri this_pile) → ((I_269 401 this).toInt - 0).toNat < n_339 → GM [401, 398] tg σ I ri I_269 ri_270 rq → va_P D vwCl (pq_P t σ (I_269, J, ri_270, rj, rq)) H → va_D A (pq_P t σ (I_269, J, ri_270, rj, rq)) → va_S A s.heap H locs → lv_has ls 2 [(0, .ref this), (1, .int a0)] → W p l e ({ frames := 1, cells := 0, slots := 0, locals := 22 } : Room) s m (List.toArray ([.ref this, .int a0] : List Value)) below meth c H locs 0 0 Q (F0 m 0 ls []) := by
          intro n_339
          induction n_339 with
          | zero => intro I_269 ri_270 H locs ls hrel_346 hrel_347 hrel_348 hrel_349 hm_338 hG hP hD hS hl; exact absurd hm_338 (Nat.not_lt_zero _)
          | succ n_339 ih_341 =>
            intro I_269 ri_270 H locs ls hrel_346 hrel_347 hrel_348 hrel_349 hm_338 hG hP hD hS hl
            refine lv_aload_n hx hb dX12_settle_0 rfl (lv_at hl 0 rfl) ?_
            refine pg_f (v := .int (I_269 401 this)) (C := RX12) (T := TX12) (N := 31) hx hb hts (tw_i inlX12) hown hK hP hL_this hK_this (by decide) rfl 17 (by decide) (hts _ (tw_c tw_887)) rfl dX12_settle_1 ?_
            have h_350 : rg (I_269 401 this) 0 160 := GM.rI hG 401 rfl
            have uh_350 := h_350.1
            have vh_350 := h_350.2
            refine lv_if_le (tgt := 54) hx hb dX12_settle_4 (by decide) (fun c_351 => ?_) (fun c_351 => ?_)
            · have tc_352 : (I_269 401 this).toInt ≤ 0 := Int32.le_iff_toInt_le.mp c_351
              have h_353 : rg (I_269 401 this) 0 0 := rg_le1 c_351 h_350 (rg_k (0 : Int32) 0 rfl) (by decide)
              have uh_353 := h_353.1
              have vh_353 := h_353.2
              subst hQ
              exact W.vret hx hb hr (fun t1 ht hW => ⟨⟨(σ, I_269, J, ri_270, rj, rq), rfl, ⟨I_269, ri_270, rfl, hG, hrel_347, (Or.inl (by have z9 := (PSz_bd hrel_347).2.1; omega)), hrel_348, hrel_349, (by omega)⟩, by rw [ht]; exact hP, va_K.moved hW.alike hK, hD⟩, hS.F ht⟩) hS.2.2 dX12_settle_54
            · have tc_354 : 0 < (I_269 401 this).toInt := Int32.lt_iff_toInt_lt.mp (nle c_351)
              have h_355 : rg (I_269 401 this) 1 160 := rg_lt2 (nle c_351) (rg_k (0 : Int32) 0 rfl) h_350 (by decide)
              have uh_355 := h_355.1
              have vh_355 := h_355.2
              refine lv_aload_n hx hb dX12_settle_7 rfl (lv_at hl 0 rfl) ?_
              refine pg_f (v := .ref this_pile) (C := RX12) (T := TX12) (N := 31) hx hb hts (tw_i inlX12) hown hK hP hL_this hK_this (by decide) rfl 16 (by decide) (hts _ (tw_c tw_182)) (pq_hv rfl hR_this_pile) dX12_settle_8 ?_
              refine lv_aload_n hx hb dX12_settle_11 rfl (lv_at hl 0 rfl) ?_
              refine pg_f (v := .int (I_269 401 this)) (C := RX12) (T := TX12) (N := 31) hx hb hts (tw_i inlX12) hown hK hP hL_this hK_this (by decide) rfl 17 (by decide) (hts _ (tw_c tw_887)) rfl dX12_settle_12 ?_
              refine lv_iconst (v := 1) hx hb dX12_settle_15 (by decide) ?_
              refine lv_isub hx hb dX12_settle_16 ?_
              refine lv_topi (fun x_356 ex_356 => ?_)
              have h_357 : rg x_356 0 159 := rg_of_eq ex_356 (rg_sub h_355 (rg_k (1 : Int32) 1 rfl) (by decide))
              have uh_357 := h_357.1
              have vh_357 := h_357.2
              have tx_356 : (x_356).toInt = (I_269 401 this).toInt - 1 := by rw [ex_356]; exact i_sub_rg (a2 := (I_269 401 this).toInt) (b2 := 1) rfl rfl h_355 (rg_k (1 : Int32) 1 rfl) (by decide)
              refine pl_i hx hb hK hP hL_this_pile hK_this_pile hN_this_pile (rg_in h_357 (by decide)) dX12_settle_17 ?_
              refine lv_topi (fun x_358 ex_358 => ?_)
              have ex_358 : x_358 = ri_270 this_pile (x_356).toNatClampNeg := ex_358
              have h_359 : rg x_358 0 40 := rg_of_eq ex_358 (GM.rR hG hT_this_pile rfl)
              have uh_359 := h_359.1
              have vh_359 := h_359.2
              refine lv_iload_n hx hb dX12_settle_18 rfl (lv_at hl 1 rfl) ?_
              refine lv_bipush (v := 6) hx hb dX12_settle_19 (by decide) ?_
              refine pk_i (va_runS (As := [.int x_358, .int a0, .int 6]) (rest := []) ⟨hx, hb, hml, hown, hts⟩ (s_X12_isIn_x l D t σ I_269 J ri_270 rj rq H.size tg hSH hG.1 x_358 a0 (6 : Int32)) (va_cwS 3 hts (tw_S tw_235 tw_236 tw_5 tw_237) rfl rfl rfl cd_yX12_isIn_3 ⟨Nat.le_of_ble_eq_true rfl, Nat.le_of_ble_eq_true rfl⟩) ⟨pq_blind, pq_pre hK hN hP hD⟩ rfl rfl hl.1 rfl (lv_room (Nat.le_of_ble_eq_true rfl)) dX12_settle_21 ⟨Nat.le_of_ble_eq_true rfl, Nat.le_of_ble_eq_true rfl⟩) hD hS hA (fun x_360 σ1 μ1 H locs hw_361 hP hD hS => ?_)
              obtain ⟨hu_362, hr_364⟩ := hw_361
              obtain ⟨hu_362a, hu_362b⟩ := Prod.mk.inj hu_362
              rw [hu_362a, hu_362b] at hP hD
              have h_365 : rg x_360 0 1 := by rcases hr_364 with ⟨q, -⟩ | ⟨q, -⟩ <;> rw [q] <;> exact ⟨by decide, by decide⟩
              have uh_365 := h_365.1
              have vh_365 := h_365.2
              refine lv_if_eq (tgt := 54) hx hb dX12_settle_24 (by decide) (fun c_366 => ?_) (fun c_366 => ?_)
              · have f_367 := (hr_364.resolve_left (fun q => absurd (q.1.symm.trans c_366) (by decide))).2
                have zk_368 : (6 : Int32).toInt = 6 := rfl
                have tc_369 : (x_360).toInt = 0 := congrArg Int32.toInt c_366
                have h_370 : rg x_360 0 0 := rg_and h_365 (rg_of_eq c_366 (rg_k (0 : Int32) 0 rfl)) (by decide)
                have uh_370 := h_370.1
                have vh_370 := h_370.2
                subst hQ
                exact W.vret hx hb hr (fun t1 ht hW => ⟨⟨(σ, I_269, J, ri_270, rj, rq), rfl, ⟨I_269, ri_270, rfl, hG, hrel_347, (Or.inr (by rw [show (I_269 401 this).toInt.toNat - 1 = (x_356).toNatClampNeg from by have z0 := clampE x_356; omega, ← ex_358]; omega)), hrel_348, hrel_349, (by omega)⟩, by rw [ht]; exact hP, va_K.moved hW.alike hK, hD⟩, hS.F ht⟩) hS.2.2 dX12_settle_54
              · obtain ⟨f_371, f_372⟩ := (hr_364.resolve_right (fun q => c_366 q.1)).2
                have tc_373 : (a0).toInt ≤ (x_358).toInt := Int32.le_iff_toInt_le.mp f_371
                have h_374 : rg x_358 3 40 := rg_le2 f_371 h_a0 h_359 (by decide)
                have uh_374 := h_374.1
                have vh_374 := h_374.2
                have tc_375 : (x_358).toInt ≤ 6 := Int32.le_iff_toInt_le.mp f_372
                have h_376 : rg x_358 3 6 := rg_le1 f_372 h_374 (rg_k (6 : Int32) 6 rfl) (by decide)
                have uh_376 := h_376.1
                have vh_376 := h_376.2
                have tc_377 : (x_360).toInt ≠ 0 := fun q => c_366 (Int32.toInt_inj.mp q)
                have h_378 : rg x_360 1 1 := rg_ne c_366 h_365 0 rfl (by decide)
                have uh_378 := h_378.1
                have vh_378 := h_378.2
                refine lv_aload_n hx hb dX12_settle_27 rfl (lv_at hl 0 rfl) ?_
                refine lv_dup hx hb dX12_settle_28 rfl ?_
                refine pg_f (v := .int (I_269 401 this)) (C := RX12) (T := TX12) (N := 31) hx hb hts (tw_i inlX12) hown hK hP hL_this hK_this (by decide) rfl 17 (by decide) (hts _ (tw_c tw_887)) rfl dX12_settle_29 ?_
                refine lv_iconst (v := 1) hx hb dX12_settle_32 (by decide) ?_
                refine lv_isub hx hb dX12_settle_33 ?_
                refine lv_topi (fun x_379 ex_379 => ?_)
                have h_380 : rg x_379 0 159 := rg_of_eq ex_379 (rg_sub h_355 (rg_k (1 : Int32) 1 rfl) (by decide))
                have uh_380 := h_380.1
                have vh_380 := h_380.2
                have tx_379 : (x_379).toInt = (I_269 401 this).toInt - 1 := by rw [ex_379]; exact i_sub_rg (a2 := (I_269 401 this).toInt) (b2 := 1) rfl rfl h_355 (rg_k (1 : Int32) 1 rfl) (by decide)
                refine pp_i (v := x_379) (ty := .int) (C := RX12) (T := TX12) (N := 31) hx hb hts (tw_i inlX12) tyX12 tyX12_ok nmX12 hown hK hP hD hS hL_this hK_this (by decide) rfl 17 401 (by decide) (hts _ (tw_c tw_887)) rfl (tyX12_ok 17 (by decide)) rfl rfl (Nat.le_of_ble_eq_true rfl) (ps_401 _ _ _ _ _) dX12_settle_34 (fun I_381 H locs eI_381 hP hD hS => ?_)
                have hG := GM.wI hG 401 rfl eI_381 (rg_w h_380 (by decide)) (by decide)
                have tt_382 : (I_381 396 this).toInt = (I_269 396 this).toInt := by rw [eI_381, pq_uf _ _ _ (by decide)]
                have tt_383 : (I_381 398 this).toInt = (I_269 398 this).toInt := by rw [eI_381, pq_uf _ _ _ (by decide)]
                have tt_384 : (I_381 401 this).toInt = (x_379).toInt := by rw [eI_381, pq_us]
                have tt_385 : (I_381 402 this).toInt = (I_269 402 this).toInt := by rw [eI_381, pq_uf _ _ _ (by decide)]
                have tt_386 : (I_381 391 this).toInt = (I_269 391 this).toInt := by rw [eI_381, pq_uf _ _ _ (by decide)]
                have tt_387 : (I_381 393 this).toInt = (I_269 393 this).toInt := by rw [eI_381, pq_uf _ _ _ (by decide)]
                have tt_388 : (I_381 403 this).toInt = (I_269 403 this).toInt := by rw [eI_381, pq_uf _ _ _ (by decide)]
                have tt_389 : (I_381 397 this).toInt = (I_269 397 this).toInt := by rw [eI_381, pq_uf _ _ _ (by decide)]
                refine lv_aload_n hx hb dX12_settle_37 rfl (lv_at hl 0 rfl) ?_
                refine lv_aload_n hx hb dX12_settle_38 rfl (lv_at hl 0 rfl) ?_
                refine pg_f (v := .ref this_pile) (C := RX12) (T := TX12) (N := 31) hx hb hts (tw_i inlX12) hown hK hP hL_this hK_this (by decide) rfl 16 (by decide) (hts _ (tw_c tw_182)) (pq_hv rfl hR_this_pile) dX12_settle_39 ?_
                refine lv_aload_n hx hb dX12_settle_42 rfl (lv_at hl 0 rfl) ?_
                refine pg_f (v := .int (I_381 401 this)) (C := RX12) (T := TX12) (N := 31) hx hb hts (tw_i inlX12) hown hK hP hL_this hK_this (by decide) rfl 17 (by decide) (hts _ (tw_c tw_887)) rfl dX12_settle_43 ?_
                have h_390 : rg (I_381 401 this) 0 159 := (by rw [eI_381, pq_us]; exact h_380)
                have uh_390 := h_390.1
                have vh_390 := h_390.2
                refine pl_i hx hb hK hP hL_this_pile hK_this_pile hN_this_pile (rg_in h_390 (by decide)) dX12_settle_46 ?_
                refine lv_topi (fun x_391 ex_391 => ?_)
                have ex_391 : x_391 = ri_270 this_pile ((I_381 401 this)).toNatClampNeg := ex_391
                have h_392 : rg x_391 0 40 := rg_of_eq ex_391 (GM.rR hG hT_this_pile rfl)
                have uh_392 := h_392.1
                have vh_392 := h_392.2
                refine lv_iconst (v := 0) hx hb dX12_settle_47 (by decide) ?_
                have hzz : (x_391).toInt = (x_358).toInt := by rw [ex_391, ex_358, show ((I_381 401 this)).toNatClampNeg = (x_356).toNatClampNeg from by have z0 := clampE x_356; have z1 := clampE (I_381 401 this); omega]
                have hq1 := PSz_t hrel_347
                have hq2 := PSz_w hrel_347 (Or.inr (by omega))
                refine pk_v (va_runV (As := [.int x_391, .int 0]) (rest := []) ⟨hx, hb, hml, hown, hts⟩ (s_X12_emit l D t σ I_381 J ri_270 rj rq H.size tg hSH hG.1 this x_391 (0 : Int32) hL_this hK_this this_a hR_this_a hL_this_a hK_this_a hN_this_a hT_this_a (by omega) (by omega)) (cwV 2 hts (tw_V tw_905 tw_906 tw_907 tw_5 tw_908) rfl rfl rfl cv_yX12_emit_2 ⟨Nat.le_of_ble_eq_true rfl, Nat.le_of_ble_eq_true rfl⟩) ⟨pq_blind, pq_recv hK hP hL_this hK_this (by decide) rfl, pq_pre hK hN hP hD⟩ rfl rfl hl.1 rfl (lv_room (Nat.le_of_ble_eq_true rfl)) dX12_settle_48 ⟨Nat.le_of_ble_eq_true rfl, Nat.le_of_ble_eq_true rfl⟩) hD hS hA (fun σ1 μ1 H locs hw_394 hP hD hS => ?_)
                obtain ⟨I_395, ri_396, hu_397, hg_398, hp_400, hp_401, hp_402, hp_403⟩ := hw_394
                obtain ⟨hu_397a, hu_397b⟩ := Prod.mk.inj hu_397
                rw [hu_397a, hu_397b] at hP hD
                obtain ⟨v_404, ev_404, hv_404⟩ := hp_400
                have tt_405 : (I_395 398 this).toInt = (I_381 398 this).toInt + 1 := by rw [ev_404, pq_us]; exact hv_404
                have tt_406 : (I_395 403 this).toInt = (I_381 403 this).toInt := by rw [ev_404, pq_uf _ _ _ (by decide)]
                have hG := GM.tr hG hg_398 (by decide)
                have tt_407 : (I_395 396 this).toInt = (I_381 396 this).toInt := by rw [hg_398.2.1 396 (by decide) (by decide)]
                have tt_408 : (I_395 401 this).toInt = (I_381 401 this).toInt := by rw [hg_398.2.1 401 (by decide) (by decide)]
                have tt_409 : (I_395 402 this).toInt = (I_381 402 this).toInt := by rw [hg_398.2.1 402 (by decide) (by decide)]
                have tt_410 : (I_395 391 this).toInt = (I_381 391 this).toInt := by rw [hg_398.2.1 391 (by decide) (by decide)]
                have tt_411 : (I_395 393 this).toInt = (I_381 393 this).toInt := by rw [hg_398.2.1 393 (by decide) (by decide)]
                have tt_412 : (I_395 397 this).toInt = (I_381 397 this).toInt := by rw [hg_398.2.1 397 (by decide) (by decide)]
                refine lv_goto (tgt := 0) hx hb dX12_settle_51 (by decide) ?_
                exact ih_341 I_395 ri_396 _ _ _ (by omega) (PSz_popB hrel_347 (by omega) (by rw [show (I_269 401 this).toInt.toNat - 1 = ((I_381 401 this)).toNatClampNeg from by have z0 := clampE (I_381 401 this); omega]; exact ex_391.symm) (x := x_391) (by omega) (fun j hj => hp_401 j (by omega)) (by rw [show (I_269 396 this).toInt + 250 + 2 * (I_269 398 this).toInt = (I_381 396 this).toInt + 250 + 2 * (I_381 398 this).toInt from by omega]; exact hp_402) (by omega) (by omega) (by omega) (by omega) (by omega) (by omega) (hp_403 this_pile (tg_ne hT_this_pile hT_this_a (by decide)))) (fun j hj ho => by have q := hrel_348 j hj ho; by_cases hjj : j = ((I_381 401 this)).toNatClampNeg; (exfalso; rw [hjj, ← hrel_349, ← ex_391] at ho; unfold isO at ho; omega); (have z0 := clampE (I_381 401 this); omega)) ((hp_403 this_pile (tg_ne hT_this_pile hT_this_a (by decide))).trans hrel_349) (ms_fd_isub hm_338 ((congrFun (hg_398.2.1 401 (by decide) (by decide)) this).trans (by rw [eI_381]; exact pq_us _ _ _ _)) ex_379 rfl (kk := 1) rfl (by decide) h_355 (by decide) (by decide)) hG hP hD hS (lv_sub hl [0, 1] rfl)
        exact L_340 _ I_46 ri_47 _ _ _ (by omega) (PSz_popB hps (by omega) (by rw [show (I 401 this).toInt.toNat - 1 = ((I_32 401 this)).toNatClampNeg from by have z0 := clampE (I_32 401 this); omega]; exact ex_42.symm) (x := x_42) (by omega) (fun j hj => hp_52 j (by omega)) (by rw [show (I 396 this).toInt + 250 + 2 * (I 398 this).toInt = (I_32 396 this).toInt + 250 + 2 * (I_32 398 this).toInt from by omega]; exact hp_53) (by omega) (by omega) (by omega) (by omega) (by omega) (by omega) (hp_54 this_pile (tg_ne hT_this_pile hT_this_a (by decide)))) (fun j hj ho => by have q := (fun (j : Nat) (hj : (j : Int) < (I 401 this).toInt) (_ : isO (ri this_pile j)) => hj) j hj ho; by_cases hjj : j = ((I_32 401 this)).toNatClampNeg; (exfalso; rw [hjj, ← (rfl : ri this_pile = ri this_pile), ← ex_42] at ho; unfold isO at ho; omega); (have z0 := clampE (I_32 401 this); omega)) ((hp_54 this_pile (tg_ne hT_this_pile hT_this_a (by decide))).trans (rfl : ri this_pile = ri this_pile)) (Nat.lt_succ_self _) hG hP hD hS (lv_sub hl [0, 1] rfl)
  exact go _ _ _ hP hD hS hl

set_option maxHeartbeats 4000000 in
set_option maxRecDepth 100000 in
theorem s_X12_hasParen (l : Launch) (D : va_G) (t : pq_T) (σ : pq_S) (I : Nat → Nat → Int32) (J : Nat → Nat → Int64) (ri : Nat → Nat → Int32) (rj : Nat → Nat → Int64) (rq : Nat → Nat → Option Nat) (sz : Nat) (tg : Nat → Nat) (hSH : SH σ tg) (hG0 : GT tg I ri) (this : Nat) (hL_this : this ∈ σ.1) (hK_this : σ.2.1 this = 12) (this_pile : Nat) (hR_this_pile : σ.2.2.1 400 this = some this_pile) (hL_this_pile : this_pile ∈ σ.1) (hK_this_pile : σ.2.1 this_pile = 13) (hN_this_pile : σ.2.2.2 this_pile = 160) (hT_this_pile : tg this_pile = 400) : MetI l yX12_hasParen (wa yX12_hasParen cX12_hasParen 2 (some .boolean)) ({ frames := 0, cells := 0, slots := 0, locals := 0 }) [.ref this] D t σ (I, J, ri, rj, rq) sz 0 0 (fun (r : Int32) (u : pq_S × pq_M) => u = (σ, I, J, ri, rj, rq) ∧ ((r = 1 ∧ (∃ k : Nat, (k : Int) < (I 401 this).toInt ∧ (ri this_pile k).toInt = 40)) ∨ (r = 0 ∧ True))) := by
  refine Met.ofW (cc := cX12_hasParen) (maxL := 2) (ret := (some .boolean)) (by decide) rfl ?_
  intro p e s m args below meth c s₁ B hml hv
  obtain ⟨rfl, hsz, hP, hK, hD0, hN⟩ := hv
  have hx := B.exec
  have hb := B.bytes
  have hr := B.returns
  have hts := atoms_spec (ws := (wa yX12_hasParen cX12_hasParen 2 (some .boolean))) B.pre
  have hown : s.vm.findClass RX12 = some m.cls := findClass_of_methodNamed B.named
  have hlocks := B.notSynchronized
  subst hsz
  have hD : va_D (pq_B t σ (I, J, ri, rj, rq) s.heap.size) (pq_P t σ (I, J, ri, rj, rq)) := hD0.self
  generalize hAe : pq_B t σ (I, J, ri, rj, rq) s.heap.size = A at hD ⊢
  have hA : ∀ q : Nat, s.heap.size ≤ q → A q := fun q h => by rw [← hAe]; exact Or.inr h
  have hS : va_S A s.heap s.heap [] := va_S.rf
  have hG : GM [] tg σ I ri I ri rq := ⟨hG0, fun _ _ _ => rfl, fun _ _ _ _ _ => rfl, fun _ _ _ _ _ _ => rfl⟩
  have hl := lv_entry ([.ref this]) (n := 2) (Nat.le_of_ble_eq_true rfl)
  rw [lg_entry_eq]
  generalize (lg_sl ([.ref this]) ++ List.replicate (2 - (lg_sl ([.ref this])).length) Slot.unset).toArray = ls at hl ⊢
  have hl : lv_has ls 2 [(0, .ref this)] := hl
  refine q_gen (fun Q hQ => ?_)
  have go : ∀ (H : Heap) (locs : List Loc) (ls : Array Slot), va_P D vwCl (pq_P t σ (I, J, ri, rj, rq)) H → va_D A (pq_P t σ (I, J, ri, rj, rq)) → va_S A s.heap H locs → lv_has ls 2 [(0, .ref this)] → W p l e ({ frames := 0, cells := 0, slots := 0, locals := 0 } : Room) s m (List.toArray ([.ref this] : List Value)) below meth c H locs 0 0 Q (F0 m 0 ls []) := by
    intro H locs ls hP hD hS hl
    refine lv_iconst (v := 0) hx hb dX12_hasParen_0 (by decide) ?_
    refine lv_istore_n (lv' := [(1, .int 0), (0, .ref this)]) hx hb dX12_hasParen_1 rfl hl (by decide) rfl (fun ls hl => ?_)
    have L_341 : ∀ (n_340 : Nat) (x_322 : Int32) (H : Heap) (locs : List Loc) (ls : Array Slot), rg x_322 0 160 → (160 - (x_322).toInt).toNat < n_340 → GM [] tg σ I ri I ri rq → va_P D vwCl (pq_P t σ (I, J, ri, rj, rq)) H → va_D A (pq_P t σ (I, J, ri, rj, rq)) → va_S A s.heap H locs → lv_has ls 2 [(0, .ref this), (1, .int x_322)] → W p l e ({ frames := 0, cells := 0, slots := 0, locals := 0 } : Room) s m (List.toArray ([.ref this] : List Value)) below meth c H locs 0 0 Q (F0 m 2 ls []) := by
      intro n_340
      induction n_340 with
      | zero => intro x_322 H locs ls h_344 hm_339 hG hP hD hS hl; exact absurd hm_339 (Nat.not_lt_zero _)
      | succ n_340 ih_342 =>
        intro x_322 H locs ls h_344 hm_339 hG hP hD hS hl
        have uh_344 := h_344.1
        have vh_344 := h_344.2
        refine lv_iload_n hx hb dX12_hasParen_2 rfl (lv_at hl 1 rfl) ?_
        refine lv_aload_n hx hb dX12_hasParen_3 rfl (lv_at hl 0 rfl) ?_
        refine pg_f (v := .int (I 401 this)) (C := RX12) (T := TX12) (N := 31) hx hb hts (tw_i inlX12) hown hK hP hL_this hK_this (by decide) rfl 17 (by decide) (hts _ (tw_c tw_887)) rfl dX12_hasParen_4 ?_
        have h_345 : rg (I 401 this) 0 160 := GM.rI hG 401 rfl
        have uh_345 := h_345.1
        have vh_345 := h_345.2
        refine lv_icmp_ge (tgt := 29) hx hb dX12_hasParen_7 (by decide) (fun c_346 => ?_) (fun c_346 => ?_)
        · have tc_347 : (I 401 this).toInt ≤ (x_322).toInt := Int32.le_iff_toInt_le.mp c_346
          refine lv_iconst (v := 0) hx hb dX12_hasParen_29 (by decide) ?_
          subst hQ
          exact W.zret (v := 0) hx hb hr (by decide) (fun t1 ht hW => ⟨⟨0, (σ, I, J, ri, rj, rq), rfl, ⟨rfl, (Or.inr ⟨rfl, trivial⟩)⟩, by rw [ht]; exact hP, va_K.moved hW.alike hK, hD⟩, hS.F ht⟩) hS.2.2 dX12_hasParen_30
        · have tc_348 : (x_322).toInt < (I 401 this).toInt := Int32.lt_iff_toInt_lt.mp (nle c_346)
          have h_349 : rg x_322 0 159 := rg_lt1 (nle c_346) h_344 h_345 (by decide)
          have uh_349 := h_349.1
          have vh_349 := h_349.2
          have h_350 : rg (I 401 this) 1 160 := rg_lt2 (nle c_346) h_344 h_345 (by decide)
          have uh_350 := h_350.1
          have vh_350 := h_350.2
          refine lv_aload_n hx hb dX12_hasParen_10 rfl (lv_at hl 0 rfl) ?_
          refine pg_f (v := .ref this_pile) (C := RX12) (T := TX12) (N := 31) hx hb hts (tw_i inlX12) hown hK hP hL_this hK_this (by decide) rfl 16 (by decide) (hts _ (tw_c tw_182)) (pq_hv rfl hR_this_pile) dX12_hasParen_11 ?_
          refine lv_iload_n hx hb dX12_hasParen_14 rfl (lv_at hl 1 rfl) ?_
          refine pl_i hx hb hK hP hL_this_pile hK_this_pile hN_this_pile (rg_in h_349 (by decide)) dX12_hasParen_15 ?_
          refine lv_topi (fun x_351 ex_351 => ?_)
          have ex_351 : x_351 = ri this_pile (x_322).toNatClampNeg := ex_351
          have h_352 : rg x_351 0 40 := rg_of_eq ex_351 (GM.rR hG hT_this_pile rfl)
          have uh_352 := h_352.1
          have vh_352 := h_352.2
          refine lv_bipush (v := 40) hx hb dX12_hasParen_16 (by decide) ?_
          refine lv_icmp_ne (tgt := 23) hx hb dX12_hasParen_18 (by decide) (fun c_353 => ?_) (fun c_353 => ?_)
          · have tc_354 : (x_351).toInt ≠ 40 := fun q => c_353 (Int32.toInt_inj.mp q)
            have h_355 : rg x_351 0 39 := rg_ne c_353 h_352 40 rfl (by decide)
            have uh_355 := h_355.1
            have vh_355 := h_355.2
            obtain ⟨x_356, ex_356⟩ : ∃ y : Int32, y = x_322 + Int32.ofInt 1 := ⟨_, rfl⟩
            have h_357 : rg x_356 1 160 := rg_of_eq ex_356 (rg_add h_349 (rg_k (Int32.ofInt 1) 1 rfl) (by decide))
            have uh_357 := h_357.1
            have vh_357 := h_357.2
            have tx_356 : (x_356).toInt = (x_322).toInt + 1 := by rw [ex_356]; exact i_add_rg (a2 := (x_322).toInt) (b2 := 1) rfl rfl h_349 (rg_k (Int32.ofInt 1) 1 rfl) (by decide)
            refine lv_iinc (v := x_356) (lv' := [(1, .int x_356), (0, .ref this)]) hx hb dX12_hasParen_23 hl (k := 1) rfl ex_356.symm (by decide) rfl (fun ls hl => ?_)
            refine lv_goto (tgt := 2) hx hb dX12_hasParen_26 (by decide) ?_
            exact ih_342 x_356 _ _ _ (rg_w h_357 (by decide)) (ms_up 1 hm_339 ex_356 rfl (by decide) h_349 (by decide) (by decide)) hG hP hD hS (lv_sub hl [1, 0] rfl)
          · have tc_358 : (x_351).toInt = 40 := congrArg Int32.toInt c_353
            have h_359 : rg x_351 40 40 := rg_and h_352 (rg_of_eq c_353 (rg_k (40 : Int32) 40 rfl)) (by decide)
            have uh_359 := h_359.1
            have vh_359 := h_359.2
            refine lv_iconst (v := 1) hx hb dX12_hasParen_21 (by decide) ?_
            subst hQ
            exact W.zret (v := 1) hx hb hr (by decide) (fun t1 ht hW => ⟨⟨1, (σ, I, J, ri, rj, rq), rfl, ⟨rfl, (Or.inl ⟨rfl, ⟨(x_322).toNatClampNeg, by have z0 := clampE x_322; omega, by rw [← ex_351]; omega⟩⟩)⟩, by rw [ht]; exact hP, va_K.moved hW.alike hK, hD⟩, hS.F ht⟩) hS.2.2 dX12_hasParen_22
    exact L_341 _ (0 : Int32) _ _ _ (rg_w (rg_k (0 : Int32) 0 rfl) (by decide)) (Nat.lt_succ_self _) hG hP hD hS (lv_sub hl [1, 0] rfl)
  exact go _ _ _ hP hD hS hl

set_option maxHeartbeats 4000000 in
set_option maxRecDepth 100000 in
theorem s_X12_goesOn (l : Launch) (D : va_G) (t : pq_T) (σ : pq_S) (I : Nat → Nat → Int32) (J : Nat → Nat → Int64) (ri : Nat → Nat → Int32) (rj : Nat → Nat → Int64) (rq : Nat → Nat → Option Nat) (sz : Nat) (tg : Nat → Nat) (hSH : SH σ tg) (hG0 : GT tg I ri) (this : Nat) (hL_this : this ∈ σ.1) (hK_this : σ.2.1 this = 12) (this_pile : Nat) (hR_this_pile : σ.2.2.1 400 this = some this_pile) (hL_this_pile : this_pile ∈ σ.1) (hK_this_pile : σ.2.1 this_pile = 13) (hN_this_pile : σ.2.2.2 this_pile = 160) (hT_this_pile : tg this_pile = 400) : MetI l yX12_goesOn (wa yX12_goesOn cX12_goesOn 1 (some .boolean)) ({ frames := 1, cells := 0, slots := 0, locals := 21 }) [.ref this] D t σ (I, J, ri, rj, rq) sz 0 0 (fun (r : Int32) (u : pq_S × pq_M) => u = (σ, I, J, ri, rj, rq) ∧ ((r = 1 ∧ (((I 393 this).toInt = 43 ∨ (I 393 this).toInt = 45 ∨ (I 393 this).toInt = 42 ∨ (I 393 this).toInt = 47 ∨ (I 393 this).toInt = 41) ∧ ((I 393 this).toInt = 41 → ∃ k : Nat, (k : Int) < (I 401 this).toInt ∧ (ri this_pile k).toInt = 40))) ∨ (r = 0 ∧ True))) := by
  refine Met.ofW (cc := cX12_goesOn) (maxL := 1) (ret := (some .boolean)) (by decide) rfl ?_
  intro p e s m args below meth c s₁ B hml hv
  obtain ⟨rfl, hsz, hP, hK, hD0, hN⟩ := hv
  have hx := B.exec
  have hb := B.bytes
  have hr := B.returns
  have hts := atoms_spec (ws := (wa yX12_goesOn cX12_goesOn 1 (some .boolean))) B.pre
  have hown : s.vm.findClass RX12 = some m.cls := findClass_of_methodNamed B.named
  have hlocks := B.notSynchronized
  subst hsz
  have hD : va_D (pq_B t σ (I, J, ri, rj, rq) s.heap.size) (pq_P t σ (I, J, ri, rj, rq)) := hD0.self
  generalize hAe : pq_B t σ (I, J, ri, rj, rq) s.heap.size = A at hD ⊢
  have hA : ∀ q : Nat, s.heap.size ≤ q → A q := fun q h => by rw [← hAe]; exact Or.inr h
  have hS : va_S A s.heap s.heap [] := va_S.rf
  have hG : GM [] tg σ I ri I ri rq := ⟨hG0, fun _ _ _ => rfl, fun _ _ _ _ _ => rfl, fun _ _ _ _ _ _ => rfl⟩
  have hl := lv_entry ([.ref this]) (n := 1) (Nat.le_of_ble_eq_true rfl)
  rw [lg_entry_eq]
  generalize (lg_sl ([.ref this]) ++ List.replicate (1 - (lg_sl ([.ref this])).length) Slot.unset).toArray = ls at hl ⊢
  have hl : lv_has ls 1 [(0, .ref this)] := hl
  refine q_gen (fun Q hQ => ?_)
  have go : ∀ (H : Heap) (locs : List Loc) (ls : Array Slot), va_P D vwCl (pq_P t σ (I, J, ri, rj, rq)) H → va_D A (pq_P t σ (I, J, ri, rj, rq)) → va_S A s.heap H locs → lv_has ls 1 [(0, .ref this)] → W p l e ({ frames := 1, cells := 0, slots := 0, locals := 21 } : Room) s m (List.toArray ([.ref this] : List Value)) below meth c H locs 0 0 Q (F0 m 0 ls []) := by
    intro H locs ls hP hD hS hl
    refine lv_aload_n hx hb dX12_goesOn_0 rfl (lv_at hl 0 rfl) ?_
    refine pg_f (v := .int (I 393 this)) (C := RX12) (T := TX12) (N := 31) hx hb hts (tw_i inlX12) hown hK hP hL_this hK_this (by decide) rfl 9 (by decide) (hts _ (tw_c tw_831)) rfl dX12_goesOn_1 ?_
    refine lv_bipush (v := 43) hx hb dX12_goesOn_4 (by decide) ?_
    refine lv_icmp_eq (tgt := 52) hx hb dX12_goesOn_6 (by decide) (fun c_1 => ?_) (fun c_1 => ?_)
    · have tc_2 : (I 393 this).toInt = 43 := congrArg Int32.toInt c_1
      have h_3 : rg (I 393 this) 43 43 := rg_and (rg_full _) (rg_of_eq c_1 (rg_k (43 : Int32) 43 rfl)) (by decide)
      have uh_3 := h_3.1
      have vh_3 := h_3.2
      refine lv_iconst (v := 1) hx hb dX12_goesOn_52 (by decide) ?_
      refine lv_goto (tgt := 57) hx hb dX12_goesOn_53 (by decide) ?_
      subst hQ
      exact W.zret (v := 1) hx hb hr (by decide) (fun t1 ht hW => ⟨⟨1, (σ, I, J, ri, rj, rq), rfl, ⟨rfl, (Or.inl ⟨rfl, ⟨by omega, fun q => absurd q (by omega)⟩⟩)⟩, by rw [ht]; exact hP, va_K.moved hW.alike hK, hD⟩, hS.F ht⟩) hS.2.2 dX12_goesOn_57
    · have tc_4 : (I 393 this).toInt ≠ 43 := fun q => c_1 (Int32.toInt_inj.mp q)
      refine lv_aload_n hx hb dX12_goesOn_9 rfl (lv_at hl 0 rfl) ?_
      refine pg_f (v := .int (I 393 this)) (C := RX12) (T := TX12) (N := 31) hx hb hts (tw_i inlX12) hown hK hP hL_this hK_this (by decide) rfl 9 (by decide) (hts _ (tw_c tw_831)) rfl dX12_goesOn_10 ?_
      refine lv_bipush (v := 45) hx hb dX12_goesOn_13 (by decide) ?_
      refine lv_icmp_eq (tgt := 52) hx hb dX12_goesOn_15 (by decide) (fun c_5 => ?_) (fun c_5 => ?_)
      · have tc_6 : (I 393 this).toInt = 45 := congrArg Int32.toInt c_5
        have h_7 : rg (I 393 this) 45 45 := rg_and (rg_full _) (rg_of_eq c_5 (rg_k (45 : Int32) 45 rfl)) (by decide)
        have uh_7 := h_7.1
        have vh_7 := h_7.2
        refine lv_iconst (v := 1) hx hb dX12_goesOn_52 (by decide) ?_
        refine lv_goto (tgt := 57) hx hb dX12_goesOn_53 (by decide) ?_
        subst hQ
        exact W.zret (v := 1) hx hb hr (by decide) (fun t1 ht hW => ⟨⟨1, (σ, I, J, ri, rj, rq), rfl, ⟨rfl, (Or.inl ⟨rfl, ⟨by omega, fun q => absurd q (by omega)⟩⟩)⟩, by rw [ht]; exact hP, va_K.moved hW.alike hK, hD⟩, hS.F ht⟩) hS.2.2 dX12_goesOn_57
      · have tc_8 : (I 393 this).toInt ≠ 45 := fun q => c_5 (Int32.toInt_inj.mp q)
        refine lv_aload_n hx hb dX12_goesOn_18 rfl (lv_at hl 0 rfl) ?_
        refine pg_f (v := .int (I 393 this)) (C := RX12) (T := TX12) (N := 31) hx hb hts (tw_i inlX12) hown hK hP hL_this hK_this (by decide) rfl 9 (by decide) (hts _ (tw_c tw_831)) rfl dX12_goesOn_19 ?_
        refine lv_bipush (v := 42) hx hb dX12_goesOn_22 (by decide) ?_
        refine lv_icmp_eq (tgt := 52) hx hb dX12_goesOn_24 (by decide) (fun c_9 => ?_) (fun c_9 => ?_)
        · have tc_10 : (I 393 this).toInt = 42 := congrArg Int32.toInt c_9
          have h_11 : rg (I 393 this) 42 42 := rg_and (rg_full _) (rg_of_eq c_9 (rg_k (42 : Int32) 42 rfl)) (by decide)
          have uh_11 := h_11.1
          have vh_11 := h_11.2
          refine lv_iconst (v := 1) hx hb dX12_goesOn_52 (by decide) ?_
          refine lv_goto (tgt := 57) hx hb dX12_goesOn_53 (by decide) ?_
          subst hQ
          exact W.zret (v := 1) hx hb hr (by decide) (fun t1 ht hW => ⟨⟨1, (σ, I, J, ri, rj, rq), rfl, ⟨rfl, (Or.inl ⟨rfl, ⟨by omega, fun q => absurd q (by omega)⟩⟩)⟩, by rw [ht]; exact hP, va_K.moved hW.alike hK, hD⟩, hS.F ht⟩) hS.2.2 dX12_goesOn_57
        · have tc_12 : (I 393 this).toInt ≠ 42 := fun q => c_9 (Int32.toInt_inj.mp q)
          refine lv_aload_n hx hb dX12_goesOn_27 rfl (lv_at hl 0 rfl) ?_
          refine pg_f (v := .int (I 393 this)) (C := RX12) (T := TX12) (N := 31) hx hb hts (tw_i inlX12) hown hK hP hL_this hK_this (by decide) rfl 9 (by decide) (hts _ (tw_c tw_831)) rfl dX12_goesOn_28 ?_
          refine lv_bipush (v := 47) hx hb dX12_goesOn_31 (by decide) ?_
          refine lv_icmp_eq (tgt := 52) hx hb dX12_goesOn_33 (by decide) (fun c_13 => ?_) (fun c_13 => ?_)
          · have tc_14 : (I 393 this).toInt = 47 := congrArg Int32.toInt c_13
            have h_15 : rg (I 393 this) 47 47 := rg_and (rg_full _) (rg_of_eq c_13 (rg_k (47 : Int32) 47 rfl)) (by decide)
            have uh_15 := h_15.1
            have vh_15 := h_15.2
            refine lv_iconst (v := 1) hx hb dX12_goesOn_52 (by decide) ?_
            refine lv_goto (tgt := 57) hx hb dX12_goesOn_53 (by decide) ?_
            subst hQ
            exact W.zret (v := 1) hx hb hr (by decide) (fun t1 ht hW => ⟨⟨1, (σ, I, J, ri, rj, rq), rfl, ⟨rfl, (Or.inl ⟨rfl, ⟨by omega, fun q => absurd q (by omega)⟩⟩)⟩, by rw [ht]; exact hP, va_K.moved hW.alike hK, hD⟩, hS.F ht⟩) hS.2.2 dX12_goesOn_57
          · have tc_16 : (I 393 this).toInt ≠ 47 := fun q => c_13 (Int32.toInt_inj.mp q)
            refine lv_aload_n hx hb dX12_goesOn_36 rfl (lv_at hl 0 rfl) ?_
            refine pg_f (v := .int (I 393 this)) (C := RX12) (T := TX12) (N := 31) hx hb hts (tw_i inlX12) hown hK hP hL_this hK_this (by decide) rfl 9 (by decide) (hts _ (tw_c tw_831)) rfl dX12_goesOn_37 ?_
            refine lv_bipush (v := 41) hx hb dX12_goesOn_40 (by decide) ?_
            refine lv_icmp_ne (tgt := 56) hx hb dX12_goesOn_42 (by decide) (fun c_17 => ?_) (fun c_17 => ?_)
            · have tc_18 : (I 393 this).toInt ≠ 41 := fun q => c_17 (Int32.toInt_inj.mp q)
              refine lv_iconst (v := 0) hx hb dX12_goesOn_56 (by decide) ?_
              subst hQ
              exact W.zret (v := 0) hx hb hr (by decide) (fun t1 ht hW => ⟨⟨0, (σ, I, J, ri, rj, rq), rfl, ⟨rfl, (Or.inr ⟨rfl, trivial⟩)⟩, by rw [ht]; exact hP, va_K.moved hW.alike hK, hD⟩, hS.F ht⟩) hS.2.2 dX12_goesOn_57
            · have tc_19 : (I 393 this).toInt = 41 := congrArg Int32.toInt c_17
              have h_20 : rg (I 393 this) 41 41 := rg_and (rg_full _) (rg_of_eq c_17 (rg_k (41 : Int32) 41 rfl)) (by decide)
              have uh_20 := h_20.1
              have vh_20 := h_20.2
              refine lv_aload_n hx hb dX12_goesOn_45 rfl (lv_at hl 0 rfl) ?_
              refine pk_i (va_runV (As := []) (rest := []) ⟨hx, hb, hml, hown, hts⟩ (s_X12_hasParen l D t σ I J ri rj rq H.size tg hSH hG.1 this hL_this hK_this this_pile hR_this_pile hL_this_pile hK_this_pile hN_this_pile hT_this_pile) (cwV 0 hts (tw_V tw_893 tw_894 tw_895 tw_5 tw_896) rfl rfl rfl cv_yX12_hasParen_0 ⟨Nat.le_of_ble_eq_true rfl, Nat.le_of_ble_eq_true rfl⟩) ⟨pq_blind, pq_recv hK hP hL_this hK_this (by decide) rfl, pq_pre hK hN hP hD⟩ rfl rfl hl.1 rfl (lv_room (Nat.le_of_ble_eq_true rfl)) dX12_goesOn_46 ⟨Nat.le_of_ble_eq_true rfl, Nat.le_of_ble_eq_true rfl⟩) hD hS hA (fun x_21 σ1 μ1 H locs hw_22 hP hD hS => ?_)
              obtain ⟨hu_23, hr_25⟩ := hw_22
              obtain ⟨hu_23a, hu_23b⟩ := Prod.mk.inj hu_23
              rw [hu_23a, hu_23b] at hP hD
              have h_26 : rg x_21 0 1 := by rcases hr_25 with ⟨q, -⟩ | ⟨q, -⟩ <;> rw [q] <;> exact ⟨by decide, by decide⟩
              have uh_26 := h_26.1
              have vh_26 := h_26.2
              refine lv_if_eq (tgt := 56) hx hb dX12_goesOn_49 (by decide) (fun c_27 => ?_) (fun c_27 => ?_)
              · have f_28 := (hr_25.resolve_left (fun q => absurd (q.1.symm.trans c_27) (by decide))).2
                have tc_29 : (x_21).toInt = 0 := congrArg Int32.toInt c_27
                have h_30 : rg x_21 0 0 := rg_and h_26 (rg_of_eq c_27 (rg_k (0 : Int32) 0 rfl)) (by decide)
                have uh_30 := h_30.1
                have vh_30 := h_30.2
                refine lv_iconst (v := 0) hx hb dX12_goesOn_56 (by decide) ?_
                subst hQ
                exact W.zret (v := 0) hx hb hr (by decide) (fun t1 ht hW => ⟨⟨0, (σ, I, J, ri, rj, rq), rfl, ⟨rfl, (Or.inr ⟨rfl, trivial⟩)⟩, by rw [ht]; exact hP, va_K.moved hW.alike hK, hD⟩, hS.F ht⟩) hS.2.2 dX12_goesOn_57
              · have f_31 := (hr_25.resolve_right (fun q => c_27 q.1)).2
                have tc_32 : (x_21).toInt ≠ 0 := fun q => c_27 (Int32.toInt_inj.mp q)
                have h_33 : rg x_21 1 1 := rg_ne c_27 h_26 0 rfl (by decide)
                have uh_33 := h_33.1
                have vh_33 := h_33.2
                refine lv_iconst (v := 1) hx hb dX12_goesOn_52 (by decide) ?_
                refine lv_goto (tgt := 57) hx hb dX12_goesOn_53 (by decide) ?_
                subst hQ
                exact W.zret (v := 1) hx hb hr (by decide) (fun t1 ht hW => ⟨⟨1, (σ, I, J, ri, rj, rq), rfl, ⟨rfl, (Or.inl ⟨rfl, ⟨by omega, fun q => f_31⟩⟩)⟩, by rw [ht]; exact hP, va_K.moved hW.alike hK, hD⟩, hS.F ht⟩) hS.2.2 dX12_goesOn_57
  exact go _ _ _ hP hD hS hl

set_option maxHeartbeats 4000000 in
set_option maxRecDepth 100000 in
theorem s_X12_beginOne (l : Launch) (D : va_G) (t : pq_T) (σ : pq_S) (I : Nat → Nat → Int32) (J : Nat → Nat → Int64) (ri : Nat → Nat → Int32) (rj : Nat → Nat → Int64) (rq : Nat → Nat → Option Nat) (sz : Nat) (tg : Nat → Nat) (hSH : SH σ tg) (hG0 : GT tg I ri) (this : Nat) (hL_this : this ∈ σ.1) (hK_this : σ.2.1 this = 12) (this_a : Nat) (hR_this_a : σ.2.2.1 384 this = some this_a) (hL_this_a : this_a ∈ σ.1) (hK_this_a : σ.2.1 this_a = 13) (hN_this_a : σ.2.2.2 this_a = 12720) (hT_this_a : tg this_a = 384) (this_pile : Nat) (hR_this_pile : σ.2.2.1 400 this = some this_pile) (hL_this_pile : this_pile ∈ σ.1) (hK_this_pile : σ.2.1 this_pile = 13) (hN_this_pile : σ.2.2.2 this_pile = 160) (hT_this_pile : tg this_pile = 400) (bb : Nat) (f0 : Nat → Int32) (fr : Int) (ba : Int) (tb : Int) (nn : Int) (K : Int) (hps : PSz (I 396 this).toInt (I 398 this).toInt (I 401 this).toInt (I 402 this).toInt (I 391 this).toInt (I 393 this).toInt (ri this_a) (ri this_pile) bb f0 fr ba tb nn K 0) (hi0 : (I 403 this).toInt = 0) : MetI l yX12_beginOne (wa yX12_beginOne cX12_beginOne 1 (some .int)) ({ frames := 4, cells := 0, slots := 0, locals := 89 }) [.ref this] D t σ (I, J, ri, rj, rq) sz 0 0 (fun (r : Int32) (u : pq_S × pq_M) => ∃ I' : Nat → Nat → Int32, ∃ J' : Nat → Nat → Int64, ∃ ri' : Nat → Nat → Int32, u = (σ, I', J', ri', rj, rq) ∧ GM [398, 391, 392, 393, 401, 402] tg σ I ri I' ri' rq ∧ (r.toInt ≠ 0 ∨ (PSz (I' 396 this).toInt (I' 398 this).toInt (I' 401 this).toInt (I' 402 this).toInt (I' 391 this).toInt (I' 393 this).toInt (ri' this_a) (ri' this_pile) bb f0 fr ba tb nn K (I' 403 this).toInt ∧ tmM (I' 391 this).toInt (I' 393 this).toInt < tmM (I 391 this).toInt (I 393 this).toInt)) ∧ rg r 0 3) := by
  refine Met.ofW (cc := cX12_beginOne) (maxL := 1) (ret := (some .int)) (by decide) rfl ?_
  intro p e s m args below meth c s₁ B hml hv
  obtain ⟨rfl, hsz, hP, hK, hD0, hN⟩ := hv
  have hx := B.exec
  have hb := B.bytes
  have hr := B.returns
  have hts := atoms_spec (ws := (wa yX12_beginOne cX12_beginOne 1 (some .int))) B.pre
  have hown : s.vm.findClass RX12 = some m.cls := findClass_of_methodNamed B.named
  have hlocks := B.notSynchronized
  subst hsz
  have hD : va_D (pq_B t σ (I, J, ri, rj, rq) s.heap.size) (pq_P t σ (I, J, ri, rj, rq)) := hD0.self
  generalize hAe : pq_B t σ (I, J, ri, rj, rq) s.heap.size = A at hD ⊢
  have hA : ∀ q : Nat, s.heap.size ≤ q → A q := fun q h => by rw [← hAe]; exact Or.inr h
  have hS : va_S A s.heap s.heap [] := va_S.rf
  have hG : GM [398, 391, 392, 393, 401, 402] tg σ I ri I ri rq := ⟨hG0, fun _ _ _ => rfl, fun _ _ _ _ _ => rfl, fun _ _ _ _ _ _ => rfl⟩
  have hl := lv_entry ([.ref this]) (n := 1) (Nat.le_of_ble_eq_true rfl)
  rw [lg_entry_eq]
  generalize (lg_sl ([.ref this]) ++ List.replicate (1 - (lg_sl ([.ref this])).length) Slot.unset).toArray = ls at hl ⊢
  have hl : lv_has ls 1 [(0, .ref this)] := hl
  refine q_gen (fun Q hQ => ?_)
  have go : ∀ (H : Heap) (locs : List Loc) (ls : Array Slot), va_P D vwCl (pq_P t σ (I, J, ri, rj, rq)) H → va_D A (pq_P t σ (I, J, ri, rj, rq)) → va_S A s.heap H locs → lv_has ls 1 [(0, .ref this)] → W p l e ({ frames := 4, cells := 0, slots := 0, locals := 89 } : Room) s m (List.toArray ([.ref this] : List Value)) below meth c H locs 0 0 Q (F0 m 0 ls []) := by
    intro H locs ls hP hD hS hl
    refine lv_aload_n hx hb dX12_beginOne_0 rfl (lv_at hl 0 rfl) ?_
    refine pg_f (v := .int (I 393 this)) (C := RX12) (T := TX12) (N := 31) hx hb hts (tw_i inlX12) hown hK hP hL_this hK_this (by decide) rfl 9 (by decide) (hts _ (tw_c tw_831)) rfl dX12_beginOne_1 ?_
    refine lv_iconst (v := 1) hx hb dX12_beginOne_4 (by decide) ?_
    refine lv_icmp_ne (tgt := 20) hx hb dX12_beginOne_5 (by decide) (fun c_1 => ?_) (fun c_1 => ?_)
    · have tc_2 : (I 393 this).toInt ≠ 1 := fun q => c_1 (Int32.toInt_inj.mp q)
      refine lv_aload_n hx hb dX12_beginOne_20 rfl (lv_at hl 0 rfl) ?_
      refine pg_f (v := .int (I 393 this)) (C := RX12) (T := TX12) (N := 31) hx hb hts (tw_i inlX12) hown hK hP hL_this hK_this (by decide) rfl 9 (by decide) (hts _ (tw_c tw_831)) rfl dX12_beginOne_21 ?_
      refine lv_iconst (v := 1) hx hb dX12_beginOne_24 (by decide) ?_
      refine lv_icmp_eq (tgt := 35) hx hb dX12_beginOne_25 (by decide) (fun c_3 => ?_) (fun c_3 => ?_)
      · have tc_4 : (I 393 this).toInt = 1 := congrArg Int32.toInt c_3
        have h_5 : rg (I 393 this) 1 1 := rg_and (rg_full _) (rg_of_eq c_3 (rg_k (1 : Int32) 1 rfl)) (by decide)
        have uh_5 := h_5.1
        have vh_5 := h_5.2
        refine lv_aload_n hx hb dX12_beginOne_35 rfl (lv_at hl 0 rfl) ?_
        refine lv_aload_n hx hb dX12_beginOne_36 rfl (lv_at hl 0 rfl) ?_
        refine pg_f (v := .int (I 393 this)) (C := RX12) (T := TX12) (N := 31) hx hb hts (tw_i inlX12) hown hK hP hL_this hK_this (by decide) rfl 9 (by decide) (hts _ (tw_c tw_831)) rfl dX12_beginOne_37 ?_
        refine lv_iconst (v := 1) hx hb dX12_beginOne_40 (by decide) ?_
        refine lv_icmp_ne (tgt := 48) hx hb dX12_beginOne_41 (by decide) (fun c_6 => ?_) (fun c_6 => ?_)
        · have tc_7 : (I 393 this).toInt ≠ 1 := fun q => c_6 (Int32.toInt_inj.mp q)
          exact (rg_empty (rg_ne c_6 h_5 1 rfl (lo := 2) (hi := 0) (by decide)) (by decide)).elim
        · have tc_8 : (I 393 this).toInt = 1 := congrArg Int32.toInt c_6
          refine lv_iconst (v := 0) hx hb dX12_beginOne_44 (by decide) ?_
          refine lv_goto (tgt := 49) hx hb dX12_beginOne_45 (by decide) ?_
          refine lv_aload_n hx hb dX12_beginOne_49 rfl (lv_at hl 0 rfl) ?_
          refine pg_f (v := .int (I 393 this)) (C := RX12) (T := TX12) (N := 31) hx hb hts (tw_i inlX12) hown hK hP hL_this hK_this (by decide) rfl 9 (by decide) (hts _ (tw_c tw_831)) rfl dX12_beginOne_50 ?_
          refine lv_iconst (v := 1) hx hb dX12_beginOne_53 (by decide) ?_
          refine lv_icmp_ne (tgt := 64) hx hb dX12_beginOne_54 (by decide) (fun c_9 => ?_) (fun c_9 => ?_)
          · have tc_10 : (I 393 this).toInt ≠ 1 := fun q => c_9 (Int32.toInt_inj.mp q)
            exact (rg_empty (rg_ne c_9 h_5 1 rfl (lo := 2) (hi := 0) (by decide)) (by decide)).elim
          · have tc_11 : (I 393 this).toInt = 1 := congrArg Int32.toInt c_9
            refine lv_aload_n hx hb dX12_beginOne_57 rfl (lv_at hl 0 rfl) ?_
            refine pg_f (v := .int (I 394 this)) (C := RX12) (T := TX12) (N := 31) hx hb hts (tw_i inlX12) hown hK hP hL_this hK_this (by decide) rfl 10 (by decide) (hts _ (tw_c tw_836)) rfl dX12_beginOne_58 ?_
            refine lv_goto (tgt := 68) hx hb dX12_beginOne_61 (by decide) ?_
            have hq1 := PSz_t hps
            have hq2 := PSz_w hps (Or.inl (by omega))
            refine pk_v (va_runV (As := [.int 0, .int (I 394 this)]) (rest := []) ⟨hx, hb, hml, hown, hts⟩ (s_X12_emit l D t σ I J ri rj rq H.size tg hSH hG.1 this (0 : Int32) (I 394 this) hL_this hK_this this_a hR_this_a hL_this_a hK_this_a hN_this_a hT_this_a (by omega) (by omega)) (cwV 2 hts (tw_V tw_905 tw_906 tw_907 tw_5 tw_908) rfl rfl rfl cv_yX12_emit_2 ⟨Nat.le_of_ble_eq_true rfl, Nat.le_of_ble_eq_true rfl⟩) ⟨pq_blind, pq_recv hK hP hL_this hK_this (by decide) rfl, pq_pre hK hN hP hD⟩ rfl rfl hl.1 rfl (lv_room (Nat.le_of_ble_eq_true rfl)) dX12_beginOne_68 ⟨Nat.le_of_ble_eq_true rfl, Nat.le_of_ble_eq_true rfl⟩) hD hS hA (fun σ1 μ1 H locs hw_13 hP hD hS => ?_)
            obtain ⟨I_14, ri_15, hu_16, hg_17, hp_19, hp_20, hp_21, hp_22⟩ := hw_13
            obtain ⟨hu_16a, hu_16b⟩ := Prod.mk.inj hu_16
            rw [hu_16a, hu_16b] at hP hD
            obtain ⟨v_23, ev_23, hv_23⟩ := hp_19
            have tt_24 : (I_14 398 this).toInt = (I 398 this).toInt + 1 := by rw [ev_23, pq_us]; exact hv_23
            have tt_25 : (I_14 403 this).toInt = (I 403 this).toInt := by rw [ev_23, pq_uf _ _ _ (by decide)]
            have hG := GM.tr hG hg_17 (by decide)
            have tt_26 : (I_14 396 this).toInt = (I 396 this).toInt := by rw [hg_17.2.1 396 (by decide) (by decide)]
            have tt_27 : (I_14 401 this).toInt = (I 401 this).toInt := by rw [hg_17.2.1 401 (by decide) (by decide)]
            have tt_28 : (I_14 402 this).toInt = (I 402 this).toInt := by rw [hg_17.2.1 402 (by decide) (by decide)]
            have tt_29 : (I_14 391 this).toInt = (I 391 this).toInt := by rw [hg_17.2.1 391 (by decide) (by decide)]
            have tt_30 : (I_14 393 this).toInt = (I 393 this).toInt := by rw [hg_17.2.1 393 (by decide) (by decide)]
            have tt_31 : (I_14 397 this).toInt = (I 397 this).toInt := by rw [hg_17.2.1 397 (by decide) (by decide)]
            refine lv_aload_n hx hb dX12_beginOne_71 rfl (lv_at hl 0 rfl) ?_
            obtain ⟨w_32, hR_w_32, hL_w_32, hK_w_32, hN_w_32, hT_w_32⟩ := sh_a hSH 387 (ci := 12) (kd := 13) (len := 300) rfl (by decide) hL_this hK_this
            refine pk_v (va_runV (As := []) (rest := []) ⟨hx, hb, hml, hown, hts⟩ (s_X12_nextToken_x l D t σ I_14 J ri_15 rj rq H.size tg hSH hG.1 this hL_this hK_this w_32 hR_w_32 hL_w_32 hK_w_32 hN_w_32 hT_w_32) (cwV 0 hts (tw_V tw_832 tw_833 tw_834 tw_5 tw_835) rfl rfl rfl cv_yX12_nextToken_0 ⟨Nat.le_of_ble_eq_true rfl, Nat.le_of_ble_eq_true rfl⟩) ⟨pq_blind, pq_recv hK hP hL_this hK_this (by decide) rfl, pq_pre hK hN hP hD⟩ rfl rfl hl.1 rfl (lv_room (Nat.le_of_ble_eq_true rfl)) dX12_beginOne_72 ⟨Nat.le_of_ble_eq_true rfl, Nat.le_of_ble_eq_true rfl⟩) hD hS hA (fun σ1 μ1 H locs hw_34 hP hD hS => ?_)
            obtain ⟨I_35, J_36, hu_37, hg_38, hp_40, hp_41, hp_42⟩ := hw_34
            obtain ⟨hu_37a, hu_37b⟩ := Prod.mk.inj hu_37
            rw [hu_37a, hu_37b] at hP hD
            have tt_43 := hp_40
            have tt_44 := hp_41
            have tt_45 := hp_42
            have tt_46 : (I_35 391 this).toInt ≤ 300 := by have z := hg_38.1.1 391 this; exact z.2
            have hG := GM.tr hG hg_38 (by decide)
            have tt_47 : (I_35 396 this).toInt = (I_14 396 this).toInt := by rw [hg_38.2.1 396 (by decide) (by decide)]
            have tt_48 : (I_35 398 this).toInt = (I_14 398 this).toInt := by rw [hg_38.2.1 398 (by decide) (by decide)]
            have tt_49 : (I_35 401 this).toInt = (I_14 401 this).toInt := by rw [hg_38.2.1 401 (by decide) (by decide)]
            have tt_50 : (I_35 402 this).toInt = (I_14 402 this).toInt := by rw [hg_38.2.1 402 (by decide) (by decide)]
            have tt_51 : (I_35 397 this).toInt = (I_14 397 this).toInt := by rw [hg_38.2.1 397 (by decide) (by decide)]
            refine lv_aload_n hx hb dX12_beginOne_75 rfl (lv_at hl 0 rfl) ?_
            have hpsW : PSz (I_35 396 this).toInt (I_35 398 this).toInt (I_35 401 this).toInt (I_35 402 this).toInt (I_35 391 this).toInt (I_35 393 this).toInt (ri_15 this_a) (ri_15 this_pile) bb f0 fr ba tb nn K 1 := PSz_one hps (by omega) (x := (0 : Int32)) (fun j hj => hp_20 j (by omega)) (by rw [show (I 396 this).toInt + 250 + 2 * (I 398 this).toInt = (I 396 this).toInt + 250 + 2 * (I 398 this).toInt from by omega]; exact hp_21) (by decide) (by omega) (by omega) (by omega) (by omega) (by omega) (by omega) (by omega) (hp_22 this_pile (tg_ne hT_this_pile hT_this_a (by decide)))
            have htm : tmM (I_35 391 this).toInt (I_35 393 this).toInt < tmM (I 391 this).toInt (I 393 this).toInt := tm_lt (by omega) (by omega) (by omega)
            refine pk_v (va_runV (As := []) (rest := []) ⟨hx, hb, hml, hown, hts⟩ (s_X12_whole l D t σ I_35 J_36 ri_15 rj rq H.size tg hSH hG.1 this hL_this hK_this this_a hR_this_a hL_this_a hK_this_a hN_this_a hT_this_a this_pile hR_this_pile hL_this_pile hK_this_pile hN_this_pile hT_this_pile bb f0 fr ba tb nn K (by assumption)) (cwV 0 hts (tw_V tw_909 tw_910 tw_911 tw_5 tw_912) rfl rfl rfl cv_yX12_whole_0 ⟨Nat.le_of_ble_eq_true rfl, Nat.le_of_ble_eq_true rfl⟩) ⟨pq_blind, pq_recv hK hP hL_this hK_this (by decide) rfl, pq_pre hK hN hP hD⟩ rfl rfl hl.1 rfl (lv_room (Nat.le_of_ble_eq_true rfl)) dX12_beginOne_76 ⟨Nat.le_of_ble_eq_true rfl, Nat.le_of_ble_eq_true rfl⟩) hD hS hA (fun σ1 μ1 H locs hw_53 hP hD hS => ?_)
            obtain ⟨I_54, ri_55, hu_56, hg_57, hp_59, hp_60⟩ := hw_53
            obtain ⟨hu_56a, hu_56b⟩ := Prod.mk.inj hu_56
            rw [hu_56a, hu_56b] at hP hD
            have tt_61 := hp_60
            have hG := GM.tr hG hg_57 (by decide)
            have tt_62 : (I_54 396 this).toInt = (I_35 396 this).toInt := by rw [hg_57.2.1 396 (by decide) (by decide)]
            have tt_63 : (I_54 391 this).toInt = (I_35 391 this).toInt := by rw [hg_57.2.1 391 (by decide) (by decide)]
            have tt_64 : (I_54 393 this).toInt = (I_35 393 this).toInt := by rw [hg_57.2.1 393 (by decide) (by decide)]
            have tt_65 : (I_54 397 this).toInt = (I_35 397 this).toInt := by rw [hg_57.2.1 397 (by decide) (by decide)]
            refine lv_iconst (v := 0) hx hb dX12_beginOne_79 (by decide) ?_
            subst hQ
            exact W.iret (v := 0) hx hb hr (fun t1 ht hW => ⟨⟨0, (σ, I_54, J_36, ri_55, rj, rq), rfl, ⟨I_54, J_36, ri_55, rfl, hG, (Or.inr ⟨(by rw [show (I_54 403 this).toInt = 1 from by omega]; exact hp_59), tm_cg htm (by omega) (by omega) rfl rfl⟩), (rg_w (rg_k (0 : Int32) 0 rfl) (by decide))⟩, by rw [ht]; exact hP, va_K.moved hW.alike hK, hD⟩, hS.F ht⟩) hS.2.2 dX12_beginOne_80
      · have tc_66 : (I 393 this).toInt ≠ 1 := fun q => c_3 (Int32.toInt_inj.mp q)
        refine lv_aload_n hx hb dX12_beginOne_28 rfl (lv_at hl 0 rfl) ?_
        refine pk_i (va_runV (As := []) (rest := []) ⟨hx, hb, hml, hown, hts⟩ (s_X12_nameOf_x l D t σ I J ri rj rq H.size tg hSH hG.1 this hL_this hK_this) (cwV 0 hts (tw_V tw_921 tw_922 tw_923 tw_5 tw_924) rfl rfl rfl cv_yX12_nameOf_0 ⟨Nat.le_of_ble_eq_true rfl, Nat.le_of_ble_eq_true rfl⟩) ⟨pq_blind, pq_recv hK hP hL_this hK_this (by decide) rfl, pq_pre hK hN hP hD⟩ rfl rfl hl.1 rfl (lv_room (Nat.le_of_ble_eq_true rfl)) dX12_beginOne_29 ⟨Nat.le_of_ble_eq_true rfl, Nat.le_of_ble_eq_true rfl⟩) hD hS hA (fun x_67 σ1 μ1 H locs hw_68 hP hD hS => ?_)
        obtain ⟨hu_69, hp_72, hr_71⟩ := hw_68
        obtain ⟨hu_69a, hu_69b⟩ := Prod.mk.inj hu_69
        rw [hu_69a, hu_69b] at hP hD
        have tt_73 := hp_72
        refine lv_if_lt (tgt := 81) hx hb dX12_beginOne_32 (by decide) (fun c_74 => ?_) (fun c_74 => ?_)
        · have tc_75 : (x_67).toInt < 0 := Int32.lt_iff_toInt_lt.mp c_74
          have h_76 : rg x_67 (-1) (-1) := rg_lt1 c_74 hr_71 (rg_k (0 : Int32) 0 rfl) (by decide)
          have uh_76 := h_76.1
          have vh_76 := h_76.2
          refine lv_aload_n hx hb dX12_beginOne_81 rfl (lv_at hl 0 rfl) ?_
          refine pg_f (v := .int (I 393 this)) (C := RX12) (T := TX12) (N := 31) hx hb hts (tw_i inlX12) hown hK hP hL_this hK_this (by decide) rfl 9 (by decide) (hts _ (tw_c tw_831)) rfl dX12_beginOne_82 ?_
          refine lv_bipush (v := 40) hx hb dX12_beginOne_85 (by decide) ?_
          refine lv_icmp_eq (tgt := 101) hx hb dX12_beginOne_87 (by decide) (fun c_77 => ?_) (fun c_77 => ?_)
          · have tc_78 : (I 393 this).toInt = 40 := congrArg Int32.toInt c_77
            have h_79 : rg (I 393 this) 40 40 := rg_and (rg_full _) (rg_of_eq c_77 (rg_k (40 : Int32) 40 rfl)) (by decide)
            have uh_79 := h_79.1
            have vh_79 := h_79.2
            refine lv_aload_n hx hb dX12_beginOne_101 rfl (lv_at hl 0 rfl) ?_
            refine pg_f (v := .int (I 402 this)) (C := RX12) (T := TX12) (N := 31) hx hb hts (tw_i inlX12) hown hK hP hL_this hK_this (by decide) rfl 18 (by decide) (hts _ (tw_c tw_828)) rfl dX12_beginOne_102 ?_
            refine lv_bipush (v := 8) hx hb dX12_beginOne_105 (by decide) ?_
            refine lv_icmp_ne (tgt := 112) hx hb dX12_beginOne_107 (by decide) (fun c_80 => ?_) (fun c_80 => ?_)
            · have tc_81 : (I 402 this).toInt ≠ 8 := fun q => c_80 (Int32.toInt_inj.mp q)
              refine lv_aload_n hx hb dX12_beginOne_112 rfl (lv_at hl 0 rfl) ?_
              refine lv_dup hx hb dX12_beginOne_113 rfl ?_
              refine pg_f (v := .int (I 402 this)) (C := RX12) (T := TX12) (N := 31) hx hb hts (tw_i inlX12) hown hK hP hL_this hK_this (by decide) rfl 18 (by decide) (hts _ (tw_c tw_828)) rfl dX12_beginOne_114 ?_
              have hq0 := PSz_bd hps
              have h_82 : rg (I 402 this) 0 8 := ⟨by omega, by omega⟩
              have uh_82 := h_82.1
              have vh_82 := h_82.2
              refine lv_iconst (v := 1) hx hb dX12_beginOne_117 (by decide) ?_
              refine lv_iadd hx hb dX12_beginOne_118 ?_
              refine lv_topi (fun x_83 ex_83 => ?_)
              have h_84 : rg x_83 1 9 := rg_of_eq ex_83 (rg_add h_82 (rg_k (1 : Int32) 1 rfl) (by decide))
              have uh_84 := h_84.1
              have vh_84 := h_84.2
              have tx_83 : (x_83).toInt = (I 402 this).toInt + 1 := by rw [ex_83]; exact i_add_rg (a2 := (I 402 this).toInt) (b2 := 1) rfl rfl h_82 (rg_k (1 : Int32) 1 rfl) (by decide)
              refine pp_i (v := x_83) (ty := .int) (C := RX12) (T := TX12) (N := 31) hx hb hts (tw_i inlX12) tyX12 tyX12_ok nmX12 hown hK hP hD hS hL_this hK_this (by decide) rfl 18 402 (by decide) (hts _ (tw_c tw_828)) rfl (tyX12_ok 18 (by decide)) rfl rfl (Nat.le_of_ble_eq_true rfl) (ps_402 _ _ _ _ _) dX12_beginOne_119 (fun I_85 H locs eI_85 hP hD hS => ?_)
              have hG := GM.wI hG 402 rfl eI_85 (rg_w h_84 (by decide)) (by decide)
              have tt_86 : (I_85 396 this).toInt = (I 396 this).toInt := by rw [eI_85, pq_uf _ _ _ (by decide)]
              have tt_87 : (I_85 398 this).toInt = (I 398 this).toInt := by rw [eI_85, pq_uf _ _ _ (by decide)]
              have tt_88 : (I_85 401 this).toInt = (I 401 this).toInt := by rw [eI_85, pq_uf _ _ _ (by decide)]
              have tt_89 : (I_85 402 this).toInt = (x_83).toInt := by rw [eI_85, pq_us]
              have tt_90 : (I_85 391 this).toInt = (I 391 this).toInt := by rw [eI_85, pq_uf _ _ _ (by decide)]
              have tt_91 : (I_85 393 this).toInt = (I 393 this).toInt := by rw [eI_85, pq_uf _ _ _ (by decide)]
              have tt_92 : (I_85 403 this).toInt = (I 403 this).toInt := by rw [eI_85, pq_uf _ _ _ (by decide)]
              have tt_93 : (I_85 397 this).toInt = (I 397 this).toInt := by rw [eI_85, pq_uf _ _ _ (by decide)]
              refine lv_aload_n hx hb dX12_beginOne_122 rfl (lv_at hl 0 rfl) ?_
              refine lv_aload_n hx hb dX12_beginOne_123 rfl (lv_at hl 0 rfl) ?_
              refine pg_f (v := .int (I_85 393 this)) (C := RX12) (T := TX12) (N := 31) hx hb hts (tw_i inlX12) hown hK hP hL_this hK_this (by decide) rfl 9 (by decide) (hts _ (tw_c tw_831)) rfl dX12_beginOne_124 ?_
              have h_94 : rg (I_85 393 this) 40 40 := (by rw [eI_85, pq_uf _ _ _ (by decide)]; exact h_79)
              have uh_94 := h_94.1
              have vh_94 := h_94.2
              refine lv_bipush (v := 40) hx hb dX12_beginOne_127 (by decide) ?_
              refine lv_icmp_ne (tgt := 137) hx hb dX12_beginOne_129 (by decide) (fun c_95 => ?_) (fun c_95 => ?_)
              · have tc_96 : (I_85 393 this).toInt ≠ 40 := fun q => c_95 (Int32.toInt_inj.mp q)
                exact (rg_empty (rg_ne c_95 h_94 40 rfl (lo := 41) (hi := 39) (by decide)) (by decide)).elim
              · have tc_97 : (I_85 393 this).toInt = 40 := congrArg Int32.toInt c_95
                refine lv_bipush (v := 40) hx hb dX12_beginOne_132 (by decide) ?_
                refine lv_goto (tgt := 138) hx hb dX12_beginOne_134 (by decide) ?_
                have hq3 := PSz_bd hps
                refine pk_v (va_runV (As := [.int 40]) (rest := []) ⟨hx, hb, hml, hown, hts⟩ (s_X12_push l D t σ I_85 J ri rj rq H.size tg hSH hG.1 this (40 : Int32) hL_this hK_this (rg_w (rg_k (40 : Int32) 40 rfl) (by decide)) this_pile hR_this_pile hL_this_pile hK_this_pile hN_this_pile hT_this_pile (by omega)) (cwV 1 hts (tw_V tw_913 tw_914 tw_915 tw_5 tw_916) rfl rfl rfl cv_yX12_push_1 ⟨Nat.le_of_ble_eq_true rfl, Nat.le_of_ble_eq_true rfl⟩) ⟨pq_blind, pq_recv hK hP hL_this hK_this (by decide) rfl, pq_pre hK hN hP hD⟩ rfl rfl hl.1 rfl (lv_room (Nat.le_of_ble_eq_true rfl)) dX12_beginOne_138 ⟨Nat.le_of_ble_eq_true rfl, Nat.le_of_ble_eq_true rfl⟩) hD hS hA (fun σ1 μ1 H locs hw_99 hP hD hS => ?_)
                obtain ⟨I_100, ri_101, hu_102, hg_103, hp_105, hp_106, hp_107⟩ := hw_99
                obtain ⟨hu_102a, hu_102b⟩ := Prod.mk.inj hu_102
                rw [hu_102a, hu_102b] at hP hD
                obtain ⟨v_108, ev_108, hv_108⟩ := hp_105
                have tt_109 : (I_100 401 this).toInt = (I_85 401 this).toInt + 1 := by rw [ev_108, pq_us]; exact hv_108
                have tt_110 : (I_100 403 this).toInt = (I_85 403 this).toInt := by rw [ev_108, pq_uf _ _ _ (by decide)]
                have hG := GM.tr hG hg_103 (by decide)
                have tt_111 : (I_100 396 this).toInt = (I_85 396 this).toInt := by rw [hg_103.2.1 396 (by decide) (by decide)]
                have tt_112 : (I_100 398 this).toInt = (I_85 398 this).toInt := by rw [hg_103.2.1 398 (by decide) (by decide)]
                have tt_113 : (I_100 402 this).toInt = (I_85 402 this).toInt := by rw [hg_103.2.1 402 (by decide) (by decide)]
                have tt_114 : (I_100 391 this).toInt = (I_85 391 this).toInt := by rw [hg_103.2.1 391 (by decide) (by decide)]
                have tt_115 : (I_100 393 this).toInt = (I_85 393 this).toInt := by rw [hg_103.2.1 393 (by decide) (by decide)]
                have tt_116 : (I_100 397 this).toInt = (I_85 397 this).toInt := by rw [hg_103.2.1 397 (by decide) (by decide)]
                refine lv_aload_n hx hb dX12_beginOne_141 rfl (lv_at hl 0 rfl) ?_
                obtain ⟨w_117, hR_w_117, hL_w_117, hK_w_117, hN_w_117, hT_w_117⟩ := sh_a hSH 387 (ci := 12) (kd := 13) (len := 300) rfl (by decide) hL_this hK_this
                refine pk_v (va_runV (As := []) (rest := []) ⟨hx, hb, hml, hown, hts⟩ (s_X12_nextToken_x l D t σ I_100 J ri_101 rj rq H.size tg hSH hG.1 this hL_this hK_this w_117 hR_w_117 hL_w_117 hK_w_117 hN_w_117 hT_w_117) (cwV 0 hts (tw_V tw_832 tw_833 tw_834 tw_5 tw_835) rfl rfl rfl cv_yX12_nextToken_0 ⟨Nat.le_of_ble_eq_true rfl, Nat.le_of_ble_eq_true rfl⟩) ⟨pq_blind, pq_recv hK hP hL_this hK_this (by decide) rfl, pq_pre hK hN hP hD⟩ rfl rfl hl.1 rfl (lv_room (Nat.le_of_ble_eq_true rfl)) dX12_beginOne_142 ⟨Nat.le_of_ble_eq_true rfl, Nat.le_of_ble_eq_true rfl⟩) hD hS hA (fun σ1 μ1 H locs hw_119 hP hD hS => ?_)
                obtain ⟨I_120, J_121, hu_122, hg_123, hp_125, hp_126, hp_127⟩ := hw_119
                obtain ⟨hu_122a, hu_122b⟩ := Prod.mk.inj hu_122
                rw [hu_122a, hu_122b] at hP hD
                have tt_128 := hp_125
                have tt_129 := hp_126
                have tt_130 := hp_127
                have tt_131 : (I_120 391 this).toInt ≤ 300 := by have z := hg_123.1.1 391 this; exact z.2
                have hG := GM.tr hG hg_123 (by decide)
                have tt_132 : (I_120 396 this).toInt = (I_100 396 this).toInt := by rw [hg_123.2.1 396 (by decide) (by decide)]
                have tt_133 : (I_120 398 this).toInt = (I_100 398 this).toInt := by rw [hg_123.2.1 398 (by decide) (by decide)]
                have tt_134 : (I_120 401 this).toInt = (I_100 401 this).toInt := by rw [hg_123.2.1 401 (by decide) (by decide)]
                have tt_135 : (I_120 402 this).toInt = (I_100 402 this).toInt := by rw [hg_123.2.1 402 (by decide) (by decide)]
                have tt_136 : (I_120 397 this).toInt = (I_100 397 this).toInt := by rw [hg_123.2.1 397 (by decide) (by decide)]
                have hup2 : ri_101 this_pile = upd (ri this_pile) (I 401 this).toInt.toNat (40 : Int32) := by rw [show (I 401 this).toInt = (I_85 401 this).toInt from by omega]; exact hp_106
                have hpsW : PSz (I_120 396 this).toInt (I_120 398 this).toInt (I_120 401 this).toInt (I_120 402 this).toInt (I_120 391 this).toInt (I_120 393 this).toInt (ri_101 this_a) (ri_101 this_pile) bb f0 fr ba tb nn K 0 := PSz_open hps (by omega) (by omega) (x := (40 : Int32)) (by decide) (by omega) (by omega) (by omega) (by omega) (by omega) (by omega) (by omega) (hp_107 this_a (tg_ne hT_this_a hT_this_pile (by decide))) hup2
                have htm : tmM (I_120 391 this).toInt (I_120 393 this).toInt < tmM (I 391 this).toInt (I 393 this).toInt := tm_lt (by omega) (by omega) (by omega)
                refine lv_iconst (v := 0) hx hb dX12_beginOne_145 (by decide) ?_
                subst hQ
                exact W.iret (v := 0) hx hb hr (fun t1 ht hW => ⟨⟨0, (σ, I_120, J_121, ri_101, rj, rq), rfl, ⟨I_120, J_121, ri_101, rfl, hG, (Or.inr ⟨(by rw [show (I_120 403 this).toInt = 0 from by omega]; exact hpsW), tm_cg htm (by omega) (by omega) rfl rfl⟩), (rg_w (rg_k (0 : Int32) 0 rfl) (by decide))⟩, by rw [ht]; exact hP, va_K.moved hW.alike hK, hD⟩, hS.F ht⟩) hS.2.2 dX12_beginOne_146
            · have tc_137 : (I 402 this).toInt = 8 := congrArg Int32.toInt c_80
              have h_138 : rg (I 402 this) 8 8 := rg_and (rg_full _) (rg_of_eq c_80 (rg_k (8 : Int32) 8 rfl)) (by decide)
              have uh_138 := h_138.1
              have vh_138 := h_138.2
              refine lv_iconst (v := 3) hx hb dX12_beginOne_110 (by decide) ?_
              subst hQ
              exact W.iret (v := 3) hx hb hr (fun t1 ht hW => ⟨⟨3, (σ, I, J, ri, rj, rq), rfl, ⟨I, J, ri, rfl, hG, (Or.inl (by decide)), (rg_w (rg_k (3 : Int32) 3 rfl) (by decide))⟩, by rw [ht]; exact hP, va_K.moved hW.alike hK, hD⟩, hS.F ht⟩) hS.2.2 dX12_beginOne_111
          · have tc_139 : (I 393 this).toInt ≠ 40 := fun q => c_77 (Int32.toInt_inj.mp q)
            refine lv_aload_n hx hb dX12_beginOne_90 rfl (lv_at hl 0 rfl) ?_
            refine pg_f (v := .int (I 393 this)) (C := RX12) (T := TX12) (N := 31) hx hb hts (tw_i inlX12) hown hK hP hL_this hK_this (by decide) rfl 9 (by decide) (hts _ (tw_c tw_831)) rfl dX12_beginOne_91 ?_
            refine lv_bipush (v := 45) hx hb dX12_beginOne_94 (by decide) ?_
            refine lv_icmp_eq (tgt := 101) hx hb dX12_beginOne_96 (by decide) (fun c_140 => ?_) (fun c_140 => ?_)
            · have tc_141 : (I 393 this).toInt = 45 := congrArg Int32.toInt c_140
              have h_142 : rg (I 393 this) 45 45 := rg_and (rg_full _) (rg_of_eq c_140 (rg_k (45 : Int32) 45 rfl)) (by decide)
              have uh_142 := h_142.1
              have vh_142 := h_142.2
              refine lv_aload_n hx hb dX12_beginOne_101 rfl (lv_at hl 0 rfl) ?_
              refine pg_f (v := .int (I 402 this)) (C := RX12) (T := TX12) (N := 31) hx hb hts (tw_i inlX12) hown hK hP hL_this hK_this (by decide) rfl 18 (by decide) (hts _ (tw_c tw_828)) rfl dX12_beginOne_102 ?_
              refine lv_bipush (v := 8) hx hb dX12_beginOne_105 (by decide) ?_
              refine lv_icmp_ne (tgt := 112) hx hb dX12_beginOne_107 (by decide) (fun c_143 => ?_) (fun c_143 => ?_)
              · have tc_144 : (I 402 this).toInt ≠ 8 := fun q => c_143 (Int32.toInt_inj.mp q)
                refine lv_aload_n hx hb dX12_beginOne_112 rfl (lv_at hl 0 rfl) ?_
                refine lv_dup hx hb dX12_beginOne_113 rfl ?_
                refine pg_f (v := .int (I 402 this)) (C := RX12) (T := TX12) (N := 31) hx hb hts (tw_i inlX12) hown hK hP hL_this hK_this (by decide) rfl 18 (by decide) (hts _ (tw_c tw_828)) rfl dX12_beginOne_114 ?_
                have hq0 := PSz_bd hps
                have h_145 : rg (I 402 this) 0 8 := ⟨by omega, by omega⟩
                have uh_145 := h_145.1
                have vh_145 := h_145.2
                refine lv_iconst (v := 1) hx hb dX12_beginOne_117 (by decide) ?_
                refine lv_iadd hx hb dX12_beginOne_118 ?_
                refine lv_topi (fun x_146 ex_146 => ?_)
                have h_147 : rg x_146 1 9 := rg_of_eq ex_146 (rg_add h_145 (rg_k (1 : Int32) 1 rfl) (by decide))
                have uh_147 := h_147.1
                have vh_147 := h_147.2
                have tx_146 : (x_146).toInt = (I 402 this).toInt + 1 := by rw [ex_146]; exact i_add_rg (a2 := (I 402 this).toInt) (b2 := 1) rfl rfl h_145 (rg_k (1 : Int32) 1 rfl) (by decide)
                refine pp_i (v := x_146) (ty := .int) (C := RX12) (T := TX12) (N := 31) hx hb hts (tw_i inlX12) tyX12 tyX12_ok nmX12 hown hK hP hD hS hL_this hK_this (by decide) rfl 18 402 (by decide) (hts _ (tw_c tw_828)) rfl (tyX12_ok 18 (by decide)) rfl rfl (Nat.le_of_ble_eq_true rfl) (ps_402 _ _ _ _ _) dX12_beginOne_119 (fun I_148 H locs eI_148 hP hD hS => ?_)
                have hG := GM.wI hG 402 rfl eI_148 (rg_w h_147 (by decide)) (by decide)
                have tt_149 : (I_148 396 this).toInt = (I 396 this).toInt := by rw [eI_148, pq_uf _ _ _ (by decide)]
                have tt_150 : (I_148 398 this).toInt = (I 398 this).toInt := by rw [eI_148, pq_uf _ _ _ (by decide)]
                have tt_151 : (I_148 401 this).toInt = (I 401 this).toInt := by rw [eI_148, pq_uf _ _ _ (by decide)]
                have tt_152 : (I_148 402 this).toInt = (x_146).toInt := by rw [eI_148, pq_us]
                have tt_153 : (I_148 391 this).toInt = (I 391 this).toInt := by rw [eI_148, pq_uf _ _ _ (by decide)]
                have tt_154 : (I_148 393 this).toInt = (I 393 this).toInt := by rw [eI_148, pq_uf _ _ _ (by decide)]
                have tt_155 : (I_148 403 this).toInt = (I 403 this).toInt := by rw [eI_148, pq_uf _ _ _ (by decide)]
                have tt_156 : (I_148 397 this).toInt = (I 397 this).toInt := by rw [eI_148, pq_uf _ _ _ (by decide)]
                refine lv_aload_n hx hb dX12_beginOne_122 rfl (lv_at hl 0 rfl) ?_
                refine lv_aload_n hx hb dX12_beginOne_123 rfl (lv_at hl 0 rfl) ?_
                refine pg_f (v := .int (I_148 393 this)) (C := RX12) (T := TX12) (N := 31) hx hb hts (tw_i inlX12) hown hK hP hL_this hK_this (by decide) rfl 9 (by decide) (hts _ (tw_c tw_831)) rfl dX12_beginOne_124 ?_
                have h_157 : rg (I_148 393 this) 45 45 := (by rw [eI_148, pq_uf _ _ _ (by decide)]; exact h_142)
                have uh_157 := h_157.1
                have vh_157 := h_157.2
                refine lv_bipush (v := 40) hx hb dX12_beginOne_127 (by decide) ?_
                refine lv_icmp_ne (tgt := 137) hx hb dX12_beginOne_129 (by decide) (fun c_158 => ?_) (fun c_158 => ?_)
                · have tc_159 : (I_148 393 this).toInt ≠ 40 := fun q => c_158 (Int32.toInt_inj.mp q)
                  refine lv_iconst (v := 2) hx hb dX12_beginOne_137 (by decide) ?_
                  have hq3 := PSz_bd hps
                  refine pk_v (va_runV (As := [.int 2]) (rest := []) ⟨hx, hb, hml, hown, hts⟩ (s_X12_push l D t σ I_148 J ri rj rq H.size tg hSH hG.1 this (2 : Int32) hL_this hK_this (rg_w (rg_k (2 : Int32) 2 rfl) (by decide)) this_pile hR_this_pile hL_this_pile hK_this_pile hN_this_pile hT_this_pile (by omega)) (cwV 1 hts (tw_V tw_913 tw_914 tw_915 tw_5 tw_916) rfl rfl rfl cv_yX12_push_1 ⟨Nat.le_of_ble_eq_true rfl, Nat.le_of_ble_eq_true rfl⟩) ⟨pq_blind, pq_recv hK hP hL_this hK_this (by decide) rfl, pq_pre hK hN hP hD⟩ rfl rfl hl.1 rfl (lv_room (Nat.le_of_ble_eq_true rfl)) dX12_beginOne_138 ⟨Nat.le_of_ble_eq_true rfl, Nat.le_of_ble_eq_true rfl⟩) hD hS hA (fun σ1 μ1 H locs hw_161 hP hD hS => ?_)
                  obtain ⟨I_162, ri_163, hu_164, hg_165, hp_167, hp_168, hp_169⟩ := hw_161
                  obtain ⟨hu_164a, hu_164b⟩ := Prod.mk.inj hu_164
                  rw [hu_164a, hu_164b] at hP hD
                  obtain ⟨v_170, ev_170, hv_170⟩ := hp_167
                  have tt_171 : (I_162 401 this).toInt = (I_148 401 this).toInt + 1 := by rw [ev_170, pq_us]; exact hv_170
                  have tt_172 : (I_162 403 this).toInt = (I_148 403 this).toInt := by rw [ev_170, pq_uf _ _ _ (by decide)]
                  have hG := GM.tr hG hg_165 (by decide)
                  have tt_173 : (I_162 396 this).toInt = (I_148 396 this).toInt := by rw [hg_165.2.1 396 (by decide) (by decide)]
                  have tt_174 : (I_162 398 this).toInt = (I_148 398 this).toInt := by rw [hg_165.2.1 398 (by decide) (by decide)]
                  have tt_175 : (I_162 402 this).toInt = (I_148 402 this).toInt := by rw [hg_165.2.1 402 (by decide) (by decide)]
                  have tt_176 : (I_162 391 this).toInt = (I_148 391 this).toInt := by rw [hg_165.2.1 391 (by decide) (by decide)]
                  have tt_177 : (I_162 393 this).toInt = (I_148 393 this).toInt := by rw [hg_165.2.1 393 (by decide) (by decide)]
                  have tt_178 : (I_162 397 this).toInt = (I_148 397 this).toInt := by rw [hg_165.2.1 397 (by decide) (by decide)]
                  refine lv_aload_n hx hb dX12_beginOne_141 rfl (lv_at hl 0 rfl) ?_
                  obtain ⟨w_179, hR_w_179, hL_w_179, hK_w_179, hN_w_179, hT_w_179⟩ := sh_a hSH 387 (ci := 12) (kd := 13) (len := 300) rfl (by decide) hL_this hK_this
                  refine pk_v (va_runV (As := []) (rest := []) ⟨hx, hb, hml, hown, hts⟩ (s_X12_nextToken_x l D t σ I_162 J ri_163 rj rq H.size tg hSH hG.1 this hL_this hK_this w_179 hR_w_179 hL_w_179 hK_w_179 hN_w_179 hT_w_179) (cwV 0 hts (tw_V tw_832 tw_833 tw_834 tw_5 tw_835) rfl rfl rfl cv_yX12_nextToken_0 ⟨Nat.le_of_ble_eq_true rfl, Nat.le_of_ble_eq_true rfl⟩) ⟨pq_blind, pq_recv hK hP hL_this hK_this (by decide) rfl, pq_pre hK hN hP hD⟩ rfl rfl hl.1 rfl (lv_room (Nat.le_of_ble_eq_true rfl)) dX12_beginOne_142 ⟨Nat.le_of_ble_eq_true rfl, Nat.le_of_ble_eq_true rfl⟩) hD hS hA (fun σ1 μ1 H locs hw_181 hP hD hS => ?_)
                  obtain ⟨I_182, J_183, hu_184, hg_185, hp_187, hp_188, hp_189⟩ := hw_181
                  obtain ⟨hu_184a, hu_184b⟩ := Prod.mk.inj hu_184
                  rw [hu_184a, hu_184b] at hP hD
                  have tt_190 := hp_187
                  have tt_191 := hp_188
                  have tt_192 := hp_189
                  have tt_193 : (I_182 391 this).toInt ≤ 300 := by have z := hg_185.1.1 391 this; exact z.2
                  have hG := GM.tr hG hg_185 (by decide)
                  have tt_194 : (I_182 396 this).toInt = (I_162 396 this).toInt := by rw [hg_185.2.1 396 (by decide) (by decide)]
                  have tt_195 : (I_182 398 this).toInt = (I_162 398 this).toInt := by rw [hg_185.2.1 398 (by decide) (by decide)]
                  have tt_196 : (I_182 401 this).toInt = (I_162 401 this).toInt := by rw [hg_185.2.1 401 (by decide) (by decide)]
                  have tt_197 : (I_182 402 this).toInt = (I_162 402 this).toInt := by rw [hg_185.2.1 402 (by decide) (by decide)]
                  have tt_198 : (I_182 397 this).toInt = (I_162 397 this).toInt := by rw [hg_185.2.1 397 (by decide) (by decide)]
                  have hup2 : ri_163 this_pile = upd (ri this_pile) (I 401 this).toInt.toNat (2 : Int32) := by rw [show (I 401 this).toInt = (I_148 401 this).toInt from by omega]; exact hp_168
                  have hpsW : PSz (I_182 396 this).toInt (I_182 398 this).toInt (I_182 401 this).toInt (I_182 402 this).toInt (I_182 391 this).toInt (I_182 393 this).toInt (ri_163 this_a) (ri_163 this_pile) bb f0 fr ba tb nn K 0 := PSz_open hps (by omega) (by omega) (x := (2 : Int32)) (by decide) (by omega) (by omega) (by omega) (by omega) (by omega) (by omega) (by omega) (hp_169 this_a (tg_ne hT_this_a hT_this_pile (by decide))) hup2
                  have htm : tmM (I_182 391 this).toInt (I_182 393 this).toInt < tmM (I 391 this).toInt (I 393 this).toInt := tm_lt (by omega) (by omega) (by omega)
                  refine lv_iconst (v := 0) hx hb dX12_beginOne_145 (by decide) ?_
                  subst hQ
                  exact W.iret (v := 0) hx hb hr (fun t1 ht hW => ⟨⟨0, (σ, I_182, J_183, ri_163, rj, rq), rfl, ⟨I_182, J_183, ri_163, rfl, hG, (Or.inr ⟨(by rw [show (I_182 403 this).toInt = 0 from by omega]; exact hpsW), tm_cg htm (by omega) (by omega) rfl rfl⟩), (rg_w (rg_k (0 : Int32) 0 rfl) (by decide))⟩, by rw [ht]; exact hP, va_K.moved hW.alike hK, hD⟩, hS.F ht⟩) hS.2.2 dX12_beginOne_146
                · have tc_199 : (I_148 393 this).toInt = 40 := congrArg Int32.toInt c_158
                  exact (rg_empty (rg_and h_157 (rg_of_eq c_158 (rg_k (40 : Int32) 40 rfl)) (lo := 45) (hi := 40) (by decide)) (by decide)).elim
              · have tc_200 : (I 402 this).toInt = 8 := congrArg Int32.toInt c_143
                have h_201 : rg (I 402 this) 8 8 := rg_and (rg_full _) (rg_of_eq c_143 (rg_k (8 : Int32) 8 rfl)) (by decide)
                have uh_201 := h_201.1
                have vh_201 := h_201.2
                refine lv_iconst (v := 3) hx hb dX12_beginOne_110 (by decide) ?_
                subst hQ
                exact W.iret (v := 3) hx hb hr (fun t1 ht hW => ⟨⟨3, (σ, I, J, ri, rj, rq), rfl, ⟨I, J, ri, rfl, hG, (Or.inl (by decide)), (rg_w (rg_k (3 : Int32) 3 rfl) (by decide))⟩, by rw [ht]; exact hP, va_K.moved hW.alike hK, hD⟩, hS.F ht⟩) hS.2.2 dX12_beginOne_111
            · have tc_202 : (I 393 this).toInt ≠ 45 := fun q => c_140 (Int32.toInt_inj.mp q)
              refine lv_iconst (v := 1) hx hb dX12_beginOne_99 (by decide) ?_
              subst hQ
              exact W.iret (v := 1) hx hb hr (fun t1 ht hW => ⟨⟨1, (σ, I, J, ri, rj, rq), rfl, ⟨I, J, ri, rfl, hG, (Or.inl (by decide)), (rg_w (rg_k (1 : Int32) 1 rfl) (by decide))⟩, by rw [ht]; exact hP, va_K.moved hW.alike hK, hD⟩, hS.F ht⟩) hS.2.2 dX12_beginOne_100
        · have tc_203 : 0 ≤ (x_67).toInt := Int32.le_iff_toInt_le.mp (nlt c_74)
          have h_204 : rg x_67 0 5 := rg_le2 (nlt c_74) (rg_k (0 : Int32) 0 rfl) hr_71 (by decide)
          have uh_204 := h_204.1
          have vh_204 := h_204.2
          refine lv_aload_n hx hb dX12_beginOne_35 rfl (lv_at hl 0 rfl) ?_
          refine lv_aload_n hx hb dX12_beginOne_36 rfl (lv_at hl 0 rfl) ?_
          refine pg_f (v := .int (I 393 this)) (C := RX12) (T := TX12) (N := 31) hx hb hts (tw_i inlX12) hown hK hP hL_this hK_this (by decide) rfl 9 (by decide) (hts _ (tw_c tw_831)) rfl dX12_beginOne_37 ?_
          refine lv_iconst (v := 1) hx hb dX12_beginOne_40 (by decide) ?_
          refine lv_icmp_ne (tgt := 48) hx hb dX12_beginOne_41 (by decide) (fun c_205 => ?_) (fun c_205 => ?_)
          · have tc_206 : (I 393 this).toInt ≠ 1 := fun q => c_205 (Int32.toInt_inj.mp q)
            refine lv_iconst (v := 1) hx hb dX12_beginOne_48 (by decide) ?_
            refine lv_aload_n hx hb dX12_beginOne_49 rfl (lv_at hl 0 rfl) ?_
            refine pg_f (v := .int (I 393 this)) (C := RX12) (T := TX12) (N := 31) hx hb hts (tw_i inlX12) hown hK hP hL_this hK_this (by decide) rfl 9 (by decide) (hts _ (tw_c tw_831)) rfl dX12_beginOne_50 ?_
            refine lv_iconst (v := 1) hx hb dX12_beginOne_53 (by decide) ?_
            refine lv_icmp_ne (tgt := 64) hx hb dX12_beginOne_54 (by decide) (fun c_207 => ?_) (fun c_207 => ?_)
            · have tc_208 : (I 393 this).toInt ≠ 1 := fun q => c_207 (Int32.toInt_inj.mp q)
              refine lv_aload_n hx hb dX12_beginOne_64 rfl (lv_at hl 0 rfl) ?_
              refine pk_i (va_runV (As := []) (rest := [.int 1, .ref this]) ⟨hx, hb, hml, hown, hts⟩ (s_X12_nameOf_x l D t σ I J ri rj rq H.size tg hSH hG.1 this hL_this hK_this) (cwV 0 hts (tw_V tw_921 tw_922 tw_923 tw_5 tw_924) rfl rfl rfl cv_yX12_nameOf_0 ⟨Nat.le_of_ble_eq_true rfl, Nat.le_of_ble_eq_true rfl⟩) ⟨pq_blind, pq_recv hK hP hL_this hK_this (by decide) rfl, pq_pre hK hN hP hD⟩ rfl rfl hl.1 rfl (lv_room (Nat.le_of_ble_eq_true rfl)) dX12_beginOne_65 ⟨Nat.le_of_ble_eq_true rfl, Nat.le_of_ble_eq_true rfl⟩) hD hS hA (fun x_209 σ1 μ1 H locs hw_210 hP hD hS => ?_)
              obtain ⟨hu_211, hp_214, hr_213⟩ := hw_210
              obtain ⟨hu_211a, hu_211b⟩ := Prod.mk.inj hu_211
              rw [hu_211a, hu_211b] at hP hD
              have tt_215 := hp_214
              have hq1 := PSz_t hps
              have hq2 := PSz_w hps (Or.inl (by omega))
              refine pk_v (va_runV (As := [.int 1, .int x_209]) (rest := []) ⟨hx, hb, hml, hown, hts⟩ (s_X12_emit l D t σ I J ri rj rq H.size tg hSH hG.1 this (1 : Int32) x_209 hL_this hK_this this_a hR_this_a hL_this_a hK_this_a hN_this_a hT_this_a (by omega) (by omega)) (cwV 2 hts (tw_V tw_905 tw_906 tw_907 tw_5 tw_908) rfl rfl rfl cv_yX12_emit_2 ⟨Nat.le_of_ble_eq_true rfl, Nat.le_of_ble_eq_true rfl⟩) ⟨pq_blind, pq_recv hK hP hL_this hK_this (by decide) rfl, pq_pre hK hN hP hD⟩ rfl rfl hl.1 rfl (lv_room (Nat.le_of_ble_eq_true rfl)) dX12_beginOne_68 ⟨Nat.le_of_ble_eq_true rfl, Nat.le_of_ble_eq_true rfl⟩) hD hS hA (fun σ1 μ1 H locs hw_217 hP hD hS => ?_)
              obtain ⟨I_218, ri_219, hu_220, hg_221, hp_223, hp_224, hp_225, hp_226⟩ := hw_217
              obtain ⟨hu_220a, hu_220b⟩ := Prod.mk.inj hu_220
              rw [hu_220a, hu_220b] at hP hD
              obtain ⟨v_227, ev_227, hv_227⟩ := hp_223
              have tt_228 : (I_218 398 this).toInt = (I 398 this).toInt + 1 := by rw [ev_227, pq_us]; exact hv_227
              have tt_229 : (I_218 403 this).toInt = (I 403 this).toInt := by rw [ev_227, pq_uf _ _ _ (by decide)]
              have hG := GM.tr hG hg_221 (by decide)
              have tt_230 : (I_218 396 this).toInt = (I 396 this).toInt := by rw [hg_221.2.1 396 (by decide) (by decide)]
              have tt_231 : (I_218 401 this).toInt = (I 401 this).toInt := by rw [hg_221.2.1 401 (by decide) (by decide)]
              have tt_232 : (I_218 402 this).toInt = (I 402 this).toInt := by rw [hg_221.2.1 402 (by decide) (by decide)]
              have tt_233 : (I_218 391 this).toInt = (I 391 this).toInt := by rw [hg_221.2.1 391 (by decide) (by decide)]
              have tt_234 : (I_218 393 this).toInt = (I 393 this).toInt := by rw [hg_221.2.1 393 (by decide) (by decide)]
              have tt_235 : (I_218 397 this).toInt = (I 397 this).toInt := by rw [hg_221.2.1 397 (by decide) (by decide)]
              refine lv_aload_n hx hb dX12_beginOne_71 rfl (lv_at hl 0 rfl) ?_
              obtain ⟨w_236, hR_w_236, hL_w_236, hK_w_236, hN_w_236, hT_w_236⟩ := sh_a hSH 387 (ci := 12) (kd := 13) (len := 300) rfl (by decide) hL_this hK_this
              refine pk_v (va_runV (As := []) (rest := []) ⟨hx, hb, hml, hown, hts⟩ (s_X12_nextToken_x l D t σ I_218 J ri_219 rj rq H.size tg hSH hG.1 this hL_this hK_this w_236 hR_w_236 hL_w_236 hK_w_236 hN_w_236 hT_w_236) (cwV 0 hts (tw_V tw_832 tw_833 tw_834 tw_5 tw_835) rfl rfl rfl cv_yX12_nextToken_0 ⟨Nat.le_of_ble_eq_true rfl, Nat.le_of_ble_eq_true rfl⟩) ⟨pq_blind, pq_recv hK hP hL_this hK_this (by decide) rfl, pq_pre hK hN hP hD⟩ rfl rfl hl.1 rfl (lv_room (Nat.le_of_ble_eq_true rfl)) dX12_beginOne_72 ⟨Nat.le_of_ble_eq_true rfl, Nat.le_of_ble_eq_true rfl⟩) hD hS hA (fun σ1 μ1 H locs hw_238 hP hD hS => ?_)
              obtain ⟨I_239, J_240, hu_241, hg_242, hp_244, hp_245, hp_246⟩ := hw_238
              obtain ⟨hu_241a, hu_241b⟩ := Prod.mk.inj hu_241
              rw [hu_241a, hu_241b] at hP hD
              have tt_247 := hp_244
              have tt_248 := hp_245
              have tt_249 := hp_246
              have tt_250 : (I_239 391 this).toInt ≤ 300 := by have z := hg_242.1.1 391 this; exact z.2
              have hG := GM.tr hG hg_242 (by decide)
              have tt_251 : (I_239 396 this).toInt = (I_218 396 this).toInt := by rw [hg_242.2.1 396 (by decide) (by decide)]
              have tt_252 : (I_239 398 this).toInt = (I_218 398 this).toInt := by rw [hg_242.2.1 398 (by decide) (by decide)]
              have tt_253 : (I_239 401 this).toInt = (I_218 401 this).toInt := by rw [hg_242.2.1 401 (by decide) (by decide)]
              have tt_254 : (I_239 402 this).toInt = (I_218 402 this).toInt := by rw [hg_242.2.1 402 (by decide) (by decide)]
              have tt_255 : (I_239 397 this).toInt = (I_218 397 this).toInt := by rw [hg_242.2.1 397 (by decide) (by decide)]
              refine lv_aload_n hx hb dX12_beginOne_75 rfl (lv_at hl 0 rfl) ?_
              have hpsW : PSz (I_239 396 this).toInt (I_239 398 this).toInt (I_239 401 this).toInt (I_239 402 this).toInt (I_239 391 this).toInt (I_239 393 this).toInt (ri_219 this_a) (ri_219 this_pile) bb f0 fr ba tb nn K 1 := PSz_one hps (by omega) (x := (1 : Int32)) (fun j hj => hp_224 j (by omega)) (by rw [show (I 396 this).toInt + 250 + 2 * (I 398 this).toInt = (I 396 this).toInt + 250 + 2 * (I 398 this).toInt from by omega]; exact hp_225) (by decide) (by omega) (by omega) (by omega) (by omega) (by omega) (by omega) (by omega) (hp_226 this_pile (tg_ne hT_this_pile hT_this_a (by decide)))
              have htm : tmM (I_239 391 this).toInt (I_239 393 this).toInt < tmM (I 391 this).toInt (I 393 this).toInt := tm_lt (by omega) (by omega) (by omega)
              refine pk_v (va_runV (As := []) (rest := []) ⟨hx, hb, hml, hown, hts⟩ (s_X12_whole l D t σ I_239 J_240 ri_219 rj rq H.size tg hSH hG.1 this hL_this hK_this this_a hR_this_a hL_this_a hK_this_a hN_this_a hT_this_a this_pile hR_this_pile hL_this_pile hK_this_pile hN_this_pile hT_this_pile bb f0 fr ba tb nn K (by assumption)) (cwV 0 hts (tw_V tw_909 tw_910 tw_911 tw_5 tw_912) rfl rfl rfl cv_yX12_whole_0 ⟨Nat.le_of_ble_eq_true rfl, Nat.le_of_ble_eq_true rfl⟩) ⟨pq_blind, pq_recv hK hP hL_this hK_this (by decide) rfl, pq_pre hK hN hP hD⟩ rfl rfl hl.1 rfl (lv_room (Nat.le_of_ble_eq_true rfl)) dX12_beginOne_76 ⟨Nat.le_of_ble_eq_true rfl, Nat.le_of_ble_eq_true rfl⟩) hD hS hA (fun σ1 μ1 H locs hw_257 hP hD hS => ?_)
              obtain ⟨I_258, ri_259, hu_260, hg_261, hp_263, hp_264⟩ := hw_257
              obtain ⟨hu_260a, hu_260b⟩ := Prod.mk.inj hu_260
              rw [hu_260a, hu_260b] at hP hD
              have tt_265 := hp_264
              have hG := GM.tr hG hg_261 (by decide)
              have tt_266 : (I_258 396 this).toInt = (I_239 396 this).toInt := by rw [hg_261.2.1 396 (by decide) (by decide)]
              have tt_267 : (I_258 391 this).toInt = (I_239 391 this).toInt := by rw [hg_261.2.1 391 (by decide) (by decide)]
              have tt_268 : (I_258 393 this).toInt = (I_239 393 this).toInt := by rw [hg_261.2.1 393 (by decide) (by decide)]
              have tt_269 : (I_258 397 this).toInt = (I_239 397 this).toInt := by rw [hg_261.2.1 397 (by decide) (by decide)]
              refine lv_iconst (v := 0) hx hb dX12_beginOne_79 (by decide) ?_
              subst hQ
              exact W.iret (v := 0) hx hb hr (fun t1 ht hW => ⟨⟨0, (σ, I_258, J_240, ri_259, rj, rq), rfl, ⟨I_258, J_240, ri_259, rfl, hG, (Or.inr ⟨(by rw [show (I_258 403 this).toInt = 1 from by omega]; exact hp_263), tm_cg htm (by omega) (by omega) rfl rfl⟩), (rg_w (rg_k (0 : Int32) 0 rfl) (by decide))⟩, by rw [ht]; exact hP, va_K.moved hW.alike hK, hD⟩, hS.F ht⟩) hS.2.2 dX12_beginOne_80
            · have tc_270 : (I 393 this).toInt = 1 := congrArg Int32.toInt c_207
              have h_271 : rg (I 393 this) 1 1 := rg_and (rg_full _) (rg_of_eq c_207 (rg_k (1 : Int32) 1 rfl)) (by decide)
              have uh_271 := h_271.1
              have vh_271 := h_271.2
              refine lv_aload_n hx hb dX12_beginOne_57 rfl (lv_at hl 0 rfl) ?_
              refine pg_f (v := .int (I 394 this)) (C := RX12) (T := TX12) (N := 31) hx hb hts (tw_i inlX12) hown hK hP hL_this hK_this (by decide) rfl 10 (by decide) (hts _ (tw_c tw_836)) rfl dX12_beginOne_58 ?_
              refine lv_goto (tgt := 68) hx hb dX12_beginOne_61 (by decide) ?_
              have hq1 := PSz_t hps
              have hq2 := PSz_w hps (Or.inl (by omega))
              refine pk_v (va_runV (As := [.int 1, .int (I 394 this)]) (rest := []) ⟨hx, hb, hml, hown, hts⟩ (s_X12_emit l D t σ I J ri rj rq H.size tg hSH hG.1 this (1 : Int32) (I 394 this) hL_this hK_this this_a hR_this_a hL_this_a hK_this_a hN_this_a hT_this_a (by omega) (by omega)) (cwV 2 hts (tw_V tw_905 tw_906 tw_907 tw_5 tw_908) rfl rfl rfl cv_yX12_emit_2 ⟨Nat.le_of_ble_eq_true rfl, Nat.le_of_ble_eq_true rfl⟩) ⟨pq_blind, pq_recv hK hP hL_this hK_this (by decide) rfl, pq_pre hK hN hP hD⟩ rfl rfl hl.1 rfl (lv_room (Nat.le_of_ble_eq_true rfl)) dX12_beginOne_68 ⟨Nat.le_of_ble_eq_true rfl, Nat.le_of_ble_eq_true rfl⟩) hD hS hA (fun σ1 μ1 H locs hw_273 hP hD hS => ?_)
              obtain ⟨I_274, ri_275, hu_276, hg_277, hp_279, hp_280, hp_281, hp_282⟩ := hw_273
              obtain ⟨hu_276a, hu_276b⟩ := Prod.mk.inj hu_276
              rw [hu_276a, hu_276b] at hP hD
              obtain ⟨v_283, ev_283, hv_283⟩ := hp_279
              have tt_284 : (I_274 398 this).toInt = (I 398 this).toInt + 1 := by rw [ev_283, pq_us]; exact hv_283
              have tt_285 : (I_274 403 this).toInt = (I 403 this).toInt := by rw [ev_283, pq_uf _ _ _ (by decide)]
              have hG := GM.tr hG hg_277 (by decide)
              have tt_286 : (I_274 396 this).toInt = (I 396 this).toInt := by rw [hg_277.2.1 396 (by decide) (by decide)]
              have tt_287 : (I_274 401 this).toInt = (I 401 this).toInt := by rw [hg_277.2.1 401 (by decide) (by decide)]
              have tt_288 : (I_274 402 this).toInt = (I 402 this).toInt := by rw [hg_277.2.1 402 (by decide) (by decide)]
              have tt_289 : (I_274 391 this).toInt = (I 391 this).toInt := by rw [hg_277.2.1 391 (by decide) (by decide)]
              have tt_290 : (I_274 393 this).toInt = (I 393 this).toInt := by rw [hg_277.2.1 393 (by decide) (by decide)]
              have tt_291 : (I_274 397 this).toInt = (I 397 this).toInt := by rw [hg_277.2.1 397 (by decide) (by decide)]
              refine lv_aload_n hx hb dX12_beginOne_71 rfl (lv_at hl 0 rfl) ?_
              obtain ⟨w_292, hR_w_292, hL_w_292, hK_w_292, hN_w_292, hT_w_292⟩ := sh_a hSH 387 (ci := 12) (kd := 13) (len := 300) rfl (by decide) hL_this hK_this
              refine pk_v (va_runV (As := []) (rest := []) ⟨hx, hb, hml, hown, hts⟩ (s_X12_nextToken_x l D t σ I_274 J ri_275 rj rq H.size tg hSH hG.1 this hL_this hK_this w_292 hR_w_292 hL_w_292 hK_w_292 hN_w_292 hT_w_292) (cwV 0 hts (tw_V tw_832 tw_833 tw_834 tw_5 tw_835) rfl rfl rfl cv_yX12_nextToken_0 ⟨Nat.le_of_ble_eq_true rfl, Nat.le_of_ble_eq_true rfl⟩) ⟨pq_blind, pq_recv hK hP hL_this hK_this (by decide) rfl, pq_pre hK hN hP hD⟩ rfl rfl hl.1 rfl (lv_room (Nat.le_of_ble_eq_true rfl)) dX12_beginOne_72 ⟨Nat.le_of_ble_eq_true rfl, Nat.le_of_ble_eq_true rfl⟩) hD hS hA (fun σ1 μ1 H locs hw_294 hP hD hS => ?_)
              obtain ⟨I_295, J_296, hu_297, hg_298, hp_300, hp_301, hp_302⟩ := hw_294
              obtain ⟨hu_297a, hu_297b⟩ := Prod.mk.inj hu_297
              rw [hu_297a, hu_297b] at hP hD
              have tt_303 := hp_300
              have tt_304 := hp_301
              have tt_305 := hp_302
              have tt_306 : (I_295 391 this).toInt ≤ 300 := by have z := hg_298.1.1 391 this; exact z.2
              have hG := GM.tr hG hg_298 (by decide)
              have tt_307 : (I_295 396 this).toInt = (I_274 396 this).toInt := by rw [hg_298.2.1 396 (by decide) (by decide)]
              have tt_308 : (I_295 398 this).toInt = (I_274 398 this).toInt := by rw [hg_298.2.1 398 (by decide) (by decide)]
              have tt_309 : (I_295 401 this).toInt = (I_274 401 this).toInt := by rw [hg_298.2.1 401 (by decide) (by decide)]
              have tt_310 : (I_295 402 this).toInt = (I_274 402 this).toInt := by rw [hg_298.2.1 402 (by decide) (by decide)]
              have tt_311 : (I_295 397 this).toInt = (I_274 397 this).toInt := by rw [hg_298.2.1 397 (by decide) (by decide)]
              refine lv_aload_n hx hb dX12_beginOne_75 rfl (lv_at hl 0 rfl) ?_
              have hpsW : PSz (I_295 396 this).toInt (I_295 398 this).toInt (I_295 401 this).toInt (I_295 402 this).toInt (I_295 391 this).toInt (I_295 393 this).toInt (ri_275 this_a) (ri_275 this_pile) bb f0 fr ba tb nn K 1 := PSz_one hps (by omega) (x := (1 : Int32)) (fun j hj => hp_280 j (by omega)) (by rw [show (I 396 this).toInt + 250 + 2 * (I 398 this).toInt = (I 396 this).toInt + 250 + 2 * (I 398 this).toInt from by omega]; exact hp_281) (by decide) (by omega) (by omega) (by omega) (by omega) (by omega) (by omega) (by omega) (hp_282 this_pile (tg_ne hT_this_pile hT_this_a (by decide)))
              have htm : tmM (I_295 391 this).toInt (I_295 393 this).toInt < tmM (I 391 this).toInt (I 393 this).toInt := tm_lt (by omega) (by omega) (by omega)
              refine pk_v (va_runV (As := []) (rest := []) ⟨hx, hb, hml, hown, hts⟩ (s_X12_whole l D t σ I_295 J_296 ri_275 rj rq H.size tg hSH hG.1 this hL_this hK_this this_a hR_this_a hL_this_a hK_this_a hN_this_a hT_this_a this_pile hR_this_pile hL_this_pile hK_this_pile hN_this_pile hT_this_pile bb f0 fr ba tb nn K (by assumption)) (cwV 0 hts (tw_V tw_909 tw_910 tw_911 tw_5 tw_912) rfl rfl rfl cv_yX12_whole_0 ⟨Nat.le_of_ble_eq_true rfl, Nat.le_of_ble_eq_true rfl⟩) ⟨pq_blind, pq_recv hK hP hL_this hK_this (by decide) rfl, pq_pre hK hN hP hD⟩ rfl rfl hl.1 rfl (lv_room (Nat.le_of_ble_eq_true rfl)) dX12_beginOne_76 ⟨Nat.le_of_ble_eq_true rfl, Nat.le_of_ble_eq_true rfl⟩) hD hS hA (fun σ1 μ1 H locs hw_313 hP hD hS => ?_)
              obtain ⟨I_314, ri_315, hu_316, hg_317, hp_319, hp_320⟩ := hw_313
              obtain ⟨hu_316a, hu_316b⟩ := Prod.mk.inj hu_316
              rw [hu_316a, hu_316b] at hP hD
              have tt_321 := hp_320
              have hG := GM.tr hG hg_317 (by decide)
              have tt_322 : (I_314 396 this).toInt = (I_295 396 this).toInt := by rw [hg_317.2.1 396 (by decide) (by decide)]
              have tt_323 : (I_314 391 this).toInt = (I_295 391 this).toInt := by rw [hg_317.2.1 391 (by decide) (by decide)]
              have tt_324 : (I_314 393 this).toInt = (I_295 393 this).toInt := by rw [hg_317.2.1 393 (by decide) (by decide)]
              have tt_325 : (I_314 397 this).toInt = (I_295 397 this).toInt := by rw [hg_317.2.1 397 (by decide) (by decide)]
              refine lv_iconst (v := 0) hx hb dX12_beginOne_79 (by decide) ?_
              subst hQ
              exact W.iret (v := 0) hx hb hr (fun t1 ht hW => ⟨⟨0, (σ, I_314, J_296, ri_315, rj, rq), rfl, ⟨I_314, J_296, ri_315, rfl, hG, (Or.inr ⟨(by rw [show (I_314 403 this).toInt = 1 from by omega]; exact hp_319), tm_cg htm (by omega) (by omega) rfl rfl⟩), (rg_w (rg_k (0 : Int32) 0 rfl) (by decide))⟩, by rw [ht]; exact hP, va_K.moved hW.alike hK, hD⟩, hS.F ht⟩) hS.2.2 dX12_beginOne_80
          · have tc_326 : (I 393 this).toInt = 1 := congrArg Int32.toInt c_205
            have h_327 : rg (I 393 this) 1 1 := rg_and (rg_full _) (rg_of_eq c_205 (rg_k (1 : Int32) 1 rfl)) (by decide)
            have uh_327 := h_327.1
            have vh_327 := h_327.2
            refine lv_iconst (v := 0) hx hb dX12_beginOne_44 (by decide) ?_
            refine lv_goto (tgt := 49) hx hb dX12_beginOne_45 (by decide) ?_
            refine lv_aload_n hx hb dX12_beginOne_49 rfl (lv_at hl 0 rfl) ?_
            refine pg_f (v := .int (I 393 this)) (C := RX12) (T := TX12) (N := 31) hx hb hts (tw_i inlX12) hown hK hP hL_this hK_this (by decide) rfl 9 (by decide) (hts _ (tw_c tw_831)) rfl dX12_beginOne_50 ?_
            refine lv_iconst (v := 1) hx hb dX12_beginOne_53 (by decide) ?_
            refine lv_icmp_ne (tgt := 64) hx hb dX12_beginOne_54 (by decide) (fun c_328 => ?_) (fun c_328 => ?_)
            · have tc_329 : (I 393 this).toInt ≠ 1 := fun q => c_328 (Int32.toInt_inj.mp q)
              exact (rg_empty (rg_ne c_328 h_327 1 rfl (lo := 2) (hi := 0) (by decide)) (by decide)).elim
            · have tc_330 : (I 393 this).toInt = 1 := congrArg Int32.toInt c_328
              refine lv_aload_n hx hb dX12_beginOne_57 rfl (lv_at hl 0 rfl) ?_
              refine pg_f (v := .int (I 394 this)) (C := RX12) (T := TX12) (N := 31) hx hb hts (tw_i inlX12) hown hK hP hL_this hK_this (by decide) rfl 10 (by decide) (hts _ (tw_c tw_836)) rfl dX12_beginOne_58 ?_
              refine lv_goto (tgt := 68) hx hb dX12_beginOne_61 (by decide) ?_
              have hq1 := PSz_t hps
              have hq2 := PSz_w hps (Or.inl (by omega))
              refine pk_v (va_runV (As := [.int 0, .int (I 394 this)]) (rest := []) ⟨hx, hb, hml, hown, hts⟩ (s_X12_emit l D t σ I J ri rj rq H.size tg hSH hG.1 this (0 : Int32) (I 394 this) hL_this hK_this this_a hR_this_a hL_this_a hK_this_a hN_this_a hT_this_a (by omega) (by omega)) (cwV 2 hts (tw_V tw_905 tw_906 tw_907 tw_5 tw_908) rfl rfl rfl cv_yX12_emit_2 ⟨Nat.le_of_ble_eq_true rfl, Nat.le_of_ble_eq_true rfl⟩) ⟨pq_blind, pq_recv hK hP hL_this hK_this (by decide) rfl, pq_pre hK hN hP hD⟩ rfl rfl hl.1 rfl (lv_room (Nat.le_of_ble_eq_true rfl)) dX12_beginOne_68 ⟨Nat.le_of_ble_eq_true rfl, Nat.le_of_ble_eq_true rfl⟩) hD hS hA (fun σ1 μ1 H locs hw_332 hP hD hS => ?_)
              obtain ⟨I_333, ri_334, hu_335, hg_336, hp_338, hp_339, hp_340, hp_341⟩ := hw_332
              obtain ⟨hu_335a, hu_335b⟩ := Prod.mk.inj hu_335
              rw [hu_335a, hu_335b] at hP hD
              obtain ⟨v_342, ev_342, hv_342⟩ := hp_338
              have tt_343 : (I_333 398 this).toInt = (I 398 this).toInt + 1 := by rw [ev_342, pq_us]; exact hv_342
              have tt_344 : (I_333 403 this).toInt = (I 403 this).toInt := by rw [ev_342, pq_uf _ _ _ (by decide)]
              have hG := GM.tr hG hg_336 (by decide)
              have tt_345 : (I_333 396 this).toInt = (I 396 this).toInt := by rw [hg_336.2.1 396 (by decide) (by decide)]
              have tt_346 : (I_333 401 this).toInt = (I 401 this).toInt := by rw [hg_336.2.1 401 (by decide) (by decide)]
              have tt_347 : (I_333 402 this).toInt = (I 402 this).toInt := by rw [hg_336.2.1 402 (by decide) (by decide)]
              have tt_348 : (I_333 391 this).toInt = (I 391 this).toInt := by rw [hg_336.2.1 391 (by decide) (by decide)]
              have tt_349 : (I_333 393 this).toInt = (I 393 this).toInt := by rw [hg_336.2.1 393 (by decide) (by decide)]
              have tt_350 : (I_333 397 this).toInt = (I 397 this).toInt := by rw [hg_336.2.1 397 (by decide) (by decide)]
              refine lv_aload_n hx hb dX12_beginOne_71 rfl (lv_at hl 0 rfl) ?_
              obtain ⟨w_351, hR_w_351, hL_w_351, hK_w_351, hN_w_351, hT_w_351⟩ := sh_a hSH 387 (ci := 12) (kd := 13) (len := 300) rfl (by decide) hL_this hK_this
              refine pk_v (va_runV (As := []) (rest := []) ⟨hx, hb, hml, hown, hts⟩ (s_X12_nextToken_x l D t σ I_333 J ri_334 rj rq H.size tg hSH hG.1 this hL_this hK_this w_351 hR_w_351 hL_w_351 hK_w_351 hN_w_351 hT_w_351) (cwV 0 hts (tw_V tw_832 tw_833 tw_834 tw_5 tw_835) rfl rfl rfl cv_yX12_nextToken_0 ⟨Nat.le_of_ble_eq_true rfl, Nat.le_of_ble_eq_true rfl⟩) ⟨pq_blind, pq_recv hK hP hL_this hK_this (by decide) rfl, pq_pre hK hN hP hD⟩ rfl rfl hl.1 rfl (lv_room (Nat.le_of_ble_eq_true rfl)) dX12_beginOne_72 ⟨Nat.le_of_ble_eq_true rfl, Nat.le_of_ble_eq_true rfl⟩) hD hS hA (fun σ1 μ1 H locs hw_353 hP hD hS => ?_)
              obtain ⟨I_354, J_355, hu_356, hg_357, hp_359, hp_360, hp_361⟩ := hw_353
              obtain ⟨hu_356a, hu_356b⟩ := Prod.mk.inj hu_356
              rw [hu_356a, hu_356b] at hP hD
              have tt_362 := hp_359
              have tt_363 := hp_360
              have tt_364 := hp_361
              have tt_365 : (I_354 391 this).toInt ≤ 300 := by have z := hg_357.1.1 391 this; exact z.2
              have hG := GM.tr hG hg_357 (by decide)
              have tt_366 : (I_354 396 this).toInt = (I_333 396 this).toInt := by rw [hg_357.2.1 396 (by decide) (by decide)]
              have tt_367 : (I_354 398 this).toInt = (I_333 398 this).toInt := by rw [hg_357.2.1 398 (by decide) (by decide)]
              have tt_368 : (I_354 401 this).toInt = (I_333 401 this).toInt := by rw [hg_357.2.1 401 (by decide) (by decide)]
              have tt_369 : (I_354 402 this).toInt = (I_333 402 this).toInt := by rw [hg_357.2.1 402 (by decide) (by decide)]
              have tt_370 : (I_354 397 this).toInt = (I_333 397 this).toInt := by rw [hg_357.2.1 397 (by decide) (by decide)]
              refine lv_aload_n hx hb dX12_beginOne_75 rfl (lv_at hl 0 rfl) ?_
              have hpsW : PSz (I_354 396 this).toInt (I_354 398 this).toInt (I_354 401 this).toInt (I_354 402 this).toInt (I_354 391 this).toInt (I_354 393 this).toInt (ri_334 this_a) (ri_334 this_pile) bb f0 fr ba tb nn K 1 := PSz_one hps (by omega) (x := (0 : Int32)) (fun j hj => hp_339 j (by omega)) (by rw [show (I 396 this).toInt + 250 + 2 * (I 398 this).toInt = (I 396 this).toInt + 250 + 2 * (I 398 this).toInt from by omega]; exact hp_340) (by decide) (by omega) (by omega) (by omega) (by omega) (by omega) (by omega) (by omega) (hp_341 this_pile (tg_ne hT_this_pile hT_this_a (by decide)))
              have htm : tmM (I_354 391 this).toInt (I_354 393 this).toInt < tmM (I 391 this).toInt (I 393 this).toInt := tm_lt (by omega) (by omega) (by omega)
              refine pk_v (va_runV (As := []) (rest := []) ⟨hx, hb, hml, hown, hts⟩ (s_X12_whole l D t σ I_354 J_355 ri_334 rj rq H.size tg hSH hG.1 this hL_this hK_this this_a hR_this_a hL_this_a hK_this_a hN_this_a hT_this_a this_pile hR_this_pile hL_this_pile hK_this_pile hN_this_pile hT_this_pile bb f0 fr ba tb nn K (by assumption)) (cwV 0 hts (tw_V tw_909 tw_910 tw_911 tw_5 tw_912) rfl rfl rfl cv_yX12_whole_0 ⟨Nat.le_of_ble_eq_true rfl, Nat.le_of_ble_eq_true rfl⟩) ⟨pq_blind, pq_recv hK hP hL_this hK_this (by decide) rfl, pq_pre hK hN hP hD⟩ rfl rfl hl.1 rfl (lv_room (Nat.le_of_ble_eq_true rfl)) dX12_beginOne_76 ⟨Nat.le_of_ble_eq_true rfl, Nat.le_of_ble_eq_true rfl⟩) hD hS hA (fun σ1 μ1 H locs hw_372 hP hD hS => ?_)
              obtain ⟨I_373, ri_374, hu_375, hg_376, hp_378, hp_379⟩ := hw_372
              obtain ⟨hu_375a, hu_375b⟩ := Prod.mk.inj hu_375
              rw [hu_375a, hu_375b] at hP hD
              have tt_380 := hp_379
              have hG := GM.tr hG hg_376 (by decide)
              have tt_381 : (I_373 396 this).toInt = (I_354 396 this).toInt := by rw [hg_376.2.1 396 (by decide) (by decide)]
              have tt_382 : (I_373 391 this).toInt = (I_354 391 this).toInt := by rw [hg_376.2.1 391 (by decide) (by decide)]
              have tt_383 : (I_373 393 this).toInt = (I_354 393 this).toInt := by rw [hg_376.2.1 393 (by decide) (by decide)]
              have tt_384 : (I_373 397 this).toInt = (I_354 397 this).toInt := by rw [hg_376.2.1 397 (by decide) (by decide)]
              refine lv_iconst (v := 0) hx hb dX12_beginOne_79 (by decide) ?_
              subst hQ
              exact W.iret (v := 0) hx hb hr (fun t1 ht hW => ⟨⟨0, (σ, I_373, J_355, ri_374, rj, rq), rfl, ⟨I_373, J_355, ri_374, rfl, hG, (Or.inr ⟨(by rw [show (I_373 403 this).toInt = 1 from by omega]; exact hp_378), tm_cg htm (by omega) (by omega) rfl rfl⟩), (rg_w (rg_k (0 : Int32) 0 rfl) (by decide))⟩, by rw [ht]; exact hP, va_K.moved hW.alike hK, hD⟩, hS.F ht⟩) hS.2.2 dX12_beginOne_80
    · have tc_385 : (I 393 this).toInt = 1 := congrArg Int32.toInt c_1
      have h_386 : rg (I 393 this) 1 1 := rg_and (rg_full _) (rg_of_eq c_1 (rg_k (1 : Int32) 1 rfl)) (by decide)
      have uh_386 := h_386.1
      have vh_386 := h_386.2
      refine lv_aload_n hx hb dX12_beginOne_8 rfl (lv_at hl 0 rfl) ?_
      refine pg_f (v := .int (I 394 this)) (C := RX12) (T := TX12) (N := 31) hx hb hts (tw_i inlX12) hown hK hP hL_this hK_this (by decide) rfl 10 (by decide) (hts _ (tw_c tw_836)) rfl dX12_beginOne_9 ?_
      refine lv_sipush (v := 9999) hx hb dX12_beginOne_12 (by decide) ?_
      refine lv_icmp_le (tgt := 20) hx hb dX12_beginOne_15 (by decide) (fun c_387 => ?_) (fun c_387 => ?_)
      · have tc_388 : (I 394 this).toInt ≤ 9999 := Int32.le_iff_toInt_le.mp c_387
        have h_389 : rg (I 394 this) (-2147483648) 9999 := rg_le1 c_387 (rg_full _) (rg_k (9999 : Int32) 9999 rfl) (by decide)
        have uh_389 := h_389.1
        have vh_389 := h_389.2
        refine lv_aload_n hx hb dX12_beginOne_20 rfl (lv_at hl 0 rfl) ?_
        refine pg_f (v := .int (I 393 this)) (C := RX12) (T := TX12) (N := 31) hx hb hts (tw_i inlX12) hown hK hP hL_this hK_this (by decide) rfl 9 (by decide) (hts _ (tw_c tw_831)) rfl dX12_beginOne_21 ?_
        refine lv_iconst (v := 1) hx hb dX12_beginOne_24 (by decide) ?_
        refine lv_icmp_eq (tgt := 35) hx hb dX12_beginOne_25 (by decide) (fun c_390 => ?_) (fun c_390 => ?_)
        · have tc_391 : (I 393 this).toInt = 1 := congrArg Int32.toInt c_390
          refine lv_aload_n hx hb dX12_beginOne_35 rfl (lv_at hl 0 rfl) ?_
          refine lv_aload_n hx hb dX12_beginOne_36 rfl (lv_at hl 0 rfl) ?_
          refine pg_f (v := .int (I 393 this)) (C := RX12) (T := TX12) (N := 31) hx hb hts (tw_i inlX12) hown hK hP hL_this hK_this (by decide) rfl 9 (by decide) (hts _ (tw_c tw_831)) rfl dX12_beginOne_37 ?_
          refine lv_iconst (v := 1) hx hb dX12_beginOne_40 (by decide) ?_
          refine lv_icmp_ne (tgt := 48) hx hb dX12_beginOne_41 (by decide) (fun c_392 => ?_) (fun c_392 => ?_)
          · have tc_393 : (I 393 this).toInt ≠ 1 := fun q => c_392 (Int32.toInt_inj.mp q)
            exact (rg_empty (rg_ne c_392 h_386 1 rfl (lo := 2) (hi := 0) (by decide)) (by decide)).elim
          · have tc_394 : (I 393 this).toInt = 1 := congrArg Int32.toInt c_392
            refine lv_iconst (v := 0) hx hb dX12_beginOne_44 (by decide) ?_
            refine lv_goto (tgt := 49) hx hb dX12_beginOne_45 (by decide) ?_
            refine lv_aload_n hx hb dX12_beginOne_49 rfl (lv_at hl 0 rfl) ?_
            refine pg_f (v := .int (I 393 this)) (C := RX12) (T := TX12) (N := 31) hx hb hts (tw_i inlX12) hown hK hP hL_this hK_this (by decide) rfl 9 (by decide) (hts _ (tw_c tw_831)) rfl dX12_beginOne_50 ?_
            refine lv_iconst (v := 1) hx hb dX12_beginOne_53 (by decide) ?_
            refine lv_icmp_ne (tgt := 64) hx hb dX12_beginOne_54 (by decide) (fun c_395 => ?_) (fun c_395 => ?_)
            · have tc_396 : (I 393 this).toInt ≠ 1 := fun q => c_395 (Int32.toInt_inj.mp q)
              exact (rg_empty (rg_ne c_395 h_386 1 rfl (lo := 2) (hi := 0) (by decide)) (by decide)).elim
            · have tc_397 : (I 393 this).toInt = 1 := congrArg Int32.toInt c_395
              refine lv_aload_n hx hb dX12_beginOne_57 rfl (lv_at hl 0 rfl) ?_
              refine pg_f (v := .int (I 394 this)) (C := RX12) (T := TX12) (N := 31) hx hb hts (tw_i inlX12) hown hK hP hL_this hK_this (by decide) rfl 10 (by decide) (hts _ (tw_c tw_836)) rfl dX12_beginOne_58 ?_
              refine lv_goto (tgt := 68) hx hb dX12_beginOne_61 (by decide) ?_
              have hq1 := PSz_t hps
              have hq2 := PSz_w hps (Or.inl (by omega))
              refine pk_v (va_runV (As := [.int 0, .int (I 394 this)]) (rest := []) ⟨hx, hb, hml, hown, hts⟩ (s_X12_emit l D t σ I J ri rj rq H.size tg hSH hG.1 this (0 : Int32) (I 394 this) hL_this hK_this this_a hR_this_a hL_this_a hK_this_a hN_this_a hT_this_a (by omega) (by omega)) (cwV 2 hts (tw_V tw_905 tw_906 tw_907 tw_5 tw_908) rfl rfl rfl cv_yX12_emit_2 ⟨Nat.le_of_ble_eq_true rfl, Nat.le_of_ble_eq_true rfl⟩) ⟨pq_blind, pq_recv hK hP hL_this hK_this (by decide) rfl, pq_pre hK hN hP hD⟩ rfl rfl hl.1 rfl (lv_room (Nat.le_of_ble_eq_true rfl)) dX12_beginOne_68 ⟨Nat.le_of_ble_eq_true rfl, Nat.le_of_ble_eq_true rfl⟩) hD hS hA (fun σ1 μ1 H locs hw_399 hP hD hS => ?_)
              obtain ⟨I_400, ri_401, hu_402, hg_403, hp_405, hp_406, hp_407, hp_408⟩ := hw_399
              obtain ⟨hu_402a, hu_402b⟩ := Prod.mk.inj hu_402
              rw [hu_402a, hu_402b] at hP hD
              obtain ⟨v_409, ev_409, hv_409⟩ := hp_405
              have tt_410 : (I_400 398 this).toInt = (I 398 this).toInt + 1 := by rw [ev_409, pq_us]; exact hv_409
              have tt_411 : (I_400 403 this).toInt = (I 403 this).toInt := by rw [ev_409, pq_uf _ _ _ (by decide)]
              have hG := GM.tr hG hg_403 (by decide)
              have tt_412 : (I_400 396 this).toInt = (I 396 this).toInt := by rw [hg_403.2.1 396 (by decide) (by decide)]
              have tt_413 : (I_400 401 this).toInt = (I 401 this).toInt := by rw [hg_403.2.1 401 (by decide) (by decide)]
              have tt_414 : (I_400 402 this).toInt = (I 402 this).toInt := by rw [hg_403.2.1 402 (by decide) (by decide)]
              have tt_415 : (I_400 391 this).toInt = (I 391 this).toInt := by rw [hg_403.2.1 391 (by decide) (by decide)]
              have tt_416 : (I_400 393 this).toInt = (I 393 this).toInt := by rw [hg_403.2.1 393 (by decide) (by decide)]
              have tt_417 : (I_400 397 this).toInt = (I 397 this).toInt := by rw [hg_403.2.1 397 (by decide) (by decide)]
              refine lv_aload_n hx hb dX12_beginOne_71 rfl (lv_at hl 0 rfl) ?_
              obtain ⟨w_418, hR_w_418, hL_w_418, hK_w_418, hN_w_418, hT_w_418⟩ := sh_a hSH 387 (ci := 12) (kd := 13) (len := 300) rfl (by decide) hL_this hK_this
              refine pk_v (va_runV (As := []) (rest := []) ⟨hx, hb, hml, hown, hts⟩ (s_X12_nextToken_x l D t σ I_400 J ri_401 rj rq H.size tg hSH hG.1 this hL_this hK_this w_418 hR_w_418 hL_w_418 hK_w_418 hN_w_418 hT_w_418) (cwV 0 hts (tw_V tw_832 tw_833 tw_834 tw_5 tw_835) rfl rfl rfl cv_yX12_nextToken_0 ⟨Nat.le_of_ble_eq_true rfl, Nat.le_of_ble_eq_true rfl⟩) ⟨pq_blind, pq_recv hK hP hL_this hK_this (by decide) rfl, pq_pre hK hN hP hD⟩ rfl rfl hl.1 rfl (lv_room (Nat.le_of_ble_eq_true rfl)) dX12_beginOne_72 ⟨Nat.le_of_ble_eq_true rfl, Nat.le_of_ble_eq_true rfl⟩) hD hS hA (fun σ1 μ1 H locs hw_420 hP hD hS => ?_)
              obtain ⟨I_421, J_422, hu_423, hg_424, hp_426, hp_427, hp_428⟩ := hw_420
              obtain ⟨hu_423a, hu_423b⟩ := Prod.mk.inj hu_423
              rw [hu_423a, hu_423b] at hP hD
              have tt_429 := hp_426
              have tt_430 := hp_427
              have tt_431 := hp_428
              have tt_432 : (I_421 391 this).toInt ≤ 300 := by have z := hg_424.1.1 391 this; exact z.2
              have hG := GM.tr hG hg_424 (by decide)
              have tt_433 : (I_421 396 this).toInt = (I_400 396 this).toInt := by rw [hg_424.2.1 396 (by decide) (by decide)]
              have tt_434 : (I_421 398 this).toInt = (I_400 398 this).toInt := by rw [hg_424.2.1 398 (by decide) (by decide)]
              have tt_435 : (I_421 401 this).toInt = (I_400 401 this).toInt := by rw [hg_424.2.1 401 (by decide) (by decide)]
              have tt_436 : (I_421 402 this).toInt = (I_400 402 this).toInt := by rw [hg_424.2.1 402 (by decide) (by decide)]
              have tt_437 : (I_421 397 this).toInt = (I_400 397 this).toInt := by rw [hg_424.2.1 397 (by decide) (by decide)]
              refine lv_aload_n hx hb dX12_beginOne_75 rfl (lv_at hl 0 rfl) ?_
              have hpsW : PSz (I_421 396 this).toInt (I_421 398 this).toInt (I_421 401 this).toInt (I_421 402 this).toInt (I_421 391 this).toInt (I_421 393 this).toInt (ri_401 this_a) (ri_401 this_pile) bb f0 fr ba tb nn K 1 := PSz_one hps (by omega) (x := (0 : Int32)) (fun j hj => hp_406 j (by omega)) (by rw [show (I 396 this).toInt + 250 + 2 * (I 398 this).toInt = (I 396 this).toInt + 250 + 2 * (I 398 this).toInt from by omega]; exact hp_407) (by decide) (by omega) (by omega) (by omega) (by omega) (by omega) (by omega) (by omega) (hp_408 this_pile (tg_ne hT_this_pile hT_this_a (by decide)))
              have htm : tmM (I_421 391 this).toInt (I_421 393 this).toInt < tmM (I 391 this).toInt (I 393 this).toInt := tm_lt (by omega) (by omega) (by omega)
              refine pk_v (va_runV (As := []) (rest := []) ⟨hx, hb, hml, hown, hts⟩ (s_X12_whole l D t σ I_421 J_422 ri_401 rj rq H.size tg hSH hG.1 this hL_this hK_this this_a hR_this_a hL_this_a hK_this_a hN_this_a hT_this_a this_pile hR_this_pile hL_this_pile hK_this_pile hN_this_pile hT_this_pile bb f0 fr ba tb nn K (by assumption)) (cwV 0 hts (tw_V tw_909 tw_910 tw_911 tw_5 tw_912) rfl rfl rfl cv_yX12_whole_0 ⟨Nat.le_of_ble_eq_true rfl, Nat.le_of_ble_eq_true rfl⟩) ⟨pq_blind, pq_recv hK hP hL_this hK_this (by decide) rfl, pq_pre hK hN hP hD⟩ rfl rfl hl.1 rfl (lv_room (Nat.le_of_ble_eq_true rfl)) dX12_beginOne_76 ⟨Nat.le_of_ble_eq_true rfl, Nat.le_of_ble_eq_true rfl⟩) hD hS hA (fun σ1 μ1 H locs hw_439 hP hD hS => ?_)
              obtain ⟨I_440, ri_441, hu_442, hg_443, hp_445, hp_446⟩ := hw_439
              obtain ⟨hu_442a, hu_442b⟩ := Prod.mk.inj hu_442
              rw [hu_442a, hu_442b] at hP hD
              have tt_447 := hp_446
              have hG := GM.tr hG hg_443 (by decide)
              have tt_448 : (I_440 396 this).toInt = (I_421 396 this).toInt := by rw [hg_443.2.1 396 (by decide) (by decide)]
              have tt_449 : (I_440 391 this).toInt = (I_421 391 this).toInt := by rw [hg_443.2.1 391 (by decide) (by decide)]
              have tt_450 : (I_440 393 this).toInt = (I_421 393 this).toInt := by rw [hg_443.2.1 393 (by decide) (by decide)]
              have tt_451 : (I_440 397 this).toInt = (I_421 397 this).toInt := by rw [hg_443.2.1 397 (by decide) (by decide)]
              refine lv_iconst (v := 0) hx hb dX12_beginOne_79 (by decide) ?_
              subst hQ
              exact W.iret (v := 0) hx hb hr (fun t1 ht hW => ⟨⟨0, (σ, I_440, J_422, ri_441, rj, rq), rfl, ⟨I_440, J_422, ri_441, rfl, hG, (Or.inr ⟨(by rw [show (I_440 403 this).toInt = 1 from by omega]; exact hp_445), tm_cg htm (by omega) (by omega) rfl rfl⟩), (rg_w (rg_k (0 : Int32) 0 rfl) (by decide))⟩, by rw [ht]; exact hP, va_K.moved hW.alike hK, hD⟩, hS.F ht⟩) hS.2.2 dX12_beginOne_80
        · have tc_452 : (I 393 this).toInt ≠ 1 := fun q => c_390 (Int32.toInt_inj.mp q)
          exact (rg_empty (rg_ne c_390 h_386 1 rfl (lo := 2) (hi := 0) (by decide)) (by decide)).elim
      · have tc_453 : 9999 < (I 394 this).toInt := Int32.lt_iff_toInt_lt.mp (nle c_387)
        have h_454 : rg (I 394 this) 10000 2147483647 := rg_lt2 (nle c_387) (rg_k (9999 : Int32) 9999 rfl) (rg_full _) (by decide)
        have uh_454 := h_454.1
        have vh_454 := h_454.2
        refine lv_iconst (v := 2) hx hb dX12_beginOne_18 (by decide) ?_
        subst hQ
        exact W.iret (v := 2) hx hb hr (fun t1 ht hW => ⟨⟨2, (σ, I, J, ri, rj, rq), rfl, ⟨I, J, ri, rfl, hG, (Or.inl (by decide)), (rg_w (rg_k (2 : Int32) 2 rfl) (by decide))⟩, by rw [ht]; exact hP, va_K.moved hW.alike hK, hD⟩, hS.F ht⟩) hS.2.2 dX12_beginOne_19
  exact go _ _ _ hP hD hS hl
