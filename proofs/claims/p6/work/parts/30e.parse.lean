theorem dX12_isWord_0 : decode cX12_isWord 0 = .ok (.aload_n 0, 1) := oc_42 (by decide +kernel)
theorem dX12_isWord_1 : decode cX12_isWord 1 = .ok (.getfield 143, 3) := oc_180 (a := 0) (b := 143) (by decide +kernel)
theorem dX12_isWord_4 : decode cX12_isWord 4 = .ok (.iconst 2, 1) := oc_5 (by decide +kernel)
theorem dX12_isWord_5 : decode cX12_isWord 5 = .ok (.if_icmp .ne 16, 3) := oc_160 (a := 0) (b := 16) (by decide +kernel)
theorem dX12_isWord_21 : decode cX12_isWord 21 = .ok (.iconst 0, 1) := oc_3 (by decide +kernel)
theorem dX12_isWord_22 : decode cX12_isWord 22 = .ok (.ireturn, 1) := oc_172 (by decide +kernel)
theorem dX12_isWord_8 : decode cX12_isWord 8 = .ok (.aload_n 0, 1) := oc_42 (by decide +kernel)
theorem dX12_isWord_9 : decode cX12_isWord 9 = .ok (.getfield 156, 3) := oc_180 (a := 0) (b := 156) (by decide +kernel)
theorem dX12_isWord_12 : decode cX12_isWord 12 = .ok (.lload_n 1, 1) := oc_31 (by decide +kernel)
theorem dX12_isWord_13 : decode cX12_isWord 13 = .ok (.lcmp, 1) := oc_148 (by decide +kernel)
theorem dX12_isWord_14 : decode cX12_isWord 14 = .ok (.ifCond .ne 7, 3) := oc_154 (a := 0) (b := 7) (by decide +kernel)
theorem dX12_isWord_17 : decode cX12_isWord 17 = .ok (.iconst 1, 1) := oc_4 (by decide +kernel)
theorem dX12_isWord_18 : decode cX12_isWord 18 = .ok (.goto 4, 3) := oc_167 (a := 0) (b := 4) (by decide +kernel)
theorem dX12_nameOf_0 : decode cX12_nameOf 0 = .ok (.aload_n 0, 1) := oc_42 (by decide +kernel)
theorem dX12_nameOf_1 : decode cX12_nameOf 1 = .ok (.getfield 143, 3) := oc_180 (a := 0) (b := 143) (by decide +kernel)
theorem dX12_nameOf_4 : decode cX12_nameOf 4 = .ok (.iconst 2, 1) := oc_5 (by decide +kernel)
theorem dX12_nameOf_5 : decode cX12_nameOf 5 = .ok (.if_icmp .eq 5, 3) := oc_159 (a := 0) (b := 5) (by decide +kernel)
theorem dX12_nameOf_10 : decode cX12_nameOf 10 = .ok (.aload_n 0, 1) := oc_42 (by decide +kernel)
theorem dX12_nameOf_11 : decode cX12_nameOf 11 = .ok (.getfield 156, 3) := oc_180 (a := 0) (b := 156) (by decide +kernel)
theorem dX12_nameOf_14 : decode cX12_nameOf 14 = .ok (.bipush 97, 2) := oc_16 (a := 97) (by decide +kernel)
theorem dX12_nameOf_16 : decode cX12_nameOf 16 = .ok (.bipush 103, 2) := oc_16 (a := 103) (by decide +kernel)
theorem dX12_nameOf_18 : decode cX12_nameOf 18 = .ok (.bipush 101, 2) := oc_16 (a := 101) (by decide +kernel)
theorem dX12_nameOf_20 : decode cX12_nameOf 20 = .ok (.invokestatic 160, 3) := oc_184 (a := 0) (b := 160) (by decide +kernel)
theorem dX12_nameOf_23 : decode cX12_nameOf 23 = .ok (.lcmp, 1) := oc_148 (by decide +kernel)
theorem dX12_nameOf_24 : decode cX12_nameOf 24 = .ok (.ifCond .ne 5, 3) := oc_154 (a := 0) (b := 5) (by decide +kernel)
theorem dX12_nameOf_29 : decode cX12_nameOf 29 = .ok (.aload_n 0, 1) := oc_42 (by decide +kernel)
theorem dX12_nameOf_30 : decode cX12_nameOf 30 = .ok (.getfield 156, 3) := oc_180 (a := 0) (b := 156) (by decide +kernel)
theorem dX12_nameOf_33 : decode cX12_nameOf 33 = .ok (.bipush 107, 2) := oc_16 (a := 107) (by decide +kernel)
theorem dX12_nameOf_35 : decode cX12_nameOf 35 = .ok (.bipush 105, 2) := oc_16 (a := 105) (by decide +kernel)
theorem dX12_nameOf_37 : decode cX12_nameOf 37 = .ok (.bipush 110, 2) := oc_16 (a := 110) (by decide +kernel)
theorem dX12_nameOf_39 : decode cX12_nameOf 39 = .ok (.invokestatic 160, 3) := oc_184 (a := 0) (b := 160) (by decide +kernel)
theorem dX12_nameOf_42 : decode cX12_nameOf 42 = .ok (.lcmp, 1) := oc_148 (by decide +kernel)
theorem dX12_nameOf_43 : decode cX12_nameOf 43 = .ok (.ifCond .ne 5, 3) := oc_154 (a := 0) (b := 5) (by decide +kernel)
theorem dX12_nameOf_48 : decode cX12_nameOf 48 = .ok (.aload_n 0, 1) := oc_42 (by decide +kernel)
theorem dX12_nameOf_49 : decode cX12_nameOf 49 = .ok (.getfield 156, 3) := oc_180 (a := 0) (b := 156) (by decide +kernel)
theorem dX12_nameOf_52 : decode cX12_nameOf 52 = .ok (.bipush 99, 2) := oc_16 (a := 99) (by decide +kernel)
theorem dX12_nameOf_54 : decode cX12_nameOf 54 = .ok (.bipush 114, 2) := oc_16 (a := 114) (by decide +kernel)
theorem dX12_nameOf_56 : decode cX12_nameOf 56 = .ok (.bipush 97, 2) := oc_16 (a := 97) (by decide +kernel)
theorem dX12_nameOf_58 : decode cX12_nameOf 58 = .ok (.bipush 102, 2) := oc_16 (a := 102) (by decide +kernel)
theorem dX12_nameOf_60 : decode cX12_nameOf 60 = .ok (.bipush 116, 2) := oc_16 (a := 116) (by decide +kernel)
theorem dX12_nameOf_62 : decode cX12_nameOf 62 = .ok (.invokestatic 168, 3) := oc_184 (a := 0) (b := 168) (by decide +kernel)
theorem dX12_nameOf_65 : decode cX12_nameOf 65 = .ok (.lcmp, 1) := oc_148 (by decide +kernel)
theorem dX12_nameOf_66 : decode cX12_nameOf 66 = .ok (.ifCond .ne 5, 3) := oc_154 (a := 0) (b := 5) (by decide +kernel)
theorem dX12_nameOf_71 : decode cX12_nameOf 71 = .ok (.aload_n 0, 1) := oc_42 (by decide +kernel)
theorem dX12_nameOf_72 : decode cX12_nameOf 72 = .ok (.getfield 156, 3) := oc_180 (a := 0) (b := 156) (by decide +kernel)
theorem dX12_nameOf_75 : decode cX12_nameOf 75 = .ok (.bipush 112, 2) := oc_16 (a := 112) (by decide +kernel)
theorem dX12_nameOf_77 : decode cX12_nameOf 77 = .ok (.bipush 108, 2) := oc_16 (a := 108) (by decide +kernel)
theorem dX12_nameOf_79 : decode cX12_nameOf 79 = .ok (.bipush 97, 2) := oc_16 (a := 97) (by decide +kernel)
theorem dX12_nameOf_81 : decode cX12_nameOf 81 = .ok (.bipush 99, 2) := oc_16 (a := 99) (by decide +kernel)
theorem dX12_nameOf_83 : decode cX12_nameOf 83 = .ok (.bipush 101, 2) := oc_16 (a := 101) (by decide +kernel)
theorem dX12_nameOf_85 : decode cX12_nameOf 85 = .ok (.invokestatic 168, 3) := oc_184 (a := 0) (b := 168) (by decide +kernel)
theorem dX12_nameOf_88 : decode cX12_nameOf 88 = .ok (.lcmp, 1) := oc_148 (by decide +kernel)
theorem dX12_nameOf_89 : decode cX12_nameOf 89 = .ok (.ifCond .ne 5, 3) := oc_154 (a := 0) (b := 5) (by decide +kernel)
theorem dX12_nameOf_94 : decode cX12_nameOf 94 = .ok (.aload_n 0, 1) := oc_42 (by decide +kernel)
theorem dX12_nameOf_95 : decode cX12_nameOf 95 = .ok (.getfield 156, 3) := oc_180 (a := 0) (b := 156) (by decide +kernel)
theorem dX12_nameOf_98 : decode cX12_nameOf 98 = .ok (.bipush 109, 2) := oc_16 (a := 109) (by decide +kernel)
theorem dX12_nameOf_100 : decode cX12_nameOf 100 = .ok (.bipush 111, 2) := oc_16 (a := 111) (by decide +kernel)
theorem dX12_nameOf_102 : decode cX12_nameOf 102 = .ok (.bipush 110, 2) := oc_16 (a := 110) (by decide +kernel)
theorem dX12_nameOf_104 : decode cX12_nameOf 104 = .ok (.bipush 116, 2) := oc_16 (a := 116) (by decide +kernel)
theorem dX12_nameOf_106 : decode cX12_nameOf 106 = .ok (.bipush 104, 2) := oc_16 (a := 104) (by decide +kernel)
theorem dX12_nameOf_108 : decode cX12_nameOf 108 = .ok (.invokestatic 168, 3) := oc_184 (a := 0) (b := 168) (by decide +kernel)
theorem dX12_nameOf_111 : decode cX12_nameOf 111 = .ok (.lcmp, 1) := oc_148 (by decide +kernel)
theorem dX12_nameOf_112 : decode cX12_nameOf 112 = .ok (.ifCond .ne 7, 3) := oc_154 (a := 0) (b := 7) (by decide +kernel)
theorem dX12_nameOf_119 : decode cX12_nameOf 119 = .ok (.aload_n 0, 1) := oc_42 (by decide +kernel)
theorem dX12_nameOf_120 : decode cX12_nameOf 120 = .ok (.getfield 156, 3) := oc_180 (a := 0) (b := 156) (by decide +kernel)
theorem dX12_nameOf_123 : decode cX12_nameOf 123 = .ok (.bipush 117, 2) := oc_16 (a := 117) (by decide +kernel)
theorem dX12_nameOf_125 : decode cX12_nameOf 125 = .ok (.bipush 110, 2) := oc_16 (a := 110) (by decide +kernel)
theorem dX12_nameOf_127 : decode cX12_nameOf 127 = .ok (.bipush 100, 2) := oc_16 (a := 100) (by decide +kernel)
theorem dX12_nameOf_129 : decode cX12_nameOf 129 = .ok (.bipush 101, 2) := oc_16 (a := 101) (by decide +kernel)
theorem dX12_nameOf_131 : decode cX12_nameOf 131 = .ok (.bipush 114, 2) := oc_16 (a := 114) (by decide +kernel)
theorem dX12_nameOf_133 : decode cX12_nameOf 133 = .ok (.invokestatic 168, 3) := oc_184 (a := 0) (b := 168) (by decide +kernel)
theorem dX12_nameOf_136 : decode cX12_nameOf 136 = .ok (.lcmp, 1) := oc_148 (by decide +kernel)
theorem dX12_nameOf_137 : decode cX12_nameOf 137 = .ok (.ifCond .ne 7, 3) := oc_154 (a := 0) (b := 7) (by decide +kernel)
theorem dX12_nameOf_144 : decode cX12_nameOf 144 = .ok (.iconst (-1), 1) := oc_2 (by decide +kernel)
theorem dX12_nameOf_145 : decode cX12_nameOf 145 = .ok (.ireturn, 1) := oc_172 (by decide +kernel)
theorem dX12_nameOf_140 : decode cX12_nameOf 140 = .ok (.iconst 5, 1) := oc_8 (by decide +kernel)
theorem dX12_nameOf_141 : decode cX12_nameOf 141 = .ok (.goto 4, 3) := oc_167 (a := 0) (b := 4) (by decide +kernel)
theorem dX12_nameOf_115 : decode cX12_nameOf 115 = .ok (.iconst 4, 1) := oc_7 (by decide +kernel)
theorem dX12_nameOf_116 : decode cX12_nameOf 116 = .ok (.goto 29, 3) := oc_167 (a := 0) (b := 29) (by decide +kernel)
theorem dX12_nameOf_92 : decode cX12_nameOf 92 = .ok (.iconst 3, 1) := oc_6 (by decide +kernel)
theorem dX12_nameOf_93 : decode cX12_nameOf 93 = .ok (.ireturn, 1) := oc_172 (by decide +kernel)
theorem dX12_nameOf_69 : decode cX12_nameOf 69 = .ok (.iconst 2, 1) := oc_5 (by decide +kernel)
theorem dX12_nameOf_70 : decode cX12_nameOf 70 = .ok (.ireturn, 1) := oc_172 (by decide +kernel)
theorem dX12_nameOf_46 : decode cX12_nameOf 46 = .ok (.iconst 1, 1) := oc_4 (by decide +kernel)
theorem dX12_nameOf_47 : decode cX12_nameOf 47 = .ok (.ireturn, 1) := oc_172 (by decide +kernel)
theorem dX12_nameOf_27 : decode cX12_nameOf 27 = .ok (.iconst 0, 1) := oc_3 (by decide +kernel)
theorem dX12_nameOf_28 : decode cX12_nameOf 28 = .ok (.ireturn, 1) := oc_172 (by decide +kernel)
theorem dX12_nameOf_8 : decode cX12_nameOf 8 = .ok (.iconst (-1), 1) := oc_2 (by decide +kernel)
theorem dX12_nameOf_9 : decode cX12_nameOf 9 = .ok (.ireturn, 1) := oc_172 (by decide +kernel)
theorem dX12_emit_0 : decode cX12_emit 0 = .ok (.aload_n 0, 1) := oc_42 (by decide +kernel)
theorem tw_176 : Cond.fieldLink RX12 7 "RingsUnderModel" "a" "[I" ∈ wsL_law := sg_8 _ (List.mem_of_getElem? (i := 8) rfl)
theorem dX12_emit_1 : decode cX12_emit 1 = .ok (.getfield 7, 3) := oc_180 (a := 0) (b := 7) (by decide +kernel)
theorem dX12_emit_4 : decode cX12_emit 4 = .ok (.aload_n 0, 1) := oc_42 (by decide +kernel)
theorem tw_821 : Cond.fieldLink RX12 172 "RingsUnderModel" "text0" "I" ∈ wsL_law := sg_35 _ (List.mem_of_getElem? (i := 5) rfl)
theorem dX12_emit_5 : decode cX12_emit 5 = .ok (.getfield 172, 3) := oc_180 (a := 0) (b := 172) (by decide +kernel)
theorem dX12_emit_8 : decode cX12_emit 8 = .ok (.sipush 250, 3) := oc_17 (a := 0) (b := 250) (by decide +kernel)
theorem dX12_emit_11 : decode cX12_emit 11 = .ok (.iadd, 1) := oc_96 (by decide +kernel)
theorem dX12_emit_12 : decode cX12_emit 12 = .ok (.iconst 2, 1) := oc_5 (by decide +kernel)
theorem dX12_emit_13 : decode cX12_emit 13 = .ok (.aload_n 0, 1) := oc_42 (by decide +kernel)
theorem tw_827 : Cond.fieldLink RX12 175 "RingsUnderModel" "written" "I" ∈ wsL_law := sg_35 _ (List.mem_of_getElem? (i := 11) rfl)
theorem dX12_emit_14 : decode cX12_emit 14 = .ok (.getfield 175, 3) := oc_180 (a := 0) (b := 175) (by decide +kernel)
theorem dX12_emit_17 : decode cX12_emit 17 = .ok (.imul, 1) := oc_104 (by decide +kernel)
theorem dX12_emit_18 : decode cX12_emit 18 = .ok (.iadd, 1) := oc_96 (by decide +kernel)
theorem dX12_emit_19 : decode cX12_emit 19 = .ok (.iload_n 1, 1) := oc_27 (by decide +kernel)
theorem dX12_emit_20 : decode cX12_emit 20 = .ok (.iastore, 1) := oc_79 (by decide +kernel)
theorem dX12_emit_21 : decode cX12_emit 21 = .ok (.aload_n 0, 1) := oc_42 (by decide +kernel)
theorem dX12_emit_22 : decode cX12_emit 22 = .ok (.getfield 7, 3) := oc_180 (a := 0) (b := 7) (by decide +kernel)
theorem dX12_emit_25 : decode cX12_emit 25 = .ok (.aload_n 0, 1) := oc_42 (by decide +kernel)
theorem dX12_emit_26 : decode cX12_emit 26 = .ok (.getfield 172, 3) := oc_180 (a := 0) (b := 172) (by decide +kernel)
theorem dX12_emit_29 : decode cX12_emit 29 = .ok (.sipush 250, 3) := oc_17 (a := 0) (b := 250) (by decide +kernel)
theorem dX12_emit_32 : decode cX12_emit 32 = .ok (.iadd, 1) := oc_96 (by decide +kernel)
theorem dX12_emit_33 : decode cX12_emit 33 = .ok (.iconst 2, 1) := oc_5 (by decide +kernel)
theorem dX12_emit_34 : decode cX12_emit 34 = .ok (.aload_n 0, 1) := oc_42 (by decide +kernel)
theorem dX12_emit_35 : decode cX12_emit 35 = .ok (.getfield 175, 3) := oc_180 (a := 0) (b := 175) (by decide +kernel)
theorem dX12_emit_38 : decode cX12_emit 38 = .ok (.imul, 1) := oc_104 (by decide +kernel)
theorem dX12_emit_39 : decode cX12_emit 39 = .ok (.iadd, 1) := oc_96 (by decide +kernel)
theorem dX12_emit_40 : decode cX12_emit 40 = .ok (.iconst 1, 1) := oc_4 (by decide +kernel)
theorem dX12_emit_41 : decode cX12_emit 41 = .ok (.iadd, 1) := oc_96 (by decide +kernel)
theorem dX12_emit_42 : decode cX12_emit 42 = .ok (.iload_n 2, 1) := oc_28 (by decide +kernel)
theorem dX12_emit_43 : decode cX12_emit 43 = .ok (.iastore, 1) := oc_79 (by decide +kernel)
theorem dX12_emit_44 : decode cX12_emit 44 = .ok (.aload_n 0, 1) := oc_42 (by decide +kernel)
theorem dX12_emit_45 : decode cX12_emit 45 = .ok (.dup, 1) := oc_89 (by decide +kernel)
theorem dX12_emit_46 : decode cX12_emit 46 = .ok (.getfield 175, 3) := oc_180 (a := 0) (b := 175) (by decide +kernel)
theorem dX12_emit_49 : decode cX12_emit 49 = .ok (.iconst 1, 1) := oc_4 (by decide +kernel)
theorem dX12_emit_50 : decode cX12_emit 50 = .ok (.iadd, 1) := oc_96 (by decide +kernel)
theorem dX12_emit_51 : decode cX12_emit 51 = .ok (.putfield 175, 3) := oc_181 (a := 0) (b := 175) (by decide +kernel)
theorem dX12_emit_54 : decode cX12_emit 54 = .ok (.return_, 1) := oc_177 (by decide +kernel)
theorem dX12_push_0 : decode cX12_push 0 = .ok (.aload_n 0, 1) := oc_42 (by decide +kernel)
theorem tw_182 : Cond.fieldLink RX12 29 "RingsUnderModel" "pile" "[I" ∈ wsL_law := sg_8 _ (List.mem_of_getElem? (i := 14) rfl)
theorem dX12_push_1 : decode cX12_push 1 = .ok (.getfield 29, 3) := oc_180 (a := 0) (b := 29) (by decide +kernel)
theorem dX12_push_4 : decode cX12_push 4 = .ok (.aload_n 0, 1) := oc_42 (by decide +kernel)
theorem tw_887 : Cond.fieldLink RX12 178 "RingsUnderModel" "piled" "I" ∈ wsL_law := sg_37 _ (List.mem_of_getElem? (i := 23) rfl)
theorem dX12_push_5 : decode cX12_push 5 = .ok (.getfield 178, 3) := oc_180 (a := 0) (b := 178) (by decide +kernel)
theorem dX12_push_8 : decode cX12_push 8 = .ok (.iload_n 1, 1) := oc_27 (by decide +kernel)
theorem dX12_push_9 : decode cX12_push 9 = .ok (.iastore, 1) := oc_79 (by decide +kernel)
theorem dX12_push_10 : decode cX12_push 10 = .ok (.aload_n 0, 1) := oc_42 (by decide +kernel)
theorem dX12_push_11 : decode cX12_push 11 = .ok (.dup, 1) := oc_89 (by decide +kernel)
theorem dX12_push_12 : decode cX12_push 12 = .ok (.getfield 178, 3) := oc_180 (a := 0) (b := 178) (by decide +kernel)
theorem dX12_push_15 : decode cX12_push 15 = .ok (.iconst 1, 1) := oc_4 (by decide +kernel)
theorem dX12_push_16 : decode cX12_push 16 = .ok (.iadd, 1) := oc_96 (by decide +kernel)
theorem dX12_push_17 : decode cX12_push 17 = .ok (.putfield 178, 3) := oc_181 (a := 0) (b := 178) (by decide +kernel)
theorem dX12_push_20 : decode cX12_push 20 = .ok (.return_, 1) := oc_177 (by decide +kernel)
theorem dX12_whole_0 : decode cX12_whole 0 = .ok (.aload_n 0, 1) := oc_42 (by decide +kernel)
theorem dX12_whole_1 : decode cX12_whole 1 = .ok (.iconst 1, 1) := oc_4 (by decide +kernel)
theorem tw_888 : Cond.fieldLink RX12 181 "RingsUnderModel" "isWhole" "Z" ∈ wsL_law := sg_38 _ (List.mem_of_getElem? (i := 0) rfl)
theorem dX12_whole_2 : decode cX12_whole 2 = .ok (.putfield 181, 3) := oc_181 (a := 0) (b := 181) (by decide +kernel)
theorem dX12_whole_5 : decode cX12_whole 5 = .ok (.aload_n 0, 1) := oc_42 (by decide +kernel)
theorem dX12_whole_6 : decode cX12_whole 6 = .ok (.getfield 178, 3) := oc_180 (a := 0) (b := 178) (by decide +kernel)
theorem dX12_whole_9 : decode cX12_whole 9 = .ok (.ifCond .le 47, 3) := oc_158 (a := 0) (b := 47) (by decide +kernel)
theorem dX12_whole_56 : decode cX12_whole 56 = .ok (.return_, 1) := oc_177 (by decide +kernel)
theorem dX12_whole_12 : decode cX12_whole 12 = .ok (.aload_n 0, 1) := oc_42 (by decide +kernel)
theorem dX12_whole_13 : decode cX12_whole 13 = .ok (.getfield 29, 3) := oc_180 (a := 0) (b := 29) (by decide +kernel)
theorem dX12_whole_16 : decode cX12_whole 16 = .ok (.aload_n 0, 1) := oc_42 (by decide +kernel)
theorem dX12_whole_17 : decode cX12_whole 17 = .ok (.getfield 178, 3) := oc_180 (a := 0) (b := 178) (by decide +kernel)
theorem dX12_whole_20 : decode cX12_whole 20 = .ok (.iconst 1, 1) := oc_4 (by decide +kernel)
theorem dX12_whole_21 : decode cX12_whole 21 = .ok (.isub, 1) := oc_100 (by decide +kernel)
theorem dX12_whole_22 : decode cX12_whole 22 = .ok (.iaload, 1) := oc_46 (by decide +kernel)
theorem dX12_whole_23 : decode cX12_whole 23 = .ok (.iconst 2, 1) := oc_5 (by decide +kernel)
theorem dX12_whole_24 : decode cX12_whole 24 = .ok (.if_icmp .ne 32, 3) := oc_160 (a := 0) (b := 32) (by decide +kernel)
theorem dX12_whole_27 : decode cX12_whole 27 = .ok (.aload_n 0, 1) := oc_42 (by decide +kernel)
theorem dX12_whole_28 : decode cX12_whole 28 = .ok (.dup, 1) := oc_89 (by decide +kernel)
theorem dX12_whole_29 : decode cX12_whole 29 = .ok (.getfield 178, 3) := oc_180 (a := 0) (b := 178) (by decide +kernel)
theorem dX12_whole_32 : decode cX12_whole 32 = .ok (.iconst 1, 1) := oc_4 (by decide +kernel)
theorem dX12_whole_33 : decode cX12_whole 33 = .ok (.isub, 1) := oc_100 (by decide +kernel)
theorem dX12_whole_34 : decode cX12_whole 34 = .ok (.putfield 178, 3) := oc_181 (a := 0) (b := 178) (by decide +kernel)
theorem dX12_whole_37 : decode cX12_whole 37 = .ok (.aload_n 0, 1) := oc_42 (by decide +kernel)
theorem dX12_whole_38 : decode cX12_whole 38 = .ok (.dup, 1) := oc_89 (by decide +kernel)
theorem tw_828 : Cond.fieldLink RX12 185 "RingsUnderModel" "opens" "I" ∈ wsL_law := sg_35 _ (List.mem_of_getElem? (i := 12) rfl)
theorem dX12_whole_39 : decode cX12_whole 39 = .ok (.getfield 185, 3) := oc_180 (a := 0) (b := 185) (by decide +kernel)
theorem dX12_whole_42 : decode cX12_whole 42 = .ok (.iconst 1, 1) := oc_4 (by decide +kernel)
theorem dX12_whole_43 : decode cX12_whole 43 = .ok (.isub, 1) := oc_100 (by decide +kernel)
theorem dX12_whole_44 : decode cX12_whole 44 = .ok (.putfield 185, 3) := oc_181 (a := 0) (b := 185) (by decide +kernel)
theorem dX12_whole_47 : decode cX12_whole 47 = .ok (.aload_n 0, 1) := oc_42 (by decide +kernel)
theorem dX12_whole_48 : decode cX12_whole 48 = .ok (.iconst 2, 1) := oc_5 (by decide +kernel)
theorem dX12_whole_49 : decode cX12_whole 49 = .ok (.iconst 0, 1) := oc_3 (by decide +kernel)
theorem tw_905 : Cond.methodLink RX12 188 yX12_emit ∈ wsL_law := sg_38 _ (List.mem_of_getElem? (i := 17) rfl)
theorem tw_906 : Cond.instanceMethod yX12_emit ∈ wsL_law := sg_38 _ (List.mem_of_getElem? (i := 18) rfl)
theorem tw_907 : Cond.selects RX12 yX12_emit yX12_emit ∈ wsL_law := sg_38 _ (List.mem_of_getElem? (i := 19) rfl)
theorem tw_908 : Cond.code yX12_emit cX12_emit 3 none ∈ wsL_law := sg_38 _ (List.mem_of_getElem? (i := 20) rfl)
theorem dX12_whole_50 : decode cX12_whole 50 = .ok (.invokevirtual 188, 3) := oc_182 (a := 0) (b := 188) (by decide +kernel)
theorem dX12_whole_53 : decode cX12_whole 53 = .ok (.goto (-48), 3) := oc_167 (a := 255) (b := 208) (by decide +kernel)
theorem dX12_settle_0 : decode cX12_settle 0 = .ok (.aload_n 0, 1) := oc_42 (by decide +kernel)
theorem dX12_settle_1 : decode cX12_settle 1 = .ok (.getfield 178, 3) := oc_180 (a := 0) (b := 178) (by decide +kernel)
theorem dX12_settle_4 : decode cX12_settle 4 = .ok (.ifCond .le 50, 3) := oc_158 (a := 0) (b := 50) (by decide +kernel)
theorem dX12_settle_54 : decode cX12_settle 54 = .ok (.return_, 1) := oc_177 (by decide +kernel)
theorem dX12_settle_7 : decode cX12_settle 7 = .ok (.aload_n 0, 1) := oc_42 (by decide +kernel)
theorem dX12_settle_8 : decode cX12_settle 8 = .ok (.getfield 29, 3) := oc_180 (a := 0) (b := 29) (by decide +kernel)
theorem dX12_settle_11 : decode cX12_settle 11 = .ok (.aload_n 0, 1) := oc_42 (by decide +kernel)
theorem dX12_settle_12 : decode cX12_settle 12 = .ok (.getfield 178, 3) := oc_180 (a := 0) (b := 178) (by decide +kernel)
theorem dX12_settle_15 : decode cX12_settle 15 = .ok (.iconst 1, 1) := oc_4 (by decide +kernel)
theorem dX12_settle_16 : decode cX12_settle 16 = .ok (.isub, 1) := oc_100 (by decide +kernel)
theorem dX12_settle_17 : decode cX12_settle 17 = .ok (.iaload, 1) := oc_46 (by decide +kernel)
theorem dX12_settle_18 : decode cX12_settle 18 = .ok (.iload_n 1, 1) := oc_27 (by decide +kernel)
theorem dX12_settle_19 : decode cX12_settle 19 = .ok (.bipush 6, 2) := oc_16 (a := 6) (by decide +kernel)
theorem dX12_settle_21 : decode cX12_settle 21 = .ok (.invokestatic 62, 3) := oc_184 (a := 0) (b := 62) (by decide +kernel)
theorem dX12_settle_24 : decode cX12_settle 24 = .ok (.ifCond .eq 30, 3) := oc_153 (a := 0) (b := 30) (by decide +kernel)
theorem dX12_settle_27 : decode cX12_settle 27 = .ok (.aload_n 0, 1) := oc_42 (by decide +kernel)
theorem dX12_settle_28 : decode cX12_settle 28 = .ok (.dup, 1) := oc_89 (by decide +kernel)
theorem dX12_settle_29 : decode cX12_settle 29 = .ok (.getfield 178, 3) := oc_180 (a := 0) (b := 178) (by decide +kernel)
theorem dX12_settle_32 : decode cX12_settle 32 = .ok (.iconst 1, 1) := oc_4 (by decide +kernel)
theorem dX12_settle_33 : decode cX12_settle 33 = .ok (.isub, 1) := oc_100 (by decide +kernel)
theorem dX12_settle_34 : decode cX12_settle 34 = .ok (.putfield 178, 3) := oc_181 (a := 0) (b := 178) (by decide +kernel)
theorem dX12_settle_37 : decode cX12_settle 37 = .ok (.aload_n 0, 1) := oc_42 (by decide +kernel)
theorem dX12_settle_38 : decode cX12_settle 38 = .ok (.aload_n 0, 1) := oc_42 (by decide +kernel)
theorem dX12_settle_39 : decode cX12_settle 39 = .ok (.getfield 29, 3) := oc_180 (a := 0) (b := 29) (by decide +kernel)
theorem dX12_settle_42 : decode cX12_settle 42 = .ok (.aload_n 0, 1) := oc_42 (by decide +kernel)
theorem dX12_settle_43 : decode cX12_settle 43 = .ok (.getfield 178, 3) := oc_180 (a := 0) (b := 178) (by decide +kernel)
theorem dX12_settle_46 : decode cX12_settle 46 = .ok (.iaload, 1) := oc_46 (by decide +kernel)
theorem dX12_settle_47 : decode cX12_settle 47 = .ok (.iconst 0, 1) := oc_3 (by decide +kernel)
theorem dX12_settle_48 : decode cX12_settle 48 = .ok (.invokevirtual 188, 3) := oc_182 (a := 0) (b := 188) (by decide +kernel)
theorem dX12_settle_51 : decode cX12_settle 51 = .ok (.goto (-51), 3) := oc_167 (a := 255) (b := 205) (by decide +kernel)
set_option maxRecDepth 100000 in
def g_X12_isWord_x (a0 : Int64) (I : Nat → Int32) (J : Nat → Int64) (ri : Nat → Nat → Int32) (rj : Nat → Nat → Int64) (rq : Nat → Nat → Option Nat) : Int32 × vM := (ap1 (I 393) fun (y_1 : Int32) => (if (y_1) = (2 : Int32) then (ap1 (J 395) fun (y_9 : Int64) => (ap1 (lg_cmp (y_9) a0) fun (x_10 : Int32) => (if x_10 = (0 : Int32) then ((1 : Int32), I, J, ri, rj, rq) else ((0 : Int32), I, J, ri, rj, rq)))) else ((0 : Int32), I, J, ri, rj, rq)))
set_option maxRecDepth 100000 in
theorem g_X12_isWord_x_e {a0 : Int64} {I : Nat → Int32} {J : Nat → Int64} {ri : Nat → Nat → Int32} {rj : Nat → Nat → Int64} {rq : Nat → Nat → Option Nat} : g_X12_isWord_x a0 I J ri rj rq = (ap1 (I 393) fun (y_1 : Int32) => (if (y_1) = (2 : Int32) then (ap1 (J 395) fun (y_9 : Int64) => (ap1 (lg_cmp (y_9) a0) fun (x_10 : Int32) => (if x_10 = (0 : Int32) then ((1 : Int32), I, J, ri, rj, rq) else ((0 : Int32), I, J, ri, rj, rq)))) else ((0 : Int32), I, J, ri, rj, rq))) := rfl
set_option maxHeartbeats 4000000 in
set_option maxRecDepth 100000 in
theorem s_X12_isWord_x (l : Launch) (D : va_G) (t : pq_T) (σ : pq_S) (I : Nat → Nat → Int32) (J : Nat → Nat → Int64) (ri : Nat → Nat → Int32) (rj : Nat → Nat → Int64) (rq : Nat → Nat → Option Nat) (sz : Nat) (tg : Nat → Nat) (hSH : SH σ tg) (hG0 : GT tg I ri) (this : Nat) (a0 : Int64) (hL_this : this ∈ σ.1) (hK_this : σ.2.1 this = 12) : MetI l yX12_isWord (wa yX12_isWord cX12_isWord 3 (some .boolean)) ({ frames := 0, cells := 0, slots := 0, locals := 0 }) [.ref this, .long a0] D t σ (I, J, ri, rj, rq) sz 0 0 (fun (r : Int32) (u : pq_S × pq_M) => u = (σ, I, J, ri, rj, rq) ∧ g_X12_isWord_x a0 (vI 12 σ this I) (vJ 12 σ this J) (vR 12 σ this ri) (vL 12 σ this rj) (vQ 12 σ this rq) = (r, (vI 12 σ this I), (vJ 12 σ this J), (vR 12 σ this ri), (vL 12 σ this rj), (vQ 12 σ this rq)) ∧ ((r = 1 ∧ ((I 393 this).toInt = 2)) ∨ (r = 0 ∧ True))) := by
  refine Met.ofW (cc := cX12_isWord) (maxL := 3) (ret := (some .boolean)) (by decide +kernel) rfl ?_
  intro p e s m args below meth c s₁ B hml hv
  obtain ⟨rfl, hsz, hP, hK, hD0, hN⟩ := hv
  have hx := B.exec
  have hb := B.bytes
  have hr := B.returns
  have hts := atoms_spec (ws := (wa yX12_isWord cX12_isWord 3 (some .boolean))) B.pre
  have hown : s.vm.findClass RX12 = some m.cls := findClass_of_methodNamed B.named
  have hlocks := B.notSynchronized
  subst hsz
  have hD : va_D (pq_B t σ (I, J, ri, rj, rq) s.heap.size) (pq_P t σ (I, J, ri, rj, rq)) := hD0.self
  generalize hAe : pq_B t σ (I, J, ri, rj, rq) s.heap.size = A at hD ⊢
  have hA : ∀ q : Nat, s.heap.size ≤ q → A q := fun q h => by rw [← hAe]; exact Or.inr h
  have hS : va_S A s.heap s.heap [] := va_S.rf
  have hG : GM [] tg σ I ri I ri rq := ⟨hG0, fun _ _ _ => rfl, fun _ _ _ _ _ => rfl, fun _ _ _ _ _ _ => rfl⟩
  have hl := lv_entry ([.ref this, .long a0]) (n := 3) (Nat.le_of_ble_eq_true rfl)
  rw [lg_entry_eq]
  generalize (lg_sl ([.ref this, .long a0]) ++ List.replicate (3 - (lg_sl ([.ref this, .long a0])).length) Slot.unset).toArray = ls at hl ⊢
  have hl : lv_has ls 3 [(0, .ref this), (1, .long a0)] := hl
  refine q_gen (fun Q hQ => ?_)
  have go : ∀ (H : Heap) (locs : List Loc) (ls : Array Slot), va_P D vwCl (pq_P t σ (I, J, ri, rj, rq)) H → va_D A (pq_P t σ (I, J, ri, rj, rq)) → va_S A s.heap H locs → lv_has ls 3 [(0, .ref this), (1, .long a0)] → W p l e ({ frames := 0, cells := 0, slots := 0, locals := 0 } : Room) s m (List.toArray ([.ref this, .long a0] : List Value)) below meth c H locs 0 0 Q (F0 m 0 ls []) := by
    intro H locs ls hP hD hS hl
    have hO_this : this = vo σ 12 this := rfl
    have hVT : VT 12 σ tg this := vt_12 hSH hL_this hK_this
    have hFr : FR 12 tg σ this (I, J, ri, rj, rq) (I, J, ri, rj, rq) := fr_rf
    obtain ⟨F, hF0⟩ : ∃ F, F = g_X12_isWord_x a0 (vI 12 σ this I) (vJ 12 σ this J) (vR 12 σ this ri) (vL 12 σ this rj) (vQ 12 σ this rq) := ⟨_, rfl⟩
    have hF := hF0.trans g_X12_isWord_x_e
    refine lv_aload_n hx hb dX12_isWord_0 rfl (lv_at hl 0 rfl) ?_
    refine pg_f (v := .int (I 393 this)) (C := RX12) (T := TX12) (N := 31) hx hb hts (tw_i inlX12) hown hK hP hL_this hK_this (by decide +kernel) rfl 9 (by decide +kernel) (hts _ (tw_c tw_831)) rfl dX12_isWord_1 ?_
    replace hF := hF.trans (ap_n (vI_e (f := 393) hO_this (by decide +kernel)))
    refine lv_iconst (v := 2) hx hb dX12_isWord_4 (by decide +kernel) ?_
    refine lv_icmp_ne (tgt := 21) hx hb dX12_isWord_5 (by decide +kernel) (fun c_2 => ?_) (fun c_2 => ?_)
    · replace hF := hF.trans (if_neg c_2)
      have tc_6 : (I 393 this).toInt ≠ 2 := fun q => c_2 (Int32.toInt_inj.mp q)
      refine lv_iconst (v := 0) hx hb dX12_isWord_21 (by decide +kernel) ?_
      subst hQ
      exact W.zret (v := 0) hx hb hr (by decide +kernel) (fun t1 ht hW => ⟨⟨0, (σ, I, J, ri, rj, rq), rfl, ⟨rfl, (hF0.symm.trans hF), (Or.inr ⟨rfl, trivial⟩)⟩, by rw [ht]; exact hP, va_K.moved hW.alike hK, hD⟩, hS.F ht⟩) hS.2.2 dX12_isWord_22
    · replace hF := hF.trans (if_pos c_2)
      have tc_7 : (I 393 this).toInt = 2 := congrArg Int32.toInt c_2
      have h_8 : rg (I 393 this) 2 2 := rg_and (rg_full _) (rg_of_eq c_2 (rg_k (2 : Int32) 2 rfl)) (by decide +kernel)
      have uh_8 := h_8.1
      have vh_8 := h_8.2
      refine lv_aload_n hx hb dX12_isWord_8 rfl (lv_at hl 0 rfl) ?_
      refine pg_f (v := .long (J 395 this)) (C := RX12) (T := TX12) (N := 31) hx hb hts (tw_i inlX12) hown hK hP hL_this hK_this (by decide +kernel) rfl 11 (by decide +kernel) (hts _ (tw_c tw_838)) rfl dX12_isWord_9 ?_
      replace hF := hF.trans (ap_n (vJ_e (f := 395) hO_this (by decide +kernel)))
      refine lv_lload_n hx hb dX12_isWord_12 rfl (lv_at hl 1 rfl) ?_
      refine W.lcmp hx hb dX12_isWord_13 ?_
      refine lv_topi (fun x_10 ex_10 => ?_)
      replace hF := hF.trans (ap_n ex_10)
      refine lv_if_ne (tgt := 21) hx hb dX12_isWord_14 (by decide +kernel) (fun c_11 => ?_) (fun c_11 => ?_)
      · replace hF := hF.trans (if_neg c_11)
        have tc_15 : (x_10).toInt ≠ 0 := fun q => c_11 (Int32.toInt_inj.mp q)
        refine lv_iconst (v := 0) hx hb dX12_isWord_21 (by decide +kernel) ?_
        subst hQ
        exact W.zret (v := 0) hx hb hr (by decide +kernel) (fun t1 ht hW => ⟨⟨0, (σ, I, J, ri, rj, rq), rfl, ⟨rfl, (hF0.symm.trans hF), (Or.inr ⟨rfl, trivial⟩)⟩, by rw [ht]; exact hP, va_K.moved hW.alike hK, hD⟩, hS.F ht⟩) hS.2.2 dX12_isWord_22
      · replace hF := hF.trans (if_pos c_11)
        have tc_16 : (x_10).toInt = 0 := congrArg Int32.toInt c_11
        have h_17 : rg x_10 0 0 := rg_and (rg_full _) (rg_of_eq c_11 (rg_k (0 : Int32) 0 rfl)) (by decide +kernel)
        have uh_17 := h_17.1
        have vh_17 := h_17.2
        refine lv_iconst (v := 1) hx hb dX12_isWord_17 (by decide +kernel) ?_
        refine lv_goto (tgt := 22) hx hb dX12_isWord_18 (by decide +kernel) ?_
        subst hQ
        exact W.zret (v := 1) hx hb hr (by decide +kernel) (fun t1 ht hW => ⟨⟨1, (σ, I, J, ri, rj, rq), rfl, ⟨rfl, (hF0.symm.trans hF), (Or.inl ⟨rfl, (by omega)⟩)⟩, by rw [ht]; exact hP, va_K.moved hW.alike hK, hD⟩, hS.F ht⟩) hS.2.2 dX12_isWord_22
  exact go _ _ _ hP hD hS hl

set_option maxRecDepth 100000 in
def g_X12_nameOf_x (I : Nat → Int32) (J : Nat → Int64) (ri : Nat → Nat → Int32) (rj : Nat → Nat → Int64) (rq : Nat → Nat → Option Nat) : Int32 × vM := (ap1 (I 393) fun (y_1 : Int32) => (if (y_1) = (2 : Int32) then (ap1 (J 395) fun (y_8 : Int64) => (ap1 (g_X12_w3_x (97 : Int32) (103 : Int32) (101 : Int32)) fun (x_9 : Int64) => (ap1 (lg_cmp (y_8) x_9) fun (x_16 : Int32) => (if x_16 = (0 : Int32) then ((0 : Int32), I, J, ri, rj, rq) else (ap1 (g_X12_w3_x (107 : Int32) (105 : Int32) (110 : Int32)) fun (x_22 : Int64) => (ap1 (lg_cmp (y_8) x_22) fun (x_29 : Int32) => (if x_29 = (0 : Int32) then ((1 : Int32), I, J, ri, rj, rq) else (ap1 (g_X12_w5_x (99 : Int32) (114 : Int32) (97 : Int32) (102 : Int32) (116 : Int32)) fun (x_35 : Int64) => (ap1 (lg_cmp (y_8) x_35) fun (x_42 : Int32) => (if x_42 = (0 : Int32) then ((2 : Int32), I, J, ri, rj, rq) else (ap1 (g_X12_w5_x (112 : Int32) (108 : Int32) (97 : Int32) (99 : Int32) (101 : Int32)) fun (x_48 : Int64) => (ap1 (lg_cmp (y_8) x_48) fun (x_55 : Int32) => (if x_55 = (0 : Int32) then ((3 : Int32), I, J, ri, rj, rq) else (ap1 (g_X12_w5_x (109 : Int32) (111 : Int32) (110 : Int32) (116 : Int32) (104 : Int32)) fun (x_61 : Int64) => (ap1 (lg_cmp (y_8) x_61) fun (x_68 : Int32) => (if x_68 = (0 : Int32) then ((4 : Int32), I, J, ri, rj, rq) else (ap1 (g_X12_w5_x (117 : Int32) (110 : Int32) (100 : Int32) (101 : Int32) (114 : Int32)) fun (x_74 : Int64) => (ap1 (lg_cmp (y_8) x_74) fun (x_81 : Int32) => (if x_81 = (0 : Int32) then ((5 : Int32), I, J, ri, rj, rq) else ((-1 : Int32), I, J, ri, rj, rq)))))))))))))))))))) else ((-1 : Int32), I, J, ri, rj, rq)))
set_option maxRecDepth 100000 in
theorem g_X12_nameOf_x_e {I : Nat → Int32} {J : Nat → Int64} {ri : Nat → Nat → Int32} {rj : Nat → Nat → Int64} {rq : Nat → Nat → Option Nat} : g_X12_nameOf_x I J ri rj rq = (ap1 (I 393) fun (y_1 : Int32) => (if (y_1) = (2 : Int32) then (ap1 (J 395) fun (y_8 : Int64) => (ap1 (g_X12_w3_x (97 : Int32) (103 : Int32) (101 : Int32)) fun (x_9 : Int64) => (ap1 (lg_cmp (y_8) x_9) fun (x_16 : Int32) => (if x_16 = (0 : Int32) then ((0 : Int32), I, J, ri, rj, rq) else (ap1 (g_X12_w3_x (107 : Int32) (105 : Int32) (110 : Int32)) fun (x_22 : Int64) => (ap1 (lg_cmp (y_8) x_22) fun (x_29 : Int32) => (if x_29 = (0 : Int32) then ((1 : Int32), I, J, ri, rj, rq) else (ap1 (g_X12_w5_x (99 : Int32) (114 : Int32) (97 : Int32) (102 : Int32) (116 : Int32)) fun (x_35 : Int64) => (ap1 (lg_cmp (y_8) x_35) fun (x_42 : Int32) => (if x_42 = (0 : Int32) then ((2 : Int32), I, J, ri, rj, rq) else (ap1 (g_X12_w5_x (112 : Int32) (108 : Int32) (97 : Int32) (99 : Int32) (101 : Int32)) fun (x_48 : Int64) => (ap1 (lg_cmp (y_8) x_48) fun (x_55 : Int32) => (if x_55 = (0 : Int32) then ((3 : Int32), I, J, ri, rj, rq) else (ap1 (g_X12_w5_x (109 : Int32) (111 : Int32) (110 : Int32) (116 : Int32) (104 : Int32)) fun (x_61 : Int64) => (ap1 (lg_cmp (y_8) x_61) fun (x_68 : Int32) => (if x_68 = (0 : Int32) then ((4 : Int32), I, J, ri, rj, rq) else (ap1 (g_X12_w5_x (117 : Int32) (110 : Int32) (100 : Int32) (101 : Int32) (114 : Int32)) fun (x_74 : Int64) => (ap1 (lg_cmp (y_8) x_74) fun (x_81 : Int32) => (if x_81 = (0 : Int32) then ((5 : Int32), I, J, ri, rj, rq) else ((-1 : Int32), I, J, ri, rj, rq)))))))))))))))))))) else ((-1 : Int32), I, J, ri, rj, rq))) := rfl
set_option maxHeartbeats 4000000 in
set_option maxRecDepth 100000 in
theorem s_X12_nameOf_x (l : Launch) (D : va_G) (t : pq_T) (σ : pq_S) (I : Nat → Nat → Int32) (J : Nat → Nat → Int64) (ri : Nat → Nat → Int32) (rj : Nat → Nat → Int64) (rq : Nat → Nat → Option Nat) (sz : Nat) (tg : Nat → Nat) (hSH : SH σ tg) (hG0 : GT tg I ri) (this : Nat) (hL_this : this ∈ σ.1) (hK_this : σ.2.1 this = 12) : MetI l yX12_nameOf (wa yX12_nameOf cX12_nameOf 1 (some .int)) ({ frames := 3, cells := 0, slots := 0, locals := 69 }) [.ref this] D t σ (I, J, ri, rj, rq) sz 0 0 (fun (r : Int32) (u : pq_S × pq_M) => u = (σ, I, J, ri, rj, rq) ∧ (r.toInt < 0 ∨ (I 393 this).toInt = 2) ∧ g_X12_nameOf_x (vI 12 σ this I) (vJ 12 σ this J) (vR 12 σ this ri) (vL 12 σ this rj) (vQ 12 σ this rq) = (r, (vI 12 σ this I), (vJ 12 σ this J), (vR 12 σ this ri), (vL 12 σ this rj), (vQ 12 σ this rq)) ∧ rg r (-1) 5) := by
  refine Met.ofW (cc := cX12_nameOf) (maxL := 1) (ret := (some .int)) (by decide +kernel) rfl ?_
  intro p e s m args below meth c s₁ B hml hv
  obtain ⟨rfl, hsz, hP, hK, hD0, hN⟩ := hv
  have hx := B.exec
  have hb := B.bytes
  have hr := B.returns
  have hts := atoms_spec (ws := (wa yX12_nameOf cX12_nameOf 1 (some .int))) B.pre
  have hown : s.vm.findClass RX12 = some m.cls := findClass_of_methodNamed B.named
  have hlocks := B.notSynchronized
  subst hsz
  have hD : va_D (pq_B t σ (I, J, ri, rj, rq) s.heap.size) (pq_P t σ (I, J, ri, rj, rq)) := hD0.self
  generalize hAe : pq_B t σ (I, J, ri, rj, rq) s.heap.size = A at hD ⊢
  have hA : ∀ q : Nat, s.heap.size ≤ q → A q := fun q h => by rw [← hAe]; exact Or.inr h
  have hS : va_S A s.heap s.heap [] := va_S.rf
  have hG : GM [] tg σ I ri I ri rq := ⟨hG0, fun _ _ _ => rfl, fun _ _ _ _ _ => rfl, fun _ _ _ _ _ _ => rfl⟩
  have hl := lv_entry ([.ref this]) (n := 1) (Nat.le_of_ble_eq_true rfl)
  rw [lg_entry_eq]
  generalize (lg_sl ([.ref this]) ++ List.replicate (1 - (lg_sl ([.ref this])).length) Slot.unset).toArray = ls at hl ⊢
  have hl : lv_has ls 1 [(0, .ref this)] := hl
  refine q_gen (fun Q hQ => ?_)
  have go : ∀ (H : Heap) (locs : List Loc) (ls : Array Slot), va_P D vwCl (pq_P t σ (I, J, ri, rj, rq)) H → va_D A (pq_P t σ (I, J, ri, rj, rq)) → va_S A s.heap H locs → lv_has ls 1 [(0, .ref this)] → W p l e ({ frames := 3, cells := 0, slots := 0, locals := 69 } : Room) s m (List.toArray ([.ref this] : List Value)) below meth c H locs 0 0 Q (F0 m 0 ls []) := by
    intro H locs ls hP hD hS hl
    have hO_this : this = vo σ 12 this := rfl
    have hVT : VT 12 σ tg this := vt_12 hSH hL_this hK_this
    have hFr : FR 12 tg σ this (I, J, ri, rj, rq) (I, J, ri, rj, rq) := fr_rf
    obtain ⟨F, hF0⟩ : ∃ F, F = g_X12_nameOf_x (vI 12 σ this I) (vJ 12 σ this J) (vR 12 σ this ri) (vL 12 σ this rj) (vQ 12 σ this rq) := ⟨_, rfl⟩
    have hF := hF0.trans g_X12_nameOf_x_e
    refine lv_aload_n hx hb dX12_nameOf_0 rfl (lv_at hl 0 rfl) ?_
    refine pg_f (v := .int (I 393 this)) (C := RX12) (T := TX12) (N := 31) hx hb hts (tw_i inlX12) hown hK hP hL_this hK_this (by decide +kernel) rfl 9 (by decide +kernel) (hts _ (tw_c tw_831)) rfl dX12_nameOf_1 ?_
    replace hF := hF.trans (ap_n (vI_e (f := 393) hO_this (by decide +kernel)))
    refine lv_iconst (v := 2) hx hb dX12_nameOf_4 (by decide +kernel) ?_
    refine lv_icmp_eq (tgt := 10) hx hb dX12_nameOf_5 (by decide +kernel) (fun c_2 => ?_) (fun c_2 => ?_)
    · replace hF := hF.trans (if_pos c_2)
      have tc_6 : (I 393 this).toInt = 2 := congrArg Int32.toInt c_2
      have h_7 : rg (I 393 this) 2 2 := rg_and (rg_full _) (rg_of_eq c_2 (rg_k (2 : Int32) 2 rfl)) (by decide +kernel)
      have uh_7 := h_7.1
      have vh_7 := h_7.2
      refine lv_aload_n hx hb dX12_nameOf_10 rfl (lv_at hl 0 rfl) ?_
      refine pg_f (v := .long (J 395 this)) (C := RX12) (T := TX12) (N := 31) hx hb hts (tw_i inlX12) hown hK hP hL_this hK_this (by decide +kernel) rfl 11 (by decide +kernel) (hts _ (tw_c tw_838)) rfl dX12_nameOf_11 ?_
      replace hF := hF.trans (ap_n (vJ_e (f := 395) hO_this (by decide +kernel)))
      refine lv_bipush (v := 97) hx hb dX12_nameOf_14 (by decide +kernel) ?_
      refine lv_bipush (v := 103) hx hb dX12_nameOf_16 (by decide +kernel) ?_
      refine lv_bipush (v := 101) hx hb dX12_nameOf_18 (by decide +kernel) ?_
      refine pk_l (va_runS (As := [.int 97, .int 103, .int 101]) (rest := [.long (J 395 this)]) ⟨hx, hb, hml, hown, hts⟩ (s_X12_w3_x l D t σ I J ri rj rq H.size tg hSH hG.1 (97 : Int32) (103 : Int32) (101 : Int32)) (va_cwS 3 hts (tw_S tw_864 tw_865 tw_5 tw_866) rfl rfl rfl cd_yX12_w3_3 ⟨Nat.le_of_ble_eq_true rfl, Nat.le_of_ble_eq_true rfl⟩) ⟨pq_blind, pq_pre hK hN hP hD⟩ rfl rfl hl.1 rfl (lv_room (Nat.le_of_ble_eq_true rfl)) dX12_nameOf_20 ⟨Nat.le_of_ble_eq_true rfl, Nat.le_of_ble_eq_true rfl⟩) hD hS hA (fun x_9 σ1 μ1 H locs hw_10 hP hD hS => ?_)
      obtain ⟨hu_11, hfn_14⟩ := hw_10
      obtain ⟨hu_11a, hu_11b⟩ := Prod.mk.inj hu_11
      rw [hu_11a, hu_11b] at hP hD
      replace hF := hF.trans (ap_n hfn_14.symm)
      refine W.lcmp hx hb dX12_nameOf_23 ?_
      refine lv_topi (fun x_16 ex_16 => ?_)
      replace hF := hF.trans (ap_n ex_16)
      refine lv_if_ne (tgt := 29) hx hb dX12_nameOf_24 (by decide +kernel) (fun c_17 => ?_) (fun c_17 => ?_)
      · replace hF := hF.trans (if_neg c_17)
        have tc_21 : (x_16).toInt ≠ 0 := fun q => c_17 (Int32.toInt_inj.mp q)
        refine lv_aload_n hx hb dX12_nameOf_29 rfl (lv_at hl 0 rfl) ?_
        refine pg_f (v := .long (J 395 this)) (C := RX12) (T := TX12) (N := 31) hx hb hts (tw_i inlX12) hown hK hP hL_this hK_this (by decide +kernel) rfl 11 (by decide +kernel) (hts _ (tw_c tw_838)) rfl dX12_nameOf_30 ?_
        refine lv_bipush (v := 107) hx hb dX12_nameOf_33 (by decide +kernel) ?_
        refine lv_bipush (v := 105) hx hb dX12_nameOf_35 (by decide +kernel) ?_
        refine lv_bipush (v := 110) hx hb dX12_nameOf_37 (by decide +kernel) ?_
        refine pk_l (va_runS (As := [.int 107, .int 105, .int 110]) (rest := [.long (J 395 this)]) ⟨hx, hb, hml, hown, hts⟩ (s_X12_w3_x l D t σ I J ri rj rq H.size tg hSH hG.1 (107 : Int32) (105 : Int32) (110 : Int32)) (va_cwS 3 hts (tw_S tw_864 tw_865 tw_5 tw_866) rfl rfl rfl cd_yX12_w3_3 ⟨Nat.le_of_ble_eq_true rfl, Nat.le_of_ble_eq_true rfl⟩) ⟨pq_blind, pq_pre hK hN hP hD⟩ rfl rfl hl.1 rfl (lv_room (Nat.le_of_ble_eq_true rfl)) dX12_nameOf_39 ⟨Nat.le_of_ble_eq_true rfl, Nat.le_of_ble_eq_true rfl⟩) hD hS hA (fun x_22 σ1 μ1 H locs hw_23 hP hD hS => ?_)
        obtain ⟨hu_24, hfn_27⟩ := hw_23
        obtain ⟨hu_24a, hu_24b⟩ := Prod.mk.inj hu_24
        rw [hu_24a, hu_24b] at hP hD
        replace hF := hF.trans (ap_n hfn_27.symm)
        refine W.lcmp hx hb dX12_nameOf_42 ?_
        refine lv_topi (fun x_29 ex_29 => ?_)
        replace hF := hF.trans (ap_n ex_29)
        refine lv_if_ne (tgt := 48) hx hb dX12_nameOf_43 (by decide +kernel) (fun c_30 => ?_) (fun c_30 => ?_)
        · replace hF := hF.trans (if_neg c_30)
          have tc_34 : (x_29).toInt ≠ 0 := fun q => c_30 (Int32.toInt_inj.mp q)
          refine lv_aload_n hx hb dX12_nameOf_48 rfl (lv_at hl 0 rfl) ?_
          refine pg_f (v := .long (J 395 this)) (C := RX12) (T := TX12) (N := 31) hx hb hts (tw_i inlX12) hown hK hP hL_this hK_this (by decide +kernel) rfl 11 (by decide +kernel) (hts _ (tw_c tw_838)) rfl dX12_nameOf_49 ?_
          refine lv_bipush (v := 99) hx hb dX12_nameOf_52 (by decide +kernel) ?_
          refine lv_bipush (v := 114) hx hb dX12_nameOf_54 (by decide +kernel) ?_
          refine lv_bipush (v := 97) hx hb dX12_nameOf_56 (by decide +kernel) ?_
          refine lv_bipush (v := 102) hx hb dX12_nameOf_58 (by decide +kernel) ?_
          refine lv_bipush (v := 116) hx hb dX12_nameOf_60 (by decide +kernel) ?_
          refine pk_l (va_runS (As := [.int 99, .int 114, .int 97, .int 102, .int 116]) (rest := [.long (J 395 this)]) ⟨hx, hb, hml, hown, hts⟩ (s_X12_w5_x l D t σ I J ri rj rq H.size tg hSH hG.1 (99 : Int32) (114 : Int32) (97 : Int32) (102 : Int32) (116 : Int32)) (va_cwS 5 hts (tw_S tw_858 tw_859 tw_5 tw_860) rfl rfl rfl cd_yX12_w5_5 ⟨Nat.le_of_ble_eq_true rfl, Nat.le_of_ble_eq_true rfl⟩) ⟨pq_blind, pq_pre hK hN hP hD⟩ rfl rfl hl.1 rfl (lv_room (Nat.le_of_ble_eq_true rfl)) dX12_nameOf_62 ⟨Nat.le_of_ble_eq_true rfl, Nat.le_of_ble_eq_true rfl⟩) hD hS hA (fun x_35 σ1 μ1 H locs hw_36 hP hD hS => ?_)
          obtain ⟨hu_37, hfn_40⟩ := hw_36
          obtain ⟨hu_37a, hu_37b⟩ := Prod.mk.inj hu_37
          rw [hu_37a, hu_37b] at hP hD
          replace hF := hF.trans (ap_n hfn_40.symm)
          refine W.lcmp hx hb dX12_nameOf_65 ?_
          refine lv_topi (fun x_42 ex_42 => ?_)
          replace hF := hF.trans (ap_n ex_42)
          refine lv_if_ne (tgt := 71) hx hb dX12_nameOf_66 (by decide +kernel) (fun c_43 => ?_) (fun c_43 => ?_)
          · replace hF := hF.trans (if_neg c_43)
            have tc_47 : (x_42).toInt ≠ 0 := fun q => c_43 (Int32.toInt_inj.mp q)
            refine lv_aload_n hx hb dX12_nameOf_71 rfl (lv_at hl 0 rfl) ?_
            refine pg_f (v := .long (J 395 this)) (C := RX12) (T := TX12) (N := 31) hx hb hts (tw_i inlX12) hown hK hP hL_this hK_this (by decide +kernel) rfl 11 (by decide +kernel) (hts _ (tw_c tw_838)) rfl dX12_nameOf_72 ?_
            refine lv_bipush (v := 112) hx hb dX12_nameOf_75 (by decide +kernel) ?_
            refine lv_bipush (v := 108) hx hb dX12_nameOf_77 (by decide +kernel) ?_
            refine lv_bipush (v := 97) hx hb dX12_nameOf_79 (by decide +kernel) ?_
            refine lv_bipush (v := 99) hx hb dX12_nameOf_81 (by decide +kernel) ?_
            refine lv_bipush (v := 101) hx hb dX12_nameOf_83 (by decide +kernel) ?_
            refine pk_l (va_runS (As := [.int 112, .int 108, .int 97, .int 99, .int 101]) (rest := [.long (J 395 this)]) ⟨hx, hb, hml, hown, hts⟩ (s_X12_w5_x l D t σ I J ri rj rq H.size tg hSH hG.1 (112 : Int32) (108 : Int32) (97 : Int32) (99 : Int32) (101 : Int32)) (va_cwS 5 hts (tw_S tw_858 tw_859 tw_5 tw_860) rfl rfl rfl cd_yX12_w5_5 ⟨Nat.le_of_ble_eq_true rfl, Nat.le_of_ble_eq_true rfl⟩) ⟨pq_blind, pq_pre hK hN hP hD⟩ rfl rfl hl.1 rfl (lv_room (Nat.le_of_ble_eq_true rfl)) dX12_nameOf_85 ⟨Nat.le_of_ble_eq_true rfl, Nat.le_of_ble_eq_true rfl⟩) hD hS hA (fun x_48 σ1 μ1 H locs hw_49 hP hD hS => ?_)
            obtain ⟨hu_50, hfn_53⟩ := hw_49
            obtain ⟨hu_50a, hu_50b⟩ := Prod.mk.inj hu_50
            rw [hu_50a, hu_50b] at hP hD
            replace hF := hF.trans (ap_n hfn_53.symm)
            refine W.lcmp hx hb dX12_nameOf_88 ?_
            refine lv_topi (fun x_55 ex_55 => ?_)
            replace hF := hF.trans (ap_n ex_55)
            refine lv_if_ne (tgt := 94) hx hb dX12_nameOf_89 (by decide +kernel) (fun c_56 => ?_) (fun c_56 => ?_)
            · replace hF := hF.trans (if_neg c_56)
              have tc_60 : (x_55).toInt ≠ 0 := fun q => c_56 (Int32.toInt_inj.mp q)
              refine lv_aload_n hx hb dX12_nameOf_94 rfl (lv_at hl 0 rfl) ?_
              refine pg_f (v := .long (J 395 this)) (C := RX12) (T := TX12) (N := 31) hx hb hts (tw_i inlX12) hown hK hP hL_this hK_this (by decide +kernel) rfl 11 (by decide +kernel) (hts _ (tw_c tw_838)) rfl dX12_nameOf_95 ?_
              refine lv_bipush (v := 109) hx hb dX12_nameOf_98 (by decide +kernel) ?_
              refine lv_bipush (v := 111) hx hb dX12_nameOf_100 (by decide +kernel) ?_
              refine lv_bipush (v := 110) hx hb dX12_nameOf_102 (by decide +kernel) ?_
              refine lv_bipush (v := 116) hx hb dX12_nameOf_104 (by decide +kernel) ?_
              refine lv_bipush (v := 104) hx hb dX12_nameOf_106 (by decide +kernel) ?_
              refine pk_l (va_runS (As := [.int 109, .int 111, .int 110, .int 116, .int 104]) (rest := [.long (J 395 this)]) ⟨hx, hb, hml, hown, hts⟩ (s_X12_w5_x l D t σ I J ri rj rq H.size tg hSH hG.1 (109 : Int32) (111 : Int32) (110 : Int32) (116 : Int32) (104 : Int32)) (va_cwS 5 hts (tw_S tw_858 tw_859 tw_5 tw_860) rfl rfl rfl cd_yX12_w5_5 ⟨Nat.le_of_ble_eq_true rfl, Nat.le_of_ble_eq_true rfl⟩) ⟨pq_blind, pq_pre hK hN hP hD⟩ rfl rfl hl.1 rfl (lv_room (Nat.le_of_ble_eq_true rfl)) dX12_nameOf_108 ⟨Nat.le_of_ble_eq_true rfl, Nat.le_of_ble_eq_true rfl⟩) hD hS hA (fun x_61 σ1 μ1 H locs hw_62 hP hD hS => ?_)
              obtain ⟨hu_63, hfn_66⟩ := hw_62
              obtain ⟨hu_63a, hu_63b⟩ := Prod.mk.inj hu_63
              rw [hu_63a, hu_63b] at hP hD
              replace hF := hF.trans (ap_n hfn_66.symm)
              refine W.lcmp hx hb dX12_nameOf_111 ?_
              refine lv_topi (fun x_68 ex_68 => ?_)
              replace hF := hF.trans (ap_n ex_68)
              refine lv_if_ne (tgt := 119) hx hb dX12_nameOf_112 (by decide +kernel) (fun c_69 => ?_) (fun c_69 => ?_)
              · replace hF := hF.trans (if_neg c_69)
                have tc_73 : (x_68).toInt ≠ 0 := fun q => c_69 (Int32.toInt_inj.mp q)
                refine lv_aload_n hx hb dX12_nameOf_119 rfl (lv_at hl 0 rfl) ?_
                refine pg_f (v := .long (J 395 this)) (C := RX12) (T := TX12) (N := 31) hx hb hts (tw_i inlX12) hown hK hP hL_this hK_this (by decide +kernel) rfl 11 (by decide +kernel) (hts _ (tw_c tw_838)) rfl dX12_nameOf_120 ?_
                refine lv_bipush (v := 117) hx hb dX12_nameOf_123 (by decide +kernel) ?_
                refine lv_bipush (v := 110) hx hb dX12_nameOf_125 (by decide +kernel) ?_
                refine lv_bipush (v := 100) hx hb dX12_nameOf_127 (by decide +kernel) ?_
                refine lv_bipush (v := 101) hx hb dX12_nameOf_129 (by decide +kernel) ?_
                refine lv_bipush (v := 114) hx hb dX12_nameOf_131 (by decide +kernel) ?_
                refine pk_l (va_runS (As := [.int 117, .int 110, .int 100, .int 101, .int 114]) (rest := [.long (J 395 this)]) ⟨hx, hb, hml, hown, hts⟩ (s_X12_w5_x l D t σ I J ri rj rq H.size tg hSH hG.1 (117 : Int32) (110 : Int32) (100 : Int32) (101 : Int32) (114 : Int32)) (va_cwS 5 hts (tw_S tw_858 tw_859 tw_5 tw_860) rfl rfl rfl cd_yX12_w5_5 ⟨Nat.le_of_ble_eq_true rfl, Nat.le_of_ble_eq_true rfl⟩) ⟨pq_blind, pq_pre hK hN hP hD⟩ rfl rfl hl.1 rfl (lv_room (Nat.le_of_ble_eq_true rfl)) dX12_nameOf_133 ⟨Nat.le_of_ble_eq_true rfl, Nat.le_of_ble_eq_true rfl⟩) hD hS hA (fun x_74 σ1 μ1 H locs hw_75 hP hD hS => ?_)
                obtain ⟨hu_76, hfn_79⟩ := hw_75
                obtain ⟨hu_76a, hu_76b⟩ := Prod.mk.inj hu_76
                rw [hu_76a, hu_76b] at hP hD
                replace hF := hF.trans (ap_n hfn_79.symm)
                refine W.lcmp hx hb dX12_nameOf_136 ?_
                refine lv_topi (fun x_81 ex_81 => ?_)
                replace hF := hF.trans (ap_n ex_81)
                refine lv_if_ne (tgt := 144) hx hb dX12_nameOf_137 (by decide +kernel) (fun c_82 => ?_) (fun c_82 => ?_)
                · replace hF := hF.trans (if_neg c_82)
                  have tc_86 : (x_81).toInt ≠ 0 := fun q => c_82 (Int32.toInt_inj.mp q)
                  refine lv_iconst (v := (-1)) hx hb dX12_nameOf_144 (by decide +kernel) ?_
                  subst hQ
                  exact W.iret (v := (-1)) hx hb hr (fun t1 ht hW => ⟨⟨(-1), (σ, I, J, ri, rj, rq), rfl, ⟨rfl, (by have z9 : ((-1) : Int32).toInt = (-1) := rfl; omega), (hF0.symm.trans hF), (rg_w (rg_k (-1 : Int32) (-1) rfl) (by decide +kernel))⟩, by rw [ht]; exact hP, va_K.moved hW.alike hK, hD⟩, hS.F ht⟩) hS.2.2 dX12_nameOf_145
                · replace hF := hF.trans (if_pos c_82)
                  have tc_87 : (x_81).toInt = 0 := congrArg Int32.toInt c_82
                  have h_88 : rg x_81 0 0 := rg_and (rg_full _) (rg_of_eq c_82 (rg_k (0 : Int32) 0 rfl)) (by decide +kernel)
                  have uh_88 := h_88.1
                  have vh_88 := h_88.2
                  refine lv_iconst (v := 5) hx hb dX12_nameOf_140 (by decide +kernel) ?_
                  refine lv_goto (tgt := 145) hx hb dX12_nameOf_141 (by decide +kernel) ?_
                  subst hQ
                  exact W.iret (v := 5) hx hb hr (fun t1 ht hW => ⟨⟨5, (σ, I, J, ri, rj, rq), rfl, ⟨rfl, (by have z9 : (5 : Int32).toInt = 5 := rfl; omega), (hF0.symm.trans hF), (rg_w (rg_k (5 : Int32) 5 rfl) (by decide +kernel))⟩, by rw [ht]; exact hP, va_K.moved hW.alike hK, hD⟩, hS.F ht⟩) hS.2.2 dX12_nameOf_145
              · replace hF := hF.trans (if_pos c_69)
                have tc_89 : (x_68).toInt = 0 := congrArg Int32.toInt c_69
                have h_90 : rg x_68 0 0 := rg_and (rg_full _) (rg_of_eq c_69 (rg_k (0 : Int32) 0 rfl)) (by decide +kernel)
                have uh_90 := h_90.1
                have vh_90 := h_90.2
                refine lv_iconst (v := 4) hx hb dX12_nameOf_115 (by decide +kernel) ?_
                refine lv_goto (tgt := 145) hx hb dX12_nameOf_116 (by decide +kernel) ?_
                subst hQ
                exact W.iret (v := 4) hx hb hr (fun t1 ht hW => ⟨⟨4, (σ, I, J, ri, rj, rq), rfl, ⟨rfl, (by have z9 : (4 : Int32).toInt = 4 := rfl; omega), (hF0.symm.trans hF), (rg_w (rg_k (4 : Int32) 4 rfl) (by decide +kernel))⟩, by rw [ht]; exact hP, va_K.moved hW.alike hK, hD⟩, hS.F ht⟩) hS.2.2 dX12_nameOf_145
            · replace hF := hF.trans (if_pos c_56)
              have tc_91 : (x_55).toInt = 0 := congrArg Int32.toInt c_56
              have h_92 : rg x_55 0 0 := rg_and (rg_full _) (rg_of_eq c_56 (rg_k (0 : Int32) 0 rfl)) (by decide +kernel)
              have uh_92 := h_92.1
              have vh_92 := h_92.2
              refine lv_iconst (v := 3) hx hb dX12_nameOf_92 (by decide +kernel) ?_
              subst hQ
              exact W.iret (v := 3) hx hb hr (fun t1 ht hW => ⟨⟨3, (σ, I, J, ri, rj, rq), rfl, ⟨rfl, (by have z9 : (3 : Int32).toInt = 3 := rfl; omega), (hF0.symm.trans hF), (rg_w (rg_k (3 : Int32) 3 rfl) (by decide +kernel))⟩, by rw [ht]; exact hP, va_K.moved hW.alike hK, hD⟩, hS.F ht⟩) hS.2.2 dX12_nameOf_93
          · replace hF := hF.trans (if_pos c_43)
            have tc_93 : (x_42).toInt = 0 := congrArg Int32.toInt c_43
            have h_94 : rg x_42 0 0 := rg_and (rg_full _) (rg_of_eq c_43 (rg_k (0 : Int32) 0 rfl)) (by decide +kernel)
            have uh_94 := h_94.1
            have vh_94 := h_94.2
            refine lv_iconst (v := 2) hx hb dX12_nameOf_69 (by decide +kernel) ?_
            subst hQ
            exact W.iret (v := 2) hx hb hr (fun t1 ht hW => ⟨⟨2, (σ, I, J, ri, rj, rq), rfl, ⟨rfl, (by have z9 : (2 : Int32).toInt = 2 := rfl; omega), (hF0.symm.trans hF), (rg_w (rg_k (2 : Int32) 2 rfl) (by decide +kernel))⟩, by rw [ht]; exact hP, va_K.moved hW.alike hK, hD⟩, hS.F ht⟩) hS.2.2 dX12_nameOf_70
        · replace hF := hF.trans (if_pos c_30)
          have tc_95 : (x_29).toInt = 0 := congrArg Int32.toInt c_30
          have h_96 : rg x_29 0 0 := rg_and (rg_full _) (rg_of_eq c_30 (rg_k (0 : Int32) 0 rfl)) (by decide +kernel)
          have uh_96 := h_96.1
          have vh_96 := h_96.2
          refine lv_iconst (v := 1) hx hb dX12_nameOf_46 (by decide +kernel) ?_
          subst hQ
          exact W.iret (v := 1) hx hb hr (fun t1 ht hW => ⟨⟨1, (σ, I, J, ri, rj, rq), rfl, ⟨rfl, (by have z9 : (1 : Int32).toInt = 1 := rfl; omega), (hF0.symm.trans hF), (rg_w (rg_k (1 : Int32) 1 rfl) (by decide +kernel))⟩, by rw [ht]; exact hP, va_K.moved hW.alike hK, hD⟩, hS.F ht⟩) hS.2.2 dX12_nameOf_47
      · replace hF := hF.trans (if_pos c_17)
        have tc_97 : (x_16).toInt = 0 := congrArg Int32.toInt c_17
        have h_98 : rg x_16 0 0 := rg_and (rg_full _) (rg_of_eq c_17 (rg_k (0 : Int32) 0 rfl)) (by decide +kernel)
        have uh_98 := h_98.1
        have vh_98 := h_98.2
        refine lv_iconst (v := 0) hx hb dX12_nameOf_27 (by decide +kernel) ?_
        subst hQ
        exact W.iret (v := 0) hx hb hr (fun t1 ht hW => ⟨⟨0, (σ, I, J, ri, rj, rq), rfl, ⟨rfl, (by have z9 : (0 : Int32).toInt = 0 := rfl; omega), (hF0.symm.trans hF), (rg_w (rg_k (0 : Int32) 0 rfl) (by decide +kernel))⟩, by rw [ht]; exact hP, va_K.moved hW.alike hK, hD⟩, hS.F ht⟩) hS.2.2 dX12_nameOf_28
    · replace hF := hF.trans (if_neg c_2)
      have tc_99 : (I 393 this).toInt ≠ 2 := fun q => c_2 (Int32.toInt_inj.mp q)
      refine lv_iconst (v := (-1)) hx hb dX12_nameOf_8 (by decide +kernel) ?_
      subst hQ
      exact W.iret (v := (-1)) hx hb hr (fun t1 ht hW => ⟨⟨(-1), (σ, I, J, ri, rj, rq), rfl, ⟨rfl, (by have z9 : ((-1) : Int32).toInt = (-1) := rfl; omega), (hF0.symm.trans hF), (rg_w (rg_k (-1 : Int32) (-1) rfl) (by decide +kernel))⟩, by rw [ht]; exact hP, va_K.moved hW.alike hK, hD⟩, hS.F ht⟩) hS.2.2 dX12_nameOf_9
  exact go _ _ _ hP hD hS hl

set_option maxRecDepth 100000 in
def g_X12_emit (a0 : Int32) (a1 : Int32) (I : Nat → Int32) (J : Nat → Int64) (ri : Nat → Nat → Int32) (rj : Nat → Nat → Int64) (rq : Nat → Nat → Option Nat) : vM := (ap1 (I 396) fun (y_2 : Int32) => (ap1 ((y_2) + (250 : Int32)) fun (x_3 : Int32) => (ap1 (I 398) fun (y_5 : Int32) => (ap1 ((2 : Int32) * (y_5)) fun (x_6 : Int32) => (ap1 (x_3 + x_6) fun (x_8 : Int32) => (ap1 (va_up ri 384 (upd (ri 384) (x_8).toNatClampNeg a0)) fun (r_10 : Nat → Nat → Int32) => (ap1 ((y_2) + (250 : Int32)) fun (x_11 : Int32) => (ap1 ((2 : Int32) * (y_5)) fun (x_13 : Int32) => (ap1 (x_11 + x_13) fun (x_15 : Int32) => (ap1 (x_15 + (1 : Int32)) fun (x_17 : Int32) => (ap1 (va_up r_10 384 (upd (r_10 384) (x_17).toNatClampNeg a1)) fun (r_19 : Nat → Nat → Int32) => (ap1 ((y_5) + (1 : Int32)) fun (x_20 : Int32) => (ap1 (va_up I 398 x_20) fun (I_22 : Nat → Int32) => (I_22, J, r_19, rj, rq))))))))))))))
set_option maxRecDepth 100000 in
theorem g_X12_emit_e {a0 : Int32} {a1 : Int32} {I : Nat → Int32} {J : Nat → Int64} {ri : Nat → Nat → Int32} {rj : Nat → Nat → Int64} {rq : Nat → Nat → Option Nat} : g_X12_emit a0 a1 I J ri rj rq = (ap1 (I 396) fun (y_2 : Int32) => (ap1 ((y_2) + (250 : Int32)) fun (x_3 : Int32) => (ap1 (I 398) fun (y_5 : Int32) => (ap1 ((2 : Int32) * (y_5)) fun (x_6 : Int32) => (ap1 (x_3 + x_6) fun (x_8 : Int32) => (ap1 (va_up ri 384 (upd (ri 384) (x_8).toNatClampNeg a0)) fun (r_10 : Nat → Nat → Int32) => (ap1 ((y_2) + (250 : Int32)) fun (x_11 : Int32) => (ap1 ((2 : Int32) * (y_5)) fun (x_13 : Int32) => (ap1 (x_11 + x_13) fun (x_15 : Int32) => (ap1 (x_15 + (1 : Int32)) fun (x_17 : Int32) => (ap1 (va_up r_10 384 (upd (r_10 384) (x_17).toNatClampNeg a1)) fun (r_19 : Nat → Nat → Int32) => (ap1 ((y_5) + (1 : Int32)) fun (x_20 : Int32) => (ap1 (va_up I 398 x_20) fun (I_22 : Nat → Int32) => (I_22, J, r_19, rj, rq)))))))))))))) := rfl
set_option maxHeartbeats 4000000 in
set_option maxRecDepth 100000 in
theorem s_X12_emit (l : Launch) (D : va_G) (t : pq_T) (σ : pq_S) (I : Nat → Nat → Int32) (J : Nat → Nat → Int64) (ri : Nat → Nat → Int32) (rj : Nat → Nat → Int64) (rq : Nat → Nat → Option Nat) (sz : Nat) (tg : Nat → Nat) (hSH : SH σ tg) (hG0 : GT tg I ri) (this : Nat) (a0 : Int32) (a1 : Int32) (hL_this : this ∈ σ.1) (hK_this : σ.2.1 this = 12) (this_a : Nat) (hR_this_a : σ.2.2.1 384 this = some this_a) (hL_this_a : this_a ∈ σ.1) (hK_this_a : σ.2.1 this_a = 13) (hN_this_a : σ.2.2.2 this_a = 12720) (hT_this_a : tg this_a = 384) (ht0 : (I 396 this).toInt = 3720 + 900 * (ri this_a 6).toInt ∧ 0 ≤ (ri this_a 6).toInt ∧ (ri this_a 6).toInt ≤ 9) (hwr : 0 ≤ (I 398 this).toInt ∧ (I 398 this).toInt ≤ 299) : MetV l yX12_emit (wa yX12_emit cX12_emit 3 none) ({ frames := 0, cells := 0, slots := 0, locals := 0 }) [.ref this, .int a0, .int a1] D t σ (I, J, ri, rj, rq) sz 0 0 (fun (u : pq_S × pq_M) => ∃ I' : Nat → Nat → Int32, ∃ ri' : Nat → Nat → Int32, u = (σ, I', J, ri', rj, rq) ∧ GM [398] tg σ I ri I' ri' rq ∧ (∃ v : Int32, I' = pq_u I 398 this v ∧ v.toInt = (I 398 this).toInt + 1) ∧ (∀ j : Nat, (j : Int) < (I 396 this).toInt + 250 + 2 * (I 398 this).toInt → ri' this_a j = ri this_a j) ∧ (ri' this_a ((I 396 this).toInt + 250 + 2 * (I 398 this).toInt).toNat = a0) ∧ (∀ q, q ≠ this_a → ri' q = ri q) ∧ g_X12_emit a0 a1 (vI 12 σ this I) (vJ 12 σ this J) (vR 12 σ this ri) (vL 12 σ this rj) (vQ 12 σ this rq) = ((vI 12 σ this I'), (vJ 12 σ this J), (vR 12 σ this ri'), (vL 12 σ this rj), (vQ 12 σ this rq)) ∧ FR 12 tg σ this (I, J, ri, rj, rq) (I', J, ri', rj, rq)) := by
  refine Met.ofW (cc := cX12_emit) (maxL := 3) (ret := none) (by decide +kernel) rfl ?_
  intro p e s m args below meth c s₁ B hml hv
  obtain ⟨rfl, hsz, hP, hK, hD0, hN⟩ := hv
  have hx := B.exec
  have hb := B.bytes
  have hr := B.returns
  have hts := atoms_spec (ws := (wa yX12_emit cX12_emit 3 none)) B.pre
  have hown : s.vm.findClass RX12 = some m.cls := findClass_of_methodNamed B.named
  have hlocks := B.notSynchronized
  subst hsz
  have hD : va_D (pq_B t σ (I, J, ri, rj, rq) s.heap.size) (pq_P t σ (I, J, ri, rj, rq)) := hD0.self
  generalize hAe : pq_B t σ (I, J, ri, rj, rq) s.heap.size = A at hD ⊢
  have hA : ∀ q : Nat, s.heap.size ≤ q → A q := fun q h => by rw [← hAe]; exact Or.inr h
  have hS : va_S A s.heap s.heap [] := va_S.rf
  have hG : GM [398] tg σ I ri I ri rq := ⟨hG0, fun _ _ _ => rfl, fun _ _ _ _ _ => rfl, fun _ _ _ _ _ _ => rfl⟩
  have hl := lv_entry ([.ref this, .int a0, .int a1]) (n := 3) (Nat.le_of_ble_eq_true rfl)
  rw [lg_entry_eq]
  generalize (lg_sl ([.ref this, .int a0, .int a1]) ++ List.replicate (3 - (lg_sl ([.ref this, .int a0, .int a1])).length) Slot.unset).toArray = ls at hl ⊢
  have hl : lv_has ls 3 [(0, .ref this), (1, .int a0), (2, .int a1)] := hl
  refine q_gen (fun Q hQ => ?_)
  have go : ∀ (H : Heap) (locs : List Loc) (ls : Array Slot), va_P D vwCl (pq_P t σ (I, J, ri, rj, rq)) H → va_D A (pq_P t σ (I, J, ri, rj, rq)) → va_S A s.heap H locs → lv_has ls 3 [(0, .ref this), (1, .int a0), (2, .int a1)] → W p l e ({ frames := 0, cells := 0, slots := 0, locals := 0 } : Room) s m (List.toArray ([.ref this, .int a0, .int a1] : List Value)) below meth c H locs 0 0 Q (F0 m 0 ls []) := by
    intro H locs ls hP hD hS hl
    have hO_this : this = vo σ 12 this := rfl
    have hVT : VT 12 σ tg this := vt_12 hSH hL_this hK_this
    have hFr : FR 12 tg σ this (I, J, ri, rj, rq) (I, J, ri, rj, rq) := fr_rf
    have hO_this_a : this_a = vrow σ 384 this := vo_k (c := 12) hO_this hR_this_a
    obtain ⟨F, hF0⟩ : ∃ F, F = g_X12_emit a0 a1 (vI 12 σ this I) (vJ 12 σ this J) (vR 12 σ this ri) (vL 12 σ this rj) (vQ 12 σ this rq) := ⟨_, rfl⟩
    have hF := hF0.trans g_X12_emit_e
    have ce6 := clampE (ri this_a 6)
    refine lv_aload_n hx hb dX12_emit_0 rfl (lv_at hl 0 rfl) ?_
    refine pg_f (v := .ref this_a) (C := RX12) (T := TX12) (N := 31) hx hb hts (tw_i inlX12) hown hK hP hL_this hK_this (by decide +kernel) rfl 0 (by decide +kernel) (hts _ (tw_c tw_176)) (pq_hv rfl hR_this_a) dX12_emit_1 ?_
    refine lv_aload_n hx hb dX12_emit_4 rfl (lv_at hl 0 rfl) ?_
    refine pg_f (v := .int (I 396 this)) (C := RX12) (T := TX12) (N := 31) hx hb hts (tw_i inlX12) hown hK hP hL_this hK_this (by decide +kernel) rfl 12 (by decide +kernel) (hts _ (tw_c tw_821)) rfl dX12_emit_5 ?_
    have h_1 : rg (I 396 this) 0 11820 := GM.rI hG 396 rfl
    have uh_1 := h_1.1
    have vh_1 := h_1.2
    replace hF := hF.trans (ap_n (vI_e (f := 396) hO_this (by decide +kernel)))
    refine lv_sipush (v := 250) hx hb dX12_emit_8 (by decide +kernel) ?_
    refine lv_iadd hx hb dX12_emit_11 ?_
    refine lv_topi (fun x_3 ex_3 => ?_)
    replace hF := hF.trans (ap_n ex_3)
    have h_4 : rg x_3 250 12070 := rg_of_eq ex_3 (rg_add h_1 (rg_k (250 : Int32) 250 rfl) (by decide +kernel))
    have uh_4 := h_4.1
    have vh_4 := h_4.2
    have tx_3 : (x_3).toInt = (I 396 this).toInt + 250 := by rw [ex_3]; exact i_add_rg (a2 := (I 396 this).toInt) (b2 := 250) rfl rfl h_1 (rg_k (250 : Int32) 250 rfl) (by decide +kernel)
    refine lv_iconst (v := 2) hx hb dX12_emit_12 (by decide +kernel) ?_
    refine lv_aload_n hx hb dX12_emit_13 rfl (lv_at hl 0 rfl) ?_
    refine pg_f (v := .int (I 398 this)) (C := RX12) (T := TX12) (N := 31) hx hb hts (tw_i inlX12) hown hK hP hL_this hK_this (by decide +kernel) rfl 14 (by decide +kernel) (hts _ (tw_c tw_827)) rfl dX12_emit_14 ?_
    replace hF := hF.trans (ap_n (vI_e (f := 398) hO_this (by decide +kernel)))
    refine lv_imul hx hb dX12_emit_17 ?_
    refine lv_topi (fun x_6 ex_6 => ?_)
    replace hF := hF.trans (ap_n ex_6)
    have h_7 : rg x_6 0 598 := rg_of_eq ex_6 (rg_mul (rg_k (2 : Int32) 2 rfl) ⟨hwr.1, hwr.2⟩ (by decide +kernel))
    have uh_7 := h_7.1
    have vh_7 := h_7.2
    have tx_6 : (x_6).toInt = 2 * (I 398 this).toInt := by rw [ex_6]; exact i_mul_rg (a2 := 2) (b2 := (I 398 this).toInt) rfl rfl (rg_k (2 : Int32) 2 rfl) ⟨hwr.1, hwr.2⟩ (by decide +kernel)
    refine lv_iadd hx hb dX12_emit_18 ?_
    refine lv_topi (fun x_8 ex_8 => ?_)
    replace hF := hF.trans (ap_n ex_8)
    have h_9 : rg x_8 250 12668 := rg_of_eq ex_8 (rg_add h_4 h_7 (by decide +kernel))
    have uh_9 := h_9.1
    have vh_9 := h_9.2
    have tx_8 : (x_8).toInt = (x_3).toInt + (x_6).toInt := by rw [ex_8]; exact i_add_rg (a2 := (x_3).toInt) (b2 := (x_6).toInt) rfl rfl h_4 h_7 (by decide +kernel)
    refine lv_iload_n hx hb dX12_emit_19 rfl (lv_at hl 1 rfl) ?_
    refine pt_i hx hb hK hP hD hS hL_this_a hK_this_a hN_this_a (rg_in h_9 (by decide +kernel)) dX12_emit_20 (fun r_10 H locs er_10 hP hD hS => ?_)
    replace hFr := fr_R hFr hO_this_a (by decide +kernel) er_10
    replace hF := hF.trans (ap_n (vR_st hVT hO_this_a (by decide +kernel) er_10))
    have hG := GM.wt hG hT_this_a (by decide +kernel) er_10 (zn_tk (t := (ri this_a 6).toNatClampNeg) (c := (I 398 this).toNatClampNeg) (k := 0) (by have z_i := clampE x_8; have z_0 := clampE (ri this_a 6); have z_1 := clampE (I 398 this); omega) (rg_cl1 ⟨ht0.2.1, ht0.2.2⟩ (by decide +kernel)) (rg_cl1 ⟨hwr.1, hwr.2⟩ (by decide +kernel)) (by decide +kernel)) rfl (rg_w (rg_full _) (by decide +kernel)) (by have z6 := congrArg Int32.toInt (hG.2.2.1 this_a hT_this_a 6 (by decide +kernel) (by decide +kernel)); have z_i := clampE x_8; omega) (by decide +kernel)
    refine lv_aload_n hx hb dX12_emit_21 rfl (lv_at hl 0 rfl) ?_
    refine pg_f (v := .ref this_a) (C := RX12) (T := TX12) (N := 31) hx hb hts (tw_i inlX12) hown hK hP hL_this hK_this (by decide +kernel) rfl 0 (by decide +kernel) (hts _ (tw_c tw_176)) (pq_hv rfl hR_this_a) dX12_emit_22 ?_
    refine lv_aload_n hx hb dX12_emit_25 rfl (lv_at hl 0 rfl) ?_
    refine pg_f (v := .int (I 396 this)) (C := RX12) (T := TX12) (N := 31) hx hb hts (tw_i inlX12) hown hK hP hL_this hK_this (by decide +kernel) rfl 12 (by decide +kernel) (hts _ (tw_c tw_821)) rfl dX12_emit_26 ?_
    refine lv_sipush (v := 250) hx hb dX12_emit_29 (by decide +kernel) ?_
    refine lv_iadd hx hb dX12_emit_32 ?_
    refine lv_topi (fun x_11 ex_11 => ?_)
    replace hF := hF.trans (ap_n ex_11)
    have h_12 : rg x_11 250 12070 := rg_of_eq ex_11 (rg_add h_1 (rg_k (250 : Int32) 250 rfl) (by decide +kernel))
    have uh_12 := h_12.1
    have vh_12 := h_12.2
    have tx_11 : (x_11).toInt = (I 396 this).toInt + 250 := by rw [ex_11]; exact i_add_rg (a2 := (I 396 this).toInt) (b2 := 250) rfl rfl h_1 (rg_k (250 : Int32) 250 rfl) (by decide +kernel)
    refine lv_iconst (v := 2) hx hb dX12_emit_33 (by decide +kernel) ?_
    refine lv_aload_n hx hb dX12_emit_34 rfl (lv_at hl 0 rfl) ?_
    refine pg_f (v := .int (I 398 this)) (C := RX12) (T := TX12) (N := 31) hx hb hts (tw_i inlX12) hown hK hP hL_this hK_this (by decide +kernel) rfl 14 (by decide +kernel) (hts _ (tw_c tw_827)) rfl dX12_emit_35 ?_
    refine lv_imul hx hb dX12_emit_38 ?_
    refine lv_topi (fun x_13 ex_13 => ?_)
    replace hF := hF.trans (ap_n ex_13)
    have h_14 : rg x_13 0 598 := rg_of_eq ex_13 (rg_mul (rg_k (2 : Int32) 2 rfl) ⟨hwr.1, hwr.2⟩ (by decide +kernel))
    have uh_14 := h_14.1
    have vh_14 := h_14.2
    have tx_13 : (x_13).toInt = 2 * (I 398 this).toInt := by rw [ex_13]; exact i_mul_rg (a2 := 2) (b2 := (I 398 this).toInt) rfl rfl (rg_k (2 : Int32) 2 rfl) ⟨hwr.1, hwr.2⟩ (by decide +kernel)
    refine lv_iadd hx hb dX12_emit_39 ?_
    refine lv_topi (fun x_15 ex_15 => ?_)
    replace hF := hF.trans (ap_n ex_15)
    have h_16 : rg x_15 250 12668 := rg_of_eq ex_15 (rg_add h_12 h_14 (by decide +kernel))
    have uh_16 := h_16.1
    have vh_16 := h_16.2
    have tx_15 : (x_15).toInt = (x_11).toInt + (x_13).toInt := by rw [ex_15]; exact i_add_rg (a2 := (x_11).toInt) (b2 := (x_13).toInt) rfl rfl h_12 h_14 (by decide +kernel)
    refine lv_iconst (v := 1) hx hb dX12_emit_40 (by decide +kernel) ?_
    refine lv_iadd hx hb dX12_emit_41 ?_
    refine lv_topi (fun x_17 ex_17 => ?_)
    replace hF := hF.trans (ap_n ex_17)
    have h_18 : rg x_17 251 12669 := rg_of_eq ex_17 (rg_add h_16 (rg_k (1 : Int32) 1 rfl) (by decide +kernel))
    have uh_18 := h_18.1
    have vh_18 := h_18.2
    have tx_17 : (x_17).toInt = (x_15).toInt + 1 := by rw [ex_17]; exact i_add_rg (a2 := (x_15).toInt) (b2 := 1) rfl rfl h_16 (rg_k (1 : Int32) 1 rfl) (by decide +kernel)
    refine lv_iload_n hx hb dX12_emit_42 rfl (lv_at hl 2 rfl) ?_
    refine pt_i hx hb hK hP hD hS hL_this_a hK_this_a hN_this_a (rg_in h_18 (by decide +kernel)) dX12_emit_43 (fun r_19 H locs er_19 hP hD hS => ?_)
    replace hFr := fr_R hFr hO_this_a (by decide +kernel) er_19
    replace hF := hF.trans (ap_n (vR_st hVT hO_this_a (by decide +kernel) er_19))
    have hG := GM.wt hG hT_this_a (by decide +kernel) er_19 (zn_tk (t := (ri this_a 6).toNatClampNeg) (c := (I 398 this).toNatClampNeg) (k := 1) (by have z_i := clampE x_17; have z_0 := clampE (ri this_a 6); have z_1 := clampE (I 398 this); omega) (rg_cl1 ⟨ht0.2.1, ht0.2.2⟩ (by decide +kernel)) (rg_cl1 ⟨hwr.1, hwr.2⟩ (by decide +kernel)) (by decide +kernel)) rfl (rg_w (rg_full _) (by decide +kernel)) (by have z6 := congrArg Int32.toInt (hG.2.2.1 this_a hT_this_a 6 (by decide +kernel) (by decide +kernel)); have z_i := clampE x_17; omega) (by decide +kernel)
    refine lv_aload_n hx hb dX12_emit_44 rfl (lv_at hl 0 rfl) ?_
    refine lv_dup hx hb dX12_emit_45 rfl ?_
    refine pg_f (v := .int (I 398 this)) (C := RX12) (T := TX12) (N := 31) hx hb hts (tw_i inlX12) hown hK hP hL_this hK_this (by decide +kernel) rfl 14 (by decide +kernel) (hts _ (tw_c tw_827)) rfl dX12_emit_46 ?_
    refine lv_iconst (v := 1) hx hb dX12_emit_49 (by decide +kernel) ?_
    refine lv_iadd hx hb dX12_emit_50 ?_
    refine lv_topi (fun x_20 ex_20 => ?_)
    replace hF := hF.trans (ap_n ex_20)
    have h_21 : rg x_20 1 300 := rg_of_eq ex_20 (rg_add ⟨hwr.1, hwr.2⟩ (rg_k (1 : Int32) 1 rfl) (by decide +kernel))
    have uh_21 := h_21.1
    have vh_21 := h_21.2
    have tx_20 : (x_20).toInt = (I 398 this).toInt + 1 := by rw [ex_20]; exact i_add_rg (a2 := (I 398 this).toInt) (b2 := 1) rfl rfl ⟨hwr.1, hwr.2⟩ (rg_k (1 : Int32) 1 rfl) (by decide +kernel)
    refine pp_i (v := x_20) (ty := .int) (C := RX12) (T := TX12) (N := 31) hx hb hts (tw_i inlX12) tyX12 tyX12_ok nmX12 hown hK hP hD hS hL_this hK_this (by decide +kernel) rfl 14 398 (by decide +kernel) (hts _ (tw_c tw_827)) rfl (tyX12_ok 14 (by decide +kernel)) rfl rfl (Nat.le_of_ble_eq_true rfl) (ps_398 _ _ _ _ _) dX12_emit_51 (fun I_22 H locs eI_22 hP hD hS => ?_)
    replace hFr := fr_I (f := 398) hFr hO_this (by decide +kernel) eI_22
    replace hF := hF.trans (ap_n (vI_st (f := 398) hO_this (by decide +kernel) eI_22))
    have hG := GM.wI hG 398 rfl eI_22 (rg_w h_21 (by decide +kernel)) (by decide +kernel)
    have tt_23 : (I_22 398 this).toInt = (x_20).toInt := by rw [eI_22, pq_us]
    have tt_24 : (I_22 396 this).toInt = (I 396 this).toInt := by rw [eI_22, pq_uf _ _ _ (by decide +kernel)]
    subst hQ
    exact W.vret hx hb hr (fun t1 ht hW => ⟨⟨(σ, I_22, J, r_19, rj, rq), rfl, ⟨I_22, r_19, rfl, hG, ⟨x_20, eI_22, by omega⟩, (fun j hj => by rw [er_19, er_10, va_up_self, va_up_self]; unfold upd; rw [if_neg (by have z0 := clampE x_8; have z1 := clampE x_17; have z2 := clampE (I 398 this); have z3 := clampE (I 396 this); omega), if_neg (by have z0 := clampE x_8; have z1 := clampE x_17; have z2 := clampE (I 398 this); have z3 := clampE (I 396 this); omega)]), (by rw [er_19, er_10, va_up_self, va_up_self]; unfold upd; rw [if_neg (by have z0 := clampE x_8; have z1 := clampE x_17; have z2 := clampE (I 398 this); have z3 := clampE (I 396 this); omega), if_pos (by have z0 := clampE x_8; have z1 := clampE x_17; have z2 := clampE (I 398 this); have z3 := clampE (I 396 this); omega)]), (fun q hq => (ro_ne er_19 hq).trans (ro_ne er_10 hq)), (hF0.symm.trans hF), hFr⟩, by rw [ht]; exact hP, va_K.moved hW.alike hK, hD⟩, hS.F ht⟩) hS.2.2 dX12_emit_54
  exact go _ _ _ hP hD hS hl

set_option maxRecDepth 100000 in
def g_X12_push (a0 : Int32) (I : Nat → Int32) (J : Nat → Int64) (ri : Nat → Nat → Int32) (rj : Nat → Nat → Int64) (rq : Nat → Nat → Option Nat) : vM := (ap1 (I 401) fun (y_1 : Int32) => (ap1 (va_up ri 400 (upd (ri 400) ((y_1)).toNatClampNeg a0)) fun (r_2 : Nat → Nat → Int32) => (ap1 ((y_1) + (1 : Int32)) fun (x_3 : Int32) => (ap1 (va_up I 401 x_3) fun (I_5 : Nat → Int32) => (I_5, J, r_2, rj, rq)))))
set_option maxRecDepth 100000 in
theorem g_X12_push_e {a0 : Int32} {I : Nat → Int32} {J : Nat → Int64} {ri : Nat → Nat → Int32} {rj : Nat → Nat → Int64} {rq : Nat → Nat → Option Nat} : g_X12_push a0 I J ri rj rq = (ap1 (I 401) fun (y_1 : Int32) => (ap1 (va_up ri 400 (upd (ri 400) ((y_1)).toNatClampNeg a0)) fun (r_2 : Nat → Nat → Int32) => (ap1 ((y_1) + (1 : Int32)) fun (x_3 : Int32) => (ap1 (va_up I 401 x_3) fun (I_5 : Nat → Int32) => (I_5, J, r_2, rj, rq))))) := rfl
set_option maxHeartbeats 4000000 in
set_option maxRecDepth 100000 in
theorem s_X12_push (l : Launch) (D : va_G) (t : pq_T) (σ : pq_S) (I : Nat → Nat → Int32) (J : Nat → Nat → Int64) (ri : Nat → Nat → Int32) (rj : Nat → Nat → Int64) (rq : Nat → Nat → Option Nat) (sz : Nat) (tg : Nat → Nat) (hSH : SH σ tg) (hG0 : GT tg I ri) (this : Nat) (a0 : Int32) (hL_this : this ∈ σ.1) (hK_this : σ.2.1 this = 12) (h_a0 : rg a0 2 40) (this_pile : Nat) (hR_this_pile : σ.2.2.1 400 this = some this_pile) (hL_this_pile : this_pile ∈ σ.1) (hK_this_pile : σ.2.1 this_pile = 13) (hN_this_pile : σ.2.2.2 this_pile = 160) (hT_this_pile : tg this_pile = 400) (hpl : 0 ≤ (I 401 this).toInt ∧ (I 401 this).toInt ≤ 158) : MetV l yX12_push (wa yX12_push cX12_push 2 none) ({ frames := 0, cells := 0, slots := 0, locals := 0 }) [.ref this, .int a0] D t σ (I, J, ri, rj, rq) sz 0 0 (fun (u : pq_S × pq_M) => ∃ I' : Nat → Nat → Int32, ∃ ri' : Nat → Nat → Int32, u = (σ, I', J, ri', rj, rq) ∧ GM [401] tg σ I ri I' ri' rq ∧ (∃ v : Int32, I' = pq_u I 401 this v ∧ v.toInt = (I 401 this).toInt + 1) ∧ (ri' this_pile = upd (ri this_pile) (I 401 this).toInt.toNat a0) ∧ (∀ q, q ≠ this_pile → ri' q = ri q) ∧ g_X12_push a0 (vI 12 σ this I) (vJ 12 σ this J) (vR 12 σ this ri) (vL 12 σ this rj) (vQ 12 σ this rq) = ((vI 12 σ this I'), (vJ 12 σ this J), (vR 12 σ this ri'), (vL 12 σ this rj), (vQ 12 σ this rq)) ∧ FR 12 tg σ this (I, J, ri, rj, rq) (I', J, ri', rj, rq)) := by
  refine Met.ofW (cc := cX12_push) (maxL := 2) (ret := none) (by decide +kernel) rfl ?_
  intro p e s m args below meth c s₁ B hml hv
  obtain ⟨rfl, hsz, hP, hK, hD0, hN⟩ := hv
  have hx := B.exec
  have hb := B.bytes
  have hr := B.returns
  have hts := atoms_spec (ws := (wa yX12_push cX12_push 2 none)) B.pre
  have hown : s.vm.findClass RX12 = some m.cls := findClass_of_methodNamed B.named
  have hlocks := B.notSynchronized
  subst hsz
  have hD : va_D (pq_B t σ (I, J, ri, rj, rq) s.heap.size) (pq_P t σ (I, J, ri, rj, rq)) := hD0.self
  generalize hAe : pq_B t σ (I, J, ri, rj, rq) s.heap.size = A at hD ⊢
  have hA : ∀ q : Nat, s.heap.size ≤ q → A q := fun q h => by rw [← hAe]; exact Or.inr h
  have hS : va_S A s.heap s.heap [] := va_S.rf
  have hG : GM [401] tg σ I ri I ri rq := ⟨hG0, fun _ _ _ => rfl, fun _ _ _ _ _ => rfl, fun _ _ _ _ _ _ => rfl⟩
  have hl := lv_entry ([.ref this, .int a0]) (n := 2) (Nat.le_of_ble_eq_true rfl)
  rw [lg_entry_eq]
  generalize (lg_sl ([.ref this, .int a0]) ++ List.replicate (2 - (lg_sl ([.ref this, .int a0])).length) Slot.unset).toArray = ls at hl ⊢
  have hl : lv_has ls 2 [(0, .ref this), (1, .int a0)] := hl
  refine q_gen (fun Q hQ => ?_)
  have go : ∀ (H : Heap) (locs : List Loc) (ls : Array Slot), va_P D vwCl (pq_P t σ (I, J, ri, rj, rq)) H → va_D A (pq_P t σ (I, J, ri, rj, rq)) → va_S A s.heap H locs → lv_has ls 2 [(0, .ref this), (1, .int a0)] → W p l e ({ frames := 0, cells := 0, slots := 0, locals := 0 } : Room) s m (List.toArray ([.ref this, .int a0] : List Value)) below meth c H locs 0 0 Q (F0 m 0 ls []) := by
    intro H locs ls hP hD hS hl
    have hO_this : this = vo σ 12 this := rfl
    have hVT : VT 12 σ tg this := vt_12 hSH hL_this hK_this
    have hFr : FR 12 tg σ this (I, J, ri, rj, rq) (I, J, ri, rj, rq) := fr_rf
    have hO_this_pile : this_pile = vrow σ 400 this := vo_k (c := 12) hO_this hR_this_pile
    obtain ⟨F, hF0⟩ : ∃ F, F = g_X12_push a0 (vI 12 σ this I) (vJ 12 σ this J) (vR 12 σ this ri) (vL 12 σ this rj) (vQ 12 σ this rq) := ⟨_, rfl⟩
    have hF := hF0.trans g_X12_push_e
    refine lv_aload_n hx hb dX12_push_0 rfl (lv_at hl 0 rfl) ?_
    refine pg_f (v := .ref this_pile) (C := RX12) (T := TX12) (N := 31) hx hb hts (tw_i inlX12) hown hK hP hL_this hK_this (by decide +kernel) rfl 16 (by decide +kernel) (hts _ (tw_c tw_182)) (pq_hv rfl hR_this_pile) dX12_push_1 ?_
    refine lv_aload_n hx hb dX12_push_4 rfl (lv_at hl 0 rfl) ?_
    refine pg_f (v := .int (I 401 this)) (C := RX12) (T := TX12) (N := 31) hx hb hts (tw_i inlX12) hown hK hP hL_this hK_this (by decide +kernel) rfl 17 (by decide +kernel) (hts _ (tw_c tw_887)) rfl dX12_push_5 ?_
    replace hF := hF.trans (ap_n (vI_e (f := 401) hO_this (by decide +kernel)))
    refine lv_iload_n hx hb dX12_push_8 rfl (lv_at hl 1 rfl) ?_
    refine pt_i hx hb hK hP hD hS hL_this_pile hK_this_pile hN_this_pile (rg_in ⟨hpl.1, hpl.2⟩ (by decide +kernel)) dX12_push_9 (fun r_2 H locs er_2 hP hD hS => ?_)
    replace hFr := fr_R hFr hO_this_pile (by decide +kernel) er_2
    replace hF := hF.trans (ap_n (vR_st hVT hO_this_pile (by decide +kernel) er_2))
    have hG := GM.wR hG hSH hT_this_pile rfl er_2 (rg_w h_a0 (by decide +kernel)) (by decide +kernel)
    refine lv_aload_n hx hb dX12_push_10 rfl (lv_at hl 0 rfl) ?_
    refine lv_dup hx hb dX12_push_11 rfl ?_
    refine pg_f (v := .int (I 401 this)) (C := RX12) (T := TX12) (N := 31) hx hb hts (tw_i inlX12) hown hK hP hL_this hK_this (by decide +kernel) rfl 17 (by decide +kernel) (hts _ (tw_c tw_887)) rfl dX12_push_12 ?_
    refine lv_iconst (v := 1) hx hb dX12_push_15 (by decide +kernel) ?_
    refine lv_iadd hx hb dX12_push_16 ?_
    refine lv_topi (fun x_3 ex_3 => ?_)
    replace hF := hF.trans (ap_n ex_3)
    have h_4 : rg x_3 1 159 := rg_of_eq ex_3 (rg_add ⟨hpl.1, hpl.2⟩ (rg_k (1 : Int32) 1 rfl) (by decide +kernel))
    have uh_4 := h_4.1
    have vh_4 := h_4.2
    have tx_3 : (x_3).toInt = (I 401 this).toInt + 1 := by rw [ex_3]; exact i_add_rg (a2 := (I 401 this).toInt) (b2 := 1) rfl rfl ⟨hpl.1, hpl.2⟩ (rg_k (1 : Int32) 1 rfl) (by decide +kernel)
    refine pp_i (v := x_3) (ty := .int) (C := RX12) (T := TX12) (N := 31) hx hb hts (tw_i inlX12) tyX12 tyX12_ok nmX12 hown hK hP hD hS hL_this hK_this (by decide +kernel) rfl 17 401 (by decide +kernel) (hts _ (tw_c tw_887)) rfl (tyX12_ok 17 (by decide +kernel)) rfl rfl (Nat.le_of_ble_eq_true rfl) (ps_401 _ _ _ _ _) dX12_push_17 (fun I_5 H locs eI_5 hP hD hS => ?_)
    replace hFr := fr_I (f := 401) hFr hO_this (by decide +kernel) eI_5
    replace hF := hF.trans (ap_n (vI_st (f := 401) hO_this (by decide +kernel) eI_5))
    have hG := GM.wI hG 401 rfl eI_5 (rg_w h_4 (by decide +kernel)) (by decide +kernel)
    have tt_6 : (I_5 401 this).toInt = (x_3).toInt := by rw [eI_5, pq_us]
    subst hQ
    exact W.vret hx hb hr (fun t1 ht hW => ⟨⟨(σ, I_5, J, r_2, rj, rq), rfl, ⟨I_5, r_2, rfl, hG, ⟨x_3, eI_5, by omega⟩, ((congrFun er_2 _).trans (va_up_self _ _ _)), (fun q hq => ro_ne er_2 hq), (hF0.symm.trans hF), hFr⟩, by rw [ht]; exact hP, va_K.moved hW.alike hK, hD⟩, hS.F ht⟩) hS.2.2 dX12_push_20
  exact go _ _ _ hP hD hS hl

set_option maxRecDepth 100000 in
def g_X12_whole_L5 (J : Nat → Int64) (rj : Nat → Nat → Int64) (rq : Nat → Nat → Option Nat) : Nat → (Nat → Int32) → (Nat → Nat → Int32) → vM
  | 0, I_203, ri_204 => (I_203, J, ri_204, rj, rq)
  | n_269 + 1, I_203, ri_204 => (ap1 (I_203 401) fun (y_277 : Int32) => (if (y_277) ≤ (0 : Int32) then (I_203, J, ri_204, rj, rq) else (ap1 ((y_277) - (1 : Int32)) fun (x_287 : Int32) => (ap1 (ri_204 400 (x_287).toNatClampNeg) fun (x_289 : Int32) => (if x_289 = (2 : Int32) then (ap1 ((y_277) - (1 : Int32)) fun (x_298 : Int32) => (ap1 (va_up I_203 401 x_298) fun (I_300 : Nat → Int32) => (ap1 (I_300 402) fun (y_309 : Int32) => (ap1 ((y_309) - (1 : Int32)) fun (x_311 : Int32) => (ap1 (va_up I_300 402 x_311) fun (I_313 : Nat → Int32) => (bnV (g_X12_emit (2 : Int32) (0 : Int32) I_313 J ri_204 rj rq) fun (I_324 : Nat → Int32) (_ : Nat → Int64) (ri_325 : Nat → Nat → Int32) (_ : Nat → Nat → Int64) (_ : Nat → Nat → Option Nat) => ((g_X12_whole_L5 J rj rq n_269) I_324 ri_325))))))) else (I_203, J, ri_204, rj, rq))))))
set_option maxRecDepth 100000 in
theorem g_X12_whole_L5_e {J : Nat → Int64} {rj : Nat → Nat → Int64} {rq : Nat → Nat → Option Nat} {n_269 : Nat} {I_203 : Nat → Int32} {ri_204 : Nat → Nat → Int32} : g_X12_whole_L5 J rj rq (n_269 + 1) I_203 ri_204 = (ap1 (I_203 401) fun (y_277 : Int32) => (if (y_277) ≤ (0 : Int32) then (I_203, J, ri_204, rj, rq) else (ap1 ((y_277) - (1 : Int32)) fun (x_287 : Int32) => (ap1 (ri_204 400 (x_287).toNatClampNeg) fun (x_289 : Int32) => (if x_289 = (2 : Int32) then (ap1 ((y_277) - (1 : Int32)) fun (x_298 : Int32) => (ap1 (va_up I_203 401 x_298) fun (I_300 : Nat → Int32) => (ap1 (I_300 402) fun (y_309 : Int32) => (ap1 ((y_309) - (1 : Int32)) fun (x_311 : Int32) => (ap1 (va_up I_300 402 x_311) fun (I_313 : Nat → Int32) => (bnV (g_X12_emit (2 : Int32) (0 : Int32) I_313 J ri_204 rj rq) fun (I_324 : Nat → Int32) (_ : Nat → Int64) (ri_325 : Nat → Nat → Int32) (_ : Nat → Nat → Int64) (_ : Nat → Nat → Option Nat) => ((g_X12_whole_L5 J rj rq n_269) I_324 ri_325))))))) else (I_203, J, ri_204, rj, rq)))))) := rfl
set_option maxRecDepth 100000 in
def g_X12_whole (I : Nat → Int32) (J : Nat → Int64) (ri : Nat → Nat → Int32) (rj : Nat → Nat → Int64) (rq : Nat → Nat → Option Nat) : vM := (ap1 (va_up I 403 (1 : Int32)) fun (I_1 : Nat → Int32) => (ap1 (I_1 401) fun (y_344 : Int32) => (g_X12_whole_L5 J rj rq (((y_344).toInt - 0).toNat + 1) I_1 ri)))
set_option maxRecDepth 100000 in
theorem g_X12_whole_e {I : Nat → Int32} {J : Nat → Int64} {ri : Nat → Nat → Int32} {rj : Nat → Nat → Int64} {rq : Nat → Nat → Option Nat} : g_X12_whole I J ri rj rq = (ap1 (va_up I 403 (1 : Int32)) fun (I_1 : Nat → Int32) => (ap1 (I_1 401) fun (y_344 : Int32) => (g_X12_whole_L5 J rj rq (((y_344).toInt - 0).toNat + 1) I_1 ri))) := rfl
set_option maxHeartbeats 4000000 in
set_option maxRecDepth 100000 in
theorem s_X12_whole (l : Launch) (D : va_G) (t : pq_T) (σ : pq_S) (I : Nat → Nat → Int32) (J : Nat → Nat → Int64) (ri : Nat → Nat → Int32) (rj : Nat → Nat → Int64) (rq : Nat → Nat → Option Nat) (sz : Nat) (tg : Nat → Nat) (hSH : SH σ tg) (hG0 : GT tg I ri) (this : Nat) (hL_this : this ∈ σ.1) (hK_this : σ.2.1 this = 12) (this_a : Nat) (hR_this_a : σ.2.2.1 384 this = some this_a) (hL_this_a : this_a ∈ σ.1) (hK_this_a : σ.2.1 this_a = 13) (hN_this_a : σ.2.2.2 this_a = 12720) (hT_this_a : tg this_a = 384) (this_pile : Nat) (hR_this_pile : σ.2.2.1 400 this = some this_pile) (hL_this_pile : this_pile ∈ σ.1) (hK_this_pile : σ.2.1 this_pile = 13) (hN_this_pile : σ.2.2.2 this_pile = 160) (hT_this_pile : tg this_pile = 400) (bb : Nat) (f0 : Nat → Int32) (fr : Int) (ba : Int) (tb : Int) (nn : Int) (K : Int) (hps : PSz (I 396 this).toInt (I 398 this).toInt (I 401 this).toInt (I 402 this).toInt (I 391 this).toInt (I 393 this).toInt (ri this_a) (ri this_pile) bb f0 fr ba tb nn K 1) : MetV l yX12_whole (wa yX12_whole cX12_whole 1 none) ({ frames := 1, cells := 0, slots := 0, locals := 22 }) [.ref this] D t σ (I, J, ri, rj, rq) sz 0 0 (fun (u : pq_S × pq_M) => ∃ I' : Nat → Nat → Int32, ∃ ri' : Nat → Nat → Int32, u = (σ, I', J, ri', rj, rq) ∧ GM [401, 402, 398] tg σ I ri I' ri' rq ∧ (PSz (I' 396 this).toInt (I' 398 this).toInt (I' 401 this).toInt (I' 402 this).toInt (I' 391 this).toInt (I' 393 this).toInt (ri' this_a) (ri' this_pile) bb f0 fr ba tb nn K 1) ∧ ((I' 403 this).toInt = 1) ∧ g_X12_whole (vI 12 σ this I) (vJ 12 σ this J) (vR 12 σ this ri) (vL 12 σ this rj) (vQ 12 σ this rq) = ((vI 12 σ this I'), (vJ 12 σ this J), (vR 12 σ this ri'), (vL 12 σ this rj), (vQ 12 σ this rq)) ∧ FR 12 tg σ this (I, J, ri, rj, rq) (I', J, ri', rj, rq)) := by
  refine Met.ofW (cc := cX12_whole) (maxL := 1) (ret := none) (by decide +kernel) rfl ?_
  intro p e s m args below meth c s₁ B hml hv
  obtain ⟨rfl, hsz, hP, hK, hD0, hN⟩ := hv
  have hx := B.exec
  have hb := B.bytes
  have hr := B.returns
  have hts := atoms_spec (ws := (wa yX12_whole cX12_whole 1 none)) B.pre
  have hown : s.vm.findClass RX12 = some m.cls := findClass_of_methodNamed B.named
  have hlocks := B.notSynchronized
  subst hsz
  have hD : va_D (pq_B t σ (I, J, ri, rj, rq) s.heap.size) (pq_P t σ (I, J, ri, rj, rq)) := hD0.self
  generalize hAe : pq_B t σ (I, J, ri, rj, rq) s.heap.size = A at hD ⊢
  have hA : ∀ q : Nat, s.heap.size ≤ q → A q := fun q h => by rw [← hAe]; exact Or.inr h
  have hS : va_S A s.heap s.heap [] := va_S.rf
  have hG : GM [401, 402, 398] tg σ I ri I ri rq := ⟨hG0, fun _ _ _ => rfl, fun _ _ _ _ _ => rfl, fun _ _ _ _ _ _ => rfl⟩
  have hl := lv_entry ([.ref this]) (n := 1) (Nat.le_of_ble_eq_true rfl)
  rw [lg_entry_eq]
  generalize (lg_sl ([.ref this]) ++ List.replicate (1 - (lg_sl ([.ref this])).length) Slot.unset).toArray = ls at hl ⊢
  have hl : lv_has ls 1 [(0, .ref this)] := hl
  refine q_gen (fun Q hQ => ?_)
  have go : ∀ (H : Heap) (locs : List Loc) (ls : Array Slot), va_P D vwCl (pq_P t σ (I, J, ri, rj, rq)) H → va_D A (pq_P t σ (I, J, ri, rj, rq)) → va_S A s.heap H locs → lv_has ls 1 [(0, .ref this)] → W p l e ({ frames := 1, cells := 0, slots := 0, locals := 22 } : Room) s m (List.toArray ([.ref this] : List Value)) below meth c H locs 0 0 Q (F0 m 0 ls []) := by
    intro H locs ls hP hD hS hl
    have hO_this : this = vo σ 12 this := rfl
    have hVT : VT 12 σ tg this := vt_12 hSH hL_this hK_this
    have hFr : FR 12 tg σ this (I, J, ri, rj, rq) (I, J, ri, rj, rq) := fr_rf
    have hO_this_a : this_a = vrow σ 384 this := vo_k (c := 12) hO_this hR_this_a
    have hO_this_pile : this_pile = vrow σ 400 this := vo_k (c := 12) hO_this hR_this_pile
    obtain ⟨F, hF0⟩ : ∃ F, F = g_X12_whole (vI 12 σ this I) (vJ 12 σ this J) (vR 12 σ this ri) (vL 12 σ this rj) (vQ 12 σ this rq) := ⟨_, rfl⟩
    have hF := hF0.trans g_X12_whole_e
    refine lv_aload_n hx hb dX12_whole_0 rfl (lv_at hl 0 rfl) ?_
    refine lv_iconst (v := 1) hx hb dX12_whole_1 (by decide +kernel) ?_
    refine pp_i (v := 1) (ty := .boolean) (C := RX12) (T := TX12) (N := 31) hx hb hts (tw_i inlX12) tyX12 tyX12_ok nmX12 hown hK hP hD hS hL_this hK_this (by decide +kernel) rfl 19 403 (by decide +kernel) (hts _ (tw_c tw_888)) rfl (tyX12_ok 19 (by decide +kernel)) rfl (by decide +kernel) (Nat.le_of_ble_eq_true rfl) (ps_403 _ _ _ _ _) dX12_whole_2 (fun I_1 H locs eI_1 hP hD hS => ?_)
    replace hFr := fr_I (f := 403) hFr hO_this (by decide +kernel) eI_1
    replace hF := hF.trans (ap_n (vI_st (f := 403) hO_this (by decide +kernel) eI_1))
    have hG := GM.wI hG 403 rfl eI_1 (rg_w (rg_k (1 : Int32) 1 rfl) (by decide +kernel)) (by decide +kernel)
    have tt_2 : (I_1 396 this).toInt = (I 396 this).toInt := by rw [eI_1, pq_uf _ _ _ (by decide +kernel)]
    have tt_3 : (I_1 398 this).toInt = (I 398 this).toInt := by rw [eI_1, pq_uf _ _ _ (by decide +kernel)]
    have tt_4 : (I_1 401 this).toInt = (I 401 this).toInt := by rw [eI_1, pq_uf _ _ _ (by decide +kernel)]
    have tt_5 : (I_1 402 this).toInt = (I 402 this).toInt := by rw [eI_1, pq_uf _ _ _ (by decide +kernel)]
    have tt_6 : (I_1 391 this).toInt = (I 391 this).toInt := by rw [eI_1, pq_uf _ _ _ (by decide +kernel)]
    have tt_7 : (I_1 393 this).toInt = (I 393 this).toInt := by rw [eI_1, pq_uf _ _ _ (by decide +kernel)]
    have tt_8 : (I_1 403 this).toInt = 1 := by rw [eI_1, pq_us]; rfl
    have tt_9 : (I_1 397 this).toInt = (I 397 this).toInt := by rw [eI_1, pq_uf _ _ _ (by decide +kernel)]
    have L_270 : ∀ (n_269 : Nat) (I_203 : Nat → Nat → Int32) (ri_204 : Nat → Nat → Int32) (H : Heap) (locs : List Loc) (ls : Array Slot), ((I_203 403 this).toInt = 1) → (PSz (I_203 396 this).toInt (I_203 398 this).toInt (I_203 401 this).toInt (I_203 402 this).toInt (I_203 391 this).toInt (I_203 393 this).toInt (ri_204 this_a) (ri_204 this_pile) bb f0 fr ba tb nn K 1) → ((I_203 401 this).toInt - 0).toNat < n_269 → F = g_X12_whole_L5 (vJ 12 σ this J) (vL 12 σ this rj) (vQ 12 σ this rq) n_269 (vI 12 σ this I_203) (vR 12 σ this ri_204) → FR 12 tg σ this (I, J, ri, rj, rq) (I_203, J, ri_204, rj, rq) → GM [401, 402, 398] tg σ I ri I_203 ri_204 rq → va_P D vwCl (pq_P t σ (I_203, J, ri_204, rj, rq)) H → va_D A (pq_P t σ (I_203, J, ri_204, rj, rq)) → va_S A s.heap H locs → lv_has ls 1 [(0, .ref this)] → W p l e ({ frames := 1, cells := 0, slots := 0, locals := 22 } : Room) s m (List.toArray ([.ref this] : List Value)) below meth c H locs 0 0 Q (F0 m 5 ls []) := by
      intro n_269
      induction n_269 with
      | zero => intro I_203 ri_204 H locs ls hrel_274 hrel_275 hm_268 hF hFr hG hP hD hS hl; exact absurd hm_268 (Nat.not_lt_zero _)
      | succ n_269 ih_271 =>
        intro I_203 ri_204 H locs ls hrel_274 hrel_275 hm_268 hF hFr hG hP hD hS hl
        replace hF := hF.trans g_X12_whole_L5_e
        refine lv_aload_n hx hb dX12_whole_5 rfl (lv_at hl 0 rfl) ?_
        refine pg_f (v := .int (I_203 401 this)) (C := RX12) (T := TX12) (N := 31) hx hb hts (tw_i inlX12) hown hK hP hL_this hK_this (by decide +kernel) rfl 17 (by decide +kernel) (hts _ (tw_c tw_887)) rfl dX12_whole_6 ?_
        have h_276 : rg (I_203 401 this) 0 160 := GM.rI hG 401 rfl
        have uh_276 := h_276.1
        have vh_276 := h_276.2
        replace hF := hF.trans (ap_n (vI_e (f := 401) hO_this (by decide +kernel)))
        refine lv_if_le (tgt := 56) hx hb dX12_whole_9 (by decide +kernel) (fun c_278 => ?_) (fun c_278 => ?_)
        · replace hF := hF.trans (if_pos c_278)
          have tc_283 : (I_203 401 this).toInt ≤ 0 := Int32.le_iff_toInt_le.mp c_278
          have h_284 : rg (I_203 401 this) 0 0 := rg_le1 c_278 h_276 (rg_k (0 : Int32) 0 rfl) (by decide +kernel)
          have uh_284 := h_284.1
          have vh_284 := h_284.2
          subst hQ
          exact W.vret hx hb hr (fun t1 ht hW => ⟨⟨(σ, I_203, J, ri_204, rj, rq), rfl, ⟨I_203, ri_204, rfl, hG, hrel_275, (by omega), (hF0.symm.trans hF), hFr⟩, by rw [ht]; exact hP, va_K.moved hW.alike hK, hD⟩, hS.F ht⟩) hS.2.2 dX12_whole_56
        · replace hF := hF.trans (if_neg c_278)
          have tc_285 : 0 < (I_203 401 this).toInt := Int32.lt_iff_toInt_lt.mp (nle c_278)
          have h_286 : rg (I_203 401 this) 1 160 := rg_lt2 (nle c_278) (rg_k (0 : Int32) 0 rfl) h_276 (by decide +kernel)
          have uh_286 := h_286.1
          have vh_286 := h_286.2
          refine lv_aload_n hx hb dX12_whole_12 rfl (lv_at hl 0 rfl) ?_
          refine pg_f (v := .ref this_pile) (C := RX12) (T := TX12) (N := 31) hx hb hts (tw_i inlX12) hown hK hP hL_this hK_this (by decide +kernel) rfl 16 (by decide +kernel) (hts _ (tw_c tw_182)) (pq_hv rfl hR_this_pile) dX12_whole_13 ?_
          refine lv_aload_n hx hb dX12_whole_16 rfl (lv_at hl 0 rfl) ?_
          refine pg_f (v := .int (I_203 401 this)) (C := RX12) (T := TX12) (N := 31) hx hb hts (tw_i inlX12) hown hK hP hL_this hK_this (by decide +kernel) rfl 17 (by decide +kernel) (hts _ (tw_c tw_887)) rfl dX12_whole_17 ?_
          refine lv_iconst (v := 1) hx hb dX12_whole_20 (by decide +kernel) ?_
          refine lv_isub hx hb dX12_whole_21 ?_
          refine lv_topi (fun x_287 ex_287 => ?_)
          replace hF := hF.trans (ap_n ex_287)
          have h_288 : rg x_287 0 159 := rg_of_eq ex_287 (rg_sub h_286 (rg_k (1 : Int32) 1 rfl) (by decide +kernel))
          have uh_288 := h_288.1
          have vh_288 := h_288.2
          have tx_287 : (x_287).toInt = (I_203 401 this).toInt - 1 := by rw [ex_287]; exact i_sub_rg (a2 := (I_203 401 this).toInt) (b2 := 1) rfl rfl h_286 (rg_k (1 : Int32) 1 rfl) (by decide +kernel)
          refine pl_i hx hb hK hP hL_this_pile hK_this_pile hN_this_pile (rg_in h_288 (by decide +kernel)) dX12_whole_22 ?_
          refine lv_topi (fun x_289 ex_289 => ?_)
          replace hF := hF.trans (ap_n (vR_r hO_this_pile (by decide +kernel) ex_289))
          have ex_289 : x_289 = ri_204 this_pile (x_287).toNatClampNeg := ex_289
          have h_290 : rg x_289 0 40 := rg_of_eq ex_289 (GM.rR hG hT_this_pile rfl)
          have uh_290 := h_290.1
          have vh_290 := h_290.2
          refine lv_iconst (v := 2) hx hb dX12_whole_23 (by decide +kernel) ?_
          refine lv_icmp_ne (tgt := 56) hx hb dX12_whole_24 (by decide +kernel) (fun c_291 => ?_) (fun c_291 => ?_)
          · replace hF := hF.trans (if_neg c_291)
            have tc_295 : (x_289).toInt ≠ 2 := fun q => c_291 (Int32.toInt_inj.mp q)
            subst hQ
            exact W.vret hx hb hr (fun t1 ht hW => ⟨⟨(σ, I_203, J, ri_204, rj, rq), rfl, ⟨I_203, ri_204, rfl, hG, hrel_275, (by omega), (hF0.symm.trans hF), hFr⟩, by rw [ht]; exact hP, va_K.moved hW.alike hK, hD⟩, hS.F ht⟩) hS.2.2 dX12_whole_56
          · replace hF := hF.trans (if_pos c_291)
            have tc_296 : (x_289).toInt = 2 := congrArg Int32.toInt c_291
            have h_297 : rg x_289 2 2 := rg_and h_290 (rg_of_eq c_291 (rg_k (2 : Int32) 2 rfl)) (by decide +kernel)
            have uh_297 := h_297.1
            have vh_297 := h_297.2
            refine lv_aload_n hx hb dX12_whole_27 rfl (lv_at hl 0 rfl) ?_
            refine lv_dup hx hb dX12_whole_28 rfl ?_
            refine pg_f (v := .int (I_203 401 this)) (C := RX12) (T := TX12) (N := 31) hx hb hts (tw_i inlX12) hown hK hP hL_this hK_this (by decide +kernel) rfl 17 (by decide +kernel) (hts _ (tw_c tw_887)) rfl dX12_whole_29 ?_
            refine lv_iconst (v := 1) hx hb dX12_whole_32 (by decide +kernel) ?_
            refine lv_isub hx hb dX12_whole_33 ?_
            refine lv_topi (fun x_298 ex_298 => ?_)
            replace hF := hF.trans (ap_n ex_298)
            have h_299 : rg x_298 0 159 := rg_of_eq ex_298 (rg_sub h_286 (rg_k (1 : Int32) 1 rfl) (by decide +kernel))
            have uh_299 := h_299.1
            have vh_299 := h_299.2
            have tx_298 : (x_298).toInt = (I_203 401 this).toInt - 1 := by rw [ex_298]; exact i_sub_rg (a2 := (I_203 401 this).toInt) (b2 := 1) rfl rfl h_286 (rg_k (1 : Int32) 1 rfl) (by decide +kernel)
            refine pp_i (v := x_298) (ty := .int) (C := RX12) (T := TX12) (N := 31) hx hb hts (tw_i inlX12) tyX12 tyX12_ok nmX12 hown hK hP hD hS hL_this hK_this (by decide +kernel) rfl 17 401 (by decide +kernel) (hts _ (tw_c tw_887)) rfl (tyX12_ok 17 (by decide +kernel)) rfl rfl (Nat.le_of_ble_eq_true rfl) (ps_401 _ _ _ _ _) dX12_whole_34 (fun I_300 H locs eI_300 hP hD hS => ?_)
            replace hFr := fr_I (f := 401) hFr hO_this (by decide +kernel) eI_300
            replace hF := hF.trans (ap_n (vI_st (f := 401) hO_this (by decide +kernel) eI_300))
            have hG := GM.wI hG 401 rfl eI_300 (rg_w h_299 (by decide +kernel)) (by decide +kernel)
            have tt_301 : (I_300 396 this).toInt = (I_203 396 this).toInt := by rw [eI_300, pq_uf _ _ _ (by decide +kernel)]
            have tt_302 : (I_300 398 this).toInt = (I_203 398 this).toInt := by rw [eI_300, pq_uf _ _ _ (by decide +kernel)]
            have tt_303 : (I_300 401 this).toInt = (x_298).toInt := by rw [eI_300, pq_us]
            have tt_304 : (I_300 402 this).toInt = (I_203 402 this).toInt := by rw [eI_300, pq_uf _ _ _ (by decide +kernel)]
            have tt_305 : (I_300 391 this).toInt = (I_203 391 this).toInt := by rw [eI_300, pq_uf _ _ _ (by decide +kernel)]
            have tt_306 : (I_300 393 this).toInt = (I_203 393 this).toInt := by rw [eI_300, pq_uf _ _ _ (by decide +kernel)]
            have tt_307 : (I_300 403 this).toInt = (I_203 403 this).toInt := by rw [eI_300, pq_uf _ _ _ (by decide +kernel)]
            have tt_308 : (I_300 397 this).toInt = (I_203 397 this).toInt := by rw [eI_300, pq_uf _ _ _ (by decide +kernel)]
            refine lv_aload_n hx hb dX12_whole_37 rfl (lv_at hl 0 rfl) ?_
            refine lv_dup hx hb dX12_whole_38 rfl ?_
            refine pg_f (v := .int (I_300 402 this)) (C := RX12) (T := TX12) (N := 31) hx hb hts (tw_i inlX12) hown hK hP hL_this hK_this (by decide +kernel) rfl 18 (by decide +kernel) (hts _ (tw_c tw_828)) rfl dX12_whole_39 ?_
            replace hF := hF.trans (ap_n (vI_e (f := 402) hO_this (by decide +kernel)))
            have hq0 := PSz_bd hrel_275
            have h_310 : rg (I_300 402 this) 0 8 := ⟨by omega, by omega⟩
            have uh_310 := h_310.1
            have vh_310 := h_310.2
            refine lv_iconst (v := 1) hx hb dX12_whole_42 (by decide +kernel) ?_
            refine lv_isub hx hb dX12_whole_43 ?_
            refine lv_topi (fun x_311 ex_311 => ?_)
            replace hF := hF.trans (ap_n ex_311)
            have h_312 : rg x_311 (-1) 7 := rg_of_eq ex_311 (rg_sub h_310 (rg_k (1 : Int32) 1 rfl) (by decide +kernel))
            have uh_312 := h_312.1
            have vh_312 := h_312.2
            have tx_311 : (x_311).toInt = (I_300 402 this).toInt - 1 := by rw [ex_311]; exact i_sub_rg (a2 := (I_300 402 this).toInt) (b2 := 1) rfl rfl h_310 (rg_k (1 : Int32) 1 rfl) (by decide +kernel)
            refine pp_i (v := x_311) (ty := .int) (C := RX12) (T := TX12) (N := 31) hx hb hts (tw_i inlX12) tyX12 tyX12_ok nmX12 hown hK hP hD hS hL_this hK_this (by decide +kernel) rfl 18 402 (by decide +kernel) (hts _ (tw_c tw_828)) rfl (tyX12_ok 18 (by decide +kernel)) rfl rfl (Nat.le_of_ble_eq_true rfl) (ps_402 _ _ _ _ _) dX12_whole_44 (fun I_313 H locs eI_313 hP hD hS => ?_)
            replace hFr := fr_I (f := 402) hFr hO_this (by decide +kernel) eI_313
            replace hF := hF.trans (ap_n (vI_st (f := 402) hO_this (by decide +kernel) eI_313))
            have hG := GM.wI hG 402 rfl eI_313 (rg_w h_312 (by decide +kernel)) (by decide +kernel)
            have tt_314 : (I_313 396 this).toInt = (I_300 396 this).toInt := by rw [eI_313, pq_uf _ _ _ (by decide +kernel)]
            have tt_315 : (I_313 398 this).toInt = (I_300 398 this).toInt := by rw [eI_313, pq_uf _ _ _ (by decide +kernel)]
            have tt_316 : (I_313 401 this).toInt = (I_300 401 this).toInt := by rw [eI_313, pq_uf _ _ _ (by decide +kernel)]
            have tt_317 : (I_313 402 this).toInt = (x_311).toInt := by rw [eI_313, pq_us]
            have tt_318 : (I_313 391 this).toInt = (I_300 391 this).toInt := by rw [eI_313, pq_uf _ _ _ (by decide +kernel)]
            have tt_319 : (I_313 393 this).toInt = (I_300 393 this).toInt := by rw [eI_313, pq_uf _ _ _ (by decide +kernel)]
            have tt_320 : (I_313 403 this).toInt = (I_300 403 this).toInt := by rw [eI_313, pq_uf _ _ _ (by decide +kernel)]
            have tt_321 : (I_313 397 this).toInt = (I_300 397 this).toInt := by rw [eI_313, pq_uf _ _ _ (by decide +kernel)]
            refine lv_aload_n hx hb dX12_whole_47 rfl (lv_at hl 0 rfl) ?_
            refine lv_iconst (v := 2) hx hb dX12_whole_48 (by decide +kernel) ?_
            refine lv_iconst (v := 0) hx hb dX12_whole_49 (by decide +kernel) ?_
            have hq1 := PSz_t hrel_275
            have hq2 := PSz_w hrel_275 (Or.inr (by omega))
            refine pk_v (va_runV (As := [.int 2, .int 0]) (rest := []) ⟨hx, hb, hml, hown, hts⟩ (s_X12_emit l D t σ I_313 J ri_204 rj rq H.size tg hSH hG.1 this (2 : Int32) (0 : Int32) hL_this hK_this this_a hR_this_a hL_this_a hK_this_a hN_this_a hT_this_a (by omega) (by omega)) (cwV 2 hts (tw_V tw_905 tw_906 tw_907 tw_5 tw_908) rfl rfl rfl cv_yX12_emit_2 ⟨Nat.le_of_ble_eq_true rfl, Nat.le_of_ble_eq_true rfl⟩) ⟨pq_blind, pq_recv hK hP hL_this hK_this (by decide +kernel) rfl, pq_pre hK hN hP hD⟩ rfl rfl hl.1 rfl (lv_room (Nat.le_of_ble_eq_true rfl)) dX12_whole_50 ⟨Nat.le_of_ble_eq_true rfl, Nat.le_of_ble_eq_true rfl⟩) hD hS hA (fun σ1 μ1 H locs hw_323 hP hD hS => ?_)
            obtain ⟨I_324, ri_325, hu_326, hg_327, hp_329, hp_330, hp_331, hp_332, hfn_333, hfr_334⟩ := hw_323
            obtain ⟨hu_326a, hu_326b⟩ := Prod.mk.inj hu_326
            rw [hu_326a, hu_326b] at hP hD
            replace hF := hF.trans (bv_n hfn_333)
            replace hFr := fr_tr hFr hfr_334
            obtain ⟨v_335, ev_335, hv_335⟩ := hp_329
            have tt_336 : (I_324 398 this).toInt = (I_313 398 this).toInt + 1 := by rw [ev_335, pq_us]; exact hv_335
            have tt_337 : (I_324 403 this).toInt = (I_313 403 this).toInt := by rw [ev_335, pq_uf _ _ _ (by decide +kernel)]
            have hG := GM.tr hG hg_327 (by decide +kernel)
            have tt_338 : (I_324 396 this).toInt = (I_313 396 this).toInt := by rw [hg_327.2.1 396 (by decide +kernel) (by decide +kernel)]
            have tt_339 : (I_324 401 this).toInt = (I_313 401 this).toInt := by rw [hg_327.2.1 401 (by decide +kernel) (by decide +kernel)]
            have tt_340 : (I_324 402 this).toInt = (I_313 402 this).toInt := by rw [hg_327.2.1 402 (by decide +kernel) (by decide +kernel)]
            have tt_341 : (I_324 391 this).toInt = (I_313 391 this).toInt := by rw [hg_327.2.1 391 (by decide +kernel) (by decide +kernel)]
            have tt_342 : (I_324 393 this).toInt = (I_313 393 this).toInt := by rw [hg_327.2.1 393 (by decide +kernel) (by decide +kernel)]
            have tt_343 : (I_324 397 this).toInt = (I_313 397 this).toInt := by rw [hg_327.2.1 397 (by decide +kernel) (by decide +kernel)]
            refine lv_goto (tgt := 5) hx hb dX12_whole_53 (by decide +kernel) ?_
            exact ih_271 I_324 ri_325 _ _ _ (by omega) (PSz_popO hrel_275 (by omega) (by rw [show (I_203 401 this).toInt.toNat - 1 = (x_287).toNatClampNeg from by have z0 := clampE x_287; omega, ← ex_289]; omega) (x := (2 : Int32)) rfl (fun j hj => hp_330 j (by omega)) (by rw [show (I_203 396 this).toInt + 250 + 2 * (I_203 398 this).toInt = (I_313 396 this).toInt + 250 + 2 * (I_313 398 this).toInt from by omega]; exact hp_331) (by omega) (by omega) (by omega) (by omega) (by omega) (by omega) (hp_332 this_pile (tg_ne hT_this_pile hT_this_a (by decide +kernel)))) (ms_fd_isub hm_268 ((congrFun (hg_327.2.1 401 (by decide +kernel) (by decide +kernel)) this).trans ((congrFun (show I_313 401 = I_300 401 from by rw [eI_313]; exact pq_uf _ _ _ (by decide +kernel)) this).trans (by rw [eI_300]; exact pq_us _ _ _ _))) ex_298 rfl (kk := 1) rfl (by decide +kernel) h_286 (by decide +kernel) (by decide +kernel)) hF hFr hG hP hD hS (lv_sub hl [0] rfl)
    replace hF := hF.trans (ap_n (vI_e (f := 401) hO_this (by decide +kernel)))
    exact L_270 _ I_1 ri _ _ _ (by omega) (PSz_cg hps (by omega) (by omega) (by omega) (by omega) (by omega) (by omega) rfl rfl) (Nat.lt_succ_self _) hF hFr hG hP hD hS (lv_sub hl [0] rfl)
  exact go _ _ _ hP hD hS hl

set_option maxRecDepth 100000 in
def g_X12_settle_L0 (a0 : Int32) (J : Nat → Int64) (rj : Nat → Nat → Int64) (rq : Nat → Nat → Option Nat) : Nat → (Nat → Int32) → (Nat → Nat → Int32) → vM
  | 0, I_309, ri_310 => (I_309, J, ri_310, rj, rq)
  | n_385 + 1, I_309, ri_310 => (ap1 (I_309 401) fun (y_397 : Int32) => (if (y_397) ≤ (0 : Int32) then (I_309, J, ri_310, rj, rq) else (ap1 ((y_397) - (1 : Int32)) fun (x_407 : Int32) => (ap1 (ri_310 400 (x_407).toNatClampNeg) fun (x_409 : Int32) => (ap1 (g_X12_isIn_x x_409 a0 (6 : Int32)) fun (x_411 : Int32) => (if x_411 = (0 : Int32) then (I_309, J, ri_310, rj, rq) else (ap1 ((y_397) - (1 : Int32)) fun (x_444 : Int32) => (ap1 (va_up I_309 401 x_444) fun (I_446 : Nat → Int32) => (ap1 (I_446 401) fun (y_456 : Int32) => (ap1 (ri_310 400 ((y_456)).toNatClampNeg) fun (x_457 : Int32) => (bnV (g_X12_emit x_457 (0 : Int32) I_446 J ri_310 rj rq) fun (I_461 : Nat → Int32) (_ : Nat → Int64) (ri_462 : Nat → Nat → Int32) (_ : Nat → Nat → Int64) (_ : Nat → Nat → Option Nat) => ((g_X12_settle_L0 a0 J rj rq n_385) I_461 ri_462))))))))))))
set_option maxRecDepth 100000 in
theorem g_X12_settle_L0_e {a0 : Int32} {J : Nat → Int64} {rj : Nat → Nat → Int64} {rq : Nat → Nat → Option Nat} {n_385 : Nat} {I_309 : Nat → Int32} {ri_310 : Nat → Nat → Int32} : g_X12_settle_L0 a0 J rj rq (n_385 + 1) I_309 ri_310 = (ap1 (I_309 401) fun (y_397 : Int32) => (if (y_397) ≤ (0 : Int32) then (I_309, J, ri_310, rj, rq) else (ap1 ((y_397) - (1 : Int32)) fun (x_407 : Int32) => (ap1 (ri_310 400 (x_407).toNatClampNeg) fun (x_409 : Int32) => (ap1 (g_X12_isIn_x x_409 a0 (6 : Int32)) fun (x_411 : Int32) => (if x_411 = (0 : Int32) then (I_309, J, ri_310, rj, rq) else (ap1 ((y_397) - (1 : Int32)) fun (x_444 : Int32) => (ap1 (va_up I_309 401 x_444) fun (I_446 : Nat → Int32) => (ap1 (I_446 401) fun (y_456 : Int32) => (ap1 (ri_310 400 ((y_456)).toNatClampNeg) fun (x_457 : Int32) => (bnV (g_X12_emit x_457 (0 : Int32) I_446 J ri_310 rj rq) fun (I_461 : Nat → Int32) (_ : Nat → Int64) (ri_462 : Nat → Nat → Int32) (_ : Nat → Nat → Int64) (_ : Nat → Nat → Option Nat) => ((g_X12_settle_L0 a0 J rj rq n_385) I_461 ri_462)))))))))))) := rfl
set_option maxRecDepth 100000 in
def g_X12_settle (a0 : Int32) (I : Nat → Int32) (J : Nat → Int64) (ri : Nat → Nat → Int32) (rj : Nat → Nat → Int64) (rq : Nat → Nat → Option Nat) : vM := (ap1 (I 401) fun (y_2 : Int32) => (if (y_2) ≤ (0 : Int32) then (I, J, ri, rj, rq) else (ap1 ((y_2) - (1 : Int32)) fun (x_12 : Int32) => (ap1 (ri 400 (x_12).toNatClampNeg) fun (x_14 : Int32) => (ap1 (g_X12_isIn_x x_14 a0 (6 : Int32)) fun (x_16 : Int32) => (if x_16 = (0 : Int32) then (I, J, ri, rj, rq) else (ap1 ((y_2) - (1 : Int32)) fun (x_49 : Int32) => (ap1 (va_up I 401 x_49) fun (I_51 : Nat → Int32) => (ap1 (I_51 401) fun (y_61 : Int32) => (ap1 (ri 400 ((y_61)).toNatClampNeg) fun (x_62 : Int32) => (bnV (g_X12_emit x_62 (0 : Int32) I_51 J ri rj rq) fun (I_66 : Nat → Int32) (_ : Nat → Int64) (ri_67 : Nat → Nat → Int32) (_ : Nat → Nat → Int64) (_ : Nat → Nat → Option Nat) => (ap1 (I_66 401) fun (y_481 : Int32) => (g_X12_settle_L0 a0 J rj rq (((y_481).toInt - 0).toNat + 1) I_66 ri_67)))))))))))))
set_option maxRecDepth 100000 in
theorem g_X12_settle_e {a0 : Int32} {I : Nat → Int32} {J : Nat → Int64} {ri : Nat → Nat → Int32} {rj : Nat → Nat → Int64} {rq : Nat → Nat → Option Nat} : g_X12_settle a0 I J ri rj rq = (ap1 (I 401) fun (y_2 : Int32) => (if (y_2) ≤ (0 : Int32) then (I, J, ri, rj, rq) else (ap1 ((y_2) - (1 : Int32)) fun (x_12 : Int32) => (ap1 (ri 400 (x_12).toNatClampNeg) fun (x_14 : Int32) => (ap1 (g_X12_isIn_x x_14 a0 (6 : Int32)) fun (x_16 : Int32) => (if x_16 = (0 : Int32) then (I, J, ri, rj, rq) else (ap1 ((y_2) - (1 : Int32)) fun (x_49 : Int32) => (ap1 (va_up I 401 x_49) fun (I_51 : Nat → Int32) => (ap1 (I_51 401) fun (y_61 : Int32) => (ap1 (ri 400 ((y_61)).toNatClampNeg) fun (x_62 : Int32) => (bnV (g_X12_emit x_62 (0 : Int32) I_51 J ri rj rq) fun (I_66 : Nat → Int32) (_ : Nat → Int64) (ri_67 : Nat → Nat → Int32) (_ : Nat → Nat → Int64) (_ : Nat → Nat → Option Nat) => (ap1 (I_66 401) fun (y_481 : Int32) => (g_X12_settle_L0 a0 J rj rq (((y_481).toInt - 0).toNat + 1) I_66 ri_67))))))))))))) := rfl
set_option maxHeartbeats 4000000 in
set_option maxRecDepth 100000 in
theorem s_X12_settle (l : Launch) (D : va_G) (t : pq_T) (σ : pq_S) (I : Nat → Nat → Int32) (J : Nat → Nat → Int64) (ri : Nat → Nat → Int32) (rj : Nat → Nat → Int64) (rq : Nat → Nat → Option Nat) (sz : Nat) (tg : Nat → Nat) (hSH : SH σ tg) (hG0 : GT tg I ri) (this : Nat) (a0 : Int32) (hL_this : this ∈ σ.1) (hK_this : σ.2.1 this = 12) (h_a0 : rg a0 3 5) (this_a : Nat) (hR_this_a : σ.2.2.1 384 this = some this_a) (hL_this_a : this_a ∈ σ.1) (hK_this_a : σ.2.1 this_a = 13) (hN_this_a : σ.2.2.2 this_a = 12720) (hT_this_a : tg this_a = 384) (this_pile : Nat) (hR_this_pile : σ.2.2.1 400 this = some this_pile) (hL_this_pile : this_pile ∈ σ.1) (hK_this_pile : σ.2.1 this_pile = 13) (hN_this_pile : σ.2.2.2 this_pile = 160) (hT_this_pile : tg this_pile = 400) (bb : Nat) (f0 : Nat → Int32) (fr : Int) (ba : Int) (tb : Int) (nn : Int) (K : Int) (hps : PSz (I 396 this).toInt (I 398 this).toInt (I 401 this).toInt (I 402 this).toInt (I 391 this).toInt (I 393 this).toInt (ri this_a) (ri this_pile) bb f0 fr ba tb nn K 1) : MetV l yX12_settle (wa yX12_settle cX12_settle 2 none) ({ frames := 1, cells := 0, slots := 0, locals := 22 }) [.ref this, .int a0] D t σ (I, J, ri, rj, rq) sz 0 0 (fun (u : pq_S × pq_M) => ∃ I' : Nat → Nat → Int32, ∃ ri' : Nat → Nat → Int32, u = (σ, I', J, ri', rj, rq) ∧ GM [401, 398] tg σ I ri I' ri' rq ∧ (PSz (I' 396 this).toInt (I' 398 this).toInt (I' 401 this).toInt (I' 402 this).toInt (I' 391 this).toInt (I' 393 this).toInt (ri' this_a) (ri' this_pile) bb f0 fr ba tb nn K 1) ∧ ((I' 401 this).toInt = 0 ∨ (ri' this_pile ((I' 401 this).toInt.toNat - 1)).toInt < a0.toInt ∨ 6 < (ri' this_pile ((I' 401 this).toInt.toNat - 1)).toInt) ∧ (∀ j : Nat, (j : Int) < (I 401 this).toInt → isO (ri this_pile j) → (j : Int) < (I' 401 this).toInt) ∧ (ri' this_pile = ri this_pile) ∧ ((I' 403 this).toInt = (I 403 this).toInt) ∧ g_X12_settle a0 (vI 12 σ this I) (vJ 12 σ this J) (vR 12 σ this ri) (vL 12 σ this rj) (vQ 12 σ this rq) = ((vI 12 σ this I'), (vJ 12 σ this J), (vR 12 σ this ri'), (vL 12 σ this rj), (vQ 12 σ this rq)) ∧ FR 12 tg σ this (I, J, ri, rj, rq) (I', J, ri', rj, rq)) := by
  refine Met.ofW (cc := cX12_settle) (maxL := 2) (ret := none) (by decide +kernel) rfl ?_
  intro p e s m args below meth c s₁ B hml hv
  obtain ⟨rfl, hsz, hP, hK, hD0, hN⟩ := hv
  have hx := B.exec
  have hb := B.bytes
  have hr := B.returns
  have hts := atoms_spec (ws := (wa yX12_settle cX12_settle 2 none)) B.pre
  have hown : s.vm.findClass RX12 = some m.cls := findClass_of_methodNamed B.named
  have hlocks := B.notSynchronized
  subst hsz
  have hD : va_D (pq_B t σ (I, J, ri, rj, rq) s.heap.size) (pq_P t σ (I, J, ri, rj, rq)) := hD0.self
  generalize hAe : pq_B t σ (I, J, ri, rj, rq) s.heap.size = A at hD ⊢
  have hA : ∀ q : Nat, s.heap.size ≤ q → A q := fun q h => by rw [← hAe]; exact Or.inr h
  have hS : va_S A s.heap s.heap [] := va_S.rf
  have hG : GM [401, 398] tg σ I ri I ri rq := ⟨hG0, fun _ _ _ => rfl, fun _ _ _ _ _ => rfl, fun _ _ _ _ _ _ => rfl⟩
  have hl := lv_entry ([.ref this, .int a0]) (n := 2) (Nat.le_of_ble_eq_true rfl)
  rw [lg_entry_eq]
  generalize (lg_sl ([.ref this, .int a0]) ++ List.replicate (2 - (lg_sl ([.ref this, .int a0])).length) Slot.unset).toArray = ls at hl ⊢
  have hl : lv_has ls 2 [(0, .ref this), (1, .int a0)] := hl
  refine q_gen (fun Q hQ => ?_)
  have go : ∀ (H : Heap) (locs : List Loc) (ls : Array Slot), va_P D vwCl (pq_P t σ (I, J, ri, rj, rq)) H → va_D A (pq_P t σ (I, J, ri, rj, rq)) → va_S A s.heap H locs → lv_has ls 2 [(0, .ref this), (1, .int a0)] → W p l e ({ frames := 1, cells := 0, slots := 0, locals := 22 } : Room) s m (List.toArray ([.ref this, .int a0] : List Value)) below meth c H locs 0 0 Q (F0 m 0 ls []) := by
    intro H locs ls hP hD hS hl
    have hO_this : this = vo σ 12 this := rfl
    have hVT : VT 12 σ tg this := vt_12 hSH hL_this hK_this
    have hFr : FR 12 tg σ this (I, J, ri, rj, rq) (I, J, ri, rj, rq) := fr_rf
    have hO_this_a : this_a = vrow σ 384 this := vo_k (c := 12) hO_this hR_this_a
    have hO_this_pile : this_pile = vrow σ 400 this := vo_k (c := 12) hO_this hR_this_pile
    obtain ⟨F, hF0⟩ : ∃ F, F = g_X12_settle a0 (vI 12 σ this I) (vJ 12 σ this J) (vR 12 σ this ri) (vL 12 σ this rj) (vQ 12 σ this rq) := ⟨_, rfl⟩
    have hF := hF0.trans g_X12_settle_e
    refine lv_aload_n hx hb dX12_settle_0 rfl (lv_at hl 0 rfl) ?_
    refine pg_f (v := .int (I 401 this)) (C := RX12) (T := TX12) (N := 31) hx hb hts (tw_i inlX12) hown hK hP hL_this hK_this (by decide +kernel) rfl 17 (by decide +kernel) (hts _ (tw_c tw_887)) rfl dX12_settle_1 ?_
    have h_1 : rg (I 401 this) 0 160 := GM.rI hG 401 rfl
    have uh_1 := h_1.1
    have vh_1 := h_1.2
    replace hF := hF.trans (ap_n (vI_e (f := 401) hO_this (by decide +kernel)))
    refine lv_if_le (tgt := 54) hx hb dX12_settle_4 (by decide +kernel) (fun c_3 => ?_) (fun c_3 => ?_)
    · replace hF := hF.trans (if_pos c_3)
      have tc_8 : (I 401 this).toInt ≤ 0 := Int32.le_iff_toInt_le.mp c_3
      have h_9 : rg (I 401 this) 0 0 := rg_le1 c_3 h_1 (rg_k (0 : Int32) 0 rfl) (by decide +kernel)
      have uh_9 := h_9.1
      have vh_9 := h_9.2
      subst hQ
      exact W.vret hx hb hr (fun t1 ht hW => ⟨⟨(σ, I, J, ri, rj, rq), rfl, ⟨I, ri, rfl, hG, hps, (Or.inl (by have z9 := (PSz_bd hps).2.1; omega)), (fun (j : Nat) (hj : (j : Int) < (I 401 this).toInt) (_ : isO (ri this_pile j)) => hj), (rfl : ri this_pile = ri this_pile), (by omega), (hF0.symm.trans hF), hFr⟩, by rw [ht]; exact hP, va_K.moved hW.alike hK, hD⟩, hS.F ht⟩) hS.2.2 dX12_settle_54
    · replace hF := hF.trans (if_neg c_3)
      have tc_10 : 0 < (I 401 this).toInt := Int32.lt_iff_toInt_lt.mp (nle c_3)
      have h_11 : rg (I 401 this) 1 160 := rg_lt2 (nle c_3) (rg_k (0 : Int32) 0 rfl) h_1 (by decide +kernel)
      have uh_11 := h_11.1
      have vh_11 := h_11.2
      refine lv_aload_n hx hb dX12_settle_7 rfl (lv_at hl 0 rfl) ?_
      refine pg_f (v := .ref this_pile) (C := RX12) (T := TX12) (N := 31) hx hb hts (tw_i inlX12) hown hK hP hL_this hK_this (by decide +kernel) rfl 16 (by decide +kernel) (hts _ (tw_c tw_182)) (pq_hv rfl hR_this_pile) dX12_settle_8 ?_
      refine lv_aload_n hx hb dX12_settle_11 rfl (lv_at hl 0 rfl) ?_
      refine pg_f (v := .int (I 401 this)) (C := RX12) (T := TX12) (N := 31) hx hb hts (tw_i inlX12) hown hK hP hL_this hK_this (by decide +kernel) rfl 17 (by decide +kernel) (hts _ (tw_c tw_887)) rfl dX12_settle_12 ?_
      refine lv_iconst (v := 1) hx hb dX12_settle_15 (by decide +kernel) ?_
      refine lv_isub hx hb dX12_settle_16 ?_
      refine lv_topi (fun x_12 ex_12 => ?_)
      replace hF := hF.trans (ap_n ex_12)
      have h_13 : rg x_12 0 159 := rg_of_eq ex_12 (rg_sub h_11 (rg_k (1 : Int32) 1 rfl) (by decide +kernel))
      have uh_13 := h_13.1
      have vh_13 := h_13.2
      have tx_12 : (x_12).toInt = (I 401 this).toInt - 1 := by rw [ex_12]; exact i_sub_rg (a2 := (I 401 this).toInt) (b2 := 1) rfl rfl h_11 (rg_k (1 : Int32) 1 rfl) (by decide +kernel)
      refine pl_i hx hb hK hP hL_this_pile hK_this_pile hN_this_pile (rg_in h_13 (by decide +kernel)) dX12_settle_17 ?_
      refine lv_topi (fun x_14 ex_14 => ?_)
      replace hF := hF.trans (ap_n (vR_r hO_this_pile (by decide +kernel) ex_14))
      have ex_14 : x_14 = ri this_pile (x_12).toNatClampNeg := ex_14
      have h_15 : rg x_14 0 40 := rg_of_eq ex_14 (GM.rR hG hT_this_pile rfl)
      have uh_15 := h_15.1
      have vh_15 := h_15.2
      refine lv_iload_n hx hb dX12_settle_18 rfl (lv_at hl 1 rfl) ?_
      refine lv_bipush (v := 6) hx hb dX12_settle_19 (by decide +kernel) ?_
      refine pk_i (va_runS (As := [.int x_14, .int a0, .int 6]) (rest := []) ⟨hx, hb, hml, hown, hts⟩ (s_X12_isIn_x l D t σ I J ri rj rq H.size tg hSH hG.1 x_14 a0 (6 : Int32)) (va_cwS 3 hts (tw_S tw_235 tw_236 tw_5 tw_237) rfl rfl rfl cd_yX12_isIn_3 ⟨Nat.le_of_ble_eq_true rfl, Nat.le_of_ble_eq_true rfl⟩) ⟨pq_blind, pq_pre hK hN hP hD⟩ rfl rfl hl.1 rfl (lv_room (Nat.le_of_ble_eq_true rfl)) dX12_settle_21 ⟨Nat.le_of_ble_eq_true rfl, Nat.le_of_ble_eq_true rfl⟩) hD hS hA (fun x_16 σ1 μ1 H locs hw_17 hP hD hS => ?_)
      obtain ⟨hu_18, hfn_21, hr_20⟩ := hw_17
      obtain ⟨hu_18a, hu_18b⟩ := Prod.mk.inj hu_18
      rw [hu_18a, hu_18b] at hP hD
      replace hF := hF.trans (ap_n hfn_21.symm)
      have h_23 : rg x_16 0 1 := by rcases hr_20 with ⟨q, -⟩ | ⟨q, -⟩ <;> rw [q] <;> exact ⟨by decide +kernel, by decide +kernel⟩
      have uh_23 := h_23.1
      have vh_23 := h_23.2
      refine lv_if_eq (tgt := 54) hx hb dX12_settle_24 (by decide +kernel) (fun c_24 => ?_) (fun c_24 => ?_)
      · replace hF := hF.trans (if_pos c_24)
        have f_37 := (hr_20.resolve_left (fun q => absurd (q.1.symm.trans c_24) (by decide +kernel))).2
        have zk_38 : (6 : Int32).toInt = 6 := rfl
        have tc_39 : (x_16).toInt = 0 := congrArg Int32.toInt c_24
        have h_40 : rg x_16 0 0 := rg_and h_23 (rg_of_eq c_24 (rg_k (0 : Int32) 0 rfl)) (by decide +kernel)
        have uh_40 := h_40.1
        have vh_40 := h_40.2
        subst hQ
        exact W.vret hx hb hr (fun t1 ht hW => ⟨⟨(σ, I, J, ri, rj, rq), rfl, ⟨I, ri, rfl, hG, hps, (Or.inr (by rw [show (I 401 this).toInt.toNat - 1 = (x_12).toNatClampNeg from by have z0 := clampE x_12; omega, ← ex_14]; omega)), (fun (j : Nat) (hj : (j : Int) < (I 401 this).toInt) (_ : isO (ri this_pile j)) => hj), (rfl : ri this_pile = ri this_pile), (by omega), (hF0.symm.trans hF), hFr⟩, by rw [ht]; exact hP, va_K.moved hW.alike hK, hD⟩, hS.F ht⟩) hS.2.2 dX12_settle_54
      · replace hF := hF.trans (if_neg c_24)
        obtain ⟨f_41, f_42⟩ := (hr_20.resolve_right (fun q => c_24 q.1)).2
        have tc_43 : (a0).toInt ≤ (x_14).toInt := Int32.le_iff_toInt_le.mp f_41
        have h_44 : rg x_14 3 40 := rg_le2 f_41 h_a0 h_15 (by decide +kernel)
        have uh_44 := h_44.1
        have vh_44 := h_44.2
        have tc_45 : (x_14).toInt ≤ 6 := Int32.le_iff_toInt_le.mp f_42
        have h_46 : rg x_14 3 6 := rg_le1 f_42 h_44 (rg_k (6 : Int32) 6 rfl) (by decide +kernel)
        have uh_46 := h_46.1
        have vh_46 := h_46.2
        have tc_47 : (x_16).toInt ≠ 0 := fun q => c_24 (Int32.toInt_inj.mp q)
        have h_48 : rg x_16 1 1 := rg_ne c_24 h_23 0 rfl (by decide +kernel)
        have uh_48 := h_48.1
        have vh_48 := h_48.2
        refine lv_aload_n hx hb dX12_settle_27 rfl (lv_at hl 0 rfl) ?_
        refine lv_dup hx hb dX12_settle_28 rfl ?_
        refine pg_f (v := .int (I 401 this)) (C := RX12) (T := TX12) (N := 31) hx hb hts (tw_i inlX12) hown hK hP hL_this hK_this (by decide +kernel) rfl 17 (by decide +kernel) (hts _ (tw_c tw_887)) rfl dX12_settle_29 ?_
        refine lv_iconst (v := 1) hx hb dX12_settle_32 (by decide +kernel) ?_
        refine lv_isub hx hb dX12_settle_33 ?_
        refine lv_topi (fun x_49 ex_49 => ?_)
        replace hF := hF.trans (ap_n ex_49)
        have h_50 : rg x_49 0 159 := rg_of_eq ex_49 (rg_sub h_11 (rg_k (1 : Int32) 1 rfl) (by decide +kernel))
        have uh_50 := h_50.1
        have vh_50 := h_50.2
        have tx_49 : (x_49).toInt = (I 401 this).toInt - 1 := by rw [ex_49]; exact i_sub_rg (a2 := (I 401 this).toInt) (b2 := 1) rfl rfl h_11 (rg_k (1 : Int32) 1 rfl) (by decide +kernel)
        refine pp_i (v := x_49) (ty := .int) (C := RX12) (T := TX12) (N := 31) hx hb hts (tw_i inlX12) tyX12 tyX12_ok nmX12 hown hK hP hD hS hL_this hK_this (by decide +kernel) rfl 17 401 (by decide +kernel) (hts _ (tw_c tw_887)) rfl (tyX12_ok 17 (by decide +kernel)) rfl rfl (Nat.le_of_ble_eq_true rfl) (ps_401 _ _ _ _ _) dX12_settle_34 (fun I_51 H locs eI_51 hP hD hS => ?_)
        replace hFr := fr_I (f := 401) hFr hO_this (by decide +kernel) eI_51
        replace hF := hF.trans (ap_n (vI_st (f := 401) hO_this (by decide +kernel) eI_51))
        have hG := GM.wI hG 401 rfl eI_51 (rg_w h_50 (by decide +kernel)) (by decide +kernel)
        have tt_52 : (I_51 396 this).toInt = (I 396 this).toInt := by rw [eI_51, pq_uf _ _ _ (by decide +kernel)]
        have tt_53 : (I_51 398 this).toInt = (I 398 this).toInt := by rw [eI_51, pq_uf _ _ _ (by decide +kernel)]
        have tt_54 : (I_51 401 this).toInt = (x_49).toInt := by rw [eI_51, pq_us]
        have tt_55 : (I_51 402 this).toInt = (I 402 this).toInt := by rw [eI_51, pq_uf _ _ _ (by decide +kernel)]
        have tt_56 : (I_51 391 this).toInt = (I 391 this).toInt := by rw [eI_51, pq_uf _ _ _ (by decide +kernel)]
        have tt_57 : (I_51 393 this).toInt = (I 393 this).toInt := by rw [eI_51, pq_uf _ _ _ (by decide +kernel)]
        have tt_58 : (I_51 403 this).toInt = (I 403 this).toInt := by rw [eI_51, pq_uf _ _ _ (by decide +kernel)]
        have tt_59 : (I_51 397 this).toInt = (I 397 this).toInt := by rw [eI_51, pq_uf _ _ _ (by decide +kernel)]
        refine lv_aload_n hx hb dX12_settle_37 rfl (lv_at hl 0 rfl) ?_
        refine lv_aload_n hx hb dX12_settle_38 rfl (lv_at hl 0 rfl) ?_
        refine pg_f (v := .ref this_pile) (C := RX12) (T := TX12) (N := 31) hx hb hts (tw_i inlX12) hown hK hP hL_this hK_this (by decide +kernel) rfl 16 (by decide +kernel) (hts _ (tw_c tw_182)) (pq_hv rfl hR_this_pile) dX12_settle_39 ?_
        refine lv_aload_n hx hb dX12_settle_42 rfl (lv_at hl 0 rfl) ?_
        refine pg_f (v := .int (I_51 401 this)) (C := RX12) (T := TX12) (N := 31) hx hb hts (tw_i inlX12) hown hK hP hL_this hK_this (by decide +kernel) rfl 17 (by decide +kernel) (hts _ (tw_c tw_887)) rfl dX12_settle_43 ?_
        have h_60 : rg (I_51 401 this) 0 159 := (by rw [eI_51, pq_us]; exact h_50)
        have uh_60 := h_60.1
        have vh_60 := h_60.2
        replace hF := hF.trans (ap_n (vI_e (f := 401) hO_this (by decide +kernel)))
        refine pl_i hx hb hK hP hL_this_pile hK_this_pile hN_this_pile (rg_in h_60 (by decide +kernel)) dX12_settle_46 ?_
        refine lv_topi (fun x_62 ex_62 => ?_)
        replace hF := hF.trans (ap_n (vR_r hO_this_pile (by decide +kernel) ex_62))
        have ex_62 : x_62 = ri this_pile ((I_51 401 this)).toNatClampNeg := ex_62
        have h_63 : rg x_62 0 40 := rg_of_eq ex_62 (GM.rR hG hT_this_pile rfl)
        have uh_63 := h_63.1
        have vh_63 := h_63.2
        refine lv_iconst (v := 0) hx hb dX12_settle_47 (by decide +kernel) ?_
        have hzz : (x_62).toInt = (x_14).toInt := by rw [ex_62, ex_14, show ((I_51 401 this)).toNatClampNeg = (x_12).toNatClampNeg from by have z0 := clampE x_12; have z1 := clampE (I_51 401 this); omega]
        have hq1 := PSz_t hps
        have hq2 := PSz_w hps (Or.inr (by omega))
        refine pk_v (va_runV (As := [.int x_62, .int 0]) (rest := []) ⟨hx, hb, hml, hown, hts⟩ (s_X12_emit l D t σ I_51 J ri rj rq H.size tg hSH hG.1 this x_62 (0 : Int32) hL_this hK_this this_a hR_this_a hL_this_a hK_this_a hN_this_a hT_this_a (by omega) (by omega)) (cwV 2 hts (tw_V tw_905 tw_906 tw_907 tw_5 tw_908) rfl rfl rfl cv_yX12_emit_2 ⟨Nat.le_of_ble_eq_true rfl, Nat.le_of_ble_eq_true rfl⟩) ⟨pq_blind, pq_recv hK hP hL_this hK_this (by decide +kernel) rfl, pq_pre hK hN hP hD⟩ rfl rfl hl.1 rfl (lv_room (Nat.le_of_ble_eq_true rfl)) dX12_settle_48 ⟨Nat.le_of_ble_eq_true rfl, Nat.le_of_ble_eq_true rfl⟩) hD hS hA (fun σ1 μ1 H locs hw_65 hP hD hS => ?_)
        obtain ⟨I_66, ri_67, hu_68, hg_69, hp_71, hp_72, hp_73, hp_74, hfn_75, hfr_76⟩ := hw_65
        obtain ⟨hu_68a, hu_68b⟩ := Prod.mk.inj hu_68
        rw [hu_68a, hu_68b] at hP hD
        replace hF := hF.trans (bv_n hfn_75)
        replace hFr := fr_tr hFr hfr_76
        obtain ⟨v_77, ev_77, hv_77⟩ := hp_71
        have tt_78 : (I_66 398 this).toInt = (I_51 398 this).toInt + 1 := by rw [ev_77, pq_us]; exact hv_77
        have tt_79 : (I_66 403 this).toInt = (I_51 403 this).toInt := by rw [ev_77, pq_uf _ _ _ (by decide +kernel)]
        have hG := GM.tr hG hg_69 (by decide +kernel)
        have tt_80 : (I_66 396 this).toInt = (I_51 396 this).toInt := by rw [hg_69.2.1 396 (by decide +kernel) (by decide +kernel)]
        have tt_81 : (I_66 401 this).toInt = (I_51 401 this).toInt := by rw [hg_69.2.1 401 (by decide +kernel) (by decide +kernel)]
        have tt_82 : (I_66 402 this).toInt = (I_51 402 this).toInt := by rw [hg_69.2.1 402 (by decide +kernel) (by decide +kernel)]
        have tt_83 : (I_66 391 this).toInt = (I_51 391 this).toInt := by rw [hg_69.2.1 391 (by decide +kernel) (by decide +kernel)]
        have tt_84 : (I_66 393 this).toInt = (I_51 393 this).toInt := by rw [hg_69.2.1 393 (by decide +kernel) (by decide +kernel)]
        have tt_85 : (I_66 397 this).toInt = (I_51 397 this).toInt := by rw [hg_69.2.1 397 (by decide +kernel) (by decide +kernel)]
        refine lv_goto (tgt := 0) hx hb dX12_settle_51 (by decide +kernel) ?_
        have L_386 : ∀ (n_385 : Nat) (I_309 : Nat → Nat → Int32) (ri_310 : Nat → Nat → Int32) (H : Heap) (locs : List Loc) (ls : Array Slot), ((I_309 403 this).toInt = (I 403 this).toInt) → (PSz (I_309 396 this).toInt (I_309 398 this).toInt (I_309 401 this).toInt (I_309 402 this).toInt (I_309 391 this).toInt (I_309 393 this).toInt (ri_310 this_a) (ri_310 this_pile) bb f0 fr ba tb nn K 1) → (∀ j : Nat, (j : Int) < (I 401 this).toInt → isO (ri this_pile j) → (j : Int) < (I_309 401 this).toInt) → (ri_310 this_pile = ri this_pile) → ((I_309 401 this).toInt - 0).toNat < n_385 → F = g_X12_settle_L0 a0 (vJ 12 σ this J) (vL 12 σ this rj) (vQ 12 σ this rq) n_385 (vI 12 σ this I_309) (vR 12 σ this ri_310) → FR 12 tg σ this (I, J, ri, rj, rq) (I_309, J, ri_310, rj, rq) → GM [401, 398] tg σ I ri I_309 ri_310 rq → va_P D vwCl (pq_P t σ (I_309, J, ri_310, rj, rq)) H → va_D A (pq_P t σ (I_309, J, ri_310, rj, rq)) → va_S A s.heap H locs → lv_has ls 2 [(0, .ref this), (1, .int a0)] → W p l e ({ frames := 1, cells := 0, slots := 0, locals := 22 } : Room) s m (List.toArray ([.ref this, .int a0] : List Value)) below meth c H locs 0 0 Q (F0 m 0 ls []) := by
          intro n_385
          induction n_385 with
          | zero => intro I_309 ri_310 H locs ls hrel_392 hrel_393 hrel_394 hrel_395 hm_384 hF hFr hG hP hD hS hl; exact absurd hm_384 (Nat.not_lt_zero _)
          | succ n_385 ih_387 =>
            intro I_309 ri_310 H locs ls hrel_392 hrel_393 hrel_394 hrel_395 hm_384 hF hFr hG hP hD hS hl
            replace hF := hF.trans g_X12_settle_L0_e
            refine lv_aload_n hx hb dX12_settle_0 rfl (lv_at hl 0 rfl) ?_
            refine pg_f (v := .int (I_309 401 this)) (C := RX12) (T := TX12) (N := 31) hx hb hts (tw_i inlX12) hown hK hP hL_this hK_this (by decide +kernel) rfl 17 (by decide +kernel) (hts _ (tw_c tw_887)) rfl dX12_settle_1 ?_
            have h_396 : rg (I_309 401 this) 0 160 := GM.rI hG 401 rfl
            have uh_396 := h_396.1
            have vh_396 := h_396.2
            replace hF := hF.trans (ap_n (vI_e (f := 401) hO_this (by decide +kernel)))
            refine lv_if_le (tgt := 54) hx hb dX12_settle_4 (by decide +kernel) (fun c_398 => ?_) (fun c_398 => ?_)
            · replace hF := hF.trans (if_pos c_398)
              have tc_403 : (I_309 401 this).toInt ≤ 0 := Int32.le_iff_toInt_le.mp c_398
              have h_404 : rg (I_309 401 this) 0 0 := rg_le1 c_398 h_396 (rg_k (0 : Int32) 0 rfl) (by decide +kernel)
              have uh_404 := h_404.1
              have vh_404 := h_404.2
              subst hQ
              exact W.vret hx hb hr (fun t1 ht hW => ⟨⟨(σ, I_309, J, ri_310, rj, rq), rfl, ⟨I_309, ri_310, rfl, hG, hrel_393, (Or.inl (by have z9 := (PSz_bd hrel_393).2.1; omega)), hrel_394, hrel_395, (by omega), (hF0.symm.trans hF), hFr⟩, by rw [ht]; exact hP, va_K.moved hW.alike hK, hD⟩, hS.F ht⟩) hS.2.2 dX12_settle_54
            · replace hF := hF.trans (if_neg c_398)
              have tc_405 : 0 < (I_309 401 this).toInt := Int32.lt_iff_toInt_lt.mp (nle c_398)
              have h_406 : rg (I_309 401 this) 1 160 := rg_lt2 (nle c_398) (rg_k (0 : Int32) 0 rfl) h_396 (by decide +kernel)
              have uh_406 := h_406.1
              have vh_406 := h_406.2
              refine lv_aload_n hx hb dX12_settle_7 rfl (lv_at hl 0 rfl) ?_
              refine pg_f (v := .ref this_pile) (C := RX12) (T := TX12) (N := 31) hx hb hts (tw_i inlX12) hown hK hP hL_this hK_this (by decide +kernel) rfl 16 (by decide +kernel) (hts _ (tw_c tw_182)) (pq_hv rfl hR_this_pile) dX12_settle_8 ?_
              refine lv_aload_n hx hb dX12_settle_11 rfl (lv_at hl 0 rfl) ?_
              refine pg_f (v := .int (I_309 401 this)) (C := RX12) (T := TX12) (N := 31) hx hb hts (tw_i inlX12) hown hK hP hL_this hK_this (by decide +kernel) rfl 17 (by decide +kernel) (hts _ (tw_c tw_887)) rfl dX12_settle_12 ?_
              refine lv_iconst (v := 1) hx hb dX12_settle_15 (by decide +kernel) ?_
              refine lv_isub hx hb dX12_settle_16 ?_
              refine lv_topi (fun x_407 ex_407 => ?_)
              replace hF := hF.trans (ap_n ex_407)
              have h_408 : rg x_407 0 159 := rg_of_eq ex_407 (rg_sub h_406 (rg_k (1 : Int32) 1 rfl) (by decide +kernel))
              have uh_408 := h_408.1
              have vh_408 := h_408.2
              have tx_407 : (x_407).toInt = (I_309 401 this).toInt - 1 := by rw [ex_407]; exact i_sub_rg (a2 := (I_309 401 this).toInt) (b2 := 1) rfl rfl h_406 (rg_k (1 : Int32) 1 rfl) (by decide +kernel)
              refine pl_i hx hb hK hP hL_this_pile hK_this_pile hN_this_pile (rg_in h_408 (by decide +kernel)) dX12_settle_17 ?_
              refine lv_topi (fun x_409 ex_409 => ?_)
              replace hF := hF.trans (ap_n (vR_r hO_this_pile (by decide +kernel) ex_409))
              have ex_409 : x_409 = ri_310 this_pile (x_407).toNatClampNeg := ex_409
              have h_410 : rg x_409 0 40 := rg_of_eq ex_409 (GM.rR hG hT_this_pile rfl)
              have uh_410 := h_410.1
              have vh_410 := h_410.2
              refine lv_iload_n hx hb dX12_settle_18 rfl (lv_at hl 1 rfl) ?_
              refine lv_bipush (v := 6) hx hb dX12_settle_19 (by decide +kernel) ?_
              refine pk_i (va_runS (As := [.int x_409, .int a0, .int 6]) (rest := []) ⟨hx, hb, hml, hown, hts⟩ (s_X12_isIn_x l D t σ I_309 J ri_310 rj rq H.size tg hSH hG.1 x_409 a0 (6 : Int32)) (va_cwS 3 hts (tw_S tw_235 tw_236 tw_5 tw_237) rfl rfl rfl cd_yX12_isIn_3 ⟨Nat.le_of_ble_eq_true rfl, Nat.le_of_ble_eq_true rfl⟩) ⟨pq_blind, pq_pre hK hN hP hD⟩ rfl rfl hl.1 rfl (lv_room (Nat.le_of_ble_eq_true rfl)) dX12_settle_21 ⟨Nat.le_of_ble_eq_true rfl, Nat.le_of_ble_eq_true rfl⟩) hD hS hA (fun x_411 σ1 μ1 H locs hw_412 hP hD hS => ?_)
              obtain ⟨hu_413, hfn_416, hr_415⟩ := hw_412
              obtain ⟨hu_413a, hu_413b⟩ := Prod.mk.inj hu_413
              rw [hu_413a, hu_413b] at hP hD
              replace hF := hF.trans (ap_n hfn_416.symm)
              have h_418 : rg x_411 0 1 := by rcases hr_415 with ⟨q, -⟩ | ⟨q, -⟩ <;> rw [q] <;> exact ⟨by decide +kernel, by decide +kernel⟩
              have uh_418 := h_418.1
              have vh_418 := h_418.2
              refine lv_if_eq (tgt := 54) hx hb dX12_settle_24 (by decide +kernel) (fun c_419 => ?_) (fun c_419 => ?_)
              · replace hF := hF.trans (if_pos c_419)
                have f_432 := (hr_415.resolve_left (fun q => absurd (q.1.symm.trans c_419) (by decide +kernel))).2
                have zk_433 : (6 : Int32).toInt = 6 := rfl
                have tc_434 : (x_411).toInt = 0 := congrArg Int32.toInt c_419
                have h_435 : rg x_411 0 0 := rg_and h_418 (rg_of_eq c_419 (rg_k (0 : Int32) 0 rfl)) (by decide +kernel)
                have uh_435 := h_435.1
                have vh_435 := h_435.2
                subst hQ
                exact W.vret hx hb hr (fun t1 ht hW => ⟨⟨(σ, I_309, J, ri_310, rj, rq), rfl, ⟨I_309, ri_310, rfl, hG, hrel_393, (Or.inr (by rw [show (I_309 401 this).toInt.toNat - 1 = (x_407).toNatClampNeg from by have z0 := clampE x_407; omega, ← ex_409]; omega)), hrel_394, hrel_395, (by omega), (hF0.symm.trans hF), hFr⟩, by rw [ht]; exact hP, va_K.moved hW.alike hK, hD⟩, hS.F ht⟩) hS.2.2 dX12_settle_54
              · replace hF := hF.trans (if_neg c_419)
                obtain ⟨f_436, f_437⟩ := (hr_415.resolve_right (fun q => c_419 q.1)).2
                have tc_438 : (a0).toInt ≤ (x_409).toInt := Int32.le_iff_toInt_le.mp f_436
                have h_439 : rg x_409 3 40 := rg_le2 f_436 h_a0 h_410 (by decide +kernel)
                have uh_439 := h_439.1
                have vh_439 := h_439.2
                have tc_440 : (x_409).toInt ≤ 6 := Int32.le_iff_toInt_le.mp f_437
                have h_441 : rg x_409 3 6 := rg_le1 f_437 h_439 (rg_k (6 : Int32) 6 rfl) (by decide +kernel)
                have uh_441 := h_441.1
                have vh_441 := h_441.2
                have tc_442 : (x_411).toInt ≠ 0 := fun q => c_419 (Int32.toInt_inj.mp q)
                have h_443 : rg x_411 1 1 := rg_ne c_419 h_418 0 rfl (by decide +kernel)
                have uh_443 := h_443.1
                have vh_443 := h_443.2
                refine lv_aload_n hx hb dX12_settle_27 rfl (lv_at hl 0 rfl) ?_
                refine lv_dup hx hb dX12_settle_28 rfl ?_
                refine pg_f (v := .int (I_309 401 this)) (C := RX12) (T := TX12) (N := 31) hx hb hts (tw_i inlX12) hown hK hP hL_this hK_this (by decide +kernel) rfl 17 (by decide +kernel) (hts _ (tw_c tw_887)) rfl dX12_settle_29 ?_
                refine lv_iconst (v := 1) hx hb dX12_settle_32 (by decide +kernel) ?_
                refine lv_isub hx hb dX12_settle_33 ?_
                refine lv_topi (fun x_444 ex_444 => ?_)
                replace hF := hF.trans (ap_n ex_444)
                have h_445 : rg x_444 0 159 := rg_of_eq ex_444 (rg_sub h_406 (rg_k (1 : Int32) 1 rfl) (by decide +kernel))
                have uh_445 := h_445.1
                have vh_445 := h_445.2
                have tx_444 : (x_444).toInt = (I_309 401 this).toInt - 1 := by rw [ex_444]; exact i_sub_rg (a2 := (I_309 401 this).toInt) (b2 := 1) rfl rfl h_406 (rg_k (1 : Int32) 1 rfl) (by decide +kernel)
                refine pp_i (v := x_444) (ty := .int) (C := RX12) (T := TX12) (N := 31) hx hb hts (tw_i inlX12) tyX12 tyX12_ok nmX12 hown hK hP hD hS hL_this hK_this (by decide +kernel) rfl 17 401 (by decide +kernel) (hts _ (tw_c tw_887)) rfl (tyX12_ok 17 (by decide +kernel)) rfl rfl (Nat.le_of_ble_eq_true rfl) (ps_401 _ _ _ _ _) dX12_settle_34 (fun I_446 H locs eI_446 hP hD hS => ?_)
                replace hFr := fr_I (f := 401) hFr hO_this (by decide +kernel) eI_446
                replace hF := hF.trans (ap_n (vI_st (f := 401) hO_this (by decide +kernel) eI_446))
                have hG := GM.wI hG 401 rfl eI_446 (rg_w h_445 (by decide +kernel)) (by decide +kernel)
                have tt_447 : (I_446 396 this).toInt = (I_309 396 this).toInt := by rw [eI_446, pq_uf _ _ _ (by decide +kernel)]
                have tt_448 : (I_446 398 this).toInt = (I_309 398 this).toInt := by rw [eI_446, pq_uf _ _ _ (by decide +kernel)]
                have tt_449 : (I_446 401 this).toInt = (x_444).toInt := by rw [eI_446, pq_us]
                have tt_450 : (I_446 402 this).toInt = (I_309 402 this).toInt := by rw [eI_446, pq_uf _ _ _ (by decide +kernel)]
                have tt_451 : (I_446 391 this).toInt = (I_309 391 this).toInt := by rw [eI_446, pq_uf _ _ _ (by decide +kernel)]
                have tt_452 : (I_446 393 this).toInt = (I_309 393 this).toInt := by rw [eI_446, pq_uf _ _ _ (by decide +kernel)]
                have tt_453 : (I_446 403 this).toInt = (I_309 403 this).toInt := by rw [eI_446, pq_uf _ _ _ (by decide +kernel)]
                have tt_454 : (I_446 397 this).toInt = (I_309 397 this).toInt := by rw [eI_446, pq_uf _ _ _ (by decide +kernel)]
                refine lv_aload_n hx hb dX12_settle_37 rfl (lv_at hl 0 rfl) ?_
                refine lv_aload_n hx hb dX12_settle_38 rfl (lv_at hl 0 rfl) ?_
                refine pg_f (v := .ref this_pile) (C := RX12) (T := TX12) (N := 31) hx hb hts (tw_i inlX12) hown hK hP hL_this hK_this (by decide +kernel) rfl 16 (by decide +kernel) (hts _ (tw_c tw_182)) (pq_hv rfl hR_this_pile) dX12_settle_39 ?_
                refine lv_aload_n hx hb dX12_settle_42 rfl (lv_at hl 0 rfl) ?_
                refine pg_f (v := .int (I_446 401 this)) (C := RX12) (T := TX12) (N := 31) hx hb hts (tw_i inlX12) hown hK hP hL_this hK_this (by decide +kernel) rfl 17 (by decide +kernel) (hts _ (tw_c tw_887)) rfl dX12_settle_43 ?_
                have h_455 : rg (I_446 401 this) 0 159 := (by rw [eI_446, pq_us]; exact h_445)
                have uh_455 := h_455.1
                have vh_455 := h_455.2
                replace hF := hF.trans (ap_n (vI_e (f := 401) hO_this (by decide +kernel)))
                refine pl_i hx hb hK hP hL_this_pile hK_this_pile hN_this_pile (rg_in h_455 (by decide +kernel)) dX12_settle_46 ?_
                refine lv_topi (fun x_457 ex_457 => ?_)
                replace hF := hF.trans (ap_n (vR_r hO_this_pile (by decide +kernel) ex_457))
                have ex_457 : x_457 = ri_310 this_pile ((I_446 401 this)).toNatClampNeg := ex_457
                have h_458 : rg x_457 0 40 := rg_of_eq ex_457 (GM.rR hG hT_this_pile rfl)
                have uh_458 := h_458.1
                have vh_458 := h_458.2
                refine lv_iconst (v := 0) hx hb dX12_settle_47 (by decide +kernel) ?_
                have hzz : (x_457).toInt = (x_409).toInt := by rw [ex_457, ex_409, show ((I_446 401 this)).toNatClampNeg = (x_407).toNatClampNeg from by have z0 := clampE x_407; have z1 := clampE (I_446 401 this); omega]
                have hq1 := PSz_t hrel_393
                have hq2 := PSz_w hrel_393 (Or.inr (by omega))
                refine pk_v (va_runV (As := [.int x_457, .int 0]) (rest := []) ⟨hx, hb, hml, hown, hts⟩ (s_X12_emit l D t σ I_446 J ri_310 rj rq H.size tg hSH hG.1 this x_457 (0 : Int32) hL_this hK_this this_a hR_this_a hL_this_a hK_this_a hN_this_a hT_this_a (by omega) (by omega)) (cwV 2 hts (tw_V tw_905 tw_906 tw_907 tw_5 tw_908) rfl rfl rfl cv_yX12_emit_2 ⟨Nat.le_of_ble_eq_true rfl, Nat.le_of_ble_eq_true rfl⟩) ⟨pq_blind, pq_recv hK hP hL_this hK_this (by decide +kernel) rfl, pq_pre hK hN hP hD⟩ rfl rfl hl.1 rfl (lv_room (Nat.le_of_ble_eq_true rfl)) dX12_settle_48 ⟨Nat.le_of_ble_eq_true rfl, Nat.le_of_ble_eq_true rfl⟩) hD hS hA (fun σ1 μ1 H locs hw_460 hP hD hS => ?_)
                obtain ⟨I_461, ri_462, hu_463, hg_464, hp_466, hp_467, hp_468, hp_469, hfn_470, hfr_471⟩ := hw_460
                obtain ⟨hu_463a, hu_463b⟩ := Prod.mk.inj hu_463
                rw [hu_463a, hu_463b] at hP hD
                replace hF := hF.trans (bv_n hfn_470)
                replace hFr := fr_tr hFr hfr_471
                obtain ⟨v_472, ev_472, hv_472⟩ := hp_466
                have tt_473 : (I_461 398 this).toInt = (I_446 398 this).toInt + 1 := by rw [ev_472, pq_us]; exact hv_472
                have tt_474 : (I_461 403 this).toInt = (I_446 403 this).toInt := by rw [ev_472, pq_uf _ _ _ (by decide +kernel)]
                have hG := GM.tr hG hg_464 (by decide +kernel)
                have tt_475 : (I_461 396 this).toInt = (I_446 396 this).toInt := by rw [hg_464.2.1 396 (by decide +kernel) (by decide +kernel)]
                have tt_476 : (I_461 401 this).toInt = (I_446 401 this).toInt := by rw [hg_464.2.1 401 (by decide +kernel) (by decide +kernel)]
                have tt_477 : (I_461 402 this).toInt = (I_446 402 this).toInt := by rw [hg_464.2.1 402 (by decide +kernel) (by decide +kernel)]
                have tt_478 : (I_461 391 this).toInt = (I_446 391 this).toInt := by rw [hg_464.2.1 391 (by decide +kernel) (by decide +kernel)]
                have tt_479 : (I_461 393 this).toInt = (I_446 393 this).toInt := by rw [hg_464.2.1 393 (by decide +kernel) (by decide +kernel)]
                have tt_480 : (I_461 397 this).toInt = (I_446 397 this).toInt := by rw [hg_464.2.1 397 (by decide +kernel) (by decide +kernel)]
                refine lv_goto (tgt := 0) hx hb dX12_settle_51 (by decide +kernel) ?_
                exact ih_387 I_461 ri_462 _ _ _ (by omega) (PSz_popB hrel_393 (by omega) (by rw [show (I_309 401 this).toInt.toNat - 1 = ((I_446 401 this)).toNatClampNeg from by have z0 := clampE (I_446 401 this); omega]; exact ex_457.symm) (x := x_457) (by omega) (fun j hj => hp_467 j (by omega)) (by rw [show (I_309 396 this).toInt + 250 + 2 * (I_309 398 this).toInt = (I_446 396 this).toInt + 250 + 2 * (I_446 398 this).toInt from by omega]; exact hp_468) (by omega) (by omega) (by omega) (by omega) (by omega) (by omega) (hp_469 this_pile (tg_ne hT_this_pile hT_this_a (by decide +kernel)))) (fun j hj ho => by have q := hrel_394 j hj ho; by_cases hjj : j = ((I_446 401 this)).toNatClampNeg; (exfalso; rw [hjj, ← hrel_395, ← ex_457] at ho; unfold isO at ho; omega); (have z0 := clampE (I_446 401 this); omega)) ((hp_469 this_pile (tg_ne hT_this_pile hT_this_a (by decide +kernel))).trans hrel_395) (ms_fd_isub hm_384 ((congrFun (hg_464.2.1 401 (by decide +kernel) (by decide +kernel)) this).trans (by rw [eI_446]; exact pq_us _ _ _ _)) ex_444 rfl (kk := 1) rfl (by decide +kernel) h_406 (by decide +kernel) (by decide +kernel)) hF hFr hG hP hD hS (lv_sub hl [0, 1] rfl)
        replace hF := hF.trans (ap_n (vI_e (f := 401) hO_this (by decide +kernel)))
        exact L_386 _ I_66 ri_67 _ _ _ (by omega) (PSz_popB hps (by omega) (by rw [show (I 401 this).toInt.toNat - 1 = ((I_51 401 this)).toNatClampNeg from by have z0 := clampE (I_51 401 this); omega]; exact ex_62.symm) (x := x_62) (by omega) (fun j hj => hp_72 j (by omega)) (by rw [show (I 396 this).toInt + 250 + 2 * (I 398 this).toInt = (I_51 396 this).toInt + 250 + 2 * (I_51 398 this).toInt from by omega]; exact hp_73) (by omega) (by omega) (by omega) (by omega) (by omega) (by omega) (hp_74 this_pile (tg_ne hT_this_pile hT_this_a (by decide +kernel)))) (fun j hj ho => by have q := (fun (j : Nat) (hj : (j : Int) < (I 401 this).toInt) (_ : isO (ri this_pile j)) => hj) j hj ho; by_cases hjj : j = ((I_51 401 this)).toNatClampNeg; (exfalso; rw [hjj, ← (rfl : ri this_pile = ri this_pile), ← ex_62] at ho; unfold isO at ho; omega); (have z0 := clampE (I_51 401 this); omega)) ((hp_74 this_pile (tg_ne hT_this_pile hT_this_a (by decide +kernel))).trans (rfl : ri this_pile = ri this_pile)) (Nat.lt_succ_self _) hF hFr hG hP hD hS (lv_sub hl [0, 1] rfl)
  exact go _ _ _ hP hD hS hl
theorem tm_ms {x y : Int} {n : Nat} (hm : y.toNat < n + 1) (h : x < y) (h0 : 0 ≤ x) : x.toNat < n := by omega
theorem tm_ms2' {x y a b : Int} {n : Nat} (hm : (2 * y + b).toNat < n + 1) (h : x ≤ y ∧ (x < y ∨ a < b)) (h0 : 0 ≤ x) (ha : 0 ≤ a ∧ a ≤ 1) (hb : 0 ≤ b ∧ b ≤ 1) : (2 * x + a).toNat < n := by omega
def wf1 (x : Int64) (c : Int32) : Int64 := (x <<< ((8 : Int32).toInt64 &&& 63)) ||| c.toInt64
def w3f (a b c : Int32) : Int64 := wf1 (wf1 a.toInt64 b) c
def w4f (a b c d : Int32) : Int64 := wf1 (w3f a b c) d
def w5f (a b c d e : Int32) : Int64 := wf1 (w4f a b c d) e
/-- the names that a token can spell -/
def NMW (x : Int64) : Prop := x = w3f 97 103 101 ∨ x = w3f 107 105 110 ∨ x = w5f 99 114 97 102 116 ∨ x = w5f 112 108 97 99 101 ∨ x = w5f 109 111 110 116 104 ∨ x = w5f 117 110 100 101 114
/-- what was read of a token that should be a name -/
def NMP (r : Int32) (k : Int) (x : Int64) : Prop := (0 ≤ r.toInt → k = 2 ∧ NMW x) ∧ (r.toInt < 0 → k = 2 → ¬ NMW x)
theorem cmp_iff {x y : Int64} : lg_cmp x y = 0 ↔ x = y := by
  unfold lg_cmp
  by_cases h1 : x > y
  · rw [if_pos h1]
    refine ⟨fun q => absurd q (by decide +kernel), fun q => ?_⟩
    subst q
    exact absurd (Int64.lt_iff_toInt_lt.mp h1) (by omega)
  · rw [if_neg h1]
    by_cases h2 : x = y
    · rw [if_pos h2]; exact ⟨fun _ => h2, fun _ => rfl⟩
    · rw [if_neg h2]; exact ⟨fun q => absurd q (by decide +kernel), fun q => absurd q h2⟩
theorem dX12_hasParen_0 : decode cX12_hasParen 0 = .ok (.iconst 0, 1) := oc_3 (by decide +kernel)
theorem dX12_hasParen_1 : decode cX12_hasParen 1 = .ok (.istore_n 1, 1) := oc_60 (by decide +kernel)
theorem dX12_hasParen_2 : decode cX12_hasParen 2 = .ok (.iload_n 1, 1) := oc_27 (by decide +kernel)
theorem dX12_hasParen_3 : decode cX12_hasParen 3 = .ok (.aload_n 0, 1) := oc_42 (by decide +kernel)
theorem dX12_hasParen_4 : decode cX12_hasParen 4 = .ok (.getfield 178, 3) := oc_180 (a := 0) (b := 178) (by decide +kernel)
theorem dX12_hasParen_7 : decode cX12_hasParen 7 = .ok (.if_icmp .ge 22, 3) := oc_162 (a := 0) (b := 22) (by decide +kernel)
theorem dX12_hasParen_29 : decode cX12_hasParen 29 = .ok (.iconst 0, 1) := oc_3 (by decide +kernel)
theorem dX12_hasParen_30 : decode cX12_hasParen 30 = .ok (.ireturn, 1) := oc_172 (by decide +kernel)
theorem dX12_hasParen_10 : decode cX12_hasParen 10 = .ok (.aload_n 0, 1) := oc_42 (by decide +kernel)
theorem dX12_hasParen_11 : decode cX12_hasParen 11 = .ok (.getfield 29, 3) := oc_180 (a := 0) (b := 29) (by decide +kernel)
theorem dX12_hasParen_14 : decode cX12_hasParen 14 = .ok (.iload_n 1, 1) := oc_27 (by decide +kernel)
theorem dX12_hasParen_15 : decode cX12_hasParen 15 = .ok (.iaload, 1) := oc_46 (by decide +kernel)
theorem dX12_hasParen_16 : decode cX12_hasParen 16 = .ok (.bipush 40, 2) := oc_16 (a := 40) (by decide +kernel)
theorem dX12_hasParen_18 : decode cX12_hasParen 18 = .ok (.if_icmp .ne 5, 3) := oc_160 (a := 0) (b := 5) (by decide +kernel)
theorem dX12_hasParen_23 : decode cX12_hasParen 23 = .ok (.iinc 1 1, 3) := oc_132 (b := 1) (by decide +kernel)
theorem dX12_hasParen_26 : decode cX12_hasParen 26 = .ok (.goto (-24), 3) := oc_167 (a := 255) (b := 232) (by decide +kernel)
theorem dX12_hasParen_21 : decode cX12_hasParen 21 = .ok (.iconst 1, 1) := oc_4 (by decide +kernel)
theorem dX12_hasParen_22 : decode cX12_hasParen 22 = .ok (.ireturn, 1) := oc_172 (by decide +kernel)
theorem dX12_goesOn_0 : decode cX12_goesOn 0 = .ok (.aload_n 0, 1) := oc_42 (by decide +kernel)
theorem dX12_goesOn_1 : decode cX12_goesOn 1 = .ok (.getfield 143, 3) := oc_180 (a := 0) (b := 143) (by decide +kernel)
theorem dX12_goesOn_4 : decode cX12_goesOn 4 = .ok (.bipush 43, 2) := oc_16 (a := 43) (by decide +kernel)
theorem dX12_goesOn_6 : decode cX12_goesOn 6 = .ok (.if_icmp .eq 46, 3) := oc_159 (a := 0) (b := 46) (by decide +kernel)
theorem dX12_goesOn_52 : decode cX12_goesOn 52 = .ok (.iconst 1, 1) := oc_4 (by decide +kernel)
theorem dX12_goesOn_53 : decode cX12_goesOn 53 = .ok (.goto 4, 3) := oc_167 (a := 0) (b := 4) (by decide +kernel)
theorem dX12_goesOn_57 : decode cX12_goesOn 57 = .ok (.ireturn, 1) := oc_172 (by decide +kernel)
theorem dX12_goesOn_9 : decode cX12_goesOn 9 = .ok (.aload_n 0, 1) := oc_42 (by decide +kernel)
theorem dX12_goesOn_10 : decode cX12_goesOn 10 = .ok (.getfield 143, 3) := oc_180 (a := 0) (b := 143) (by decide +kernel)
theorem dX12_goesOn_13 : decode cX12_goesOn 13 = .ok (.bipush 45, 2) := oc_16 (a := 45) (by decide +kernel)
theorem dX12_goesOn_15 : decode cX12_goesOn 15 = .ok (.if_icmp .eq 37, 3) := oc_159 (a := 0) (b := 37) (by decide +kernel)
theorem dX12_goesOn_18 : decode cX12_goesOn 18 = .ok (.aload_n 0, 1) := oc_42 (by decide +kernel)
theorem dX12_goesOn_19 : decode cX12_goesOn 19 = .ok (.getfield 143, 3) := oc_180 (a := 0) (b := 143) (by decide +kernel)
theorem dX12_goesOn_22 : decode cX12_goesOn 22 = .ok (.bipush 42, 2) := oc_16 (a := 42) (by decide +kernel)
theorem dX12_goesOn_24 : decode cX12_goesOn 24 = .ok (.if_icmp .eq 28, 3) := oc_159 (a := 0) (b := 28) (by decide +kernel)
theorem dX12_goesOn_27 : decode cX12_goesOn 27 = .ok (.aload_n 0, 1) := oc_42 (by decide +kernel)
theorem dX12_goesOn_28 : decode cX12_goesOn 28 = .ok (.getfield 143, 3) := oc_180 (a := 0) (b := 143) (by decide +kernel)
theorem dX12_goesOn_31 : decode cX12_goesOn 31 = .ok (.bipush 47, 2) := oc_16 (a := 47) (by decide +kernel)
theorem dX12_goesOn_33 : decode cX12_goesOn 33 = .ok (.if_icmp .eq 19, 3) := oc_159 (a := 0) (b := 19) (by decide +kernel)
theorem dX12_goesOn_36 : decode cX12_goesOn 36 = .ok (.aload_n 0, 1) := oc_42 (by decide +kernel)
theorem dX12_goesOn_37 : decode cX12_goesOn 37 = .ok (.getfield 143, 3) := oc_180 (a := 0) (b := 143) (by decide +kernel)
theorem dX12_goesOn_40 : decode cX12_goesOn 40 = .ok (.bipush 41, 2) := oc_16 (a := 41) (by decide +kernel)
theorem dX12_goesOn_42 : decode cX12_goesOn 42 = .ok (.if_icmp .ne 14, 3) := oc_160 (a := 0) (b := 14) (by decide +kernel)
theorem dX12_goesOn_56 : decode cX12_goesOn 56 = .ok (.iconst 0, 1) := oc_3 (by decide +kernel)
theorem dX12_goesOn_45 : decode cX12_goesOn 45 = .ok (.aload_n 0, 1) := oc_42 (by decide +kernel)
theorem tw_893 : Cond.methodLink RX12 205 yX12_hasParen ∈ wsL_law := sg_38 _ (List.mem_of_getElem? (i := 5) rfl)
theorem tw_894 : Cond.instanceMethod yX12_hasParen ∈ wsL_law := sg_38 _ (List.mem_of_getElem? (i := 6) rfl)
theorem tw_895 : Cond.selects RX12 yX12_hasParen yX12_hasParen ∈ wsL_law := sg_38 _ (List.mem_of_getElem? (i := 7) rfl)
theorem tw_896 : Cond.code yX12_hasParen cX12_hasParen 2 (some .boolean) ∈ wsL_law := sg_38 _ (List.mem_of_getElem? (i := 8) rfl)
theorem dX12_goesOn_46 : decode cX12_goesOn 46 = .ok (.invokevirtual 205, 3) := oc_182 (a := 0) (b := 205) (by decide +kernel)
theorem dX12_goesOn_49 : decode cX12_goesOn 49 = .ok (.ifCond .eq 7, 3) := oc_153 (a := 0) (b := 7) (by decide +kernel)
theorem dX12_beginOne_0 : decode cX12_beginOne 0 = .ok (.aload_n 0, 1) := oc_42 (by decide +kernel)
theorem dX12_beginOne_1 : decode cX12_beginOne 1 = .ok (.getfield 143, 3) := oc_180 (a := 0) (b := 143) (by decide +kernel)
theorem dX12_beginOne_4 : decode cX12_beginOne 4 = .ok (.iconst 1, 1) := oc_4 (by decide +kernel)
theorem dX12_beginOne_5 : decode cX12_beginOne 5 = .ok (.if_icmp .ne 15, 3) := oc_160 (a := 0) (b := 15) (by decide +kernel)
theorem dX12_beginOne_20 : decode cX12_beginOne 20 = .ok (.aload_n 0, 1) := oc_42 (by decide +kernel)
theorem dX12_beginOne_21 : decode cX12_beginOne 21 = .ok (.getfield 143, 3) := oc_180 (a := 0) (b := 143) (by decide +kernel)
theorem dX12_beginOne_24 : decode cX12_beginOne 24 = .ok (.iconst 1, 1) := oc_4 (by decide +kernel)
theorem dX12_beginOne_25 : decode cX12_beginOne 25 = .ok (.if_icmp .eq 10, 3) := oc_159 (a := 0) (b := 10) (by decide +kernel)
theorem dX12_beginOne_35 : decode cX12_beginOne 35 = .ok (.aload_n 0, 1) := oc_42 (by decide +kernel)
theorem dX12_beginOne_36 : decode cX12_beginOne 36 = .ok (.aload_n 0, 1) := oc_42 (by decide +kernel)
theorem dX12_beginOne_37 : decode cX12_beginOne 37 = .ok (.getfield 143, 3) := oc_180 (a := 0) (b := 143) (by decide +kernel)
theorem dX12_beginOne_40 : decode cX12_beginOne 40 = .ok (.iconst 1, 1) := oc_4 (by decide +kernel)
theorem dX12_beginOne_41 : decode cX12_beginOne 41 = .ok (.if_icmp .ne 7, 3) := oc_160 (a := 0) (b := 7) (by decide +kernel)
theorem dX12_beginOne_44 : decode cX12_beginOne 44 = .ok (.iconst 0, 1) := oc_3 (by decide +kernel)
theorem dX12_beginOne_45 : decode cX12_beginOne 45 = .ok (.goto 4, 3) := oc_167 (a := 0) (b := 4) (by decide +kernel)
theorem dX12_beginOne_49 : decode cX12_beginOne 49 = .ok (.aload_n 0, 1) := oc_42 (by decide +kernel)
theorem dX12_beginOne_50 : decode cX12_beginOne 50 = .ok (.getfield 143, 3) := oc_180 (a := 0) (b := 143) (by decide +kernel)
theorem dX12_beginOne_53 : decode cX12_beginOne 53 = .ok (.iconst 1, 1) := oc_4 (by decide +kernel)
theorem dX12_beginOne_54 : decode cX12_beginOne 54 = .ok (.if_icmp .ne 10, 3) := oc_160 (a := 0) (b := 10) (by decide +kernel)
theorem dX12_beginOne_57 : decode cX12_beginOne 57 = .ok (.aload_n 0, 1) := oc_42 (by decide +kernel)
theorem dX12_beginOne_58 : decode cX12_beginOne 58 = .ok (.getfield 149, 3) := oc_180 (a := 0) (b := 149) (by decide +kernel)
theorem dX12_beginOne_61 : decode cX12_beginOne 61 = .ok (.goto 7, 3) := oc_167 (a := 0) (b := 7) (by decide +kernel)
theorem dX12_beginOne_68 : decode cX12_beginOne 68 = .ok (.invokevirtual 188, 3) := oc_182 (a := 0) (b := 188) (by decide +kernel)
theorem dX12_beginOne_71 : decode cX12_beginOne 71 = .ok (.aload_n 0, 1) := oc_42 (by decide +kernel)
theorem tw_832 : Cond.methodLink RX12 196 yX12_nextToken ∈ wsL_law := sg_35 _ (List.mem_of_getElem? (i := 16) rfl)
theorem tw_833 : Cond.instanceMethod yX12_nextToken ∈ wsL_law := sg_35 _ (List.mem_of_getElem? (i := 17) rfl)
theorem tw_834 : Cond.selects RX12 yX12_nextToken yX12_nextToken ∈ wsL_law := sg_35 _ (List.mem_of_getElem? (i := 18) rfl)
theorem tw_835 : Cond.code yX12_nextToken cX12_nextToken 3 none ∈ wsL_law := sg_35 _ (List.mem_of_getElem? (i := 19) rfl)
theorem dX12_beginOne_72 : decode cX12_beginOne 72 = .ok (.invokevirtual 196, 3) := oc_182 (a := 0) (b := 196) (by decide +kernel)
theorem dX12_beginOne_75 : decode cX12_beginOne 75 = .ok (.aload_n 0, 1) := oc_42 (by decide +kernel)
theorem tw_909 : Cond.methodLink RX12 199 yX12_whole ∈ wsL_law := sg_38 _ (List.mem_of_getElem? (i := 21) rfl)
theorem tw_910 : Cond.instanceMethod yX12_whole ∈ wsL_law := sg_38 _ (List.mem_of_getElem? (i := 22) rfl)
theorem tw_911 : Cond.selects RX12 yX12_whole yX12_whole ∈ wsL_law := sg_38 _ (List.mem_of_getElem? (i := 23) rfl)
theorem tw_912 : Cond.code yX12_whole cX12_whole 1 none ∈ wsL_law := sg_39 _ (List.mem_of_getElem? (i := 0) rfl)
theorem dX12_beginOne_76 : decode cX12_beginOne 76 = .ok (.invokevirtual 199, 3) := oc_182 (a := 0) (b := 199) (by decide +kernel)
theorem dX12_beginOne_79 : decode cX12_beginOne 79 = .ok (.iconst 0, 1) := oc_3 (by decide +kernel)
theorem dX12_beginOne_80 : decode cX12_beginOne 80 = .ok (.ireturn, 1) := oc_172 (by decide +kernel)
theorem dX12_beginOne_28 : decode cX12_beginOne 28 = .ok (.aload_n 0, 1) := oc_42 (by decide +kernel)
theorem tw_921 : Cond.methodLink RX12 192 yX12_nameOf ∈ wsL_law := sg_39 _ (List.mem_of_getElem? (i := 9) rfl)
theorem tw_922 : Cond.instanceMethod yX12_nameOf ∈ wsL_law := sg_39 _ (List.mem_of_getElem? (i := 10) rfl)
theorem tw_923 : Cond.selects RX12 yX12_nameOf yX12_nameOf ∈ wsL_law := sg_39 _ (List.mem_of_getElem? (i := 11) rfl)
theorem tw_924 : Cond.code yX12_nameOf cX12_nameOf 1 (some .int) ∈ wsL_law := sg_39 _ (List.mem_of_getElem? (i := 12) rfl)
theorem dX12_beginOne_29 : decode cX12_beginOne 29 = .ok (.invokevirtual 192, 3) := oc_182 (a := 0) (b := 192) (by decide +kernel)
theorem dX12_beginOne_32 : decode cX12_beginOne 32 = .ok (.ifCond .lt 49, 3) := oc_155 (a := 0) (b := 49) (by decide +kernel)
theorem dX12_beginOne_81 : decode cX12_beginOne 81 = .ok (.aload_n 0, 1) := oc_42 (by decide +kernel)
theorem dX12_beginOne_82 : decode cX12_beginOne 82 = .ok (.getfield 143, 3) := oc_180 (a := 0) (b := 143) (by decide +kernel)
theorem dX12_beginOne_85 : decode cX12_beginOne 85 = .ok (.bipush 40, 2) := oc_16 (a := 40) (by decide +kernel)
theorem dX12_beginOne_87 : decode cX12_beginOne 87 = .ok (.if_icmp .eq 14, 3) := oc_159 (a := 0) (b := 14) (by decide +kernel)
theorem dX12_beginOne_101 : decode cX12_beginOne 101 = .ok (.aload_n 0, 1) := oc_42 (by decide +kernel)
theorem dX12_beginOne_102 : decode cX12_beginOne 102 = .ok (.getfield 185, 3) := oc_180 (a := 0) (b := 185) (by decide +kernel)
theorem dX12_beginOne_105 : decode cX12_beginOne 105 = .ok (.bipush 8, 2) := oc_16 (a := 8) (by decide +kernel)
theorem dX12_beginOne_107 : decode cX12_beginOne 107 = .ok (.if_icmp .ne 5, 3) := oc_160 (a := 0) (b := 5) (by decide +kernel)
theorem dX12_beginOne_112 : decode cX12_beginOne 112 = .ok (.aload_n 0, 1) := oc_42 (by decide +kernel)
theorem dX12_beginOne_113 : decode cX12_beginOne 113 = .ok (.dup, 1) := oc_89 (by decide +kernel)
theorem dX12_beginOne_114 : decode cX12_beginOne 114 = .ok (.getfield 185, 3) := oc_180 (a := 0) (b := 185) (by decide +kernel)
theorem dX12_beginOne_117 : decode cX12_beginOne 117 = .ok (.iconst 1, 1) := oc_4 (by decide +kernel)
theorem dX12_beginOne_118 : decode cX12_beginOne 118 = .ok (.iadd, 1) := oc_96 (by decide +kernel)
theorem dX12_beginOne_119 : decode cX12_beginOne 119 = .ok (.putfield 185, 3) := oc_181 (a := 0) (b := 185) (by decide +kernel)
theorem dX12_beginOne_122 : decode cX12_beginOne 122 = .ok (.aload_n 0, 1) := oc_42 (by decide +kernel)
theorem dX12_beginOne_123 : decode cX12_beginOne 123 = .ok (.aload_n 0, 1) := oc_42 (by decide +kernel)
theorem dX12_beginOne_124 : decode cX12_beginOne 124 = .ok (.getfield 143, 3) := oc_180 (a := 0) (b := 143) (by decide +kernel)
theorem dX12_beginOne_127 : decode cX12_beginOne 127 = .ok (.bipush 40, 2) := oc_16 (a := 40) (by decide +kernel)
theorem dX12_beginOne_129 : decode cX12_beginOne 129 = .ok (.if_icmp .ne 8, 3) := oc_160 (a := 0) (b := 8) (by decide +kernel)
theorem dX12_beginOne_132 : decode cX12_beginOne 132 = .ok (.bipush 40, 2) := oc_16 (a := 40) (by decide +kernel)
theorem dX12_beginOne_134 : decode cX12_beginOne 134 = .ok (.goto 4, 3) := oc_167 (a := 0) (b := 4) (by decide +kernel)
theorem tw_913 : Cond.methodLink RX12 202 yX12_push ∈ wsL_law := sg_39 _ (List.mem_of_getElem? (i := 1) rfl)
theorem tw_914 : Cond.instanceMethod yX12_push ∈ wsL_law := sg_39 _ (List.mem_of_getElem? (i := 2) rfl)
theorem tw_915 : Cond.selects RX12 yX12_push yX12_push ∈ wsL_law := sg_39 _ (List.mem_of_getElem? (i := 3) rfl)
theorem tw_916 : Cond.code yX12_push cX12_push 2 none ∈ wsL_law := sg_39 _ (List.mem_of_getElem? (i := 4) rfl)
theorem dX12_beginOne_138 : decode cX12_beginOne 138 = .ok (.invokevirtual 202, 3) := oc_182 (a := 0) (b := 202) (by decide +kernel)
theorem dX12_beginOne_141 : decode cX12_beginOne 141 = .ok (.aload_n 0, 1) := oc_42 (by decide +kernel)
theorem dX12_beginOne_142 : decode cX12_beginOne 142 = .ok (.invokevirtual 196, 3) := oc_182 (a := 0) (b := 196) (by decide +kernel)
theorem dX12_beginOne_145 : decode cX12_beginOne 145 = .ok (.iconst 0, 1) := oc_3 (by decide +kernel)
theorem dX12_beginOne_146 : decode cX12_beginOne 146 = .ok (.ireturn, 1) := oc_172 (by decide +kernel)
theorem dX12_beginOne_110 : decode cX12_beginOne 110 = .ok (.iconst 3, 1) := oc_6 (by decide +kernel)
theorem dX12_beginOne_111 : decode cX12_beginOne 111 = .ok (.ireturn, 1) := oc_172 (by decide +kernel)
theorem dX12_beginOne_90 : decode cX12_beginOne 90 = .ok (.aload_n 0, 1) := oc_42 (by decide +kernel)
theorem dX12_beginOne_91 : decode cX12_beginOne 91 = .ok (.getfield 143, 3) := oc_180 (a := 0) (b := 143) (by decide +kernel)
theorem dX12_beginOne_94 : decode cX12_beginOne 94 = .ok (.bipush 45, 2) := oc_16 (a := 45) (by decide +kernel)
theorem dX12_beginOne_96 : decode cX12_beginOne 96 = .ok (.if_icmp .eq 5, 3) := oc_159 (a := 0) (b := 5) (by decide +kernel)
theorem dX12_beginOne_137 : decode cX12_beginOne 137 = .ok (.iconst 2, 1) := oc_5 (by decide +kernel)
theorem dX12_beginOne_99 : decode cX12_beginOne 99 = .ok (.iconst 1, 1) := oc_4 (by decide +kernel)
theorem dX12_beginOne_100 : decode cX12_beginOne 100 = .ok (.ireturn, 1) := oc_172 (by decide +kernel)
theorem dX12_beginOne_48 : decode cX12_beginOne 48 = .ok (.iconst 1, 1) := oc_4 (by decide +kernel)
theorem dX12_beginOne_64 : decode cX12_beginOne 64 = .ok (.aload_n 0, 1) := oc_42 (by decide +kernel)
theorem dX12_beginOne_65 : decode cX12_beginOne 65 = .ok (.invokevirtual 192, 3) := oc_182 (a := 0) (b := 192) (by decide +kernel)
theorem dX12_beginOne_8 : decode cX12_beginOne 8 = .ok (.aload_n 0, 1) := oc_42 (by decide +kernel)
theorem dX12_beginOne_9 : decode cX12_beginOne 9 = .ok (.getfield 149, 3) := oc_180 (a := 0) (b := 149) (by decide +kernel)
theorem dX12_beginOne_12 : decode cX12_beginOne 12 = .ok (.sipush 9999, 3) := oc_17 (a := 39) (b := 15) (by decide +kernel)
theorem dX12_beginOne_15 : decode cX12_beginOne 15 = .ok (.if_icmp .le 5, 3) := oc_164 (a := 0) (b := 5) (by decide +kernel)
theorem dX12_beginOne_18 : decode cX12_beginOne 18 = .ok (.iconst 2, 1) := oc_5 (by decide +kernel)
theorem dX12_beginOne_19 : decode cX12_beginOne 19 = .ok (.ireturn, 1) := oc_172 (by decide +kernel)
set_option maxRecDepth 100000 in
def g_X12_hasParen_L2 (I : Nat → Int32) (J : Nat → Int64) (ri : Nat → Nat → Int32) (rj : Nat → Nat → Int64) (rq : Nat → Nat → Option Nat) : Nat → (Int32) → Int32 × vM
  | 0, x_341 => ((0 : Int32), I, J, ri, rj, rq)
  | n_360 + 1, x_341 => (ap1 (I 401) fun (y_366 : Int32) => (if (y_366) ≤ x_341 then ((0 : Int32), I, J, ri, rj, rq) else (ap1 (ri 400 (x_341).toNatClampNeg) fun (x_376 : Int32) => (if x_376 = (40 : Int32) then ((1 : Int32), I, J, ri, rj, rq) else (ap1 (x_341 + Int32.ofInt 1) fun (x_385 : Int32) => ((g_X12_hasParen_L2 I J ri rj rq n_360) x_385))))))
set_option maxRecDepth 100000 in
theorem g_X12_hasParen_L2_e {I : Nat → Int32} {J : Nat → Int64} {ri : Nat → Nat → Int32} {rj : Nat → Nat → Int64} {rq : Nat → Nat → Option Nat} {n_360 : Nat} {x_341 : Int32} : g_X12_hasParen_L2 I J ri rj rq (n_360 + 1) x_341 = (ap1 (I 401) fun (y_366 : Int32) => (if (y_366) ≤ x_341 then ((0 : Int32), I, J, ri, rj, rq) else (ap1 (ri 400 (x_341).toNatClampNeg) fun (x_376 : Int32) => (if x_376 = (40 : Int32) then ((1 : Int32), I, J, ri, rj, rq) else (ap1 (x_341 + Int32.ofInt 1) fun (x_385 : Int32) => ((g_X12_hasParen_L2 I J ri rj rq n_360) x_385)))))) := rfl
set_option maxRecDepth 100000 in
def g_X12_hasParen (I : Nat → Int32) (J : Nat → Int64) (ri : Nat → Nat → Int32) (rj : Nat → Nat → Int64) (rq : Nat → Nat → Option Nat) : Int32 × vM := (g_X12_hasParen_L2 I J ri rj rq ((160 - ((0 : Int32)).toInt).toNat + 1) (0 : Int32))
set_option maxRecDepth 100000 in
theorem g_X12_hasParen_e {I : Nat → Int32} {J : Nat → Int64} {ri : Nat → Nat → Int32} {rj : Nat → Nat → Int64} {rq : Nat → Nat → Option Nat} : g_X12_hasParen I J ri rj rq = (g_X12_hasParen_L2 I J ri rj rq ((160 - ((0 : Int32)).toInt).toNat + 1) (0 : Int32)) := rfl
set_option maxHeartbeats 4000000 in
set_option maxRecDepth 100000 in
theorem s_X12_hasParen (l : Launch) (D : va_G) (t : pq_T) (σ : pq_S) (I : Nat → Nat → Int32) (J : Nat → Nat → Int64) (ri : Nat → Nat → Int32) (rj : Nat → Nat → Int64) (rq : Nat → Nat → Option Nat) (sz : Nat) (tg : Nat → Nat) (hSH : SH σ tg) (hG0 : GT tg I ri) (this : Nat) (hL_this : this ∈ σ.1) (hK_this : σ.2.1 this = 12) (this_pile : Nat) (hR_this_pile : σ.2.2.1 400 this = some this_pile) (hL_this_pile : this_pile ∈ σ.1) (hK_this_pile : σ.2.1 this_pile = 13) (hN_this_pile : σ.2.2.2 this_pile = 160) (hT_this_pile : tg this_pile = 400) : MetI l yX12_hasParen (wa yX12_hasParen cX12_hasParen 2 (some .boolean)) ({ frames := 0, cells := 0, slots := 0, locals := 0 }) [.ref this] D t σ (I, J, ri, rj, rq) sz 0 0 (fun (r : Int32) (u : pq_S × pq_M) => u = (σ, I, J, ri, rj, rq) ∧ g_X12_hasParen (vI 12 σ this I) (vJ 12 σ this J) (vR 12 σ this ri) (vL 12 σ this rj) (vQ 12 σ this rq) = (r, (vI 12 σ this I), (vJ 12 σ this J), (vR 12 σ this ri), (vL 12 σ this rj), (vQ 12 σ this rq)) ∧ ((r = 1 ∧ (∃ k : Nat, (k : Int) < (I 401 this).toInt ∧ (ri this_pile k).toInt = 40)) ∨ (r = 0 ∧ True))) := by
  refine Met.ofW (cc := cX12_hasParen) (maxL := 2) (ret := (some .boolean)) (by decide +kernel) rfl ?_
  intro p e s m args below meth c s₁ B hml hv
  obtain ⟨rfl, hsz, hP, hK, hD0, hN⟩ := hv
  have hx := B.exec
  have hb := B.bytes
  have hr := B.returns
  have hts := atoms_spec (ws := (wa yX12_hasParen cX12_hasParen 2 (some .boolean))) B.pre
  have hown : s.vm.findClass RX12 = some m.cls := findClass_of_methodNamed B.named
  have hlocks := B.notSynchronized
  subst hsz
  have hD : va_D (pq_B t σ (I, J, ri, rj, rq) s.heap.size) (pq_P t σ (I, J, ri, rj, rq)) := hD0.self
  generalize hAe : pq_B t σ (I, J, ri, rj, rq) s.heap.size = A at hD ⊢
  have hA : ∀ q : Nat, s.heap.size ≤ q → A q := fun q h => by rw [← hAe]; exact Or.inr h
  have hS : va_S A s.heap s.heap [] := va_S.rf
  have hG : GM [] tg σ I ri I ri rq := ⟨hG0, fun _ _ _ => rfl, fun _ _ _ _ _ => rfl, fun _ _ _ _ _ _ => rfl⟩
  have hl := lv_entry ([.ref this]) (n := 2) (Nat.le_of_ble_eq_true rfl)
  rw [lg_entry_eq]
  generalize (lg_sl ([.ref this]) ++ List.replicate (2 - (lg_sl ([.ref this])).length) Slot.unset).toArray = ls at hl ⊢
  have hl : lv_has ls 2 [(0, .ref this)] := hl
  refine q_gen (fun Q hQ => ?_)
  have go : ∀ (H : Heap) (locs : List Loc) (ls : Array Slot), va_P D vwCl (pq_P t σ (I, J, ri, rj, rq)) H → va_D A (pq_P t σ (I, J, ri, rj, rq)) → va_S A s.heap H locs → lv_has ls 2 [(0, .ref this)] → W p l e ({ frames := 0, cells := 0, slots := 0, locals := 0 } : Room) s m (List.toArray ([.ref this] : List Value)) below meth c H locs 0 0 Q (F0 m 0 ls []) := by
    intro H locs ls hP hD hS hl
    have hO_this : this = vo σ 12 this := rfl
    have hVT : VT 12 σ tg this := vt_12 hSH hL_this hK_this
    have hFr : FR 12 tg σ this (I, J, ri, rj, rq) (I, J, ri, rj, rq) := fr_rf
    have hO_this_pile : this_pile = vrow σ 400 this := vo_k (c := 12) hO_this hR_this_pile
    obtain ⟨F, hF0⟩ : ∃ F, F = g_X12_hasParen (vI 12 σ this I) (vJ 12 σ this J) (vR 12 σ this ri) (vL 12 σ this rj) (vQ 12 σ this rq) := ⟨_, rfl⟩
    have hF := hF0.trans g_X12_hasParen_e
    refine lv_iconst (v := 0) hx hb dX12_hasParen_0 (by decide +kernel) ?_
    refine lv_istore_n (lv' := [(1, .int 0), (0, .ref this)]) hx hb dX12_hasParen_1 rfl hl (by decide +kernel) rfl (fun ls hl => ?_)
    have L_361 : ∀ (n_360 : Nat) (x_341 : Int32) (H : Heap) (locs : List Loc) (ls : Array Slot), rg x_341 0 160 → (160 - (x_341).toInt).toNat < n_360 → F = g_X12_hasParen_L2 (vI 12 σ this I) (vJ 12 σ this J) (vR 12 σ this ri) (vL 12 σ this rj) (vQ 12 σ this rq) n_360 x_341 → FR 12 tg σ this (I, J, ri, rj, rq) (I, J, ri, rj, rq) → GM [] tg σ I ri I ri rq → va_P D vwCl (pq_P t σ (I, J, ri, rj, rq)) H → va_D A (pq_P t σ (I, J, ri, rj, rq)) → va_S A s.heap H locs → lv_has ls 2 [(0, .ref this), (1, .int x_341)] → W p l e ({ frames := 0, cells := 0, slots := 0, locals := 0 } : Room) s m (List.toArray ([.ref this] : List Value)) below meth c H locs 0 0 Q (F0 m 2 ls []) := by
      intro n_360
      induction n_360 with
      | zero => intro x_341 H locs ls h_364 hm_359 hF hFr hG hP hD hS hl; exact absurd hm_359 (Nat.not_lt_zero _)
      | succ n_360 ih_362 =>
        intro x_341 H locs ls h_364 hm_359 hF hFr hG hP hD hS hl
        have uh_364 := h_364.1
        have vh_364 := h_364.2
        replace hF := hF.trans g_X12_hasParen_L2_e
        refine lv_iload_n hx hb dX12_hasParen_2 rfl (lv_at hl 1 rfl) ?_
        refine lv_aload_n hx hb dX12_hasParen_3 rfl (lv_at hl 0 rfl) ?_
        refine pg_f (v := .int (I 401 this)) (C := RX12) (T := TX12) (N := 31) hx hb hts (tw_i inlX12) hown hK hP hL_this hK_this (by decide +kernel) rfl 17 (by decide +kernel) (hts _ (tw_c tw_887)) rfl dX12_hasParen_4 ?_
        have h_365 : rg (I 401 this) 0 160 := GM.rI hG 401 rfl
        have uh_365 := h_365.1
        have vh_365 := h_365.2
        replace hF := hF.trans (ap_n (vI_e (f := 401) hO_this (by decide +kernel)))
        refine lv_icmp_ge (tgt := 29) hx hb dX12_hasParen_7 (by decide +kernel) (fun c_367 => ?_) (fun c_367 => ?_)
        · replace hF := hF.trans (if_pos c_367)
          have tc_372 : (I 401 this).toInt ≤ (x_341).toInt := Int32.le_iff_toInt_le.mp c_367
          refine lv_iconst (v := 0) hx hb dX12_hasParen_29 (by decide +kernel) ?_
          subst hQ
          exact W.zret (v := 0) hx hb hr (by decide +kernel) (fun t1 ht hW => ⟨⟨0, (σ, I, J, ri, rj, rq), rfl, ⟨rfl, (hF0.symm.trans hF), (Or.inr ⟨rfl, trivial⟩)⟩, by rw [ht]; exact hP, va_K.moved hW.alike hK, hD⟩, hS.F ht⟩) hS.2.2 dX12_hasParen_30
        · replace hF := hF.trans (if_neg c_367)
          have tc_373 : (x_341).toInt < (I 401 this).toInt := Int32.lt_iff_toInt_lt.mp (nle c_367)
          have h_374 : rg x_341 0 159 := rg_lt1 (nle c_367) h_364 h_365 (by decide +kernel)
          have uh_374 := h_374.1
          have vh_374 := h_374.2
          have h_375 : rg (I 401 this) 1 160 := rg_lt2 (nle c_367) h_364 h_365 (by decide +kernel)
          have uh_375 := h_375.1
          have vh_375 := h_375.2
          refine lv_aload_n hx hb dX12_hasParen_10 rfl (lv_at hl 0 rfl) ?_
          refine pg_f (v := .ref this_pile) (C := RX12) (T := TX12) (N := 31) hx hb hts (tw_i inlX12) hown hK hP hL_this hK_this (by decide +kernel) rfl 16 (by decide +kernel) (hts _ (tw_c tw_182)) (pq_hv rfl hR_this_pile) dX12_hasParen_11 ?_
          refine lv_iload_n hx hb dX12_hasParen_14 rfl (lv_at hl 1 rfl) ?_
          refine pl_i hx hb hK hP hL_this_pile hK_this_pile hN_this_pile (rg_in h_374 (by decide +kernel)) dX12_hasParen_15 ?_
          refine lv_topi (fun x_376 ex_376 => ?_)
          replace hF := hF.trans (ap_n (vR_r hO_this_pile (by decide +kernel) ex_376))
          have ex_376 : x_376 = ri this_pile (x_341).toNatClampNeg := ex_376
          have h_377 : rg x_376 0 40 := rg_of_eq ex_376 (GM.rR hG hT_this_pile rfl)
          have uh_377 := h_377.1
          have vh_377 := h_377.2
          refine lv_bipush (v := 40) hx hb dX12_hasParen_16 (by decide +kernel) ?_
          refine lv_icmp_ne (tgt := 23) hx hb dX12_hasParen_18 (by decide +kernel) (fun c_378 => ?_) (fun c_378 => ?_)
          · replace hF := hF.trans (if_neg c_378)
            have tc_383 : (x_376).toInt ≠ 40 := fun q => c_378 (Int32.toInt_inj.mp q)
            have h_384 : rg x_376 0 39 := rg_ne c_378 h_377 40 rfl (by decide +kernel)
            have uh_384 := h_384.1
            have vh_384 := h_384.2
            obtain ⟨x_385, ex_385⟩ : ∃ y : Int32, y = x_341 + Int32.ofInt 1 := ⟨_, rfl⟩
            replace hF := hF.trans (ap_n ex_385)
            have h_386 : rg x_385 1 160 := rg_of_eq ex_385 (rg_add h_374 (rg_k (Int32.ofInt 1) 1 rfl) (by decide +kernel))
            have uh_386 := h_386.1
            have vh_386 := h_386.2
            have tx_385 : (x_385).toInt = (x_341).toInt + 1 := by rw [ex_385]; exact i_add_rg (a2 := (x_341).toInt) (b2 := 1) rfl rfl h_374 (rg_k (Int32.ofInt 1) 1 rfl) (by decide +kernel)
            refine lv_iinc (v := x_385) (lv' := [(1, .int x_385), (0, .ref this)]) hx hb dX12_hasParen_23 hl (k := 1) rfl ex_385.symm (by decide +kernel) rfl (fun ls hl => ?_)
            refine lv_goto (tgt := 2) hx hb dX12_hasParen_26 (by decide +kernel) ?_
            exact ih_362 x_385 _ _ _ (rg_w h_386 (by decide +kernel)) (ms_up 1 hm_359 ex_385 rfl (by decide +kernel) h_374 (by decide +kernel) (by decide +kernel)) hF hFr hG hP hD hS (lv_sub hl [1, 0] rfl)
          · replace hF := hF.trans (if_pos c_378)
            have tc_387 : (x_376).toInt = 40 := congrArg Int32.toInt c_378
            have h_388 : rg x_376 40 40 := rg_and h_377 (rg_of_eq c_378 (rg_k (40 : Int32) 40 rfl)) (by decide +kernel)
            have uh_388 := h_388.1
            have vh_388 := h_388.2
            refine lv_iconst (v := 1) hx hb dX12_hasParen_21 (by decide +kernel) ?_
            subst hQ
            exact W.zret (v := 1) hx hb hr (by decide +kernel) (fun t1 ht hW => ⟨⟨1, (σ, I, J, ri, rj, rq), rfl, ⟨rfl, (hF0.symm.trans hF), (Or.inl ⟨rfl, ⟨(x_341).toNatClampNeg, by have z0 := clampE x_341; omega, by rw [← ex_376]; omega⟩⟩)⟩, by rw [ht]; exact hP, va_K.moved hW.alike hK, hD⟩, hS.F ht⟩) hS.2.2 dX12_hasParen_22
    exact L_361 _ (0 : Int32) _ _ _ (rg_w (rg_k (0 : Int32) 0 rfl) (by decide +kernel)) (Nat.lt_succ_self _) hF hFr hG hP hD hS (lv_sub hl [1, 0] rfl)
  exact go _ _ _ hP hD hS hl

set_option maxRecDepth 100000 in
def g_X12_goesOn (I : Nat → Int32) (J : Nat → Int64) (ri : Nat → Nat → Int32) (rj : Nat → Nat → Int64) (rq : Nat → Nat → Option Nat) : Int32 × vM := (ap1 (I 393) fun (y_1 : Int32) => (if (y_1) = (43 : Int32) then ((1 : Int32), I, J, ri, rj, rq) else (if (y_1) = (45 : Int32) then ((1 : Int32), I, J, ri, rj, rq) else (if (y_1) = (42 : Int32) then ((1 : Int32), I, J, ri, rj, rq) else (if (y_1) = (47 : Int32) then ((1 : Int32), I, J, ri, rj, rq) else (if (y_1) = (41 : Int32) then (bnI (g_X12_hasParen I J ri rj rq) fun (x_37 : Int32) (_ : Nat → Int32) (_ : Nat → Int64) (_ : Nat → Nat → Int32) (_ : Nat → Nat → Int64) (_ : Nat → Nat → Option Nat) => (if x_37 = (0 : Int32) then ((0 : Int32), I, J, ri, rj, rq) else ((1 : Int32), I, J, ri, rj, rq))) else ((0 : Int32), I, J, ri, rj, rq)))))))
set_option maxRecDepth 100000 in
theorem g_X12_goesOn_e {I : Nat → Int32} {J : Nat → Int64} {ri : Nat → Nat → Int32} {rj : Nat → Nat → Int64} {rq : Nat → Nat → Option Nat} : g_X12_goesOn I J ri rj rq = (ap1 (I 393) fun (y_1 : Int32) => (if (y_1) = (43 : Int32) then ((1 : Int32), I, J, ri, rj, rq) else (if (y_1) = (45 : Int32) then ((1 : Int32), I, J, ri, rj, rq) else (if (y_1) = (42 : Int32) then ((1 : Int32), I, J, ri, rj, rq) else (if (y_1) = (47 : Int32) then ((1 : Int32), I, J, ri, rj, rq) else (if (y_1) = (41 : Int32) then (bnI (g_X12_hasParen I J ri rj rq) fun (x_37 : Int32) (_ : Nat → Int32) (_ : Nat → Int64) (_ : Nat → Nat → Int32) (_ : Nat → Nat → Int64) (_ : Nat → Nat → Option Nat) => (if x_37 = (0 : Int32) then ((0 : Int32), I, J, ri, rj, rq) else ((1 : Int32), I, J, ri, rj, rq))) else ((0 : Int32), I, J, ri, rj, rq))))))) := rfl
set_option maxHeartbeats 4000000 in
set_option maxRecDepth 100000 in
theorem s_X12_goesOn (l : Launch) (D : va_G) (t : pq_T) (σ : pq_S) (I : Nat → Nat → Int32) (J : Nat → Nat → Int64) (ri : Nat → Nat → Int32) (rj : Nat → Nat → Int64) (rq : Nat → Nat → Option Nat) (sz : Nat) (tg : Nat → Nat) (hSH : SH σ tg) (hG0 : GT tg I ri) (this : Nat) (hL_this : this ∈ σ.1) (hK_this : σ.2.1 this = 12) (this_pile : Nat) (hR_this_pile : σ.2.2.1 400 this = some this_pile) (hL_this_pile : this_pile ∈ σ.1) (hK_this_pile : σ.2.1 this_pile = 13) (hN_this_pile : σ.2.2.2 this_pile = 160) (hT_this_pile : tg this_pile = 400) : MetI l yX12_goesOn (wa yX12_goesOn cX12_goesOn 1 (some .boolean)) ({ frames := 1, cells := 0, slots := 0, locals := 21 }) [.ref this] D t σ (I, J, ri, rj, rq) sz 0 0 (fun (r : Int32) (u : pq_S × pq_M) => u = (σ, I, J, ri, rj, rq) ∧ g_X12_goesOn (vI 12 σ this I) (vJ 12 σ this J) (vR 12 σ this ri) (vL 12 σ this rj) (vQ 12 σ this rq) = (r, (vI 12 σ this I), (vJ 12 σ this J), (vR 12 σ this ri), (vL 12 σ this rj), (vQ 12 σ this rq)) ∧ ((r = 1 ∧ (((I 393 this).toInt = 43 ∨ (I 393 this).toInt = 45 ∨ (I 393 this).toInt = 42 ∨ (I 393 this).toInt = 47 ∨ (I 393 this).toInt = 41) ∧ ((I 393 this).toInt = 41 → ∃ k : Nat, (k : Int) < (I 401 this).toInt ∧ (ri this_pile k).toInt = 40))) ∨ (r = 0 ∧ True))) := by
  refine Met.ofW (cc := cX12_goesOn) (maxL := 1) (ret := (some .boolean)) (by decide +kernel) rfl ?_
  intro p e s m args below meth c s₁ B hml hv
  obtain ⟨rfl, hsz, hP, hK, hD0, hN⟩ := hv
  have hx := B.exec
  have hb := B.bytes
  have hr := B.returns
  have hts := atoms_spec (ws := (wa yX12_goesOn cX12_goesOn 1 (some .boolean))) B.pre
  have hown : s.vm.findClass RX12 = some m.cls := findClass_of_methodNamed B.named
  have hlocks := B.notSynchronized
  subst hsz
  have hD : va_D (pq_B t σ (I, J, ri, rj, rq) s.heap.size) (pq_P t σ (I, J, ri, rj, rq)) := hD0.self
  generalize hAe : pq_B t σ (I, J, ri, rj, rq) s.heap.size = A at hD ⊢
  have hA : ∀ q : Nat, s.heap.size ≤ q → A q := fun q h => by rw [← hAe]; exact Or.inr h
  have hS : va_S A s.heap s.heap [] := va_S.rf
  have hG : GM [] tg σ I ri I ri rq := ⟨hG0, fun _ _ _ => rfl, fun _ _ _ _ _ => rfl, fun _ _ _ _ _ _ => rfl⟩
  have hl := lv_entry ([.ref this]) (n := 1) (Nat.le_of_ble_eq_true rfl)
  rw [lg_entry_eq]
  generalize (lg_sl ([.ref this]) ++ List.replicate (1 - (lg_sl ([.ref this])).length) Slot.unset).toArray = ls at hl ⊢
  have hl : lv_has ls 1 [(0, .ref this)] := hl
  refine q_gen (fun Q hQ => ?_)
  have go : ∀ (H : Heap) (locs : List Loc) (ls : Array Slot), va_P D vwCl (pq_P t σ (I, J, ri, rj, rq)) H → va_D A (pq_P t σ (I, J, ri, rj, rq)) → va_S A s.heap H locs → lv_has ls 1 [(0, .ref this)] → W p l e ({ frames := 1, cells := 0, slots := 0, locals := 21 } : Room) s m (List.toArray ([.ref this] : List Value)) below meth c H locs 0 0 Q (F0 m 0 ls []) := by
    intro H locs ls hP hD hS hl
    have hO_this : this = vo σ 12 this := rfl
    have hVT : VT 12 σ tg this := vt_12 hSH hL_this hK_this
    have hFr : FR 12 tg σ this (I, J, ri, rj, rq) (I, J, ri, rj, rq) := fr_rf
    have hO_this_pile : this_pile = vrow σ 400 this := vo_k (c := 12) hO_this hR_this_pile
    obtain ⟨F, hF0⟩ : ∃ F, F = g_X12_goesOn (vI 12 σ this I) (vJ 12 σ this J) (vR 12 σ this ri) (vL 12 σ this rj) (vQ 12 σ this rq) := ⟨_, rfl⟩
    have hF := hF0.trans g_X12_goesOn_e
    refine lv_aload_n hx hb dX12_goesOn_0 rfl (lv_at hl 0 rfl) ?_
    refine pg_f (v := .int (I 393 this)) (C := RX12) (T := TX12) (N := 31) hx hb hts (tw_i inlX12) hown hK hP hL_this hK_this (by decide +kernel) rfl 9 (by decide +kernel) (hts _ (tw_c tw_831)) rfl dX12_goesOn_1 ?_
    replace hF := hF.trans (ap_n (vI_e (f := 393) hO_this (by decide +kernel)))
    refine lv_bipush (v := 43) hx hb dX12_goesOn_4 (by decide +kernel) ?_
    refine lv_icmp_eq (tgt := 52) hx hb dX12_goesOn_6 (by decide +kernel) (fun c_2 => ?_) (fun c_2 => ?_)
    · replace hF := hF.trans (if_pos c_2)
      have tc_6 : (I 393 this).toInt = 43 := congrArg Int32.toInt c_2
      have h_7 : rg (I 393 this) 43 43 := rg_and (rg_full _) (rg_of_eq c_2 (rg_k (43 : Int32) 43 rfl)) (by decide +kernel)
      have uh_7 := h_7.1
      have vh_7 := h_7.2
      refine lv_iconst (v := 1) hx hb dX12_goesOn_52 (by decide +kernel) ?_
      refine lv_goto (tgt := 57) hx hb dX12_goesOn_53 (by decide +kernel) ?_
      subst hQ
      exact W.zret (v := 1) hx hb hr (by decide +kernel) (fun t1 ht hW => ⟨⟨1, (σ, I, J, ri, rj, rq), rfl, ⟨rfl, (hF0.symm.trans hF), (Or.inl ⟨rfl, ⟨by omega, fun q => absurd q (by omega)⟩⟩)⟩, by rw [ht]; exact hP, va_K.moved hW.alike hK, hD⟩, hS.F ht⟩) hS.2.2 dX12_goesOn_57
    · replace hF := hF.trans (if_neg c_2)
      have tc_8 : (I 393 this).toInt ≠ 43 := fun q => c_2 (Int32.toInt_inj.mp q)
      refine lv_aload_n hx hb dX12_goesOn_9 rfl (lv_at hl 0 rfl) ?_
      refine pg_f (v := .int (I 393 this)) (C := RX12) (T := TX12) (N := 31) hx hb hts (tw_i inlX12) hown hK hP hL_this hK_this (by decide +kernel) rfl 9 (by decide +kernel) (hts _ (tw_c tw_831)) rfl dX12_goesOn_10 ?_
      refine lv_bipush (v := 45) hx hb dX12_goesOn_13 (by decide +kernel) ?_
      refine lv_icmp_eq (tgt := 52) hx hb dX12_goesOn_15 (by decide +kernel) (fun c_9 => ?_) (fun c_9 => ?_)
      · replace hF := hF.trans (if_pos c_9)
        have tc_13 : (I 393 this).toInt = 45 := congrArg Int32.toInt c_9
        have h_14 : rg (I 393 this) 45 45 := rg_and (rg_full _) (rg_of_eq c_9 (rg_k (45 : Int32) 45 rfl)) (by decide +kernel)
        have uh_14 := h_14.1
        have vh_14 := h_14.2
        refine lv_iconst (v := 1) hx hb dX12_goesOn_52 (by decide +kernel) ?_
        refine lv_goto (tgt := 57) hx hb dX12_goesOn_53 (by decide +kernel) ?_
        subst hQ
        exact W.zret (v := 1) hx hb hr (by decide +kernel) (fun t1 ht hW => ⟨⟨1, (σ, I, J, ri, rj, rq), rfl, ⟨rfl, (hF0.symm.trans hF), (Or.inl ⟨rfl, ⟨by omega, fun q => absurd q (by omega)⟩⟩)⟩, by rw [ht]; exact hP, va_K.moved hW.alike hK, hD⟩, hS.F ht⟩) hS.2.2 dX12_goesOn_57
      · replace hF := hF.trans (if_neg c_9)
        have tc_15 : (I 393 this).toInt ≠ 45 := fun q => c_9 (Int32.toInt_inj.mp q)
        refine lv_aload_n hx hb dX12_goesOn_18 rfl (lv_at hl 0 rfl) ?_
        refine pg_f (v := .int (I 393 this)) (C := RX12) (T := TX12) (N := 31) hx hb hts (tw_i inlX12) hown hK hP hL_this hK_this (by decide +kernel) rfl 9 (by decide +kernel) (hts _ (tw_c tw_831)) rfl dX12_goesOn_19 ?_
        refine lv_bipush (v := 42) hx hb dX12_goesOn_22 (by decide +kernel) ?_
        refine lv_icmp_eq (tgt := 52) hx hb dX12_goesOn_24 (by decide +kernel) (fun c_16 => ?_) (fun c_16 => ?_)
        · replace hF := hF.trans (if_pos c_16)
          have tc_20 : (I 393 this).toInt = 42 := congrArg Int32.toInt c_16
          have h_21 : rg (I 393 this) 42 42 := rg_and (rg_full _) (rg_of_eq c_16 (rg_k (42 : Int32) 42 rfl)) (by decide +kernel)
          have uh_21 := h_21.1
          have vh_21 := h_21.2
          refine lv_iconst (v := 1) hx hb dX12_goesOn_52 (by decide +kernel) ?_
          refine lv_goto (tgt := 57) hx hb dX12_goesOn_53 (by decide +kernel) ?_
          subst hQ
          exact W.zret (v := 1) hx hb hr (by decide +kernel) (fun t1 ht hW => ⟨⟨1, (σ, I, J, ri, rj, rq), rfl, ⟨rfl, (hF0.symm.trans hF), (Or.inl ⟨rfl, ⟨by omega, fun q => absurd q (by omega)⟩⟩)⟩, by rw [ht]; exact hP, va_K.moved hW.alike hK, hD⟩, hS.F ht⟩) hS.2.2 dX12_goesOn_57
        · replace hF := hF.trans (if_neg c_16)
          have tc_22 : (I 393 this).toInt ≠ 42 := fun q => c_16 (Int32.toInt_inj.mp q)
          refine lv_aload_n hx hb dX12_goesOn_27 rfl (lv_at hl 0 rfl) ?_
          refine pg_f (v := .int (I 393 this)) (C := RX12) (T := TX12) (N := 31) hx hb hts (tw_i inlX12) hown hK hP hL_this hK_this (by decide +kernel) rfl 9 (by decide +kernel) (hts _ (tw_c tw_831)) rfl dX12_goesOn_28 ?_
          refine lv_bipush (v := 47) hx hb dX12_goesOn_31 (by decide +kernel) ?_
          refine lv_icmp_eq (tgt := 52) hx hb dX12_goesOn_33 (by decide +kernel) (fun c_23 => ?_) (fun c_23 => ?_)
          · replace hF := hF.trans (if_pos c_23)
            have tc_27 : (I 393 this).toInt = 47 := congrArg Int32.toInt c_23
            have h_28 : rg (I 393 this) 47 47 := rg_and (rg_full _) (rg_of_eq c_23 (rg_k (47 : Int32) 47 rfl)) (by decide +kernel)
            have uh_28 := h_28.1
            have vh_28 := h_28.2
            refine lv_iconst (v := 1) hx hb dX12_goesOn_52 (by decide +kernel) ?_
            refine lv_goto (tgt := 57) hx hb dX12_goesOn_53 (by decide +kernel) ?_
            subst hQ
            exact W.zret (v := 1) hx hb hr (by decide +kernel) (fun t1 ht hW => ⟨⟨1, (σ, I, J, ri, rj, rq), rfl, ⟨rfl, (hF0.symm.trans hF), (Or.inl ⟨rfl, ⟨by omega, fun q => absurd q (by omega)⟩⟩)⟩, by rw [ht]; exact hP, va_K.moved hW.alike hK, hD⟩, hS.F ht⟩) hS.2.2 dX12_goesOn_57
          · replace hF := hF.trans (if_neg c_23)
            have tc_29 : (I 393 this).toInt ≠ 47 := fun q => c_23 (Int32.toInt_inj.mp q)
            refine lv_aload_n hx hb dX12_goesOn_36 rfl (lv_at hl 0 rfl) ?_
            refine pg_f (v := .int (I 393 this)) (C := RX12) (T := TX12) (N := 31) hx hb hts (tw_i inlX12) hown hK hP hL_this hK_this (by decide +kernel) rfl 9 (by decide +kernel) (hts _ (tw_c tw_831)) rfl dX12_goesOn_37 ?_
            refine lv_bipush (v := 41) hx hb dX12_goesOn_40 (by decide +kernel) ?_
            refine lv_icmp_ne (tgt := 56) hx hb dX12_goesOn_42 (by decide +kernel) (fun c_30 => ?_) (fun c_30 => ?_)
            · replace hF := hF.trans (if_neg c_30)
              have tc_34 : (I 393 this).toInt ≠ 41 := fun q => c_30 (Int32.toInt_inj.mp q)
              refine lv_iconst (v := 0) hx hb dX12_goesOn_56 (by decide +kernel) ?_
              subst hQ
              exact W.zret (v := 0) hx hb hr (by decide +kernel) (fun t1 ht hW => ⟨⟨0, (σ, I, J, ri, rj, rq), rfl, ⟨rfl, (hF0.symm.trans hF), (Or.inr ⟨rfl, trivial⟩)⟩, by rw [ht]; exact hP, va_K.moved hW.alike hK, hD⟩, hS.F ht⟩) hS.2.2 dX12_goesOn_57
            · replace hF := hF.trans (if_pos c_30)
              have tc_35 : (I 393 this).toInt = 41 := congrArg Int32.toInt c_30
              have h_36 : rg (I 393 this) 41 41 := rg_and (rg_full _) (rg_of_eq c_30 (rg_k (41 : Int32) 41 rfl)) (by decide +kernel)
              have uh_36 := h_36.1
              have vh_36 := h_36.2
              refine lv_aload_n hx hb dX12_goesOn_45 rfl (lv_at hl 0 rfl) ?_
              refine pk_i (va_runV (As := []) (rest := []) ⟨hx, hb, hml, hown, hts⟩ (s_X12_hasParen l D t σ I J ri rj rq H.size tg hSH hG.1 this hL_this hK_this this_pile hR_this_pile hL_this_pile hK_this_pile hN_this_pile hT_this_pile) (cwV 0 hts (tw_V tw_893 tw_894 tw_895 tw_5 tw_896) rfl rfl rfl cv_yX12_hasParen_0 ⟨Nat.le_of_ble_eq_true rfl, Nat.le_of_ble_eq_true rfl⟩) ⟨pq_blind, pq_recv hK hP hL_this hK_this (by decide +kernel) rfl, pq_pre hK hN hP hD⟩ rfl rfl hl.1 rfl (lv_room (Nat.le_of_ble_eq_true rfl)) dX12_goesOn_46 ⟨Nat.le_of_ble_eq_true rfl, Nat.le_of_ble_eq_true rfl⟩) hD hS hA (fun x_37 σ1 μ1 H locs hw_38 hP hD hS => ?_)
              obtain ⟨hu_39, hfn_42, hr_41⟩ := hw_38
              obtain ⟨hu_39a, hu_39b⟩ := Prod.mk.inj hu_39
              rw [hu_39a, hu_39b] at hP hD
              replace hF := hF.trans (bn_n hfn_42)
              have h_44 : rg x_37 0 1 := by rcases hr_41 with ⟨q, -⟩ | ⟨q, -⟩ <;> rw [q] <;> exact ⟨by decide +kernel, by decide +kernel⟩
              have uh_44 := h_44.1
              have vh_44 := h_44.2
              refine lv_if_eq (tgt := 56) hx hb dX12_goesOn_49 (by decide +kernel) (fun c_45 => ?_) (fun c_45 => ?_)
              · replace hF := hF.trans (if_pos c_45)
                have f_52 := (hr_41.resolve_left (fun q => absurd (q.1.symm.trans c_45) (by decide +kernel))).2
                have tc_53 : (x_37).toInt = 0 := congrArg Int32.toInt c_45
                have h_54 : rg x_37 0 0 := rg_and h_44 (rg_of_eq c_45 (rg_k (0 : Int32) 0 rfl)) (by decide +kernel)
                have uh_54 := h_54.1
                have vh_54 := h_54.2
                refine lv_iconst (v := 0) hx hb dX12_goesOn_56 (by decide +kernel) ?_
                subst hQ
                exact W.zret (v := 0) hx hb hr (by decide +kernel) (fun t1 ht hW => ⟨⟨0, (σ, I, J, ri, rj, rq), rfl, ⟨rfl, (hF0.symm.trans hF), (Or.inr ⟨rfl, trivial⟩)⟩, by rw [ht]; exact hP, va_K.moved hW.alike hK, hD⟩, hS.F ht⟩) hS.2.2 dX12_goesOn_57
              · replace hF := hF.trans (if_neg c_45)
                have f_55 := (hr_41.resolve_right (fun q => c_45 q.1)).2
                have tc_56 : (x_37).toInt ≠ 0 := fun q => c_45 (Int32.toInt_inj.mp q)
                have h_57 : rg x_37 1 1 := rg_ne c_45 h_44 0 rfl (by decide +kernel)
                have uh_57 := h_57.1
                have vh_57 := h_57.2
                refine lv_iconst (v := 1) hx hb dX12_goesOn_52 (by decide +kernel) ?_
                refine lv_goto (tgt := 57) hx hb dX12_goesOn_53 (by decide +kernel) ?_
                subst hQ
                exact W.zret (v := 1) hx hb hr (by decide +kernel) (fun t1 ht hW => ⟨⟨1, (σ, I, J, ri, rj, rq), rfl, ⟨rfl, (hF0.symm.trans hF), (Or.inl ⟨rfl, ⟨by omega, fun q => f_55⟩⟩)⟩, by rw [ht]; exact hP, va_K.moved hW.alike hK, hD⟩, hS.F ht⟩) hS.2.2 dX12_goesOn_57
  exact go _ _ _ hP hD hS hl

set_option maxRecDepth 100000 in
def g_X12_beginOne (I : Nat → Int32) (J : Nat → Int64) (ri : Nat → Nat → Int32) (rj : Nat → Nat → Int64) (rq : Nat → Nat → Option Nat) : Int32 × vM := (ap1 (I 393) fun (y_1 : Int32) => (if (y_1) = (1 : Int32) then (ap1 (I 394) fun (y_469 : Int32) => (if (y_469) ≤ (9999 : Int32) then (bnV (g_X12_emit (0 : Int32) (y_469) I J ri rj rq) fun (I_493 : Nat → Int32) (_ : Nat → Int64) (ri_494 : Nat → Nat → Int32) (_ : Nat → Nat → Int64) (_ : Nat → Nat → Option Nat) => (bnV (g_X12_nextToken_x I_493 J ri_494 rj rq) fun (I_516 : Nat → Int32) (J_517 : Nat → Int64) (_ : Nat → Nat → Int32) (_ : Nat → Nat → Int64) (_ : Nat → Nat → Option Nat) => (bnV (g_X12_whole I_516 J_517 ri_494 rj rq) fun (I_537 : Nat → Int32) (_ : Nat → Int64) (ri_538 : Nat → Nat → Int32) (_ : Nat → Nat → Int64) (_ : Nat → Nat → Option Nat) => ((0 : Int32), I_537, J_517, ri_538, rj, rq)))) else ((2 : Int32), I, J, ri, rj, rq))) else (if (y_1) = (1 : Int32) then (ap1 (I 394) fun (y_23 : Int32) => (bnV (g_X12_emit (0 : Int32) (y_23) I J ri rj rq) fun (I_26 : Nat → Int32) (_ : Nat → Int64) (ri_27 : Nat → Nat → Int32) (_ : Nat → Nat → Int64) (_ : Nat → Nat → Option Nat) => (bnV (g_X12_nextToken_x I_26 J ri_27 rj rq) fun (I_49 : Nat → Int32) (J_50 : Nat → Int64) (_ : Nat → Nat → Int32) (_ : Nat → Nat → Int64) (_ : Nat → Nat → Option Nat) => (bnV (g_X12_whole I_49 J_50 ri_27 rj rq) fun (I_70 : Nat → Int32) (_ : Nat → Int64) (ri_71 : Nat → Nat → Int32) (_ : Nat → Nat → Int64) (_ : Nat → Nat → Option Nat) => ((0 : Int32), I_70, J_50, ri_71, rj, rq))))) else (bnI (g_X12_nameOf_x I J ri rj rq) fun (x_85 : Int32) (_ : Nat → Int32) (_ : Nat → Int64) (_ : Nat → Nat → Int32) (_ : Nat → Nat → Int64) (_ : Nat → Nat → Option Nat) => (if x_85 < (0 : Int32) then (if (y_1) = (40 : Int32) then (ap1 (I 402) fun (y_107 : Int32) => (if (y_107) = (8 : Int32) then ((3 : Int32), I, J, ri, rj, rq) else (ap1 ((y_107) + (1 : Int32)) fun (x_114 : Int32) => (ap1 (va_up I 402 x_114) fun (I_116 : Nat → Int32) => (ap1 (I_116 393) fun (y_126 : Int32) => (bnV (g_X12_push (40 : Int32) I_116 J ri rj rq) fun (I_134 : Nat → Int32) (_ : Nat → Int64) (ri_135 : Nat → Nat → Int32) (_ : Nat → Nat → Int64) (_ : Nat → Nat → Option Nat) => (bnV (g_X12_nextToken_x I_134 J ri_135 rj rq) fun (I_156 : Nat → Int32) (J_157 : Nat → Int64) (_ : Nat → Nat → Int32) (_ : Nat → Nat → Int64) (_ : Nat → Nat → Option Nat) => ((0 : Int32), I_156, J_157, ri_135, rj, rq)))))))) else (if (y_1) = (45 : Int32) then (ap1 (I 402) fun (y_184 : Int32) => (if (y_184) = (8 : Int32) then ((3 : Int32), I, J, ri, rj, rq) else (ap1 ((y_184) + (1 : Int32)) fun (x_191 : Int32) => (ap1 (va_up I 402 x_191) fun (I_193 : Nat → Int32) => (ap1 (I_193 393) fun (y_203 : Int32) => (bnV (g_X12_push (2 : Int32) I_193 J ri rj rq) fun (I_210 : Nat → Int32) (_ : Nat → Int64) (ri_211 : Nat → Nat → Int32) (_ : Nat → Nat → Int64) (_ : Nat → Nat → Option Nat) => (bnV (g_X12_nextToken_x I_210 J ri_211 rj rq) fun (I_232 : Nat → Int32) (J_233 : Nat → Int64) (_ : Nat → Nat → Int32) (_ : Nat → Nat → Int64) (_ : Nat → Nat → Option Nat) => ((0 : Int32), I_232, J_233, ri_211, rj, rq)))))))) else ((1 : Int32), I, J, ri, rj, rq))) else (if (y_1) = (1 : Int32) then (ap1 (I 394) fun (y_406 : Int32) => (bnV (g_X12_emit (0 : Int32) (y_406) I J ri rj rq) fun (I_409 : Nat → Int32) (_ : Nat → Int64) (ri_410 : Nat → Nat → Int32) (_ : Nat → Nat → Int64) (_ : Nat → Nat → Option Nat) => (bnV (g_X12_nextToken_x I_409 J ri_410 rj rq) fun (I_432 : Nat → Int32) (J_433 : Nat → Int64) (_ : Nat → Nat → Int32) (_ : Nat → Nat → Int64) (_ : Nat → Nat → Option Nat) => (bnV (g_X12_whole I_432 J_433 ri_410 rj rq) fun (I_453 : Nat → Int32) (_ : Nat → Int64) (ri_454 : Nat → Nat → Int32) (_ : Nat → Nat → Int64) (_ : Nat → Nat → Option Nat) => ((0 : Int32), I_453, J_433, ri_454, rj, rq))))) else (if (y_1) = (1 : Int32) then (ap1 (I 394) fun (y_338 : Int32) => (bnV (g_X12_emit (1 : Int32) (y_338) I J ri rj rq) fun (I_341 : Nat → Int32) (_ : Nat → Int64) (ri_342 : Nat → Nat → Int32) (_ : Nat → Nat → Int64) (_ : Nat → Nat → Option Nat) => (bnV (g_X12_nextToken_x I_341 J ri_342 rj rq) fun (I_364 : Nat → Int32) (J_365 : Nat → Int64) (_ : Nat → Nat → Int32) (_ : Nat → Nat → Int64) (_ : Nat → Nat → Option Nat) => (bnV (g_X12_whole I_364 J_365 ri_342 rj rq) fun (I_385 : Nat → Int32) (_ : Nat → Int64) (ri_386 : Nat → Nat → Int32) (_ : Nat → Nat → Int64) (_ : Nat → Nat → Option Nat) => ((0 : Int32), I_385, J_365, ri_386, rj, rq))))) else (bnI (g_X12_nameOf_x I J ri rj rq) fun (x_267 : Int32) (_ : Nat → Int32) (_ : Nat → Int64) (_ : Nat → Nat → Int32) (_ : Nat → Nat → Int64) (_ : Nat → Nat → Option Nat) => (bnV (g_X12_emit (1 : Int32) x_267 I J ri rj rq) fun (I_278 : Nat → Int32) (_ : Nat → Int64) (ri_279 : Nat → Nat → Int32) (_ : Nat → Nat → Int64) (_ : Nat → Nat → Option Nat) => (bnV (g_X12_nextToken_x I_278 J ri_279 rj rq) fun (I_301 : Nat → Int32) (J_302 : Nat → Int64) (_ : Nat → Nat → Int32) (_ : Nat → Nat → Int64) (_ : Nat → Nat → Option Nat) => (bnV (g_X12_whole I_301 J_302 ri_279 rj rq) fun (I_322 : Nat → Int32) (_ : Nat → Int64) (ri_323 : Nat → Nat → Int32) (_ : Nat → Nat → Int64) (_ : Nat → Nat → Option Nat) => ((0 : Int32), I_322, J_302, ri_323, rj, rq))))))))))))
set_option maxRecDepth 100000 in
theorem g_X12_beginOne_e {I : Nat → Int32} {J : Nat → Int64} {ri : Nat → Nat → Int32} {rj : Nat → Nat → Int64} {rq : Nat → Nat → Option Nat} : g_X12_beginOne I J ri rj rq = (ap1 (I 393) fun (y_1 : Int32) => (if (y_1) = (1 : Int32) then (ap1 (I 394) fun (y_469 : Int32) => (if (y_469) ≤ (9999 : Int32) then (bnV (g_X12_emit (0 : Int32) (y_469) I J ri rj rq) fun (I_493 : Nat → Int32) (_ : Nat → Int64) (ri_494 : Nat → Nat → Int32) (_ : Nat → Nat → Int64) (_ : Nat → Nat → Option Nat) => (bnV (g_X12_nextToken_x I_493 J ri_494 rj rq) fun (I_516 : Nat → Int32) (J_517 : Nat → Int64) (_ : Nat → Nat → Int32) (_ : Nat → Nat → Int64) (_ : Nat → Nat → Option Nat) => (bnV (g_X12_whole I_516 J_517 ri_494 rj rq) fun (I_537 : Nat → Int32) (_ : Nat → Int64) (ri_538 : Nat → Nat → Int32) (_ : Nat → Nat → Int64) (_ : Nat → Nat → Option Nat) => ((0 : Int32), I_537, J_517, ri_538, rj, rq)))) else ((2 : Int32), I, J, ri, rj, rq))) else (if (y_1) = (1 : Int32) then (ap1 (I 394) fun (y_23 : Int32) => (bnV (g_X12_emit (0 : Int32) (y_23) I J ri rj rq) fun (I_26 : Nat → Int32) (_ : Nat → Int64) (ri_27 : Nat → Nat → Int32) (_ : Nat → Nat → Int64) (_ : Nat → Nat → Option Nat) => (bnV (g_X12_nextToken_x I_26 J ri_27 rj rq) fun (I_49 : Nat → Int32) (J_50 : Nat → Int64) (_ : Nat → Nat → Int32) (_ : Nat → Nat → Int64) (_ : Nat → Nat → Option Nat) => (bnV (g_X12_whole I_49 J_50 ri_27 rj rq) fun (I_70 : Nat → Int32) (_ : Nat → Int64) (ri_71 : Nat → Nat → Int32) (_ : Nat → Nat → Int64) (_ : Nat → Nat → Option Nat) => ((0 : Int32), I_70, J_50, ri_71, rj, rq))))) else (bnI (g_X12_nameOf_x I J ri rj rq) fun (x_85 : Int32) (_ : Nat → Int32) (_ : Nat → Int64) (_ : Nat → Nat → Int32) (_ : Nat → Nat → Int64) (_ : Nat → Nat → Option Nat) => (if x_85 < (0 : Int32) then (if (y_1) = (40 : Int32) then (ap1 (I 402) fun (y_107 : Int32) => (if (y_107) = (8 : Int32) then ((3 : Int32), I, J, ri, rj, rq) else (ap1 ((y_107) + (1 : Int32)) fun (x_114 : Int32) => (ap1 (va_up I 402 x_114) fun (I_116 : Nat → Int32) => (ap1 (I_116 393) fun (y_126 : Int32) => (bnV (g_X12_push (40 : Int32) I_116 J ri rj rq) fun (I_134 : Nat → Int32) (_ : Nat → Int64) (ri_135 : Nat → Nat → Int32) (_ : Nat → Nat → Int64) (_ : Nat → Nat → Option Nat) => (bnV (g_X12_nextToken_x I_134 J ri_135 rj rq) fun (I_156 : Nat → Int32) (J_157 : Nat → Int64) (_ : Nat → Nat → Int32) (_ : Nat → Nat → Int64) (_ : Nat → Nat → Option Nat) => ((0 : Int32), I_156, J_157, ri_135, rj, rq)))))))) else (if (y_1) = (45 : Int32) then (ap1 (I 402) fun (y_184 : Int32) => (if (y_184) = (8 : Int32) then ((3 : Int32), I, J, ri, rj, rq) else (ap1 ((y_184) + (1 : Int32)) fun (x_191 : Int32) => (ap1 (va_up I 402 x_191) fun (I_193 : Nat → Int32) => (ap1 (I_193 393) fun (y_203 : Int32) => (bnV (g_X12_push (2 : Int32) I_193 J ri rj rq) fun (I_210 : Nat → Int32) (_ : Nat → Int64) (ri_211 : Nat → Nat → Int32) (_ : Nat → Nat → Int64) (_ : Nat → Nat → Option Nat) => (bnV (g_X12_nextToken_x I_210 J ri_211 rj rq) fun (I_232 : Nat → Int32) (J_233 : Nat → Int64) (_ : Nat → Nat → Int32) (_ : Nat → Nat → Int64) (_ : Nat → Nat → Option Nat) => ((0 : Int32), I_232, J_233, ri_211, rj, rq)))))))) else ((1 : Int32), I, J, ri, rj, rq))) else (if (y_1) = (1 : Int32) then (ap1 (I 394) fun (y_406 : Int32) => (bnV (g_X12_emit (0 : Int32) (y_406) I J ri rj rq) fun (I_409 : Nat → Int32) (_ : Nat → Int64) (ri_410 : Nat → Nat → Int32) (_ : Nat → Nat → Int64) (_ : Nat → Nat → Option Nat) => (bnV (g_X12_nextToken_x I_409 J ri_410 rj rq) fun (I_432 : Nat → Int32) (J_433 : Nat → Int64) (_ : Nat → Nat → Int32) (_ : Nat → Nat → Int64) (_ : Nat → Nat → Option Nat) => (bnV (g_X12_whole I_432 J_433 ri_410 rj rq) fun (I_453 : Nat → Int32) (_ : Nat → Int64) (ri_454 : Nat → Nat → Int32) (_ : Nat → Nat → Int64) (_ : Nat → Nat → Option Nat) => ((0 : Int32), I_453, J_433, ri_454, rj, rq))))) else (if (y_1) = (1 : Int32) then (ap1 (I 394) fun (y_338 : Int32) => (bnV (g_X12_emit (1 : Int32) (y_338) I J ri rj rq) fun (I_341 : Nat → Int32) (_ : Nat → Int64) (ri_342 : Nat → Nat → Int32) (_ : Nat → Nat → Int64) (_ : Nat → Nat → Option Nat) => (bnV (g_X12_nextToken_x I_341 J ri_342 rj rq) fun (I_364 : Nat → Int32) (J_365 : Nat → Int64) (_ : Nat → Nat → Int32) (_ : Nat → Nat → Int64) (_ : Nat → Nat → Option Nat) => (bnV (g_X12_whole I_364 J_365 ri_342 rj rq) fun (I_385 : Nat → Int32) (_ : Nat → Int64) (ri_386 : Nat → Nat → Int32) (_ : Nat → Nat → Int64) (_ : Nat → Nat → Option Nat) => ((0 : Int32), I_385, J_365, ri_386, rj, rq))))) else (bnI (g_X12_nameOf_x I J ri rj rq) fun (x_267 : Int32) (_ : Nat → Int32) (_ : Nat → Int64) (_ : Nat → Nat → Int32) (_ : Nat → Nat → Int64) (_ : Nat → Nat → Option Nat) => (bnV (g_X12_emit (1 : Int32) x_267 I J ri rj rq) fun (I_278 : Nat → Int32) (_ : Nat → Int64) (ri_279 : Nat → Nat → Int32) (_ : Nat → Nat → Int64) (_ : Nat → Nat → Option Nat) => (bnV (g_X12_nextToken_x I_278 J ri_279 rj rq) fun (I_301 : Nat → Int32) (J_302 : Nat → Int64) (_ : Nat → Nat → Int32) (_ : Nat → Nat → Int64) (_ : Nat → Nat → Option Nat) => (bnV (g_X12_whole I_301 J_302 ri_279 rj rq) fun (I_322 : Nat → Int32) (_ : Nat → Int64) (ri_323 : Nat → Nat → Int32) (_ : Nat → Nat → Int64) (_ : Nat → Nat → Option Nat) => ((0 : Int32), I_322, J_302, ri_323, rj, rq)))))))))))) := rfl
set_option maxHeartbeats 4000000 in
set_option maxRecDepth 100000 in
theorem s_X12_beginOne (l : Launch) (D : va_G) (t : pq_T) (σ : pq_S) (I : Nat → Nat → Int32) (J : Nat → Nat → Int64) (ri : Nat → Nat → Int32) (rj : Nat → Nat → Int64) (rq : Nat → Nat → Option Nat) (sz : Nat) (tg : Nat → Nat) (hSH : SH σ tg) (hG0 : GT tg I ri) (this : Nat) (hL_this : this ∈ σ.1) (hK_this : σ.2.1 this = 12) (this_a : Nat) (hR_this_a : σ.2.2.1 384 this = some this_a) (hL_this_a : this_a ∈ σ.1) (hK_this_a : σ.2.1 this_a = 13) (hN_this_a : σ.2.2.2 this_a = 12720) (hT_this_a : tg this_a = 384) (this_pile : Nat) (hR_this_pile : σ.2.2.1 400 this = some this_pile) (hL_this_pile : this_pile ∈ σ.1) (hK_this_pile : σ.2.1 this_pile = 13) (hN_this_pile : σ.2.2.2 this_pile = 160) (hT_this_pile : tg this_pile = 400) (bb : Nat) (f0 : Nat → Int32) (fr : Int) (ba : Int) (tb : Int) (nn : Int) (K : Int) (hps : PSz (I 396 this).toInt (I 398 this).toInt (I 401 this).toInt (I 402 this).toInt (I 391 this).toInt (I 393 this).toInt (ri this_a) (ri this_pile) bb f0 fr ba tb nn K 0) (hi0 : (I 403 this).toInt = 0) : MetI l yX12_beginOne (wa yX12_beginOne cX12_beginOne 1 (some .int)) ({ frames := 4, cells := 0, slots := 0, locals := 89 }) [.ref this] D t σ (I, J, ri, rj, rq) sz 0 0 (fun (r : Int32) (u : pq_S × pq_M) => ∃ I' : Nat → Nat → Int32, ∃ J' : Nat → Nat → Int64, ∃ ri' : Nat → Nat → Int32, u = (σ, I', J', ri', rj, rq) ∧ GM [398, 391, 392, 393, 401, 402] tg σ I ri I' ri' rq ∧ (r.toInt ≠ 0 ∨ (PSz (I' 396 this).toInt (I' 398 this).toInt (I' 401 this).toInt (I' 402 this).toInt (I' 391 this).toInt (I' 393 this).toInt (ri' this_a) (ri' this_pile) bb f0 fr ba tb nn K (I' 403 this).toInt ∧ tmM (I' 391 this).toInt (I' 393 this).toInt < tmM (I 391 this).toInt (I 393 this).toInt)) ∧ g_X12_beginOne (vI 12 σ this I) (vJ 12 σ this J) (vR 12 σ this ri) (vL 12 σ this rj) (vQ 12 σ this rq) = (r, (vI 12 σ this I'), (vJ 12 σ this J'), (vR 12 σ this ri'), (vL 12 σ this rj), (vQ 12 σ this rq)) ∧ FR 12 tg σ this (I, J, ri, rj, rq) (I', J', ri', rj, rq) ∧ rg r 0 3) := by
  refine Met.ofW (cc := cX12_beginOne) (maxL := 1) (ret := (some .int)) (by decide +kernel) rfl ?_
  intro p e s m args below meth c s₁ B hml hv
  obtain ⟨rfl, hsz, hP, hK, hD0, hN⟩ := hv
  have hx := B.exec
  have hb := B.bytes
  have hr := B.returns
  have hts := atoms_spec (ws := (wa yX12_beginOne cX12_beginOne 1 (some .int))) B.pre
  have hown : s.vm.findClass RX12 = some m.cls := findClass_of_methodNamed B.named
  have hlocks := B.notSynchronized
  subst hsz
  have hD : va_D (pq_B t σ (I, J, ri, rj, rq) s.heap.size) (pq_P t σ (I, J, ri, rj, rq)) := hD0.self
  generalize hAe : pq_B t σ (I, J, ri, rj, rq) s.heap.size = A at hD ⊢
  have hA : ∀ q : Nat, s.heap.size ≤ q → A q := fun q h => by rw [← hAe]; exact Or.inr h
  have hS : va_S A s.heap s.heap [] := va_S.rf
  have hG : GM [398, 391, 392, 393, 401, 402] tg σ I ri I ri rq := ⟨hG0, fun _ _ _ => rfl, fun _ _ _ _ _ => rfl, fun _ _ _ _ _ _ => rfl⟩
  have hl := lv_entry ([.ref this]) (n := 1) (Nat.le_of_ble_eq_true rfl)
  rw [lg_entry_eq]
  generalize (lg_sl ([.ref this]) ++ List.replicate (1 - (lg_sl ([.ref this])).length) Slot.unset).toArray = ls at hl ⊢
  have hl : lv_has ls 1 [(0, .ref this)] := hl
  refine q_gen (fun Q hQ => ?_)
  have go : ∀ (H : Heap) (locs : List Loc) (ls : Array Slot), va_P D vwCl (pq_P t σ (I, J, ri, rj, rq)) H → va_D A (pq_P t σ (I, J, ri, rj, rq)) → va_S A s.heap H locs → lv_has ls 1 [(0, .ref this)] → W p l e ({ frames := 4, cells := 0, slots := 0, locals := 89 } : Room) s m (List.toArray ([.ref this] : List Value)) below meth c H locs 0 0 Q (F0 m 0 ls []) := by
    intro H locs ls hP hD hS hl
    have hO_this : this = vo σ 12 this := rfl
    have hVT : VT 12 σ tg this := vt_12 hSH hL_this hK_this
    have hFr : FR 12 tg σ this (I, J, ri, rj, rq) (I, J, ri, rj, rq) := fr_rf
    have hO_this_a : this_a = vrow σ 384 this := vo_k (c := 12) hO_this hR_this_a
    have hO_this_pile : this_pile = vrow σ 400 this := vo_k (c := 12) hO_this hR_this_pile
    obtain ⟨F, hF0⟩ : ∃ F, F = g_X12_beginOne (vI 12 σ this I) (vJ 12 σ this J) (vR 12 σ this ri) (vL 12 σ this rj) (vQ 12 σ this rq) := ⟨_, rfl⟩
    have hF := hF0.trans g_X12_beginOne_e
    refine lv_aload_n hx hb dX12_beginOne_0 rfl (lv_at hl 0 rfl) ?_
    refine pg_f (v := .int (I 393 this)) (C := RX12) (T := TX12) (N := 31) hx hb hts (tw_i inlX12) hown hK hP hL_this hK_this (by decide +kernel) rfl 9 (by decide +kernel) (hts _ (tw_c tw_831)) rfl dX12_beginOne_1 ?_
    replace hF := hF.trans (ap_n (vI_e (f := 393) hO_this (by decide +kernel)))
    refine lv_iconst (v := 1) hx hb dX12_beginOne_4 (by decide +kernel) ?_
    refine lv_icmp_ne (tgt := 20) hx hb dX12_beginOne_5 (by decide +kernel) (fun c_2 => ?_) (fun c_2 => ?_)
    · replace hF := hF.trans (if_neg c_2)
      have tc_6 : (I 393 this).toInt ≠ 1 := fun q => c_2 (Int32.toInt_inj.mp q)
      refine lv_aload_n hx hb dX12_beginOne_20 rfl (lv_at hl 0 rfl) ?_
      refine pg_f (v := .int (I 393 this)) (C := RX12) (T := TX12) (N := 31) hx hb hts (tw_i inlX12) hown hK hP hL_this hK_this (by decide +kernel) rfl 9 (by decide +kernel) (hts _ (tw_c tw_831)) rfl dX12_beginOne_21 ?_
      refine lv_iconst (v := 1) hx hb dX12_beginOne_24 (by decide +kernel) ?_
      refine lv_icmp_eq (tgt := 35) hx hb dX12_beginOne_25 (by decide +kernel) (fun c_7 => ?_) (fun c_7 => ?_)
      · replace hF := hF.trans (if_pos c_7)
        have tc_11 : (I 393 this).toInt = 1 := congrArg Int32.toInt c_7
        have h_12 : rg (I 393 this) 1 1 := rg_and (rg_full _) (rg_of_eq c_7 (rg_k (1 : Int32) 1 rfl)) (by decide +kernel)
        have uh_12 := h_12.1
        have vh_12 := h_12.2
        refine lv_aload_n hx hb dX12_beginOne_35 rfl (lv_at hl 0 rfl) ?_
        refine lv_aload_n hx hb dX12_beginOne_36 rfl (lv_at hl 0 rfl) ?_
        refine pg_f (v := .int (I 393 this)) (C := RX12) (T := TX12) (N := 31) hx hb hts (tw_i inlX12) hown hK hP hL_this hK_this (by decide +kernel) rfl 9 (by decide +kernel) (hts _ (tw_c tw_831)) rfl dX12_beginOne_37 ?_
        refine lv_iconst (v := 1) hx hb dX12_beginOne_40 (by decide +kernel) ?_
        refine lv_icmp_ne (tgt := 48) hx hb dX12_beginOne_41 (by decide +kernel) (fun c_13 => ?_) (fun c_13 => ?_)
        · have tc_16 : (I 393 this).toInt ≠ 1 := fun q => c_13 (Int32.toInt_inj.mp q)
          exact (rg_empty (rg_ne c_13 h_12 1 rfl (lo := 2) (hi := 0) (by decide +kernel)) (by decide +kernel)).elim
        · have tc_17 : (I 393 this).toInt = 1 := congrArg Int32.toInt c_13
          refine lv_iconst (v := 0) hx hb dX12_beginOne_44 (by decide +kernel) ?_
          refine lv_goto (tgt := 49) hx hb dX12_beginOne_45 (by decide +kernel) ?_
          refine lv_aload_n hx hb dX12_beginOne_49 rfl (lv_at hl 0 rfl) ?_
          refine pg_f (v := .int (I 393 this)) (C := RX12) (T := TX12) (N := 31) hx hb hts (tw_i inlX12) hown hK hP hL_this hK_this (by decide +kernel) rfl 9 (by decide +kernel) (hts _ (tw_c tw_831)) rfl dX12_beginOne_50 ?_
          refine lv_iconst (v := 1) hx hb dX12_beginOne_53 (by decide +kernel) ?_
          refine lv_icmp_ne (tgt := 64) hx hb dX12_beginOne_54 (by decide +kernel) (fun c_18 => ?_) (fun c_18 => ?_)
          · have tc_21 : (I 393 this).toInt ≠ 1 := fun q => c_18 (Int32.toInt_inj.mp q)
            exact (rg_empty (rg_ne c_18 h_12 1 rfl (lo := 2) (hi := 0) (by decide +kernel)) (by decide +kernel)).elim
          · have tc_22 : (I 393 this).toInt = 1 := congrArg Int32.toInt c_18
            refine lv_aload_n hx hb dX12_beginOne_57 rfl (lv_at hl 0 rfl) ?_
            refine pg_f (v := .int (I 394 this)) (C := RX12) (T := TX12) (N := 31) hx hb hts (tw_i inlX12) hown hK hP hL_this hK_this (by decide +kernel) rfl 10 (by decide +kernel) (hts _ (tw_c tw_836)) rfl dX12_beginOne_58 ?_
            replace hF := hF.trans (ap_n (vI_e (f := 394) hO_this (by decide +kernel)))
            refine lv_goto (tgt := 68) hx hb dX12_beginOne_61 (by decide +kernel) ?_
            have hq1 := PSz_t hps
            have hq2 := PSz_w hps (Or.inl (by omega))
            refine pk_v (va_runV (As := [.int 0, .int (I 394 this)]) (rest := []) ⟨hx, hb, hml, hown, hts⟩ (s_X12_emit l D t σ I J ri rj rq H.size tg hSH hG.1 this (0 : Int32) (I 394 this) hL_this hK_this this_a hR_this_a hL_this_a hK_this_a hN_this_a hT_this_a (by omega) (by omega)) (cwV 2 hts (tw_V tw_905 tw_906 tw_907 tw_5 tw_908) rfl rfl rfl cv_yX12_emit_2 ⟨Nat.le_of_ble_eq_true rfl, Nat.le_of_ble_eq_true rfl⟩) ⟨pq_blind, pq_recv hK hP hL_this hK_this (by decide +kernel) rfl, pq_pre hK hN hP hD⟩ rfl rfl hl.1 rfl (lv_room (Nat.le_of_ble_eq_true rfl)) dX12_beginOne_68 ⟨Nat.le_of_ble_eq_true rfl, Nat.le_of_ble_eq_true rfl⟩) hD hS hA (fun σ1 μ1 H locs hw_25 hP hD hS => ?_)
            obtain ⟨I_26, ri_27, hu_28, hg_29, hp_31, hp_32, hp_33, hp_34, hfn_35, hfr_36⟩ := hw_25
            obtain ⟨hu_28a, hu_28b⟩ := Prod.mk.inj hu_28
            rw [hu_28a, hu_28b] at hP hD
            replace hF := hF.trans (bv_n hfn_35)
            replace hFr := fr_tr hFr hfr_36
            obtain ⟨v_37, ev_37, hv_37⟩ := hp_31
            have tt_38 : (I_26 398 this).toInt = (I 398 this).toInt + 1 := by rw [ev_37, pq_us]; exact hv_37
            have tt_39 : (I_26 403 this).toInt = (I 403 this).toInt := by rw [ev_37, pq_uf _ _ _ (by decide +kernel)]
            have hG := GM.tr hG hg_29 (by decide +kernel)
            have tt_40 : (I_26 396 this).toInt = (I 396 this).toInt := by rw [hg_29.2.1 396 (by decide +kernel) (by decide +kernel)]
            have tt_41 : (I_26 401 this).toInt = (I 401 this).toInt := by rw [hg_29.2.1 401 (by decide +kernel) (by decide +kernel)]
            have tt_42 : (I_26 402 this).toInt = (I 402 this).toInt := by rw [hg_29.2.1 402 (by decide +kernel) (by decide +kernel)]
            have tt_43 : (I_26 391 this).toInt = (I 391 this).toInt := by rw [hg_29.2.1 391 (by decide +kernel) (by decide +kernel)]
            have tt_44 : (I_26 393 this).toInt = (I 393 this).toInt := by rw [hg_29.2.1 393 (by decide +kernel) (by decide +kernel)]
            have tt_45 : (I_26 397 this).toInt = (I 397 this).toInt := by rw [hg_29.2.1 397 (by decide +kernel) (by decide +kernel)]
            refine lv_aload_n hx hb dX12_beginOne_71 rfl (lv_at hl 0 rfl) ?_
            obtain ⟨w_46, hR_w_46, hL_w_46, hK_w_46, hN_w_46, hT_w_46⟩ := sh_a hSH 387 (ci := 12) (kd := 13) (len := 300) rfl (by decide +kernel) hL_this hK_this
            have hO_w_46 : w_46 = vrow σ 387 this := vo_k (c := 12) hO_this hR_w_46
            refine pk_v (va_runV (As := []) (rest := []) ⟨hx, hb, hml, hown, hts⟩ (s_X12_nextToken_x l D t σ I_26 J ri_27 rj rq H.size tg hSH hG.1 this hL_this hK_this w_46 hR_w_46 hL_w_46 hK_w_46 hN_w_46 hT_w_46) (cwV 0 hts (tw_V tw_832 tw_833 tw_834 tw_5 tw_835) rfl rfl rfl cv_yX12_nextToken_0 ⟨Nat.le_of_ble_eq_true rfl, Nat.le_of_ble_eq_true rfl⟩) ⟨pq_blind, pq_recv hK hP hL_this hK_this (by decide +kernel) rfl, pq_pre hK hN hP hD⟩ rfl rfl hl.1 rfl (lv_room (Nat.le_of_ble_eq_true rfl)) dX12_beginOne_72 ⟨Nat.le_of_ble_eq_true rfl, Nat.le_of_ble_eq_true rfl⟩) hD hS hA (fun σ1 μ1 H locs hw_48 hP hD hS => ?_)
            obtain ⟨I_49, J_50, hu_51, hg_52, hp_54, hp_55, hp_56, hfn_57, hfr_58⟩ := hw_48
            obtain ⟨hu_51a, hu_51b⟩ := Prod.mk.inj hu_51
            rw [hu_51a, hu_51b] at hP hD
            replace hF := hF.trans (bv_n hfn_57)
            replace hFr := fr_tr hFr hfr_58
            have tt_59 := hp_54
            have tt_60 := hp_55
            have tt_61 := hp_56
            have tt_62 : (I_49 391 this).toInt ≤ 300 := by have z := hg_52.1.1 391 this; exact z.2
            have hG := GM.tr hG hg_52 (by decide +kernel)
            have tt_63 : (I_49 396 this).toInt = (I_26 396 this).toInt := by rw [hg_52.2.1 396 (by decide +kernel) (by decide +kernel)]
            have tt_64 : (I_49 398 this).toInt = (I_26 398 this).toInt := by rw [hg_52.2.1 398 (by decide +kernel) (by decide +kernel)]
            have tt_65 : (I_49 401 this).toInt = (I_26 401 this).toInt := by rw [hg_52.2.1 401 (by decide +kernel) (by decide +kernel)]
            have tt_66 : (I_49 402 this).toInt = (I_26 402 this).toInt := by rw [hg_52.2.1 402 (by decide +kernel) (by decide +kernel)]
            have tt_67 : (I_49 397 this).toInt = (I_26 397 this).toInt := by rw [hg_52.2.1 397 (by decide +kernel) (by decide +kernel)]
            refine lv_aload_n hx hb dX12_beginOne_75 rfl (lv_at hl 0 rfl) ?_
            have hpsW : PSz (I_49 396 this).toInt (I_49 398 this).toInt (I_49 401 this).toInt (I_49 402 this).toInt (I_49 391 this).toInt (I_49 393 this).toInt (ri_27 this_a) (ri_27 this_pile) bb f0 fr ba tb nn K 1 := PSz_one hps (by omega) (x := (0 : Int32)) (fun j hj => hp_32 j (by omega)) (by rw [show (I 396 this).toInt + 250 + 2 * (I 398 this).toInt = (I 396 this).toInt + 250 + 2 * (I 398 this).toInt from by omega]; exact hp_33) (by decide +kernel) (by omega) (by omega) (by omega) (by omega) (by omega) (by omega) (by omega) (hp_34 this_pile (tg_ne hT_this_pile hT_this_a (by decide +kernel)))
            have htm : tmM (I_49 391 this).toInt (I_49 393 this).toInt < tmM (I 391 this).toInt (I 393 this).toInt := tm_lt (by omega) (by omega) (by omega)
            refine pk_v (va_runV (As := []) (rest := []) ⟨hx, hb, hml, hown, hts⟩ (s_X12_whole l D t σ I_49 J_50 ri_27 rj rq H.size tg hSH hG.1 this hL_this hK_this this_a hR_this_a hL_this_a hK_this_a hN_this_a hT_this_a this_pile hR_this_pile hL_this_pile hK_this_pile hN_this_pile hT_this_pile bb f0 fr ba tb nn K (by assumption)) (cwV 0 hts (tw_V tw_909 tw_910 tw_911 tw_5 tw_912) rfl rfl rfl cv_yX12_whole_0 ⟨Nat.le_of_ble_eq_true rfl, Nat.le_of_ble_eq_true rfl⟩) ⟨pq_blind, pq_recv hK hP hL_this hK_this (by decide +kernel) rfl, pq_pre hK hN hP hD⟩ rfl rfl hl.1 rfl (lv_room (Nat.le_of_ble_eq_true rfl)) dX12_beginOne_76 ⟨Nat.le_of_ble_eq_true rfl, Nat.le_of_ble_eq_true rfl⟩) hD hS hA (fun σ1 μ1 H locs hw_69 hP hD hS => ?_)
            obtain ⟨I_70, ri_71, hu_72, hg_73, hp_75, hp_76, hfn_77, hfr_78⟩ := hw_69
            obtain ⟨hu_72a, hu_72b⟩ := Prod.mk.inj hu_72
            rw [hu_72a, hu_72b] at hP hD
            replace hF := hF.trans (bv_n hfn_77)
            replace hFr := fr_tr hFr hfr_78
            have tt_79 := hp_76
            have hG := GM.tr hG hg_73 (by decide +kernel)
            have tt_80 : (I_70 396 this).toInt = (I_49 396 this).toInt := by rw [hg_73.2.1 396 (by decide +kernel) (by decide +kernel)]
            have tt_81 : (I_70 391 this).toInt = (I_49 391 this).toInt := by rw [hg_73.2.1 391 (by decide +kernel) (by decide +kernel)]
            have tt_82 : (I_70 393 this).toInt = (I_49 393 this).toInt := by rw [hg_73.2.1 393 (by decide +kernel) (by decide +kernel)]
            have tt_83 : (I_70 397 this).toInt = (I_49 397 this).toInt := by rw [hg_73.2.1 397 (by decide +kernel) (by decide +kernel)]
            refine lv_iconst (v := 0) hx hb dX12_beginOne_79 (by decide +kernel) ?_
            subst hQ
            exact W.iret (v := 0) hx hb hr (fun t1 ht hW => ⟨⟨0, (σ, I_70, J_50, ri_71, rj, rq), rfl, ⟨I_70, J_50, ri_71, rfl, hG, (Or.inr ⟨(by rw [show (I_70 403 this).toInt = 1 from by omega]; exact hp_75), tm_cg htm (by omega) (by omega) rfl rfl⟩), (hF0.symm.trans hF), hFr, (rg_w (rg_k (0 : Int32) 0 rfl) (by decide +kernel))⟩, by rw [ht]; exact hP, va_K.moved hW.alike hK, hD⟩, hS.F ht⟩) hS.2.2 dX12_beginOne_80
      · replace hF := hF.trans (if_neg c_7)
        have tc_84 : (I 393 this).toInt ≠ 1 := fun q => c_7 (Int32.toInt_inj.mp q)
        refine lv_aload_n hx hb dX12_beginOne_28 rfl (lv_at hl 0 rfl) ?_
        refine pk_i (va_runV (As := []) (rest := []) ⟨hx, hb, hml, hown, hts⟩ (s_X12_nameOf_x l D t σ I J ri rj rq H.size tg hSH hG.1 this hL_this hK_this) (cwV 0 hts (tw_V tw_921 tw_922 tw_923 tw_5 tw_924) rfl rfl rfl cv_yX12_nameOf_0 ⟨Nat.le_of_ble_eq_true rfl, Nat.le_of_ble_eq_true rfl⟩) ⟨pq_blind, pq_recv hK hP hL_this hK_this (by decide +kernel) rfl, pq_pre hK hN hP hD⟩ rfl rfl hl.1 rfl (lv_room (Nat.le_of_ble_eq_true rfl)) dX12_beginOne_29 ⟨Nat.le_of_ble_eq_true rfl, Nat.le_of_ble_eq_true rfl⟩) hD hS hA (fun x_85 σ1 μ1 H locs hw_86 hP hD hS => ?_)
        obtain ⟨hu_87, hp_90, hfn_91, hr_89⟩ := hw_86
        obtain ⟨hu_87a, hu_87b⟩ := Prod.mk.inj hu_87
        rw [hu_87a, hu_87b] at hP hD
        replace hF := hF.trans (bn_n hfn_91)
        have tt_93 := hp_90
        refine lv_if_lt (tgt := 81) hx hb dX12_beginOne_32 (by decide +kernel) (fun c_94 => ?_) (fun c_94 => ?_)
        · replace hF := hF.trans (if_pos c_94)
          have tc_99 : (x_85).toInt < 0 := Int32.lt_iff_toInt_lt.mp c_94
          have h_100 : rg x_85 (-1) (-1) := rg_lt1 c_94 hr_89 (rg_k (0 : Int32) 0 rfl) (by decide +kernel)
          have uh_100 := h_100.1
          have vh_100 := h_100.2
          refine lv_aload_n hx hb dX12_beginOne_81 rfl (lv_at hl 0 rfl) ?_
          refine pg_f (v := .int (I 393 this)) (C := RX12) (T := TX12) (N := 31) hx hb hts (tw_i inlX12) hown hK hP hL_this hK_this (by decide +kernel) rfl 9 (by decide +kernel) (hts _ (tw_c tw_831)) rfl dX12_beginOne_82 ?_
          refine lv_bipush (v := 40) hx hb dX12_beginOne_85 (by decide +kernel) ?_
          refine lv_icmp_eq (tgt := 101) hx hb dX12_beginOne_87 (by decide +kernel) (fun c_101 => ?_) (fun c_101 => ?_)
          · replace hF := hF.trans (if_pos c_101)
            have tc_105 : (I 393 this).toInt = 40 := congrArg Int32.toInt c_101
            have h_106 : rg (I 393 this) 40 40 := rg_and (rg_full _) (rg_of_eq c_101 (rg_k (40 : Int32) 40 rfl)) (by decide +kernel)
            have uh_106 := h_106.1
            have vh_106 := h_106.2
            refine lv_aload_n hx hb dX12_beginOne_101 rfl (lv_at hl 0 rfl) ?_
            refine pg_f (v := .int (I 402 this)) (C := RX12) (T := TX12) (N := 31) hx hb hts (tw_i inlX12) hown hK hP hL_this hK_this (by decide +kernel) rfl 18 (by decide +kernel) (hts _ (tw_c tw_828)) rfl dX12_beginOne_102 ?_
            replace hF := hF.trans (ap_n (vI_e (f := 402) hO_this (by decide +kernel)))
            refine lv_bipush (v := 8) hx hb dX12_beginOne_105 (by decide +kernel) ?_
            refine lv_icmp_ne (tgt := 112) hx hb dX12_beginOne_107 (by decide +kernel) (fun c_108 => ?_) (fun c_108 => ?_)
            · replace hF := hF.trans (if_neg c_108)
              have tc_112 : (I 402 this).toInt ≠ 8 := fun q => c_108 (Int32.toInt_inj.mp q)
              refine lv_aload_n hx hb dX12_beginOne_112 rfl (lv_at hl 0 rfl) ?_
              refine lv_dup hx hb dX12_beginOne_113 rfl ?_
              refine pg_f (v := .int (I 402 this)) (C := RX12) (T := TX12) (N := 31) hx hb hts (tw_i inlX12) hown hK hP hL_this hK_this (by decide +kernel) rfl 18 (by decide +kernel) (hts _ (tw_c tw_828)) rfl dX12_beginOne_114 ?_
              have hq0 := PSz_bd hps
              have h_113 : rg (I 402 this) 0 8 := ⟨by omega, by omega⟩
              have uh_113 := h_113.1
              have vh_113 := h_113.2
              refine lv_iconst (v := 1) hx hb dX12_beginOne_117 (by decide +kernel) ?_
              refine lv_iadd hx hb dX12_beginOne_118 ?_
              refine lv_topi (fun x_114 ex_114 => ?_)
              replace hF := hF.trans (ap_n ex_114)
              have h_115 : rg x_114 1 9 := rg_of_eq ex_114 (rg_add h_113 (rg_k (1 : Int32) 1 rfl) (by decide +kernel))
              have uh_115 := h_115.1
              have vh_115 := h_115.2
              have tx_114 : (x_114).toInt = (I 402 this).toInt + 1 := by rw [ex_114]; exact i_add_rg (a2 := (I 402 this).toInt) (b2 := 1) rfl rfl h_113 (rg_k (1 : Int32) 1 rfl) (by decide +kernel)
              refine pp_i (v := x_114) (ty := .int) (C := RX12) (T := TX12) (N := 31) hx hb hts (tw_i inlX12) tyX12 tyX12_ok nmX12 hown hK hP hD hS hL_this hK_this (by decide +kernel) rfl 18 402 (by decide +kernel) (hts _ (tw_c tw_828)) rfl (tyX12_ok 18 (by decide +kernel)) rfl rfl (Nat.le_of_ble_eq_true rfl) (ps_402 _ _ _ _ _) dX12_beginOne_119 (fun I_116 H locs eI_116 hP hD hS => ?_)
              replace hFr := fr_I (f := 402) hFr hO_this (by decide +kernel) eI_116
              replace hF := hF.trans (ap_n (vI_st (f := 402) hO_this (by decide +kernel) eI_116))
              have hG := GM.wI hG 402 rfl eI_116 (rg_w h_115 (by decide +kernel)) (by decide +kernel)
              have tt_117 : (I_116 396 this).toInt = (I 396 this).toInt := by rw [eI_116, pq_uf _ _ _ (by decide +kernel)]
              have tt_118 : (I_116 398 this).toInt = (I 398 this).toInt := by rw [eI_116, pq_uf _ _ _ (by decide +kernel)]
              have tt_119 : (I_116 401 this).toInt = (I 401 this).toInt := by rw [eI_116, pq_uf _ _ _ (by decide +kernel)]
              have tt_120 : (I_116 402 this).toInt = (x_114).toInt := by rw [eI_116, pq_us]
              have tt_121 : (I_116 391 this).toInt = (I 391 this).toInt := by rw [eI_116, pq_uf _ _ _ (by decide +kernel)]
              have tt_122 : (I_116 393 this).toInt = (I 393 this).toInt := by rw [eI_116, pq_uf _ _ _ (by decide +kernel)]
              have tt_123 : (I_116 403 this).toInt = (I 403 this).toInt := by rw [eI_116, pq_uf _ _ _ (by decide +kernel)]
              have tt_124 : (I_116 397 this).toInt = (I 397 this).toInt := by rw [eI_116, pq_uf _ _ _ (by decide +kernel)]
              refine lv_aload_n hx hb dX12_beginOne_122 rfl (lv_at hl 0 rfl) ?_
              refine lv_aload_n hx hb dX12_beginOne_123 rfl (lv_at hl 0 rfl) ?_
              refine pg_f (v := .int (I_116 393 this)) (C := RX12) (T := TX12) (N := 31) hx hb hts (tw_i inlX12) hown hK hP hL_this hK_this (by decide +kernel) rfl 9 (by decide +kernel) (hts _ (tw_c tw_831)) rfl dX12_beginOne_124 ?_
              have h_125 : rg (I_116 393 this) 40 40 := (by rw [eI_116, pq_uf _ _ _ (by decide +kernel)]; exact h_106)
              have uh_125 := h_125.1
              have vh_125 := h_125.2
              replace hF := hF.trans (ap_n (vI_e (f := 393) hO_this (by decide +kernel)))
              refine lv_bipush (v := 40) hx hb dX12_beginOne_127 (by decide +kernel) ?_
              refine lv_icmp_ne (tgt := 137) hx hb dX12_beginOne_129 (by decide +kernel) (fun c_127 => ?_) (fun c_127 => ?_)
              · have tc_130 : (I_116 393 this).toInt ≠ 40 := fun q => c_127 (Int32.toInt_inj.mp q)
                exact (rg_empty (rg_ne c_127 h_125 40 rfl (lo := 41) (hi := 39) (by decide +kernel)) (by decide +kernel)).elim
              · have tc_131 : (I_116 393 this).toInt = 40 := congrArg Int32.toInt c_127
                refine lv_bipush (v := 40) hx hb dX12_beginOne_132 (by decide +kernel) ?_
                refine lv_goto (tgt := 138) hx hb dX12_beginOne_134 (by decide +kernel) ?_
                have hq3 := PSz_bd hps
                refine pk_v (va_runV (As := [.int 40]) (rest := []) ⟨hx, hb, hml, hown, hts⟩ (s_X12_push l D t σ I_116 J ri rj rq H.size tg hSH hG.1 this (40 : Int32) hL_this hK_this (rg_w (rg_k (40 : Int32) 40 rfl) (by decide +kernel)) this_pile hR_this_pile hL_this_pile hK_this_pile hN_this_pile hT_this_pile (by omega)) (cwV 1 hts (tw_V tw_913 tw_914 tw_915 tw_5 tw_916) rfl rfl rfl cv_yX12_push_1 ⟨Nat.le_of_ble_eq_true rfl, Nat.le_of_ble_eq_true rfl⟩) ⟨pq_blind, pq_recv hK hP hL_this hK_this (by decide +kernel) rfl, pq_pre hK hN hP hD⟩ rfl rfl hl.1 rfl (lv_room (Nat.le_of_ble_eq_true rfl)) dX12_beginOne_138 ⟨Nat.le_of_ble_eq_true rfl, Nat.le_of_ble_eq_true rfl⟩) hD hS hA (fun σ1 μ1 H locs hw_133 hP hD hS => ?_)
                obtain ⟨I_134, ri_135, hu_136, hg_137, hp_139, hp_140, hp_141, hfn_142, hfr_143⟩ := hw_133
                obtain ⟨hu_136a, hu_136b⟩ := Prod.mk.inj hu_136
                rw [hu_136a, hu_136b] at hP hD
                replace hF := hF.trans (bv_n hfn_142)
                replace hFr := fr_tr hFr hfr_143
                obtain ⟨v_144, ev_144, hv_144⟩ := hp_139
                have tt_145 : (I_134 401 this).toInt = (I_116 401 this).toInt + 1 := by rw [ev_144, pq_us]; exact hv_144
                have tt_146 : (I_134 403 this).toInt = (I_116 403 this).toInt := by rw [ev_144, pq_uf _ _ _ (by decide +kernel)]
                have hG := GM.tr hG hg_137 (by decide +kernel)
                have tt_147 : (I_134 396 this).toInt = (I_116 396 this).toInt := by rw [hg_137.2.1 396 (by decide +kernel) (by decide +kernel)]
                have tt_148 : (I_134 398 this).toInt = (I_116 398 this).toInt := by rw [hg_137.2.1 398 (by decide +kernel) (by decide +kernel)]
                have tt_149 : (I_134 402 this).toInt = (I_116 402 this).toInt := by rw [hg_137.2.1 402 (by decide +kernel) (by decide +kernel)]
                have tt_150 : (I_134 391 this).toInt = (I_116 391 this).toInt := by rw [hg_137.2.1 391 (by decide +kernel) (by decide +kernel)]
                have tt_151 : (I_134 393 this).toInt = (I_116 393 this).toInt := by rw [hg_137.2.1 393 (by decide +kernel) (by decide +kernel)]
                have tt_152 : (I_134 397 this).toInt = (I_116 397 this).toInt := by rw [hg_137.2.1 397 (by decide +kernel) (by decide +kernel)]
                refine lv_aload_n hx hb dX12_beginOne_141 rfl (lv_at hl 0 rfl) ?_
                obtain ⟨w_153, hR_w_153, hL_w_153, hK_w_153, hN_w_153, hT_w_153⟩ := sh_a hSH 387 (ci := 12) (kd := 13) (len := 300) rfl (by decide +kernel) hL_this hK_this
                have hO_w_153 : w_153 = vrow σ 387 this := vo_k (c := 12) hO_this hR_w_153
                refine pk_v (va_runV (As := []) (rest := []) ⟨hx, hb, hml, hown, hts⟩ (s_X12_nextToken_x l D t σ I_134 J ri_135 rj rq H.size tg hSH hG.1 this hL_this hK_this w_153 hR_w_153 hL_w_153 hK_w_153 hN_w_153 hT_w_153) (cwV 0 hts (tw_V tw_832 tw_833 tw_834 tw_5 tw_835) rfl rfl rfl cv_yX12_nextToken_0 ⟨Nat.le_of_ble_eq_true rfl, Nat.le_of_ble_eq_true rfl⟩) ⟨pq_blind, pq_recv hK hP hL_this hK_this (by decide +kernel) rfl, pq_pre hK hN hP hD⟩ rfl rfl hl.1 rfl (lv_room (Nat.le_of_ble_eq_true rfl)) dX12_beginOne_142 ⟨Nat.le_of_ble_eq_true rfl, Nat.le_of_ble_eq_true rfl⟩) hD hS hA (fun σ1 μ1 H locs hw_155 hP hD hS => ?_)
                obtain ⟨I_156, J_157, hu_158, hg_159, hp_161, hp_162, hp_163, hfn_164, hfr_165⟩ := hw_155
                obtain ⟨hu_158a, hu_158b⟩ := Prod.mk.inj hu_158
                rw [hu_158a, hu_158b] at hP hD
                replace hF := hF.trans (bv_n hfn_164)
                replace hFr := fr_tr hFr hfr_165
                have tt_166 := hp_161
                have tt_167 := hp_162
                have tt_168 := hp_163
                have tt_169 : (I_156 391 this).toInt ≤ 300 := by have z := hg_159.1.1 391 this; exact z.2
                have hG := GM.tr hG hg_159 (by decide +kernel)
                have tt_170 : (I_156 396 this).toInt = (I_134 396 this).toInt := by rw [hg_159.2.1 396 (by decide +kernel) (by decide +kernel)]
                have tt_171 : (I_156 398 this).toInt = (I_134 398 this).toInt := by rw [hg_159.2.1 398 (by decide +kernel) (by decide +kernel)]
                have tt_172 : (I_156 401 this).toInt = (I_134 401 this).toInt := by rw [hg_159.2.1 401 (by decide +kernel) (by decide +kernel)]
                have tt_173 : (I_156 402 this).toInt = (I_134 402 this).toInt := by rw [hg_159.2.1 402 (by decide +kernel) (by decide +kernel)]
                have tt_174 : (I_156 397 this).toInt = (I_134 397 this).toInt := by rw [hg_159.2.1 397 (by decide +kernel) (by decide +kernel)]
                have hup2 : ri_135 this_pile = upd (ri this_pile) (I 401 this).toInt.toNat (40 : Int32) := by rw [show (I 401 this).toInt = (I_116 401 this).toInt from by omega]; exact hp_140
                have hpsW : PSz (I_156 396 this).toInt (I_156 398 this).toInt (I_156 401 this).toInt (I_156 402 this).toInt (I_156 391 this).toInt (I_156 393 this).toInt (ri_135 this_a) (ri_135 this_pile) bb f0 fr ba tb nn K 0 := PSz_open hps (by omega) (by omega) (x := (40 : Int32)) (by decide +kernel) (by omega) (by omega) (by omega) (by omega) (by omega) (by omega) (by omega) (hp_141 this_a (tg_ne hT_this_a hT_this_pile (by decide +kernel))) hup2
                have htm : tmM (I_156 391 this).toInt (I_156 393 this).toInt < tmM (I 391 this).toInt (I 393 this).toInt := tm_lt (by omega) (by omega) (by omega)
                refine lv_iconst (v := 0) hx hb dX12_beginOne_145 (by decide +kernel) ?_
                subst hQ
                exact W.iret (v := 0) hx hb hr (fun t1 ht hW => ⟨⟨0, (σ, I_156, J_157, ri_135, rj, rq), rfl, ⟨I_156, J_157, ri_135, rfl, hG, (Or.inr ⟨(by rw [show (I_156 403 this).toInt = 0 from by omega]; exact hpsW), tm_cg htm (by omega) (by omega) rfl rfl⟩), (hF0.symm.trans hF), hFr, (rg_w (rg_k (0 : Int32) 0 rfl) (by decide +kernel))⟩, by rw [ht]; exact hP, va_K.moved hW.alike hK, hD⟩, hS.F ht⟩) hS.2.2 dX12_beginOne_146
            · replace hF := hF.trans (if_pos c_108)
              have tc_175 : (I 402 this).toInt = 8 := congrArg Int32.toInt c_108
              have h_176 : rg (I 402 this) 8 8 := rg_and (rg_full _) (rg_of_eq c_108 (rg_k (8 : Int32) 8 rfl)) (by decide +kernel)
              have uh_176 := h_176.1
              have vh_176 := h_176.2
              refine lv_iconst (v := 3) hx hb dX12_beginOne_110 (by decide +kernel) ?_
              subst hQ
              exact W.iret (v := 3) hx hb hr (fun t1 ht hW => ⟨⟨3, (σ, I, J, ri, rj, rq), rfl, ⟨I, J, ri, rfl, hG, (Or.inl (by decide +kernel)), (hF0.symm.trans hF), hFr, (rg_w (rg_k (3 : Int32) 3 rfl) (by decide +kernel))⟩, by rw [ht]; exact hP, va_K.moved hW.alike hK, hD⟩, hS.F ht⟩) hS.2.2 dX12_beginOne_111
          · replace hF := hF.trans (if_neg c_101)
            have tc_177 : (I 393 this).toInt ≠ 40 := fun q => c_101 (Int32.toInt_inj.mp q)
            refine lv_aload_n hx hb dX12_beginOne_90 rfl (lv_at hl 0 rfl) ?_
            refine pg_f (v := .int (I 393 this)) (C := RX12) (T := TX12) (N := 31) hx hb hts (tw_i inlX12) hown hK hP hL_this hK_this (by decide +kernel) rfl 9 (by decide +kernel) (hts _ (tw_c tw_831)) rfl dX12_beginOne_91 ?_
            refine lv_bipush (v := 45) hx hb dX12_beginOne_94 (by decide +kernel) ?_
            refine lv_icmp_eq (tgt := 101) hx hb dX12_beginOne_96 (by decide +kernel) (fun c_178 => ?_) (fun c_178 => ?_)
            · replace hF := hF.trans (if_pos c_178)
              have tc_182 : (I 393 this).toInt = 45 := congrArg Int32.toInt c_178
              have h_183 : rg (I 393 this) 45 45 := rg_and (rg_full _) (rg_of_eq c_178 (rg_k (45 : Int32) 45 rfl)) (by decide +kernel)
              have uh_183 := h_183.1
              have vh_183 := h_183.2
              refine lv_aload_n hx hb dX12_beginOne_101 rfl (lv_at hl 0 rfl) ?_
              refine pg_f (v := .int (I 402 this)) (C := RX12) (T := TX12) (N := 31) hx hb hts (tw_i inlX12) hown hK hP hL_this hK_this (by decide +kernel) rfl 18 (by decide +kernel) (hts _ (tw_c tw_828)) rfl dX12_beginOne_102 ?_
              replace hF := hF.trans (ap_n (vI_e (f := 402) hO_this (by decide +kernel)))
              refine lv_bipush (v := 8) hx hb dX12_beginOne_105 (by decide +kernel) ?_
              refine lv_icmp_ne (tgt := 112) hx hb dX12_beginOne_107 (by decide +kernel) (fun c_185 => ?_) (fun c_185 => ?_)
              · replace hF := hF.trans (if_neg c_185)
                have tc_189 : (I 402 this).toInt ≠ 8 := fun q => c_185 (Int32.toInt_inj.mp q)
                refine lv_aload_n hx hb dX12_beginOne_112 rfl (lv_at hl 0 rfl) ?_
                refine lv_dup hx hb dX12_beginOne_113 rfl ?_
                refine pg_f (v := .int (I 402 this)) (C := RX12) (T := TX12) (N := 31) hx hb hts (tw_i inlX12) hown hK hP hL_this hK_this (by decide +kernel) rfl 18 (by decide +kernel) (hts _ (tw_c tw_828)) rfl dX12_beginOne_114 ?_
                have hq0 := PSz_bd hps
                have h_190 : rg (I 402 this) 0 8 := ⟨by omega, by omega⟩
                have uh_190 := h_190.1
                have vh_190 := h_190.2
                refine lv_iconst (v := 1) hx hb dX12_beginOne_117 (by decide +kernel) ?_
                refine lv_iadd hx hb dX12_beginOne_118 ?_
                refine lv_topi (fun x_191 ex_191 => ?_)
                replace hF := hF.trans (ap_n ex_191)
                have h_192 : rg x_191 1 9 := rg_of_eq ex_191 (rg_add h_190 (rg_k (1 : Int32) 1 rfl) (by decide +kernel))
                have uh_192 := h_192.1
                have vh_192 := h_192.2
                have tx_191 : (x_191).toInt = (I 402 this).toInt + 1 := by rw [ex_191]; exact i_add_rg (a2 := (I 402 this).toInt) (b2 := 1) rfl rfl h_190 (rg_k (1 : Int32) 1 rfl) (by decide +kernel)
                refine pp_i (v := x_191) (ty := .int) (C := RX12) (T := TX12) (N := 31) hx hb hts (tw_i inlX12) tyX12 tyX12_ok nmX12 hown hK hP hD hS hL_this hK_this (by decide +kernel) rfl 18 402 (by decide +kernel) (hts _ (tw_c tw_828)) rfl (tyX12_ok 18 (by decide +kernel)) rfl rfl (Nat.le_of_ble_eq_true rfl) (ps_402 _ _ _ _ _) dX12_beginOne_119 (fun I_193 H locs eI_193 hP hD hS => ?_)
                replace hFr := fr_I (f := 402) hFr hO_this (by decide +kernel) eI_193
                replace hF := hF.trans (ap_n (vI_st (f := 402) hO_this (by decide +kernel) eI_193))
                have hG := GM.wI hG 402 rfl eI_193 (rg_w h_192 (by decide +kernel)) (by decide +kernel)
                have tt_194 : (I_193 396 this).toInt = (I 396 this).toInt := by rw [eI_193, pq_uf _ _ _ (by decide +kernel)]
                have tt_195 : (I_193 398 this).toInt = (I 398 this).toInt := by rw [eI_193, pq_uf _ _ _ (by decide +kernel)]
                have tt_196 : (I_193 401 this).toInt = (I 401 this).toInt := by rw [eI_193, pq_uf _ _ _ (by decide +kernel)]
                have tt_197 : (I_193 402 this).toInt = (x_191).toInt := by rw [eI_193, pq_us]
                have tt_198 : (I_193 391 this).toInt = (I 391 this).toInt := by rw [eI_193, pq_uf _ _ _ (by decide +kernel)]
                have tt_199 : (I_193 393 this).toInt = (I 393 this).toInt := by rw [eI_193, pq_uf _ _ _ (by decide +kernel)]
                have tt_200 : (I_193 403 this).toInt = (I 403 this).toInt := by rw [eI_193, pq_uf _ _ _ (by decide +kernel)]
                have tt_201 : (I_193 397 this).toInt = (I 397 this).toInt := by rw [eI_193, pq_uf _ _ _ (by decide +kernel)]
                refine lv_aload_n hx hb dX12_beginOne_122 rfl (lv_at hl 0 rfl) ?_
                refine lv_aload_n hx hb dX12_beginOne_123 rfl (lv_at hl 0 rfl) ?_
                refine pg_f (v := .int (I_193 393 this)) (C := RX12) (T := TX12) (N := 31) hx hb hts (tw_i inlX12) hown hK hP hL_this hK_this (by decide +kernel) rfl 9 (by decide +kernel) (hts _ (tw_c tw_831)) rfl dX12_beginOne_124 ?_
                have h_202 : rg (I_193 393 this) 45 45 := (by rw [eI_193, pq_uf _ _ _ (by decide +kernel)]; exact h_183)
                have uh_202 := h_202.1
                have vh_202 := h_202.2
                replace hF := hF.trans (ap_n (vI_e (f := 393) hO_this (by decide +kernel)))
                refine lv_bipush (v := 40) hx hb dX12_beginOne_127 (by decide +kernel) ?_
                refine lv_icmp_ne (tgt := 137) hx hb dX12_beginOne_129 (by decide +kernel) (fun c_204 => ?_) (fun c_204 => ?_)
                · have tc_207 : (I_193 393 this).toInt ≠ 40 := fun q => c_204 (Int32.toInt_inj.mp q)
                  refine lv_iconst (v := 2) hx hb dX12_beginOne_137 (by decide +kernel) ?_
                  have hq3 := PSz_bd hps
                  refine pk_v (va_runV (As := [.int 2]) (rest := []) ⟨hx, hb, hml, hown, hts⟩ (s_X12_push l D t σ I_193 J ri rj rq H.size tg hSH hG.1 this (2 : Int32) hL_this hK_this (rg_w (rg_k (2 : Int32) 2 rfl) (by decide +kernel)) this_pile hR_this_pile hL_this_pile hK_this_pile hN_this_pile hT_this_pile (by omega)) (cwV 1 hts (tw_V tw_913 tw_914 tw_915 tw_5 tw_916) rfl rfl rfl cv_yX12_push_1 ⟨Nat.le_of_ble_eq_true rfl, Nat.le_of_ble_eq_true rfl⟩) ⟨pq_blind, pq_recv hK hP hL_this hK_this (by decide +kernel) rfl, pq_pre hK hN hP hD⟩ rfl rfl hl.1 rfl (lv_room (Nat.le_of_ble_eq_true rfl)) dX12_beginOne_138 ⟨Nat.le_of_ble_eq_true rfl, Nat.le_of_ble_eq_true rfl⟩) hD hS hA (fun σ1 μ1 H locs hw_209 hP hD hS => ?_)
                  obtain ⟨I_210, ri_211, hu_212, hg_213, hp_215, hp_216, hp_217, hfn_218, hfr_219⟩ := hw_209
                  obtain ⟨hu_212a, hu_212b⟩ := Prod.mk.inj hu_212
                  rw [hu_212a, hu_212b] at hP hD
                  replace hF := hF.trans (bv_n hfn_218)
                  replace hFr := fr_tr hFr hfr_219
                  obtain ⟨v_220, ev_220, hv_220⟩ := hp_215
                  have tt_221 : (I_210 401 this).toInt = (I_193 401 this).toInt + 1 := by rw [ev_220, pq_us]; exact hv_220
                  have tt_222 : (I_210 403 this).toInt = (I_193 403 this).toInt := by rw [ev_220, pq_uf _ _ _ (by decide +kernel)]
                  have hG := GM.tr hG hg_213 (by decide +kernel)
                  have tt_223 : (I_210 396 this).toInt = (I_193 396 this).toInt := by rw [hg_213.2.1 396 (by decide +kernel) (by decide +kernel)]
                  have tt_224 : (I_210 398 this).toInt = (I_193 398 this).toInt := by rw [hg_213.2.1 398 (by decide +kernel) (by decide +kernel)]
                  have tt_225 : (I_210 402 this).toInt = (I_193 402 this).toInt := by rw [hg_213.2.1 402 (by decide +kernel) (by decide +kernel)]
                  have tt_226 : (I_210 391 this).toInt = (I_193 391 this).toInt := by rw [hg_213.2.1 391 (by decide +kernel) (by decide +kernel)]
                  have tt_227 : (I_210 393 this).toInt = (I_193 393 this).toInt := by rw [hg_213.2.1 393 (by decide +kernel) (by decide +kernel)]
                  have tt_228 : (I_210 397 this).toInt = (I_193 397 this).toInt := by rw [hg_213.2.1 397 (by decide +kernel) (by decide +kernel)]
                  refine lv_aload_n hx hb dX12_beginOne_141 rfl (lv_at hl 0 rfl) ?_
                  obtain ⟨w_229, hR_w_229, hL_w_229, hK_w_229, hN_w_229, hT_w_229⟩ := sh_a hSH 387 (ci := 12) (kd := 13) (len := 300) rfl (by decide +kernel) hL_this hK_this
                  have hO_w_229 : w_229 = vrow σ 387 this := vo_k (c := 12) hO_this hR_w_229
                  refine pk_v (va_runV (As := []) (rest := []) ⟨hx, hb, hml, hown, hts⟩ (s_X12_nextToken_x l D t σ I_210 J ri_211 rj rq H.size tg hSH hG.1 this hL_this hK_this w_229 hR_w_229 hL_w_229 hK_w_229 hN_w_229 hT_w_229) (cwV 0 hts (tw_V tw_832 tw_833 tw_834 tw_5 tw_835) rfl rfl rfl cv_yX12_nextToken_0 ⟨Nat.le_of_ble_eq_true rfl, Nat.le_of_ble_eq_true rfl⟩) ⟨pq_blind, pq_recv hK hP hL_this hK_this (by decide +kernel) rfl, pq_pre hK hN hP hD⟩ rfl rfl hl.1 rfl (lv_room (Nat.le_of_ble_eq_true rfl)) dX12_beginOne_142 ⟨Nat.le_of_ble_eq_true rfl, Nat.le_of_ble_eq_true rfl⟩) hD hS hA (fun σ1 μ1 H locs hw_231 hP hD hS => ?_)
                  obtain ⟨I_232, J_233, hu_234, hg_235, hp_237, hp_238, hp_239, hfn_240, hfr_241⟩ := hw_231
                  obtain ⟨hu_234a, hu_234b⟩ := Prod.mk.inj hu_234
                  rw [hu_234a, hu_234b] at hP hD
                  replace hF := hF.trans (bv_n hfn_240)
                  replace hFr := fr_tr hFr hfr_241
                  have tt_242 := hp_237
                  have tt_243 := hp_238
                  have tt_244 := hp_239
                  have tt_245 : (I_232 391 this).toInt ≤ 300 := by have z := hg_235.1.1 391 this; exact z.2
                  have hG := GM.tr hG hg_235 (by decide +kernel)
                  have tt_246 : (I_232 396 this).toInt = (I_210 396 this).toInt := by rw [hg_235.2.1 396 (by decide +kernel) (by decide +kernel)]
                  have tt_247 : (I_232 398 this).toInt = (I_210 398 this).toInt := by rw [hg_235.2.1 398 (by decide +kernel) (by decide +kernel)]
                  have tt_248 : (I_232 401 this).toInt = (I_210 401 this).toInt := by rw [hg_235.2.1 401 (by decide +kernel) (by decide +kernel)]
                  have tt_249 : (I_232 402 this).toInt = (I_210 402 this).toInt := by rw [hg_235.2.1 402 (by decide +kernel) (by decide +kernel)]
                  have tt_250 : (I_232 397 this).toInt = (I_210 397 this).toInt := by rw [hg_235.2.1 397 (by decide +kernel) (by decide +kernel)]
                  have hup2 : ri_211 this_pile = upd (ri this_pile) (I 401 this).toInt.toNat (2 : Int32) := by rw [show (I 401 this).toInt = (I_193 401 this).toInt from by omega]; exact hp_216
                  have hpsW : PSz (I_232 396 this).toInt (I_232 398 this).toInt (I_232 401 this).toInt (I_232 402 this).toInt (I_232 391 this).toInt (I_232 393 this).toInt (ri_211 this_a) (ri_211 this_pile) bb f0 fr ba tb nn K 0 := PSz_open hps (by omega) (by omega) (x := (2 : Int32)) (by decide +kernel) (by omega) (by omega) (by omega) (by omega) (by omega) (by omega) (by omega) (hp_217 this_a (tg_ne hT_this_a hT_this_pile (by decide +kernel))) hup2
                  have htm : tmM (I_232 391 this).toInt (I_232 393 this).toInt < tmM (I 391 this).toInt (I 393 this).toInt := tm_lt (by omega) (by omega) (by omega)
                  refine lv_iconst (v := 0) hx hb dX12_beginOne_145 (by decide +kernel) ?_
                  subst hQ
                  exact W.iret (v := 0) hx hb hr (fun t1 ht hW => ⟨⟨0, (σ, I_232, J_233, ri_211, rj, rq), rfl, ⟨I_232, J_233, ri_211, rfl, hG, (Or.inr ⟨(by rw [show (I_232 403 this).toInt = 0 from by omega]; exact hpsW), tm_cg htm (by omega) (by omega) rfl rfl⟩), (hF0.symm.trans hF), hFr, (rg_w (rg_k (0 : Int32) 0 rfl) (by decide +kernel))⟩, by rw [ht]; exact hP, va_K.moved hW.alike hK, hD⟩, hS.F ht⟩) hS.2.2 dX12_beginOne_146
                · have tc_251 : (I_193 393 this).toInt = 40 := congrArg Int32.toInt c_204
                  exact (rg_empty (rg_and h_202 (rg_of_eq c_204 (rg_k (40 : Int32) 40 rfl)) (lo := 45) (hi := 40) (by decide +kernel)) (by decide +kernel)).elim
              · replace hF := hF.trans (if_pos c_185)
                have tc_252 : (I 402 this).toInt = 8 := congrArg Int32.toInt c_185
                have h_253 : rg (I 402 this) 8 8 := rg_and (rg_full _) (rg_of_eq c_185 (rg_k (8 : Int32) 8 rfl)) (by decide +kernel)
                have uh_253 := h_253.1
                have vh_253 := h_253.2
                refine lv_iconst (v := 3) hx hb dX12_beginOne_110 (by decide +kernel) ?_
                subst hQ
                exact W.iret (v := 3) hx hb hr (fun t1 ht hW => ⟨⟨3, (σ, I, J, ri, rj, rq), rfl, ⟨I, J, ri, rfl, hG, (Or.inl (by decide +kernel)), (hF0.symm.trans hF), hFr, (rg_w (rg_k (3 : Int32) 3 rfl) (by decide +kernel))⟩, by rw [ht]; exact hP, va_K.moved hW.alike hK, hD⟩, hS.F ht⟩) hS.2.2 dX12_beginOne_111
            · replace hF := hF.trans (if_neg c_178)
              have tc_254 : (I 393 this).toInt ≠ 45 := fun q => c_178 (Int32.toInt_inj.mp q)
              refine lv_iconst (v := 1) hx hb dX12_beginOne_99 (by decide +kernel) ?_
              subst hQ
              exact W.iret (v := 1) hx hb hr (fun t1 ht hW => ⟨⟨1, (σ, I, J, ri, rj, rq), rfl, ⟨I, J, ri, rfl, hG, (Or.inl (by decide +kernel)), (hF0.symm.trans hF), hFr, (rg_w (rg_k (1 : Int32) 1 rfl) (by decide +kernel))⟩, by rw [ht]; exact hP, va_K.moved hW.alike hK, hD⟩, hS.F ht⟩) hS.2.2 dX12_beginOne_100
        · replace hF := hF.trans (if_neg c_94)
          have tc_255 : 0 ≤ (x_85).toInt := Int32.le_iff_toInt_le.mp (nlt c_94)
          have h_256 : rg x_85 0 5 := rg_le2 (nlt c_94) (rg_k (0 : Int32) 0 rfl) hr_89 (by decide +kernel)
          have uh_256 := h_256.1
          have vh_256 := h_256.2
          refine lv_aload_n hx hb dX12_beginOne_35 rfl (lv_at hl 0 rfl) ?_
          refine lv_aload_n hx hb dX12_beginOne_36 rfl (lv_at hl 0 rfl) ?_
          refine pg_f (v := .int (I 393 this)) (C := RX12) (T := TX12) (N := 31) hx hb hts (tw_i inlX12) hown hK hP hL_this hK_this (by decide +kernel) rfl 9 (by decide +kernel) (hts _ (tw_c tw_831)) rfl dX12_beginOne_37 ?_
          refine lv_iconst (v := 1) hx hb dX12_beginOne_40 (by decide +kernel) ?_
          refine lv_icmp_ne (tgt := 48) hx hb dX12_beginOne_41 (by decide +kernel) (fun c_257 => ?_) (fun c_257 => ?_)
          · replace hF := hF.trans (if_neg c_257)
            have tc_261 : (I 393 this).toInt ≠ 1 := fun q => c_257 (Int32.toInt_inj.mp q)
            refine lv_iconst (v := 1) hx hb dX12_beginOne_48 (by decide +kernel) ?_
            refine lv_aload_n hx hb dX12_beginOne_49 rfl (lv_at hl 0 rfl) ?_
            refine pg_f (v := .int (I 393 this)) (C := RX12) (T := TX12) (N := 31) hx hb hts (tw_i inlX12) hown hK hP hL_this hK_this (by decide +kernel) rfl 9 (by decide +kernel) (hts _ (tw_c tw_831)) rfl dX12_beginOne_50 ?_
            refine lv_iconst (v := 1) hx hb dX12_beginOne_53 (by decide +kernel) ?_
            refine lv_icmp_ne (tgt := 64) hx hb dX12_beginOne_54 (by decide +kernel) (fun c_262 => ?_) (fun c_262 => ?_)
            · replace hF := hF.trans (if_neg c_262)
              have tc_266 : (I 393 this).toInt ≠ 1 := fun q => c_262 (Int32.toInt_inj.mp q)
              refine lv_aload_n hx hb dX12_beginOne_64 rfl (lv_at hl 0 rfl) ?_
              refine pk_i (va_runV (As := []) (rest := [.int 1, .ref this]) ⟨hx, hb, hml, hown, hts⟩ (s_X12_nameOf_x l D t σ I J ri rj rq H.size tg hSH hG.1 this hL_this hK_this) (cwV 0 hts (tw_V tw_921 tw_922 tw_923 tw_5 tw_924) rfl rfl rfl cv_yX12_nameOf_0 ⟨Nat.le_of_ble_eq_true rfl, Nat.le_of_ble_eq_true rfl⟩) ⟨pq_blind, pq_recv hK hP hL_this hK_this (by decide +kernel) rfl, pq_pre hK hN hP hD⟩ rfl rfl hl.1 rfl (lv_room (Nat.le_of_ble_eq_true rfl)) dX12_beginOne_65 ⟨Nat.le_of_ble_eq_true rfl, Nat.le_of_ble_eq_true rfl⟩) hD hS hA (fun x_267 σ1 μ1 H locs hw_268 hP hD hS => ?_)
              obtain ⟨hu_269, hp_272, hfn_273, hr_271⟩ := hw_268
              obtain ⟨hu_269a, hu_269b⟩ := Prod.mk.inj hu_269
              rw [hu_269a, hu_269b] at hP hD
              replace hF := hF.trans (bn_n hfn_273)
              have tt_275 := hp_272
              have hq1 := PSz_t hps
              have hq2 := PSz_w hps (Or.inl (by omega))
              refine pk_v (va_runV (As := [.int 1, .int x_267]) (rest := []) ⟨hx, hb, hml, hown, hts⟩ (s_X12_emit l D t σ I J ri rj rq H.size tg hSH hG.1 this (1 : Int32) x_267 hL_this hK_this this_a hR_this_a hL_this_a hK_this_a hN_this_a hT_this_a (by omega) (by omega)) (cwV 2 hts (tw_V tw_905 tw_906 tw_907 tw_5 tw_908) rfl rfl rfl cv_yX12_emit_2 ⟨Nat.le_of_ble_eq_true rfl, Nat.le_of_ble_eq_true rfl⟩) ⟨pq_blind, pq_recv hK hP hL_this hK_this (by decide +kernel) rfl, pq_pre hK hN hP hD⟩ rfl rfl hl.1 rfl (lv_room (Nat.le_of_ble_eq_true rfl)) dX12_beginOne_68 ⟨Nat.le_of_ble_eq_true rfl, Nat.le_of_ble_eq_true rfl⟩) hD hS hA (fun σ1 μ1 H locs hw_277 hP hD hS => ?_)
              obtain ⟨I_278, ri_279, hu_280, hg_281, hp_283, hp_284, hp_285, hp_286, hfn_287, hfr_288⟩ := hw_277
              obtain ⟨hu_280a, hu_280b⟩ := Prod.mk.inj hu_280
              rw [hu_280a, hu_280b] at hP hD
              replace hF := hF.trans (bv_n hfn_287)
              replace hFr := fr_tr hFr hfr_288
              obtain ⟨v_289, ev_289, hv_289⟩ := hp_283
              have tt_290 : (I_278 398 this).toInt = (I 398 this).toInt + 1 := by rw [ev_289, pq_us]; exact hv_289
              have tt_291 : (I_278 403 this).toInt = (I 403 this).toInt := by rw [ev_289, pq_uf _ _ _ (by decide +kernel)]
              have hG := GM.tr hG hg_281 (by decide +kernel)
              have tt_292 : (I_278 396 this).toInt = (I 396 this).toInt := by rw [hg_281.2.1 396 (by decide +kernel) (by decide +kernel)]
              have tt_293 : (I_278 401 this).toInt = (I 401 this).toInt := by rw [hg_281.2.1 401 (by decide +kernel) (by decide +kernel)]
              have tt_294 : (I_278 402 this).toInt = (I 402 this).toInt := by rw [hg_281.2.1 402 (by decide +kernel) (by decide +kernel)]
              have tt_295 : (I_278 391 this).toInt = (I 391 this).toInt := by rw [hg_281.2.1 391 (by decide +kernel) (by decide +kernel)]
              have tt_296 : (I_278 393 this).toInt = (I 393 this).toInt := by rw [hg_281.2.1 393 (by decide +kernel) (by decide +kernel)]
              have tt_297 : (I_278 397 this).toInt = (I 397 this).toInt := by rw [hg_281.2.1 397 (by decide +kernel) (by decide +kernel)]
              refine lv_aload_n hx hb dX12_beginOne_71 rfl (lv_at hl 0 rfl) ?_
              obtain ⟨w_298, hR_w_298, hL_w_298, hK_w_298, hN_w_298, hT_w_298⟩ := sh_a hSH 387 (ci := 12) (kd := 13) (len := 300) rfl (by decide +kernel) hL_this hK_this
              have hO_w_298 : w_298 = vrow σ 387 this := vo_k (c := 12) hO_this hR_w_298
              refine pk_v (va_runV (As := []) (rest := []) ⟨hx, hb, hml, hown, hts⟩ (s_X12_nextToken_x l D t σ I_278 J ri_279 rj rq H.size tg hSH hG.1 this hL_this hK_this w_298 hR_w_298 hL_w_298 hK_w_298 hN_w_298 hT_w_298) (cwV 0 hts (tw_V tw_832 tw_833 tw_834 tw_5 tw_835) rfl rfl rfl cv_yX12_nextToken_0 ⟨Nat.le_of_ble_eq_true rfl, Nat.le_of_ble_eq_true rfl⟩) ⟨pq_blind, pq_recv hK hP hL_this hK_this (by decide +kernel) rfl, pq_pre hK hN hP hD⟩ rfl rfl hl.1 rfl (lv_room (Nat.le_of_ble_eq_true rfl)) dX12_beginOne_72 ⟨Nat.le_of_ble_eq_true rfl, Nat.le_of_ble_eq_true rfl⟩) hD hS hA (fun σ1 μ1 H locs hw_300 hP hD hS => ?_)
              obtain ⟨I_301, J_302, hu_303, hg_304, hp_306, hp_307, hp_308, hfn_309, hfr_310⟩ := hw_300
              obtain ⟨hu_303a, hu_303b⟩ := Prod.mk.inj hu_303
              rw [hu_303a, hu_303b] at hP hD
              replace hF := hF.trans (bv_n hfn_309)
              replace hFr := fr_tr hFr hfr_310
              have tt_311 := hp_306
              have tt_312 := hp_307
              have tt_313 := hp_308
              have tt_314 : (I_301 391 this).toInt ≤ 300 := by have z := hg_304.1.1 391 this; exact z.2
              have hG := GM.tr hG hg_304 (by decide +kernel)
              have tt_315 : (I_301 396 this).toInt = (I_278 396 this).toInt := by rw [hg_304.2.1 396 (by decide +kernel) (by decide +kernel)]
              have tt_316 : (I_301 398 this).toInt = (I_278 398 this).toInt := by rw [hg_304.2.1 398 (by decide +kernel) (by decide +kernel)]
              have tt_317 : (I_301 401 this).toInt = (I_278 401 this).toInt := by rw [hg_304.2.1 401 (by decide +kernel) (by decide +kernel)]
              have tt_318 : (I_301 402 this).toInt = (I_278 402 this).toInt := by rw [hg_304.2.1 402 (by decide +kernel) (by decide +kernel)]
              have tt_319 : (I_301 397 this).toInt = (I_278 397 this).toInt := by rw [hg_304.2.1 397 (by decide +kernel) (by decide +kernel)]
              refine lv_aload_n hx hb dX12_beginOne_75 rfl (lv_at hl 0 rfl) ?_
              have hpsW : PSz (I_301 396 this).toInt (I_301 398 this).toInt (I_301 401 this).toInt (I_301 402 this).toInt (I_301 391 this).toInt (I_301 393 this).toInt (ri_279 this_a) (ri_279 this_pile) bb f0 fr ba tb nn K 1 := PSz_one hps (by omega) (x := (1 : Int32)) (fun j hj => hp_284 j (by omega)) (by rw [show (I 396 this).toInt + 250 + 2 * (I 398 this).toInt = (I 396 this).toInt + 250 + 2 * (I 398 this).toInt from by omega]; exact hp_285) (by decide +kernel) (by omega) (by omega) (by omega) (by omega) (by omega) (by omega) (by omega) (hp_286 this_pile (tg_ne hT_this_pile hT_this_a (by decide +kernel)))
              have htm : tmM (I_301 391 this).toInt (I_301 393 this).toInt < tmM (I 391 this).toInt (I 393 this).toInt := tm_lt (by omega) (by omega) (by omega)
              refine pk_v (va_runV (As := []) (rest := []) ⟨hx, hb, hml, hown, hts⟩ (s_X12_whole l D t σ I_301 J_302 ri_279 rj rq H.size tg hSH hG.1 this hL_this hK_this this_a hR_this_a hL_this_a hK_this_a hN_this_a hT_this_a this_pile hR_this_pile hL_this_pile hK_this_pile hN_this_pile hT_this_pile bb f0 fr ba tb nn K (by assumption)) (cwV 0 hts (tw_V tw_909 tw_910 tw_911 tw_5 tw_912) rfl rfl rfl cv_yX12_whole_0 ⟨Nat.le_of_ble_eq_true rfl, Nat.le_of_ble_eq_true rfl⟩) ⟨pq_blind, pq_recv hK hP hL_this hK_this (by decide +kernel) rfl, pq_pre hK hN hP hD⟩ rfl rfl hl.1 rfl (lv_room (Nat.le_of_ble_eq_true rfl)) dX12_beginOne_76 ⟨Nat.le_of_ble_eq_true rfl, Nat.le_of_ble_eq_true rfl⟩) hD hS hA (fun σ1 μ1 H locs hw_321 hP hD hS => ?_)
              obtain ⟨I_322, ri_323, hu_324, hg_325, hp_327, hp_328, hfn_329, hfr_330⟩ := hw_321
              obtain ⟨hu_324a, hu_324b⟩ := Prod.mk.inj hu_324
              rw [hu_324a, hu_324b] at hP hD
              replace hF := hF.trans (bv_n hfn_329)
              replace hFr := fr_tr hFr hfr_330
              have tt_331 := hp_328
              have hG := GM.tr hG hg_325 (by decide +kernel)
              have tt_332 : (I_322 396 this).toInt = (I_301 396 this).toInt := by rw [hg_325.2.1 396 (by decide +kernel) (by decide +kernel)]
              have tt_333 : (I_322 391 this).toInt = (I_301 391 this).toInt := by rw [hg_325.2.1 391 (by decide +kernel) (by decide +kernel)]
              have tt_334 : (I_322 393 this).toInt = (I_301 393 this).toInt := by rw [hg_325.2.1 393 (by decide +kernel) (by decide +kernel)]
              have tt_335 : (I_322 397 this).toInt = (I_301 397 this).toInt := by rw [hg_325.2.1 397 (by decide +kernel) (by decide +kernel)]
              refine lv_iconst (v := 0) hx hb dX12_beginOne_79 (by decide +kernel) ?_
              subst hQ
              exact W.iret (v := 0) hx hb hr (fun t1 ht hW => ⟨⟨0, (σ, I_322, J_302, ri_323, rj, rq), rfl, ⟨I_322, J_302, ri_323, rfl, hG, (Or.inr ⟨(by rw [show (I_322 403 this).toInt = 1 from by omega]; exact hp_327), tm_cg htm (by omega) (by omega) rfl rfl⟩), (hF0.symm.trans hF), hFr, (rg_w (rg_k (0 : Int32) 0 rfl) (by decide +kernel))⟩, by rw [ht]; exact hP, va_K.moved hW.alike hK, hD⟩, hS.F ht⟩) hS.2.2 dX12_beginOne_80
            · replace hF := hF.trans (if_pos c_262)
              have tc_336 : (I 393 this).toInt = 1 := congrArg Int32.toInt c_262
              have h_337 : rg (I 393 this) 1 1 := rg_and (rg_full _) (rg_of_eq c_262 (rg_k (1 : Int32) 1 rfl)) (by decide +kernel)
              have uh_337 := h_337.1
              have vh_337 := h_337.2
              refine lv_aload_n hx hb dX12_beginOne_57 rfl (lv_at hl 0 rfl) ?_
              refine pg_f (v := .int (I 394 this)) (C := RX12) (T := TX12) (N := 31) hx hb hts (tw_i inlX12) hown hK hP hL_this hK_this (by decide +kernel) rfl 10 (by decide +kernel) (hts _ (tw_c tw_836)) rfl dX12_beginOne_58 ?_
              replace hF := hF.trans (ap_n (vI_e (f := 394) hO_this (by decide +kernel)))
              refine lv_goto (tgt := 68) hx hb dX12_beginOne_61 (by decide +kernel) ?_
              have hq1 := PSz_t hps
              have hq2 := PSz_w hps (Or.inl (by omega))
              refine pk_v (va_runV (As := [.int 1, .int (I 394 this)]) (rest := []) ⟨hx, hb, hml, hown, hts⟩ (s_X12_emit l D t σ I J ri rj rq H.size tg hSH hG.1 this (1 : Int32) (I 394 this) hL_this hK_this this_a hR_this_a hL_this_a hK_this_a hN_this_a hT_this_a (by omega) (by omega)) (cwV 2 hts (tw_V tw_905 tw_906 tw_907 tw_5 tw_908) rfl rfl rfl cv_yX12_emit_2 ⟨Nat.le_of_ble_eq_true rfl, Nat.le_of_ble_eq_true rfl⟩) ⟨pq_blind, pq_recv hK hP hL_this hK_this (by decide +kernel) rfl, pq_pre hK hN hP hD⟩ rfl rfl hl.1 rfl (lv_room (Nat.le_of_ble_eq_true rfl)) dX12_beginOne_68 ⟨Nat.le_of_ble_eq_true rfl, Nat.le_of_ble_eq_true rfl⟩) hD hS hA (fun σ1 μ1 H locs hw_340 hP hD hS => ?_)
              obtain ⟨I_341, ri_342, hu_343, hg_344, hp_346, hp_347, hp_348, hp_349, hfn_350, hfr_351⟩ := hw_340
              obtain ⟨hu_343a, hu_343b⟩ := Prod.mk.inj hu_343
              rw [hu_343a, hu_343b] at hP hD
              replace hF := hF.trans (bv_n hfn_350)
              replace hFr := fr_tr hFr hfr_351
              obtain ⟨v_352, ev_352, hv_352⟩ := hp_346
              have tt_353 : (I_341 398 this).toInt = (I 398 this).toInt + 1 := by rw [ev_352, pq_us]; exact hv_352
              have tt_354 : (I_341 403 this).toInt = (I 403 this).toInt := by rw [ev_352, pq_uf _ _ _ (by decide +kernel)]
              have hG := GM.tr hG hg_344 (by decide +kernel)
              have tt_355 : (I_341 396 this).toInt = (I 396 this).toInt := by rw [hg_344.2.1 396 (by decide +kernel) (by decide +kernel)]
              have tt_356 : (I_341 401 this).toInt = (I 401 this).toInt := by rw [hg_344.2.1 401 (by decide +kernel) (by decide +kernel)]
              have tt_357 : (I_341 402 this).toInt = (I 402 this).toInt := by rw [hg_344.2.1 402 (by decide +kernel) (by decide +kernel)]
              have tt_358 : (I_341 391 this).toInt = (I 391 this).toInt := by rw [hg_344.2.1 391 (by decide +kernel) (by decide +kernel)]
              have tt_359 : (I_341 393 this).toInt = (I 393 this).toInt := by rw [hg_344.2.1 393 (by decide +kernel) (by decide +kernel)]
              have tt_360 : (I_341 397 this).toInt = (I 397 this).toInt := by rw [hg_344.2.1 397 (by decide +kernel) (by decide +kernel)]
              refine lv_aload_n hx hb dX12_beginOne_71 rfl (lv_at hl 0 rfl) ?_
              obtain ⟨w_361, hR_w_361, hL_w_361, hK_w_361, hN_w_361, hT_w_361⟩ := sh_a hSH 387 (ci := 12) (kd := 13) (len := 300) rfl (by decide +kernel) hL_this hK_this
              have hO_w_361 : w_361 = vrow σ 387 this := vo_k (c := 12) hO_this hR_w_361
              refine pk_v (va_runV (As := []) (rest := []) ⟨hx, hb, hml, hown, hts⟩ (s_X12_nextToken_x l D t σ I_341 J ri_342 rj rq H.size tg hSH hG.1 this hL_this hK_this w_361 hR_w_361 hL_w_361 hK_w_361 hN_w_361 hT_w_361) (cwV 0 hts (tw_V tw_832 tw_833 tw_834 tw_5 tw_835) rfl rfl rfl cv_yX12_nextToken_0 ⟨Nat.le_of_ble_eq_true rfl, Nat.le_of_ble_eq_true rfl⟩) ⟨pq_blind, pq_recv hK hP hL_this hK_this (by decide +kernel) rfl, pq_pre hK hN hP hD⟩ rfl rfl hl.1 rfl (lv_room (Nat.le_of_ble_eq_true rfl)) dX12_beginOne_72 ⟨Nat.le_of_ble_eq_true rfl, Nat.le_of_ble_eq_true rfl⟩) hD hS hA (fun σ1 μ1 H locs hw_363 hP hD hS => ?_)
              obtain ⟨I_364, J_365, hu_366, hg_367, hp_369, hp_370, hp_371, hfn_372, hfr_373⟩ := hw_363
              obtain ⟨hu_366a, hu_366b⟩ := Prod.mk.inj hu_366
              rw [hu_366a, hu_366b] at hP hD
              replace hF := hF.trans (bv_n hfn_372)
              replace hFr := fr_tr hFr hfr_373
              have tt_374 := hp_369
              have tt_375 := hp_370
              have tt_376 := hp_371
              have tt_377 : (I_364 391 this).toInt ≤ 300 := by have z := hg_367.1.1 391 this; exact z.2
              have hG := GM.tr hG hg_367 (by decide +kernel)
              have tt_378 : (I_364 396 this).toInt = (I_341 396 this).toInt := by rw [hg_367.2.1 396 (by decide +kernel) (by decide +kernel)]
              have tt_379 : (I_364 398 this).toInt = (I_341 398 this).toInt := by rw [hg_367.2.1 398 (by decide +kernel) (by decide +kernel)]
              have tt_380 : (I_364 401 this).toInt = (I_341 401 this).toInt := by rw [hg_367.2.1 401 (by decide +kernel) (by decide +kernel)]
              have tt_381 : (I_364 402 this).toInt = (I_341 402 this).toInt := by rw [hg_367.2.1 402 (by decide +kernel) (by decide +kernel)]
              have tt_382 : (I_364 397 this).toInt = (I_341 397 this).toInt := by rw [hg_367.2.1 397 (by decide +kernel) (by decide +kernel)]
              refine lv_aload_n hx hb dX12_beginOne_75 rfl (lv_at hl 0 rfl) ?_
              have hpsW : PSz (I_364 396 this).toInt (I_364 398 this).toInt (I_364 401 this).toInt (I_364 402 this).toInt (I_364 391 this).toInt (I_364 393 this).toInt (ri_342 this_a) (ri_342 this_pile) bb f0 fr ba tb nn K 1 := PSz_one hps (by omega) (x := (1 : Int32)) (fun j hj => hp_347 j (by omega)) (by rw [show (I 396 this).toInt + 250 + 2 * (I 398 this).toInt = (I 396 this).toInt + 250 + 2 * (I 398 this).toInt from by omega]; exact hp_348) (by decide +kernel) (by omega) (by omega) (by omega) (by omega) (by omega) (by omega) (by omega) (hp_349 this_pile (tg_ne hT_this_pile hT_this_a (by decide +kernel)))
              have htm : tmM (I_364 391 this).toInt (I_364 393 this).toInt < tmM (I 391 this).toInt (I 393 this).toInt := tm_lt (by omega) (by omega) (by omega)
              refine pk_v (va_runV (As := []) (rest := []) ⟨hx, hb, hml, hown, hts⟩ (s_X12_whole l D t σ I_364 J_365 ri_342 rj rq H.size tg hSH hG.1 this hL_this hK_this this_a hR_this_a hL_this_a hK_this_a hN_this_a hT_this_a this_pile hR_this_pile hL_this_pile hK_this_pile hN_this_pile hT_this_pile bb f0 fr ba tb nn K (by assumption)) (cwV 0 hts (tw_V tw_909 tw_910 tw_911 tw_5 tw_912) rfl rfl rfl cv_yX12_whole_0 ⟨Nat.le_of_ble_eq_true rfl, Nat.le_of_ble_eq_true rfl⟩) ⟨pq_blind, pq_recv hK hP hL_this hK_this (by decide +kernel) rfl, pq_pre hK hN hP hD⟩ rfl rfl hl.1 rfl (lv_room (Nat.le_of_ble_eq_true rfl)) dX12_beginOne_76 ⟨Nat.le_of_ble_eq_true rfl, Nat.le_of_ble_eq_true rfl⟩) hD hS hA (fun σ1 μ1 H locs hw_384 hP hD hS => ?_)
              obtain ⟨I_385, ri_386, hu_387, hg_388, hp_390, hp_391, hfn_392, hfr_393⟩ := hw_384
              obtain ⟨hu_387a, hu_387b⟩ := Prod.mk.inj hu_387
              rw [hu_387a, hu_387b] at hP hD
              replace hF := hF.trans (bv_n hfn_392)
              replace hFr := fr_tr hFr hfr_393
              have tt_394 := hp_391
              have hG := GM.tr hG hg_388 (by decide +kernel)
              have tt_395 : (I_385 396 this).toInt = (I_364 396 this).toInt := by rw [hg_388.2.1 396 (by decide +kernel) (by decide +kernel)]
              have tt_396 : (I_385 391 this).toInt = (I_364 391 this).toInt := by rw [hg_388.2.1 391 (by decide +kernel) (by decide +kernel)]
              have tt_397 : (I_385 393 this).toInt = (I_364 393 this).toInt := by rw [hg_388.2.1 393 (by decide +kernel) (by decide +kernel)]
              have tt_398 : (I_385 397 this).toInt = (I_364 397 this).toInt := by rw [hg_388.2.1 397 (by decide +kernel) (by decide +kernel)]
              refine lv_iconst (v := 0) hx hb dX12_beginOne_79 (by decide +kernel) ?_
              subst hQ
              exact W.iret (v := 0) hx hb hr (fun t1 ht hW => ⟨⟨0, (σ, I_385, J_365, ri_386, rj, rq), rfl, ⟨I_385, J_365, ri_386, rfl, hG, (Or.inr ⟨(by rw [show (I_385 403 this).toInt = 1 from by omega]; exact hp_390), tm_cg htm (by omega) (by omega) rfl rfl⟩), (hF0.symm.trans hF), hFr, (rg_w (rg_k (0 : Int32) 0 rfl) (by decide +kernel))⟩, by rw [ht]; exact hP, va_K.moved hW.alike hK, hD⟩, hS.F ht⟩) hS.2.2 dX12_beginOne_80
          · replace hF := hF.trans (if_pos c_257)
            have tc_399 : (I 393 this).toInt = 1 := congrArg Int32.toInt c_257
            have h_400 : rg (I 393 this) 1 1 := rg_and (rg_full _) (rg_of_eq c_257 (rg_k (1 : Int32) 1 rfl)) (by decide +kernel)
            have uh_400 := h_400.1
            have vh_400 := h_400.2
            refine lv_iconst (v := 0) hx hb dX12_beginOne_44 (by decide +kernel) ?_
            refine lv_goto (tgt := 49) hx hb dX12_beginOne_45 (by decide +kernel) ?_
            refine lv_aload_n hx hb dX12_beginOne_49 rfl (lv_at hl 0 rfl) ?_
            refine pg_f (v := .int (I 393 this)) (C := RX12) (T := TX12) (N := 31) hx hb hts (tw_i inlX12) hown hK hP hL_this hK_this (by decide +kernel) rfl 9 (by decide +kernel) (hts _ (tw_c tw_831)) rfl dX12_beginOne_50 ?_
            refine lv_iconst (v := 1) hx hb dX12_beginOne_53 (by decide +kernel) ?_
            refine lv_icmp_ne (tgt := 64) hx hb dX12_beginOne_54 (by decide +kernel) (fun c_401 => ?_) (fun c_401 => ?_)
            · have tc_404 : (I 393 this).toInt ≠ 1 := fun q => c_401 (Int32.toInt_inj.mp q)
              exact (rg_empty (rg_ne c_401 h_400 1 rfl (lo := 2) (hi := 0) (by decide +kernel)) (by decide +kernel)).elim
            · have tc_405 : (I 393 this).toInt = 1 := congrArg Int32.toInt c_401
              refine lv_aload_n hx hb dX12_beginOne_57 rfl (lv_at hl 0 rfl) ?_
              refine pg_f (v := .int (I 394 this)) (C := RX12) (T := TX12) (N := 31) hx hb hts (tw_i inlX12) hown hK hP hL_this hK_this (by decide +kernel) rfl 10 (by decide +kernel) (hts _ (tw_c tw_836)) rfl dX12_beginOne_58 ?_
              replace hF := hF.trans (ap_n (vI_e (f := 394) hO_this (by decide +kernel)))
              refine lv_goto (tgt := 68) hx hb dX12_beginOne_61 (by decide +kernel) ?_
              have hq1 := PSz_t hps
              have hq2 := PSz_w hps (Or.inl (by omega))
              refine pk_v (va_runV (As := [.int 0, .int (I 394 this)]) (rest := []) ⟨hx, hb, hml, hown, hts⟩ (s_X12_emit l D t σ I J ri rj rq H.size tg hSH hG.1 this (0 : Int32) (I 394 this) hL_this hK_this this_a hR_this_a hL_this_a hK_this_a hN_this_a hT_this_a (by omega) (by omega)) (cwV 2 hts (tw_V tw_905 tw_906 tw_907 tw_5 tw_908) rfl rfl rfl cv_yX12_emit_2 ⟨Nat.le_of_ble_eq_true rfl, Nat.le_of_ble_eq_true rfl⟩) ⟨pq_blind, pq_recv hK hP hL_this hK_this (by decide +kernel) rfl, pq_pre hK hN hP hD⟩ rfl rfl hl.1 rfl (lv_room (Nat.le_of_ble_eq_true rfl)) dX12_beginOne_68 ⟨Nat.le_of_ble_eq_true rfl, Nat.le_of_ble_eq_true rfl⟩) hD hS hA (fun σ1 μ1 H locs hw_408 hP hD hS => ?_)
              obtain ⟨I_409, ri_410, hu_411, hg_412, hp_414, hp_415, hp_416, hp_417, hfn_418, hfr_419⟩ := hw_408
              obtain ⟨hu_411a, hu_411b⟩ := Prod.mk.inj hu_411
              rw [hu_411a, hu_411b] at hP hD
              replace hF := hF.trans (bv_n hfn_418)
              replace hFr := fr_tr hFr hfr_419
              obtain ⟨v_420, ev_420, hv_420⟩ := hp_414
              have tt_421 : (I_409 398 this).toInt = (I 398 this).toInt + 1 := by rw [ev_420, pq_us]; exact hv_420
              have tt_422 : (I_409 403 this).toInt = (I 403 this).toInt := by rw [ev_420, pq_uf _ _ _ (by decide +kernel)]
              have hG := GM.tr hG hg_412 (by decide +kernel)
              have tt_423 : (I_409 396 this).toInt = (I 396 this).toInt := by rw [hg_412.2.1 396 (by decide +kernel) (by decide +kernel)]
              have tt_424 : (I_409 401 this).toInt = (I 401 this).toInt := by rw [hg_412.2.1 401 (by decide +kernel) (by decide +kernel)]
              have tt_425 : (I_409 402 this).toInt = (I 402 this).toInt := by rw [hg_412.2.1 402 (by decide +kernel) (by decide +kernel)]
              have tt_426 : (I_409 391 this).toInt = (I 391 this).toInt := by rw [hg_412.2.1 391 (by decide +kernel) (by decide +kernel)]
              have tt_427 : (I_409 393 this).toInt = (I 393 this).toInt := by rw [hg_412.2.1 393 (by decide +kernel) (by decide +kernel)]
              have tt_428 : (I_409 397 this).toInt = (I 397 this).toInt := by rw [hg_412.2.1 397 (by decide +kernel) (by decide +kernel)]
              refine lv_aload_n hx hb dX12_beginOne_71 rfl (lv_at hl 0 rfl) ?_
              obtain ⟨w_429, hR_w_429, hL_w_429, hK_w_429, hN_w_429, hT_w_429⟩ := sh_a hSH 387 (ci := 12) (kd := 13) (len := 300) rfl (by decide +kernel) hL_this hK_this
              have hO_w_429 : w_429 = vrow σ 387 this := vo_k (c := 12) hO_this hR_w_429
              refine pk_v (va_runV (As := []) (rest := []) ⟨hx, hb, hml, hown, hts⟩ (s_X12_nextToken_x l D t σ I_409 J ri_410 rj rq H.size tg hSH hG.1 this hL_this hK_this w_429 hR_w_429 hL_w_429 hK_w_429 hN_w_429 hT_w_429) (cwV 0 hts (tw_V tw_832 tw_833 tw_834 tw_5 tw_835) rfl rfl rfl cv_yX12_nextToken_0 ⟨Nat.le_of_ble_eq_true rfl, Nat.le_of_ble_eq_true rfl⟩) ⟨pq_blind, pq_recv hK hP hL_this hK_this (by decide +kernel) rfl, pq_pre hK hN hP hD⟩ rfl rfl hl.1 rfl (lv_room (Nat.le_of_ble_eq_true rfl)) dX12_beginOne_72 ⟨Nat.le_of_ble_eq_true rfl, Nat.le_of_ble_eq_true rfl⟩) hD hS hA (fun σ1 μ1 H locs hw_431 hP hD hS => ?_)
              obtain ⟨I_432, J_433, hu_434, hg_435, hp_437, hp_438, hp_439, hfn_440, hfr_441⟩ := hw_431
              obtain ⟨hu_434a, hu_434b⟩ := Prod.mk.inj hu_434
              rw [hu_434a, hu_434b] at hP hD
              replace hF := hF.trans (bv_n hfn_440)
              replace hFr := fr_tr hFr hfr_441
              have tt_442 := hp_437
              have tt_443 := hp_438
              have tt_444 := hp_439
              have tt_445 : (I_432 391 this).toInt ≤ 300 := by have z := hg_435.1.1 391 this; exact z.2
              have hG := GM.tr hG hg_435 (by decide +kernel)
              have tt_446 : (I_432 396 this).toInt = (I_409 396 this).toInt := by rw [hg_435.2.1 396 (by decide +kernel) (by decide +kernel)]
              have tt_447 : (I_432 398 this).toInt = (I_409 398 this).toInt := by rw [hg_435.2.1 398 (by decide +kernel) (by decide +kernel)]
              have tt_448 : (I_432 401 this).toInt = (I_409 401 this).toInt := by rw [hg_435.2.1 401 (by decide +kernel) (by decide +kernel)]
              have tt_449 : (I_432 402 this).toInt = (I_409 402 this).toInt := by rw [hg_435.2.1 402 (by decide +kernel) (by decide +kernel)]
              have tt_450 : (I_432 397 this).toInt = (I_409 397 this).toInt := by rw [hg_435.2.1 397 (by decide +kernel) (by decide +kernel)]
              refine lv_aload_n hx hb dX12_beginOne_75 rfl (lv_at hl 0 rfl) ?_
              have hpsW : PSz (I_432 396 this).toInt (I_432 398 this).toInt (I_432 401 this).toInt (I_432 402 this).toInt (I_432 391 this).toInt (I_432 393 this).toInt (ri_410 this_a) (ri_410 this_pile) bb f0 fr ba tb nn K 1 := PSz_one hps (by omega) (x := (0 : Int32)) (fun j hj => hp_415 j (by omega)) (by rw [show (I 396 this).toInt + 250 + 2 * (I 398 this).toInt = (I 396 this).toInt + 250 + 2 * (I 398 this).toInt from by omega]; exact hp_416) (by decide +kernel) (by omega) (by omega) (by omega) (by omega) (by omega) (by omega) (by omega) (hp_417 this_pile (tg_ne hT_this_pile hT_this_a (by decide +kernel)))
              have htm : tmM (I_432 391 this).toInt (I_432 393 this).toInt < tmM (I 391 this).toInt (I 393 this).toInt := tm_lt (by omega) (by omega) (by omega)
              refine pk_v (va_runV (As := []) (rest := []) ⟨hx, hb, hml, hown, hts⟩ (s_X12_whole l D t σ I_432 J_433 ri_410 rj rq H.size tg hSH hG.1 this hL_this hK_this this_a hR_this_a hL_this_a hK_this_a hN_this_a hT_this_a this_pile hR_this_pile hL_this_pile hK_this_pile hN_this_pile hT_this_pile bb f0 fr ba tb nn K (by assumption)) (cwV 0 hts (tw_V tw_909 tw_910 tw_911 tw_5 tw_912) rfl rfl rfl cv_yX12_whole_0 ⟨Nat.le_of_ble_eq_true rfl, Nat.le_of_ble_eq_true rfl⟩) ⟨pq_blind, pq_recv hK hP hL_this hK_this (by decide +kernel) rfl, pq_pre hK hN hP hD⟩ rfl rfl hl.1 rfl (lv_room (Nat.le_of_ble_eq_true rfl)) dX12_beginOne_76 ⟨Nat.le_of_ble_eq_true rfl, Nat.le_of_ble_eq_true rfl⟩) hD hS hA (fun σ1 μ1 H locs hw_452 hP hD hS => ?_)
              obtain ⟨I_453, ri_454, hu_455, hg_456, hp_458, hp_459, hfn_460, hfr_461⟩ := hw_452
              obtain ⟨hu_455a, hu_455b⟩ := Prod.mk.inj hu_455
              rw [hu_455a, hu_455b] at hP hD
              replace hF := hF.trans (bv_n hfn_460)
              replace hFr := fr_tr hFr hfr_461
              have tt_462 := hp_459
              have hG := GM.tr hG hg_456 (by decide +kernel)
              have tt_463 : (I_453 396 this).toInt = (I_432 396 this).toInt := by rw [hg_456.2.1 396 (by decide +kernel) (by decide +kernel)]
              have tt_464 : (I_453 391 this).toInt = (I_432 391 this).toInt := by rw [hg_456.2.1 391 (by decide +kernel) (by decide +kernel)]
              have tt_465 : (I_453 393 this).toInt = (I_432 393 this).toInt := by rw [hg_456.2.1 393 (by decide +kernel) (by decide +kernel)]
              have tt_466 : (I_453 397 this).toInt = (I_432 397 this).toInt := by rw [hg_456.2.1 397 (by decide +kernel) (by decide +kernel)]
              refine lv_iconst (v := 0) hx hb dX12_beginOne_79 (by decide +kernel) ?_
              subst hQ
              exact W.iret (v := 0) hx hb hr (fun t1 ht hW => ⟨⟨0, (σ, I_453, J_433, ri_454, rj, rq), rfl, ⟨I_453, J_433, ri_454, rfl, hG, (Or.inr ⟨(by rw [show (I_453 403 this).toInt = 1 from by omega]; exact hp_458), tm_cg htm (by omega) (by omega) rfl rfl⟩), (hF0.symm.trans hF), hFr, (rg_w (rg_k (0 : Int32) 0 rfl) (by decide +kernel))⟩, by rw [ht]; exact hP, va_K.moved hW.alike hK, hD⟩, hS.F ht⟩) hS.2.2 dX12_beginOne_80
    · replace hF := hF.trans (if_pos c_2)
      have tc_467 : (I 393 this).toInt = 1 := congrArg Int32.toInt c_2
      have h_468 : rg (I 393 this) 1 1 := rg_and (rg_full _) (rg_of_eq c_2 (rg_k (1 : Int32) 1 rfl)) (by decide +kernel)
      have uh_468 := h_468.1
      have vh_468 := h_468.2
      refine lv_aload_n hx hb dX12_beginOne_8 rfl (lv_at hl 0 rfl) ?_
      refine pg_f (v := .int (I 394 this)) (C := RX12) (T := TX12) (N := 31) hx hb hts (tw_i inlX12) hown hK hP hL_this hK_this (by decide +kernel) rfl 10 (by decide +kernel) (hts _ (tw_c tw_836)) rfl dX12_beginOne_9 ?_
      replace hF := hF.trans (ap_n (vI_e (f := 394) hO_this (by decide +kernel)))
      refine lv_sipush (v := 9999) hx hb dX12_beginOne_12 (by decide +kernel) ?_
      refine lv_icmp_le (tgt := 20) hx hb dX12_beginOne_15 (by decide +kernel) (fun c_470 => ?_) (fun c_470 => ?_)
      · replace hF := hF.trans (if_pos c_470)
        have tc_475 : (I 394 this).toInt ≤ 9999 := Int32.le_iff_toInt_le.mp c_470
        have h_476 : rg (I 394 this) (-2147483648) 9999 := rg_le1 c_470 (rg_full _) (rg_k (9999 : Int32) 9999 rfl) (by decide +kernel)
        have uh_476 := h_476.1
        have vh_476 := h_476.2
        refine lv_aload_n hx hb dX12_beginOne_20 rfl (lv_at hl 0 rfl) ?_
        refine pg_f (v := .int (I 393 this)) (C := RX12) (T := TX12) (N := 31) hx hb hts (tw_i inlX12) hown hK hP hL_this hK_this (by decide +kernel) rfl 9 (by decide +kernel) (hts _ (tw_c tw_831)) rfl dX12_beginOne_21 ?_
        refine lv_iconst (v := 1) hx hb dX12_beginOne_24 (by decide +kernel) ?_
        refine lv_icmp_eq (tgt := 35) hx hb dX12_beginOne_25 (by decide +kernel) (fun c_477 => ?_) (fun c_477 => ?_)
        · have tc_480 : (I 393 this).toInt = 1 := congrArg Int32.toInt c_477
          refine lv_aload_n hx hb dX12_beginOne_35 rfl (lv_at hl 0 rfl) ?_
          refine lv_aload_n hx hb dX12_beginOne_36 rfl (lv_at hl 0 rfl) ?_
          refine pg_f (v := .int (I 393 this)) (C := RX12) (T := TX12) (N := 31) hx hb hts (tw_i inlX12) hown hK hP hL_this hK_this (by decide +kernel) rfl 9 (by decide +kernel) (hts _ (tw_c tw_831)) rfl dX12_beginOne_37 ?_
          refine lv_iconst (v := 1) hx hb dX12_beginOne_40 (by decide +kernel) ?_
          refine lv_icmp_ne (tgt := 48) hx hb dX12_beginOne_41 (by decide +kernel) (fun c_481 => ?_) (fun c_481 => ?_)
          · have tc_484 : (I 393 this).toInt ≠ 1 := fun q => c_481 (Int32.toInt_inj.mp q)
            exact (rg_empty (rg_ne c_481 h_468 1 rfl (lo := 2) (hi := 0) (by decide +kernel)) (by decide +kernel)).elim
          · have tc_485 : (I 393 this).toInt = 1 := congrArg Int32.toInt c_481
            refine lv_iconst (v := 0) hx hb dX12_beginOne_44 (by decide +kernel) ?_
            refine lv_goto (tgt := 49) hx hb dX12_beginOne_45 (by decide +kernel) ?_
            refine lv_aload_n hx hb dX12_beginOne_49 rfl (lv_at hl 0 rfl) ?_
            refine pg_f (v := .int (I 393 this)) (C := RX12) (T := TX12) (N := 31) hx hb hts (tw_i inlX12) hown hK hP hL_this hK_this (by decide +kernel) rfl 9 (by decide +kernel) (hts _ (tw_c tw_831)) rfl dX12_beginOne_50 ?_
            refine lv_iconst (v := 1) hx hb dX12_beginOne_53 (by decide +kernel) ?_
            refine lv_icmp_ne (tgt := 64) hx hb dX12_beginOne_54 (by decide +kernel) (fun c_486 => ?_) (fun c_486 => ?_)
            · have tc_489 : (I 393 this).toInt ≠ 1 := fun q => c_486 (Int32.toInt_inj.mp q)
              exact (rg_empty (rg_ne c_486 h_468 1 rfl (lo := 2) (hi := 0) (by decide +kernel)) (by decide +kernel)).elim
            · have tc_490 : (I 393 this).toInt = 1 := congrArg Int32.toInt c_486
              refine lv_aload_n hx hb dX12_beginOne_57 rfl (lv_at hl 0 rfl) ?_
              refine pg_f (v := .int (I 394 this)) (C := RX12) (T := TX12) (N := 31) hx hb hts (tw_i inlX12) hown hK hP hL_this hK_this (by decide +kernel) rfl 10 (by decide +kernel) (hts _ (tw_c tw_836)) rfl dX12_beginOne_58 ?_
              refine lv_goto (tgt := 68) hx hb dX12_beginOne_61 (by decide +kernel) ?_
              have hq1 := PSz_t hps
              have hq2 := PSz_w hps (Or.inl (by omega))
              refine pk_v (va_runV (As := [.int 0, .int (I 394 this)]) (rest := []) ⟨hx, hb, hml, hown, hts⟩ (s_X12_emit l D t σ I J ri rj rq H.size tg hSH hG.1 this (0 : Int32) (I 394 this) hL_this hK_this this_a hR_this_a hL_this_a hK_this_a hN_this_a hT_this_a (by omega) (by omega)) (cwV 2 hts (tw_V tw_905 tw_906 tw_907 tw_5 tw_908) rfl rfl rfl cv_yX12_emit_2 ⟨Nat.le_of_ble_eq_true rfl, Nat.le_of_ble_eq_true rfl⟩) ⟨pq_blind, pq_recv hK hP hL_this hK_this (by decide +kernel) rfl, pq_pre hK hN hP hD⟩ rfl rfl hl.1 rfl (lv_room (Nat.le_of_ble_eq_true rfl)) dX12_beginOne_68 ⟨Nat.le_of_ble_eq_true rfl, Nat.le_of_ble_eq_true rfl⟩) hD hS hA (fun σ1 μ1 H locs hw_492 hP hD hS => ?_)
              obtain ⟨I_493, ri_494, hu_495, hg_496, hp_498, hp_499, hp_500, hp_501, hfn_502, hfr_503⟩ := hw_492
              obtain ⟨hu_495a, hu_495b⟩ := Prod.mk.inj hu_495
              rw [hu_495a, hu_495b] at hP hD
              replace hF := hF.trans (bv_n hfn_502)
              replace hFr := fr_tr hFr hfr_503
              obtain ⟨v_504, ev_504, hv_504⟩ := hp_498
              have tt_505 : (I_493 398 this).toInt = (I 398 this).toInt + 1 := by rw [ev_504, pq_us]; exact hv_504
              have tt_506 : (I_493 403 this).toInt = (I 403 this).toInt := by rw [ev_504, pq_uf _ _ _ (by decide +kernel)]
              have hG := GM.tr hG hg_496 (by decide +kernel)
              have tt_507 : (I_493 396 this).toInt = (I 396 this).toInt := by rw [hg_496.2.1 396 (by decide +kernel) (by decide +kernel)]
              have tt_508 : (I_493 401 this).toInt = (I 401 this).toInt := by rw [hg_496.2.1 401 (by decide +kernel) (by decide +kernel)]
              have tt_509 : (I_493 402 this).toInt = (I 402 this).toInt := by rw [hg_496.2.1 402 (by decide +kernel) (by decide +kernel)]
              have tt_510 : (I_493 391 this).toInt = (I 391 this).toInt := by rw [hg_496.2.1 391 (by decide +kernel) (by decide +kernel)]
              have tt_511 : (I_493 393 this).toInt = (I 393 this).toInt := by rw [hg_496.2.1 393 (by decide +kernel) (by decide +kernel)]
              have tt_512 : (I_493 397 this).toInt = (I 397 this).toInt := by rw [hg_496.2.1 397 (by decide +kernel) (by decide +kernel)]
              refine lv_aload_n hx hb dX12_beginOne_71 rfl (lv_at hl 0 rfl) ?_
              obtain ⟨w_513, hR_w_513, hL_w_513, hK_w_513, hN_w_513, hT_w_513⟩ := sh_a hSH 387 (ci := 12) (kd := 13) (len := 300) rfl (by decide +kernel) hL_this hK_this
              have hO_w_513 : w_513 = vrow σ 387 this := vo_k (c := 12) hO_this hR_w_513
              refine pk_v (va_runV (As := []) (rest := []) ⟨hx, hb, hml, hown, hts⟩ (s_X12_nextToken_x l D t σ I_493 J ri_494 rj rq H.size tg hSH hG.1 this hL_this hK_this w_513 hR_w_513 hL_w_513 hK_w_513 hN_w_513 hT_w_513) (cwV 0 hts (tw_V tw_832 tw_833 tw_834 tw_5 tw_835) rfl rfl rfl cv_yX12_nextToken_0 ⟨Nat.le_of_ble_eq_true rfl, Nat.le_of_ble_eq_true rfl⟩) ⟨pq_blind, pq_recv hK hP hL_this hK_this (by decide +kernel) rfl, pq_pre hK hN hP hD⟩ rfl rfl hl.1 rfl (lv_room (Nat.le_of_ble_eq_true rfl)) dX12_beginOne_72 ⟨Nat.le_of_ble_eq_true rfl, Nat.le_of_ble_eq_true rfl⟩) hD hS hA (fun σ1 μ1 H locs hw_515 hP hD hS => ?_)
              obtain ⟨I_516, J_517, hu_518, hg_519, hp_521, hp_522, hp_523, hfn_524, hfr_525⟩ := hw_515
              obtain ⟨hu_518a, hu_518b⟩ := Prod.mk.inj hu_518
              rw [hu_518a, hu_518b] at hP hD
              replace hF := hF.trans (bv_n hfn_524)
              replace hFr := fr_tr hFr hfr_525
              have tt_526 := hp_521
              have tt_527 := hp_522
              have tt_528 := hp_523
              have tt_529 : (I_516 391 this).toInt ≤ 300 := by have z := hg_519.1.1 391 this; exact z.2
              have hG := GM.tr hG hg_519 (by decide +kernel)
              have tt_530 : (I_516 396 this).toInt = (I_493 396 this).toInt := by rw [hg_519.2.1 396 (by decide +kernel) (by decide +kernel)]
              have tt_531 : (I_516 398 this).toInt = (I_493 398 this).toInt := by rw [hg_519.2.1 398 (by decide +kernel) (by decide +kernel)]
              have tt_532 : (I_516 401 this).toInt = (I_493 401 this).toInt := by rw [hg_519.2.1 401 (by decide +kernel) (by decide +kernel)]
              have tt_533 : (I_516 402 this).toInt = (I_493 402 this).toInt := by rw [hg_519.2.1 402 (by decide +kernel) (by decide +kernel)]
              have tt_534 : (I_516 397 this).toInt = (I_493 397 this).toInt := by rw [hg_519.2.1 397 (by decide +kernel) (by decide +kernel)]
              refine lv_aload_n hx hb dX12_beginOne_75 rfl (lv_at hl 0 rfl) ?_
              have hpsW : PSz (I_516 396 this).toInt (I_516 398 this).toInt (I_516 401 this).toInt (I_516 402 this).toInt (I_516 391 this).toInt (I_516 393 this).toInt (ri_494 this_a) (ri_494 this_pile) bb f0 fr ba tb nn K 1 := PSz_one hps (by omega) (x := (0 : Int32)) (fun j hj => hp_499 j (by omega)) (by rw [show (I 396 this).toInt + 250 + 2 * (I 398 this).toInt = (I 396 this).toInt + 250 + 2 * (I 398 this).toInt from by omega]; exact hp_500) (by decide +kernel) (by omega) (by omega) (by omega) (by omega) (by omega) (by omega) (by omega) (hp_501 this_pile (tg_ne hT_this_pile hT_this_a (by decide +kernel)))
              have htm : tmM (I_516 391 this).toInt (I_516 393 this).toInt < tmM (I 391 this).toInt (I 393 this).toInt := tm_lt (by omega) (by omega) (by omega)
              refine pk_v (va_runV (As := []) (rest := []) ⟨hx, hb, hml, hown, hts⟩ (s_X12_whole l D t σ I_516 J_517 ri_494 rj rq H.size tg hSH hG.1 this hL_this hK_this this_a hR_this_a hL_this_a hK_this_a hN_this_a hT_this_a this_pile hR_this_pile hL_this_pile hK_this_pile hN_this_pile hT_this_pile bb f0 fr ba tb nn K (by assumption)) (cwV 0 hts (tw_V tw_909 tw_910 tw_911 tw_5 tw_912) rfl rfl rfl cv_yX12_whole_0 ⟨Nat.le_of_ble_eq_true rfl, Nat.le_of_ble_eq_true rfl⟩) ⟨pq_blind, pq_recv hK hP hL_this hK_this (by decide +kernel) rfl, pq_pre hK hN hP hD⟩ rfl rfl hl.1 rfl (lv_room (Nat.le_of_ble_eq_true rfl)) dX12_beginOne_76 ⟨Nat.le_of_ble_eq_true rfl, Nat.le_of_ble_eq_true rfl⟩) hD hS hA (fun σ1 μ1 H locs hw_536 hP hD hS => ?_)
              obtain ⟨I_537, ri_538, hu_539, hg_540, hp_542, hp_543, hfn_544, hfr_545⟩ := hw_536
              obtain ⟨hu_539a, hu_539b⟩ := Prod.mk.inj hu_539
              rw [hu_539a, hu_539b] at hP hD
              replace hF := hF.trans (bv_n hfn_544)
              replace hFr := fr_tr hFr hfr_545
              have tt_546 := hp_543
              have hG := GM.tr hG hg_540 (by decide +kernel)
              have tt_547 : (I_537 396 this).toInt = (I_516 396 this).toInt := by rw [hg_540.2.1 396 (by decide +kernel) (by decide +kernel)]
              have tt_548 : (I_537 391 this).toInt = (I_516 391 this).toInt := by rw [hg_540.2.1 391 (by decide +kernel) (by decide +kernel)]
              have tt_549 : (I_537 393 this).toInt = (I_516 393 this).toInt := by rw [hg_540.2.1 393 (by decide +kernel) (by decide +kernel)]
              have tt_550 : (I_537 397 this).toInt = (I_516 397 this).toInt := by rw [hg_540.2.1 397 (by decide +kernel) (by decide +kernel)]
              refine lv_iconst (v := 0) hx hb dX12_beginOne_79 (by decide +kernel) ?_
              subst hQ
              exact W.iret (v := 0) hx hb hr (fun t1 ht hW => ⟨⟨0, (σ, I_537, J_517, ri_538, rj, rq), rfl, ⟨I_537, J_517, ri_538, rfl, hG, (Or.inr ⟨(by rw [show (I_537 403 this).toInt = 1 from by omega]; exact hp_542), tm_cg htm (by omega) (by omega) rfl rfl⟩), (hF0.symm.trans hF), hFr, (rg_w (rg_k (0 : Int32) 0 rfl) (by decide +kernel))⟩, by rw [ht]; exact hP, va_K.moved hW.alike hK, hD⟩, hS.F ht⟩) hS.2.2 dX12_beginOne_80
        · have tc_551 : (I 393 this).toInt ≠ 1 := fun q => c_477 (Int32.toInt_inj.mp q)
          exact (rg_empty (rg_ne c_477 h_468 1 rfl (lo := 2) (hi := 0) (by decide +kernel)) (by decide +kernel)).elim
      · replace hF := hF.trans (if_neg c_470)
        have tc_552 : 9999 < (I 394 this).toInt := Int32.lt_iff_toInt_lt.mp (nle c_470)
        have h_553 : rg (I 394 this) 10000 2147483647 := rg_lt2 (nle c_470) (rg_k (9999 : Int32) 9999 rfl) (rg_full _) (by decide +kernel)
        have uh_553 := h_553.1
        have vh_553 := h_553.2
        refine lv_iconst (v := 2) hx hb dX12_beginOne_18 (by decide +kernel) ?_
        subst hQ
        exact W.iret (v := 2) hx hb hr (fun t1 ht hW => ⟨⟨2, (σ, I, J, ri, rj, rq), rfl, ⟨I, J, ri, rfl, hG, (Or.inl (by decide +kernel)), (hF0.symm.trans hF), hFr, (rg_w (rg_k (2 : Int32) 2 rfl) (by decide +kernel))⟩, by rw [ht]; exact hP, va_K.moved hW.alike hK, hD⟩, hS.F ht⟩) hS.2.2 dX12_beginOne_19
  exact go _ _ _ hP hD hS hl
