theorem dX12_council_0 : decode cX12_council 0 = .ok (.lload_n 1, 1) := oc_31 (by decide +kernel)
theorem dX12_council_1 : decode cX12_council 1 = .ok (.lconst 0, 1) := oc_9 (by decide +kernel)
theorem dX12_council_2 : decode cX12_council 2 = .ok (.lcmp, 1) := oc_148 (by decide +kernel)
theorem dX12_council_19 : decode cX12_council 19 = .ok (.iconst (-1), 1) := oc_2 (by decide +kernel)
theorem dX12_council_20 : decode cX12_council 20 = .ok (.ireturn, 1) := oc_172 (by decide +kernel)
theorem dX12_council_3 : decode cX12_council 3 = .ok (.ifCond .lt 16, 3) := oc_155 (a := 0) (b := 16) (by decide +kernel)
theorem dX12_council_6 : decode cX12_council 6 = .ok (.lload_n 1, 1) := oc_31 (by decide +kernel)
theorem dX12_council_7 : decode cX12_council 7 = .ok (.aload_n 0, 1) := oc_42 (by decide +kernel)
theorem dX12_council_8 : decode cX12_council 8 = .ok (.getfield 7, 3) := oc_180 (a := 0) (b := 7) (by decide +kernel)
theorem dX12_council_11 : decode cX12_council 11 = .ok (.iconst 5, 1) := oc_8 (by decide +kernel)
theorem dX12_council_12 : decode cX12_council 12 = .ok (.iaload, 1) := oc_46 (by decide +kernel)
theorem dX12_council_13 : decode cX12_council 13 = .ok (.lshr, 1) := oc_123 (by decide +kernel)
theorem dX12_council_14 : decode cX12_council 14 = .ok (.lconst 0, 1) := oc_9 (by decide +kernel)
theorem dX12_council_15 : decode cX12_council 15 = .ok (.lcmp, 1) := oc_148 (by decide +kernel)
theorem dX12_council_16 : decode cX12_council 16 = .ok (.ifCond .eq 5, 3) := oc_153 (a := 0) (b := 5) (by decide +kernel)
theorem dX12_council_21 : decode cX12_council 21 = .ok (.aload_n 0, 1) := oc_42 (by decide +kernel)
theorem dX12_council_22 : decode cX12_council 22 = .ok (.getfield 7, 3) := oc_180 (a := 0) (b := 7) (by decide +kernel)
theorem dX12_council_25 : decode cX12_council 25 = .ok (.iconst 0, 1) := oc_3 (by decide +kernel)
theorem dX12_council_26 : decode cX12_council 26 = .ok (.iaload, 1) := oc_46 (by decide +kernel)
theorem dX12_council_27 : decode cX12_council 27 = .ok (.istore_n 3, 1) := oc_62 (by decide +kernel)
theorem dX12_council_28 : decode cX12_council 28 = .ok (.iconst 0, 1) := oc_3 (by decide +kernel)
theorem dX12_council_29 : decode cX12_council 29 = .ok (.istore 4, 2) := oc_54 (by decide +kernel)
theorem dX12_council_31 : decode cX12_council 31 = .ok (.iconst 0, 1) := oc_3 (by decide +kernel)
theorem dX12_council_32 : decode cX12_council 32 = .ok (.istore 5, 2) := oc_54 (by decide +kernel)
theorem dX12_council_34 : decode cX12_council 34 = .ok (.iconst 0, 1) := oc_3 (by decide +kernel)
theorem dX12_council_35 : decode cX12_council 35 = .ok (.istore 6, 2) := oc_54 (by decide +kernel)
theorem dX12_council_37 : decode cX12_council 37 = .ok (.iconst 0, 1) := oc_3 (by decide +kernel)
theorem dX12_council_38 : decode cX12_council 38 = .ok (.istore 7, 2) := oc_54 (by decide +kernel)
theorem dX12_council_40 : decode cX12_council 40 = .ok (.iload 7, 2) := oc_21 (by decide +kernel)
theorem dX12_council_42 : decode cX12_council 42 = .ok (.aload_n 0, 1) := oc_42 (by decide +kernel)
theorem dX12_council_43 : decode cX12_council 43 = .ok (.getfield 7, 3) := oc_180 (a := 0) (b := 7) (by decide +kernel)
theorem dX12_council_46 : decode cX12_council 46 = .ok (.iconst 5, 1) := oc_8 (by decide +kernel)
theorem dX12_council_47 : decode cX12_council 47 = .ok (.iaload, 1) := oc_46 (by decide +kernel)
theorem dX12_council_48 : decode cX12_council 48 = .ok (.if_icmp .ge 104, 3) := oc_162 (a := 0) (b := 104) (by decide +kernel)
theorem dX12_council_152 : decode cX12_council 152 = .ok (.bipush 100, 2) := oc_16 (a := 100) (by decide +kernel)
theorem dX12_council_154 : decode cX12_council 154 = .ok (.iload 5, 2) := oc_21 (by decide +kernel)
theorem dX12_council_156 : decode cX12_council 156 = .ok (.imul, 1) := oc_104 (by decide +kernel)
theorem dX12_council_157 : decode cX12_council 157 = .ok (.aload_n 0, 1) := oc_42 (by decide +kernel)
theorem dX12_council_158 : decode cX12_council 158 = .ok (.bipush 7, 2) := oc_16 (a := 7) (by decide +kernel)
theorem dX12_council_160 : decode cX12_council 160 = .ok (.iload_n 3, 1) := oc_29 (by decide +kernel)
theorem dX12_council_161 : decode cX12_council 161 = .ok (.bipush 50, 2) := oc_16 (a := 50) (by decide +kernel)
theorem dX12_council_163 : decode cX12_council 163 = .ok (.invokevirtual 304, 3) := oc_182 (a := 1) (b := 48) (by decide +kernel)
theorem dX12_council_166 : decode cX12_council 166 = .ok (.iload 4, 2) := oc_21 (by decide +kernel)
theorem dX12_council_168 : decode cX12_council 168 = .ok (.imul, 1) := oc_104 (by decide +kernel)
theorem dX12_council_169 : decode cX12_council 169 = .ok (.if_icmp .ge 5, 3) := oc_162 (a := 0) (b := 5) (by decide +kernel)
theorem dX12_council_174 : decode cX12_council 174 = .ok (.iload 6, 2) := oc_21 (by decide +kernel)
theorem dX12_council_176 : decode cX12_council 176 = .ok (.ifCond .le 7, 3) := oc_158 (a := 0) (b := 7) (by decide +kernel)
theorem dX12_council_183 : decode cX12_council 183 = .ok (.iconst 0, 1) := oc_3 (by decide +kernel)
theorem dX12_council_184 : decode cX12_council 184 = .ok (.ireturn, 1) := oc_172 (by decide +kernel)
theorem dX12_council_179 : decode cX12_council 179 = .ok (.iconst 1, 1) := oc_4 (by decide +kernel)
theorem dX12_council_180 : decode cX12_council 180 = .ok (.goto 4, 3) := oc_167 (a := 0) (b := 4) (by decide +kernel)
theorem dX12_council_172 : decode cX12_council 172 = .ok (.iconst 2, 1) := oc_5 (by decide +kernel)
theorem dX12_council_173 : decode cX12_council 173 = .ok (.ireturn, 1) := oc_172 (by decide +kernel)
theorem dX12_council_51 : decode cX12_council 51 = .ok (.aload_n 0, 1) := oc_42 (by decide +kernel)
theorem dX12_council_52 : decode cX12_council 52 = .ok (.iload 7, 2) := oc_21 (by decide +kernel)
theorem dX12_council_54 : decode cX12_council 54 = .ok (.iconst 3, 1) := oc_6 (by decide +kernel)
theorem dX12_council_55 : decode cX12_council 55 = .ok (.invokevirtual 94, 3) := oc_182 (a := 0) (b := 94) (by decide +kernel)
theorem dX12_council_58 : decode cX12_council 58 = .ok (.sipush 300, 3) := oc_17 (a := 1) (b := 44) (by decide +kernel)
theorem dX12_council_146 : decode cX12_council 146 = .ok (.iinc 7 1, 3) := oc_132 (b := 1) (by decide +kernel)
theorem dX12_council_149 : decode cX12_council 149 = .ok (.goto (-109), 3) := oc_167 (a := 255) (b := 147) (by decide +kernel)
theorem dX12_council_61 : decode cX12_council 61 = .ok (.if_icmp .eq 85, 3) := oc_159 (a := 0) (b := 85) (by decide +kernel)
theorem dX12_council_64 : decode cX12_council 64 = .ok (.aload_n 0, 1) := oc_42 (by decide +kernel)
theorem dX12_council_65 : decode cX12_council 65 = .ok (.iconst 2, 1) := oc_5 (by decide +kernel)
theorem dX12_council_66 : decode cX12_council 66 = .ok (.iload 7, 2) := oc_21 (by decide +kernel)
theorem dX12_council_68 : decode cX12_council 68 = .ok (.iload_n 3, 1) := oc_29 (by decide +kernel)
theorem dX12_council_69 : decode cX12_council 69 = .ok (.invokevirtual 301, 3) := oc_182 (a := 1) (b := 45) (by decide +kernel)
theorem dX12_council_72 : decode cX12_council 72 = .ok (.ifCond .eq 74, 3) := oc_153 (a := 0) (b := 74) (by decide +kernel)
theorem dX12_council_75 : decode cX12_council 75 = .ok (.aload_n 0, 1) := oc_42 (by decide +kernel)
theorem dX12_council_76 : decode cX12_council 76 = .ok (.iconst 4, 1) := oc_7 (by decide +kernel)
theorem dX12_council_77 : decode cX12_council 77 = .ok (.iload 7, 2) := oc_21 (by decide +kernel)
theorem dX12_council_79 : decode cX12_council 79 = .ok (.iload_n 3, 1) := oc_29 (by decide +kernel)
theorem dX12_council_80 : decode cX12_council 80 = .ok (.invokevirtual 301, 3) := oc_182 (a := 1) (b := 45) (by decide +kernel)
theorem dX12_council_83 : decode cX12_council 83 = .ok (.ifCond .ne 6, 3) := oc_154 (a := 0) (b := 6) (by decide +kernel)
theorem dX12_council_89 : decode cX12_council 89 = .ok (.iinc 4 1, 3) := oc_132 (b := 1) (by decide +kernel)
theorem dX12_council_92 : decode cX12_council 92 = .ok (.lload_n 1, 1) := oc_31 (by decide +kernel)
theorem dX12_council_93 : decode cX12_council 93 = .ok (.iload 7, 2) := oc_21 (by decide +kernel)
theorem dX12_council_95 : decode cX12_council 95 = .ok (.lshr, 1) := oc_123 (by decide +kernel)
theorem dX12_council_96 : decode cX12_council 96 = .ok (.lconst 1, 1) := oc_10 (by decide +kernel)
theorem dX12_council_97 : decode cX12_council 97 = .ok (.land, 1) := oc_127 (by decide +kernel)
theorem dX12_council_98 : decode cX12_council 98 = .ok (.lconst 0, 1) := oc_9 (by decide +kernel)
theorem dX12_council_99 : decode cX12_council 99 = .ok (.lcmp, 1) := oc_148 (by decide +kernel)
theorem dX12_council_100 : decode cX12_council 100 = .ok (.ifCond .ne 6, 3) := oc_154 (a := 0) (b := 6) (by decide +kernel)
theorem dX12_council_106 : decode cX12_council 106 = .ok (.iinc 5 1, 3) := oc_132 (b := 1) (by decide +kernel)
theorem dX12_council_109 : decode cX12_council 109 = .ok (.iload 6, 2) := oc_21 (by decide +kernel)
theorem dX12_council_111 : decode cX12_council 111 = .ok (.aload_n 0, 1) := oc_42 (by decide +kernel)
theorem dX12_council_112 : decode cX12_council 112 = .ok (.iload 7, 2) := oc_21 (by decide +kernel)
theorem dX12_council_114 : decode cX12_council 114 = .ok (.bipush 8, 2) := oc_16 (a := 8) (by decide +kernel)
theorem dX12_council_116 : decode cX12_council 116 = .ok (.invokevirtual 94, 3) := oc_182 (a := 0) (b := 94) (by decide +kernel)
theorem dX12_council_119 : decode cX12_council 119 = .ok (.iconst 1, 1) := oc_4 (by decide +kernel)
theorem dX12_council_143 : decode cX12_council 143 = .ok (.iadd, 1) := oc_96 (by decide +kernel)
theorem dX12_council_144 : decode cX12_council 144 = .ok (.istore 6, 2) := oc_54 (by decide +kernel)
theorem dX12_council_120 : decode cX12_council 120 = .ok (.if_icmp .ne 7, 3) := oc_160 (a := 0) (b := 7) (by decide +kernel)
theorem dX12_council_127 : decode cX12_council 127 = .ok (.aload_n 0, 1) := oc_42 (by decide +kernel)
theorem dX12_council_128 : decode cX12_council 128 = .ok (.iload 7, 2) := oc_21 (by decide +kernel)
theorem dX12_council_130 : decode cX12_council 130 = .ok (.bipush 8, 2) := oc_16 (a := 8) (by decide +kernel)
theorem dX12_council_132 : decode cX12_council 132 = .ok (.invokevirtual 94, 3) := oc_182 (a := 0) (b := 94) (by decide +kernel)
theorem dX12_council_135 : decode cX12_council 135 = .ok (.ifCond .ne 7, 3) := oc_154 (a := 0) (b := 7) (by decide +kernel)
theorem dX12_council_142 : decode cX12_council 142 = .ok (.iconst 0, 1) := oc_3 (by decide +kernel)
theorem dX12_council_138 : decode cX12_council 138 = .ok (.iconst (-1), 1) := oc_2 (by decide +kernel)
theorem dX12_council_139 : decode cX12_council 139 = .ok (.goto 4, 3) := oc_167 (a := 0) (b := 4) (by decide +kernel)
theorem dX12_council_123 : decode cX12_council 123 = .ok (.iconst 1, 1) := oc_4 (by decide +kernel)
theorem dX12_council_124 : decode cX12_council 124 = .ok (.goto 19, 3) := oc_167 (a := 0) (b := 19) (by decide +kernel)
theorem dX12_council_103 : decode cX12_council 103 = .ok (.goto 43, 3) := oc_167 (a := 0) (b := 43) (by decide +kernel)
theorem dX12_council_86 : decode cX12_council 86 = .ok (.goto 60, 3) := oc_167 (a := 0) (b := 60) (by decide +kernel)
theorem dX12_sinks_0 : decode cX12_sinks 0 = .ok (.aload_n 0, 1) := oc_42 (by decide +kernel)
theorem dX12_sinks_1 : decode cX12_sinks 1 = .ok (.iload_n 1, 1) := oc_27 (by decide +kernel)
theorem dX12_sinks_2 : decode cX12_sinks 2 = .ok (.invokevirtual 88, 3) := oc_182 (a := 0) (b := 88) (by decide +kernel)
theorem dX12_sinks_19 : decode cX12_sinks 19 = .ok (.iconst (-1), 1) := oc_2 (by decide +kernel)
theorem dX12_sinks_20 : decode cX12_sinks 20 = .ok (.ireturn, 1) := oc_172 (by decide +kernel)
theorem dX12_sinks_5 : decode cX12_sinks 5 = .ok (.ifCond .eq 14, 3) := oc_153 (a := 0) (b := 14) (by decide +kernel)
theorem dX12_sinks_8 : decode cX12_sinks 8 = .ok (.aload_n 0, 1) := oc_42 (by decide +kernel)
theorem dX12_sinks_9 : decode cX12_sinks 9 = .ok (.iload_n 3, 1) := oc_29 (by decide +kernel)
theorem dX12_sinks_10 : decode cX12_sinks 10 = .ok (.bipush 60, 2) := oc_16 (a := 60) (by decide +kernel)
theorem dX12_sinks_12 : decode cX12_sinks 12 = .ok (.iload_n 2, 1) := oc_28 (by decide +kernel)
theorem dX12_sinks_13 : decode cX12_sinks 13 = .ok (.invokevirtual 369, 3) := oc_182 (a := 1) (b := 113) (by decide +kernel)
theorem dX12_sinks_16 : decode cX12_sinks 16 = .ok (.ifCond .ne 5, 3) := oc_154 (a := 0) (b := 5) (by decide +kernel)
theorem dX12_sinks_21 : decode cX12_sinks 21 = .ok (.aload_n 0, 1) := oc_42 (by decide +kernel)
theorem dX12_sinks_22 : decode cX12_sinks 22 = .ok (.getfield 7, 3) := oc_180 (a := 0) (b := 7) (by decide +kernel)
theorem dX12_sinks_25 : decode cX12_sinks 25 = .ok (.aload_n 0, 1) := oc_42 (by decide +kernel)
theorem tw_178 : Cond.fieldLink RX12 16 "RingsUnderModel" "kept" "[I" ∈ wsL_law := sg_8 _ (List.mem_of_getElem? (i := 10) rfl)
theorem dX12_sinks_26 : decode cX12_sinks 26 = .ok (.getfield 16, 3) := oc_180 (a := 0) (b := 16) (by decide +kernel)
theorem tw_192 : Cond.methodLink RX12 58 yX12_copy ∈ wsL_law := sg_9 _ (List.mem_of_getElem? (i := 0) rfl)
theorem tw_193 : Cond.static yX12_copy ∈ wsL_law := sg_9 _ (List.mem_of_getElem? (i := 1) rfl)
theorem tw_194 : Cond.code yX12_copy cX12_copy 3 none ∈ wsL_law := sg_9 _ (List.mem_of_getElem? (i := 2) rfl)
theorem dX12_sinks_29 : decode cX12_sinks 29 = .ok (.invokestatic 58, 3) := oc_184 (a := 0) (b := 58) (by decide +kernel)
theorem dX12_sinks_32 : decode cX12_sinks 32 = .ok (.iconst (-1), 1) := oc_2 (by decide +kernel)
theorem dX12_sinks_33 : decode cX12_sinks 33 = .ok (.istore 4, 2) := oc_54 (by decide +kernel)
theorem dX12_sinks_35 : decode cX12_sinks 35 = .ok (.iconst 0, 1) := oc_3 (by decide +kernel)
theorem dX12_sinks_36 : decode cX12_sinks 36 = .ok (.istore 5, 2) := oc_54 (by decide +kernel)
theorem dX12_sinks_38 : decode cX12_sinks 38 = .ok (.iload 5, 2) := oc_21 (by decide +kernel)
theorem dX12_sinks_40 : decode cX12_sinks 40 = .ok (.iload_n 3, 1) := oc_29 (by decide +kernel)
theorem dX12_sinks_80 : decode cX12_sinks 80 = .ok (.aload_n 0, 1) := oc_42 (by decide +kernel)
theorem dX12_sinks_81 : decode cX12_sinks 81 = .ok (.getfield 16, 3) := oc_180 (a := 0) (b := 16) (by decide +kernel)
theorem dX12_sinks_84 : decode cX12_sinks 84 = .ok (.aload_n 0, 1) := oc_42 (by decide +kernel)
theorem dX12_sinks_85 : decode cX12_sinks 85 = .ok (.getfield 7, 3) := oc_180 (a := 0) (b := 7) (by decide +kernel)
theorem dX12_sinks_88 : decode cX12_sinks 88 = .ok (.invokestatic 58, 3) := oc_184 (a := 0) (b := 58) (by decide +kernel)
theorem dX12_sinks_91 : decode cX12_sinks 91 = .ok (.iload 4, 2) := oc_21 (by decide +kernel)
theorem dX12_sinks_93 : decode cX12_sinks 93 = .ok (.ireturn, 1) := oc_172 (by decide +kernel)
theorem dX12_sinks_41 : decode cX12_sinks 41 = .ok (.if_icmp .ge 39, 3) := oc_162 (a := 0) (b := 39) (by decide +kernel)
theorem dX12_sinks_44 : decode cX12_sinks 44 = .ok (.iload 4, 2) := oc_21 (by decide +kernel)
theorem dX12_sinks_46 : decode cX12_sinks 46 = .ok (.ifCond .ge 34, 3) := oc_156 (a := 0) (b := 34) (by decide +kernel)
theorem dX12_sinks_49 : decode cX12_sinks 49 = .ok (.aload_n 0, 1) := oc_42 (by decide +kernel)
theorem dX12_sinks_50 : decode cX12_sinks 50 = .ok (.iload_n 2, 1) := oc_28 (by decide +kernel)
theorem dX12_sinks_51 : decode cX12_sinks 51 = .ok (.invokevirtual 372, 3) := oc_182 (a := 1) (b := 116) (by decide +kernel)
theorem dX12_sinks_54 : decode cX12_sinks 54 = .ok (.aload_n 0, 1) := oc_42 (by decide +kernel)
theorem dX12_sinks_55 : decode cX12_sinks 55 = .ok (.iload_n 1, 1) := oc_27 (by decide +kernel)
theorem dX12_sinks_56 : decode cX12_sinks 56 = .ok (.bipush 12, 2) := oc_16 (a := 12) (by decide +kernel)
theorem dX12_sinks_58 : decode cX12_sinks 58 = .ok (.invokevirtual 91, 3) := oc_182 (a := 0) (b := 91) (by decide +kernel)
theorem dX12_sinks_74 : decode cX12_sinks 74 = .ok (.iinc 5 1, 3) := oc_132 (b := 1) (by decide +kernel)
theorem dX12_sinks_77 : decode cX12_sinks 77 = .ok (.goto (-39), 3) := oc_167 (a := 255) (b := 217) (by decide +kernel)
theorem dX12_sinks_61 : decode cX12_sinks 61 = .ok (.ifCond .ne 13, 3) := oc_154 (a := 0) (b := 13) (by decide +kernel)
theorem dX12_sinks_64 : decode cX12_sinks 64 = .ok (.aload_n 0, 1) := oc_42 (by decide +kernel)
theorem dX12_sinks_65 : decode cX12_sinks 65 = .ok (.getfield 7, 3) := oc_180 (a := 0) (b := 7) (by decide +kernel)
theorem dX12_sinks_68 : decode cX12_sinks 68 = .ok (.iconst 0, 1) := oc_3 (by decide +kernel)
theorem dX12_sinks_69 : decode cX12_sinks 69 = .ok (.iaload, 1) := oc_46 (by decide +kernel)
theorem dX12_sinks_70 : decode cX12_sinks 70 = .ok (.iconst 1, 1) := oc_4 (by decide +kernel)
theorem dX12_sinks_71 : decode cX12_sinks 71 = .ok (.isub, 1) := oc_100 (by decide +kernel)
theorem dX12_sinks_72 : decode cX12_sinks 72 = .ok (.istore 4, 2) := oc_54 (by decide +kernel)
theorem dX12_cant_0 : decode cX12_cant 0 = .ok (.aload_n 0, 1) := oc_42 (by decide +kernel)
theorem dX12_cant_1 : decode cX12_cant 1 = .ok (.iload_n 2, 1) := oc_28 (by decide +kernel)
theorem dX12_cant_2 : decode cX12_cant 2 = .ok (.bipush 60, 2) := oc_16 (a := 60) (by decide +kernel)
theorem dX12_cant_4 : decode cX12_cant 4 = .ok (.iload_n 1, 1) := oc_27 (by decide +kernel)
theorem dX12_cant_5 : decode cX12_cant 5 = .ok (.invokevirtual 369, 3) := oc_182 (a := 1) (b := 113) (by decide +kernel)
theorem dX12_cant_8 : decode cX12_cant 8 = .ok (.ifCond .ne 5, 3) := oc_154 (a := 0) (b := 5) (by decide +kernel)
theorem dX12_cant_13 : decode cX12_cant 13 = .ok (.aload_n 0, 1) := oc_42 (by decide +kernel)
theorem dX12_cant_14 : decode cX12_cant 14 = .ok (.getfield 7, 3) := oc_180 (a := 0) (b := 7) (by decide +kernel)
theorem dX12_cant_17 : decode cX12_cant 17 = .ok (.aload_n 0, 1) := oc_42 (by decide +kernel)
theorem dX12_cant_18 : decode cX12_cant 18 = .ok (.getfield 16, 3) := oc_180 (a := 0) (b := 16) (by decide +kernel)
theorem dX12_cant_21 : decode cX12_cant 21 = .ok (.invokestatic 58, 3) := oc_184 (a := 0) (b := 58) (by decide +kernel)
theorem dX12_cant_24 : decode cX12_cant 24 = .ok (.iconst (-1), 1) := oc_2 (by decide +kernel)
theorem dX12_cant_25 : decode cX12_cant 25 = .ok (.istore_n 3, 1) := oc_62 (by decide +kernel)
theorem dX12_cant_26 : decode cX12_cant 26 = .ok (.iconst 0, 1) := oc_3 (by decide +kernel)
theorem dX12_cant_27 : decode cX12_cant 27 = .ok (.istore 4, 2) := oc_54 (by decide +kernel)
theorem dX12_cant_29 : decode cX12_cant 29 = .ok (.iload 4, 2) := oc_21 (by decide +kernel)
theorem dX12_cant_31 : decode cX12_cant 31 = .ok (.iload_n 2, 1) := oc_28 (by decide +kernel)
theorem dX12_cant_67 : decode cX12_cant 67 = .ok (.aload_n 0, 1) := oc_42 (by decide +kernel)
theorem dX12_cant_68 : decode cX12_cant 68 = .ok (.getfield 16, 3) := oc_180 (a := 0) (b := 16) (by decide +kernel)
theorem dX12_cant_71 : decode cX12_cant 71 = .ok (.aload_n 0, 1) := oc_42 (by decide +kernel)
theorem dX12_cant_72 : decode cX12_cant 72 = .ok (.getfield 7, 3) := oc_180 (a := 0) (b := 7) (by decide +kernel)
theorem dX12_cant_75 : decode cX12_cant 75 = .ok (.invokestatic 58, 3) := oc_184 (a := 0) (b := 58) (by decide +kernel)
theorem dX12_cant_78 : decode cX12_cant 78 = .ok (.iload_n 3, 1) := oc_29 (by decide +kernel)
theorem dX12_cant_79 : decode cX12_cant 79 = .ok (.ireturn, 1) := oc_172 (by decide +kernel)
theorem dX12_cant_32 : decode cX12_cant 32 = .ok (.if_icmp .ge 35, 3) := oc_162 (a := 0) (b := 35) (by decide +kernel)
theorem dX12_cant_35 : decode cX12_cant 35 = .ok (.iload_n 3, 1) := oc_29 (by decide +kernel)
theorem dX12_cant_36 : decode cX12_cant 36 = .ok (.ifCond .ge 31, 3) := oc_156 (a := 0) (b := 31) (by decide +kernel)
theorem dX12_cant_39 : decode cX12_cant 39 = .ok (.aload_n 0, 1) := oc_42 (by decide +kernel)
theorem dX12_cant_40 : decode cX12_cant 40 = .ok (.iload_n 1, 1) := oc_27 (by decide +kernel)
theorem dX12_cant_41 : decode cX12_cant 41 = .ok (.invokevirtual 372, 3) := oc_182 (a := 1) (b := 116) (by decide +kernel)
theorem dX12_cant_44 : decode cX12_cant 44 = .ok (.aload_n 0, 1) := oc_42 (by decide +kernel)
theorem dX12_cant_45 : decode cX12_cant 45 = .ok (.getfield 325, 3) := oc_180 (a := 1) (b := 69) (by decide +kernel)
theorem dX12_cant_48 : decode cX12_cant 48 = .ok (.iconst 1, 1) := oc_4 (by decide +kernel)
theorem dX12_cant_61 : decode cX12_cant 61 = .ok (.iinc 4 1, 3) := oc_132 (b := 1) (by decide +kernel)
theorem dX12_cant_64 : decode cX12_cant 64 = .ok (.goto (-35), 3) := oc_167 (a := 255) (b := 221) (by decide +kernel)
theorem dX12_cant_49 : decode cX12_cant 49 = .ok (.if_icmp .ne 12, 3) := oc_160 (a := 0) (b := 12) (by decide +kernel)
theorem dX12_cant_52 : decode cX12_cant 52 = .ok (.aload_n 0, 1) := oc_42 (by decide +kernel)
theorem dX12_cant_53 : decode cX12_cant 53 = .ok (.getfield 7, 3) := oc_180 (a := 0) (b := 7) (by decide +kernel)
theorem dX12_cant_56 : decode cX12_cant 56 = .ok (.iconst 0, 1) := oc_3 (by decide +kernel)
theorem dX12_cant_57 : decode cX12_cant 57 = .ok (.iaload, 1) := oc_46 (by decide +kernel)
theorem dX12_cant_58 : decode cX12_cant 58 = .ok (.iconst 1, 1) := oc_4 (by decide +kernel)
theorem dX12_cant_59 : decode cX12_cant 59 = .ok (.isub, 1) := oc_100 (by decide +kernel)
theorem dX12_cant_60 : decode cX12_cant 60 = .ok (.istore_n 3, 1) := oc_62 (by decide +kernel)
theorem dX12_cant_11 : decode cX12_cant 11 = .ok (.iconst (-1), 1) := oc_2 (by decide +kernel)
theorem dX12_cant_12 : decode cX12_cant 12 = .ok (.ireturn, 1) := oc_172 (by decide +kernel)
theorem dX12_sandBehind_0 : decode cX12_sandBehind 0 = .ok (.iconst 0, 1) := oc_3 (by decide +kernel)
theorem dX12_sandBehind_1 : decode cX12_sandBehind 1 = .ok (.istore 4, 2) := oc_54 (by decide +kernel)
theorem dX12_sandBehind_3 : decode cX12_sandBehind 3 = .ok (.iload 4, 2) := oc_21 (by decide +kernel)
theorem dX12_sandBehind_5 : decode cX12_sandBehind 5 = .ok (.iload_n 3, 1) := oc_29 (by decide +kernel)
theorem dX12_sandBehind_6 : decode cX12_sandBehind 6 = .ok (.if_icmp .ge 14, 3) := oc_162 (a := 0) (b := 14) (by decide +kernel)
theorem dX12_sandBehind_20 : decode cX12_sandBehind 20 = .ok (.aload_n 0, 1) := oc_42 (by decide +kernel)
theorem dX12_sandBehind_21 : decode cX12_sandBehind 21 = .ok (.iload_n 1, 1) := oc_27 (by decide +kernel)
theorem dX12_sandBehind_22 : decode cX12_sandBehind 22 = .ok (.iconst 4, 1) := oc_7 (by decide +kernel)
theorem dX12_sandBehind_23 : decode cX12_sandBehind 23 = .ok (.invokevirtual 91, 3) := oc_182 (a := 0) (b := 91) (by decide +kernel)
theorem dX12_sandBehind_26 : decode cX12_sandBehind 26 = .ok (.istore 4, 2) := oc_54 (by decide +kernel)
theorem dX12_sandBehind_28 : decode cX12_sandBehind 28 = .ok (.aload_n 0, 1) := oc_42 (by decide +kernel)
theorem dX12_sandBehind_29 : decode cX12_sandBehind 29 = .ok (.getfield 16, 3) := oc_180 (a := 0) (b := 16) (by decide +kernel)
theorem dX12_sandBehind_32 : decode cX12_sandBehind 32 = .ok (.aload_n 0, 1) := oc_42 (by decide +kernel)
theorem dX12_sandBehind_33 : decode cX12_sandBehind 33 = .ok (.getfield 7, 3) := oc_180 (a := 0) (b := 7) (by decide +kernel)
theorem dX12_sandBehind_36 : decode cX12_sandBehind 36 = .ok (.invokestatic 58, 3) := oc_184 (a := 0) (b := 58) (by decide +kernel)
theorem dX12_sandBehind_39 : decode cX12_sandBehind 39 = .ok (.iload 4, 2) := oc_21 (by decide +kernel)
theorem dX12_sandBehind_41 : decode cX12_sandBehind 41 = .ok (.ireturn, 1) := oc_172 (by decide +kernel)
theorem dX12_sandBehind_9 : decode cX12_sandBehind 9 = .ok (.aload_n 0, 1) := oc_42 (by decide +kernel)
theorem dX12_sandBehind_10 : decode cX12_sandBehind 10 = .ok (.iload_n 2, 1) := oc_28 (by decide +kernel)
theorem dX12_sandBehind_11 : decode cX12_sandBehind 11 = .ok (.invokevirtual 372, 3) := oc_182 (a := 1) (b := 116) (by decide +kernel)
theorem dX12_sandBehind_14 : decode cX12_sandBehind 14 = .ok (.iinc 4 1, 3) := oc_132 (b := 1) (by decide +kernel)
theorem dX12_sandBehind_17 : decode cX12_sandBehind 17 = .ok (.goto (-14), 3) := oc_167 (a := 255) (b := 242) (by decide +kernel)
theorem dX12_keeps_0 : decode cX12_keeps 0 = .ok (.aload_n 0, 1) := oc_42 (by decide +kernel)
theorem dX12_keeps_1 : decode cX12_keeps 1 = .ok (.iload_n 1, 1) := oc_27 (by decide +kernel)
theorem dX12_keeps_2 : decode cX12_keeps 2 = .ok (.invokevirtual 88, 3) := oc_182 (a := 0) (b := 88) (by decide +kernel)
theorem dX12_keeps_38 : decode cX12_keeps 38 = .ok (.ldc 87, 2) := oc_18 (by decide +kernel)
theorem dX12_keeps_40 : decode cX12_keeps 40 = .ok (.ireturn, 1) := oc_172 (by decide +kernel)
theorem dX12_keeps_5 : decode cX12_keeps 5 = .ok (.ifCond .eq 33, 3) := oc_153 (a := 0) (b := 33) (by decide +kernel)
theorem dX12_keeps_8 : decode cX12_keeps 8 = .ok (.aload_n 0, 1) := oc_42 (by decide +kernel)
theorem dX12_keeps_9 : decode cX12_keeps 9 = .ok (.iload_n 2, 1) := oc_28 (by decide +kernel)
theorem dX12_keeps_10 : decode cX12_keeps 10 = .ok (.invokevirtual 88, 3) := oc_182 (a := 0) (b := 88) (by decide +kernel)
theorem dX12_keeps_13 : decode cX12_keeps 13 = .ok (.ifCond .eq 25, 3) := oc_153 (a := 0) (b := 25) (by decide +kernel)
theorem dX12_keeps_16 : decode cX12_keeps 16 = .ok (.aload_n 0, 1) := oc_42 (by decide +kernel)
theorem dX12_keeps_17 : decode cX12_keeps 17 = .ok (.iload_n 1, 1) := oc_27 (by decide +kernel)
theorem dX12_keeps_18 : decode cX12_keeps 18 = .ok (.bipush 6, 2) := oc_16 (a := 6) (by decide +kernel)
theorem dX12_keeps_20 : decode cX12_keeps 20 = .ok (.invokevirtual 91, 3) := oc_182 (a := 0) (b := 91) (by decide +kernel)
theorem dX12_keeps_23 : decode cX12_keeps 23 = .ok (.ifCond .eq 15, 3) := oc_153 (a := 0) (b := 15) (by decide +kernel)
theorem dX12_keeps_26 : decode cX12_keeps 26 = .ok (.aload_n 0, 1) := oc_42 (by decide +kernel)
theorem dX12_keeps_27 : decode cX12_keeps 27 = .ok (.iload 4, 2) := oc_21 (by decide +kernel)
theorem dX12_keeps_29 : decode cX12_keeps 29 = .ok (.bipush 60, 2) := oc_16 (a := 60) (by decide +kernel)
theorem dX12_keeps_31 : decode cX12_keeps 31 = .ok (.iload_n 3, 1) := oc_29 (by decide +kernel)
theorem dX12_keeps_32 : decode cX12_keeps 32 = .ok (.invokevirtual 369, 3) := oc_182 (a := 1) (b := 113) (by decide +kernel)
theorem dX12_keeps_35 : decode cX12_keeps 35 = .ok (.ifCond .ne 6, 3) := oc_154 (a := 0) (b := 6) (by decide +kernel)
theorem dX12_keeps_41 : decode cX12_keeps 41 = .ok (.aload_n 0, 1) := oc_42 (by decide +kernel)
theorem dX12_keeps_42 : decode cX12_keeps 42 = .ok (.getfield 7, 3) := oc_180 (a := 0) (b := 7) (by decide +kernel)
theorem dX12_keeps_45 : decode cX12_keeps 45 = .ok (.aload_n 0, 1) := oc_42 (by decide +kernel)
theorem dX12_keeps_46 : decode cX12_keeps 46 = .ok (.getfield 16, 3) := oc_180 (a := 0) (b := 16) (by decide +kernel)
theorem dX12_keeps_49 : decode cX12_keeps 49 = .ok (.invokestatic 58, 3) := oc_184 (a := 0) (b := 58) (by decide +kernel)
theorem dX12_keeps_52 : decode cX12_keeps 52 = .ok (.aload_n 0, 1) := oc_42 (by decide +kernel)
theorem dX12_keeps_53 : decode cX12_keeps 53 = .ok (.iload_n 2, 1) := oc_28 (by decide +kernel)
theorem dX12_keeps_54 : decode cX12_keeps 54 = .ok (.iload_n 3, 1) := oc_29 (by decide +kernel)
theorem dX12_keeps_55 : decode cX12_keeps 55 = .ok (.iload 4, 2) := oc_21 (by decide +kernel)
theorem tw_1424 : Cond.methodLink RX12 375 yX12_sandBehind ∈ wsL_law := sg_60 _ (List.mem_of_getElem? (i := 8) rfl)
theorem tw_1425 : Cond.instanceMethod yX12_sandBehind ∈ wsL_law := sg_60 _ (List.mem_of_getElem? (i := 9) rfl)
theorem tw_1426 : Cond.selects RX12 yX12_sandBehind yX12_sandBehind ∈ wsL_law := sg_60 _ (List.mem_of_getElem? (i := 10) rfl)
theorem tw_1427 : Cond.code yX12_sandBehind cX12_sandBehind 5 (some .int) ∈ wsL_law := sg_60 _ (List.mem_of_getElem? (i := 11) rfl)
theorem dX12_keeps_57 : decode cX12_keeps 57 = .ok (.invokevirtual 375, 3) := oc_182 (a := 1) (b := 119) (by decide +kernel)
theorem dX12_keeps_60 : decode cX12_keeps 60 = .ok (.istore 5, 2) := oc_54 (by decide +kernel)
theorem dX12_keeps_62 : decode cX12_keeps 62 = .ok (.aload_n 0, 1) := oc_42 (by decide +kernel)
theorem dX12_keeps_63 : decode cX12_keeps 63 = .ok (.getfield 7, 3) := oc_180 (a := 0) (b := 7) (by decide +kernel)
theorem dX12_keeps_66 : decode cX12_keeps 66 = .ok (.bipush 100, 2) := oc_16 (a := 100) (by decide +kernel)
theorem dX12_keeps_68 : decode cX12_keeps 68 = .ok (.bipush 16, 2) := oc_16 (a := 16) (by decide +kernel)
theorem dX12_keeps_70 : decode cX12_keeps 70 = .ok (.iload_n 1, 1) := oc_27 (by decide +kernel)
theorem dX12_keeps_71 : decode cX12_keeps 71 = .ok (.imul, 1) := oc_104 (by decide +kernel)
theorem dX12_keeps_72 : decode cX12_keeps 72 = .ok (.iadd, 1) := oc_96 (by decide +kernel)
theorem dX12_keeps_73 : decode cX12_keeps 73 = .ok (.bipush 6, 2) := oc_16 (a := 6) (by decide +kernel)
theorem dX12_keeps_75 : decode cX12_keeps 75 = .ok (.iadd, 1) := oc_96 (by decide +kernel)
theorem dX12_keeps_76 : decode cX12_keeps 76 = .ok (.iconst 0, 1) := oc_3 (by decide +kernel)
theorem dX12_keeps_77 : decode cX12_keeps 77 = .ok (.iastore, 1) := oc_79 (by decide +kernel)
theorem dX12_keeps_78 : decode cX12_keeps 78 = .ok (.iload 5, 2) := oc_21 (by decide +kernel)
theorem dX12_keeps_80 : decode cX12_keeps 80 = .ok (.aload_n 0, 1) := oc_42 (by decide +kernel)
theorem dX12_keeps_81 : decode cX12_keeps 81 = .ok (.iload_n 2, 1) := oc_28 (by decide +kernel)
theorem dX12_keeps_82 : decode cX12_keeps 82 = .ok (.iload_n 3, 1) := oc_29 (by decide +kernel)
theorem dX12_keeps_83 : decode cX12_keeps 83 = .ok (.iload 4, 2) := oc_21 (by decide +kernel)
theorem dX12_keeps_85 : decode cX12_keeps 85 = .ok (.invokevirtual 375, 3) := oc_182 (a := 1) (b := 119) (by decide +kernel)
theorem dX12_keeps_88 : decode cX12_keeps 88 = .ok (.isub, 1) := oc_100 (by decide +kernel)
theorem dX12_keeps_89 : decode cX12_keeps 89 = .ok (.ireturn, 1) := oc_172 (by decide +kernel)
theorem dX12_wants_0 : decode cX12_wants 0 = .ok (.iconst 0, 1) := oc_3 (by decide +kernel)
theorem dX12_wants_1 : decode cX12_wants 1 = .ok (.istore_n 1, 1) := oc_60 (by decide +kernel)
theorem dX12_wants_2 : decode cX12_wants 2 = .ok (.iconst 0, 1) := oc_3 (by decide +kernel)
theorem dX12_wants_3 : decode cX12_wants 3 = .ok (.istore_n 2, 1) := oc_61 (by decide +kernel)
theorem dX12_wants_4 : decode cX12_wants 4 = .ok (.iload_n 2, 1) := oc_28 (by decide +kernel)
theorem dX12_wants_5 : decode cX12_wants 5 = .ok (.aload_n 0, 1) := oc_42 (by decide +kernel)
theorem dX12_wants_6 : decode cX12_wants 6 = .ok (.getfield 7, 3) := oc_180 (a := 0) (b := 7) (by decide +kernel)
theorem dX12_wants_9 : decode cX12_wants 9 = .ok (.iconst 5, 1) := oc_8 (by decide +kernel)
theorem dX12_wants_10 : decode cX12_wants 10 = .ok (.iaload, 1) := oc_46 (by decide +kernel)
theorem dX12_wants_11 : decode cX12_wants 11 = .ok (.if_icmp .ge 26, 3) := oc_162 (a := 0) (b := 26) (by decide +kernel)
theorem dX12_wants_37 : decode cX12_wants 37 = .ok (.iload_n 1, 1) := oc_27 (by decide +kernel)
theorem dX12_wants_38 : decode cX12_wants 38 = .ok (.ireturn, 1) := oc_172 (by decide +kernel)
theorem dX12_wants_14 : decode cX12_wants 14 = .ok (.iload_n 1, 1) := oc_27 (by decide +kernel)
theorem dX12_wants_15 : decode cX12_wants 15 = .ok (.aload_n 0, 1) := oc_42 (by decide +kernel)
theorem dX12_wants_16 : decode cX12_wants 16 = .ok (.iload_n 2, 1) := oc_28 (by decide +kernel)
theorem dX12_wants_17 : decode cX12_wants 17 = .ok (.iconst 5, 1) := oc_8 (by decide +kernel)
theorem dX12_wants_18 : decode cX12_wants 18 = .ok (.invokevirtual 94, 3) := oc_182 (a := 0) (b := 94) (by decide +kernel)
theorem dX12_wants_21 : decode cX12_wants 21 = .ok (.aload_n 0, 1) := oc_42 (by decide +kernel)
theorem dX12_wants_22 : decode cX12_wants 22 = .ok (.iload_n 2, 1) := oc_28 (by decide +kernel)
theorem dX12_wants_23 : decode cX12_wants 23 = .ok (.bipush 6, 2) := oc_16 (a := 6) (by decide +kernel)
theorem dX12_wants_25 : decode cX12_wants 25 = .ok (.invokevirtual 94, 3) := oc_182 (a := 0) (b := 94) (by decide +kernel)
theorem dX12_wants_28 : decode cX12_wants 28 = .ok (.iadd, 1) := oc_96 (by decide +kernel)
theorem dX12_wants_29 : decode cX12_wants 29 = .ok (.iadd, 1) := oc_96 (by decide +kernel)
theorem dX12_wants_30 : decode cX12_wants 30 = .ok (.istore_n 1, 1) := oc_60 (by decide +kernel)
theorem dX12_wants_31 : decode cX12_wants 31 = .ok (.iinc 2 1, 3) := oc_132 (b := 1) (by decide +kernel)
theorem dX12_wants_34 : decode cX12_wants 34 = .ok (.goto (-30), 3) := oc_167 (a := 255) (b := 226) (by decide +kernel)
theorem dX12_nextOrder_0 : decode cX12_nextOrder 0 = .ok (.iload_n 1, 1) := oc_27 (by decide +kernel)
theorem dX12_nextOrder_1 : decode cX12_nextOrder 1 = .ok (.iconst 2, 1) := oc_5 (by decide +kernel)
theorem dX12_nextOrder_2 : decode cX12_nextOrder 2 = .ok (.isub, 1) := oc_100 (by decide +kernel)
theorem dX12_nextOrder_3 : decode cX12_nextOrder 3 = .ok (.istore_n 2, 1) := oc_61 (by decide +kernel)
theorem dX12_nextOrder_4 : decode cX12_nextOrder 4 = .ok (.iload_n 2, 1) := oc_28 (by decide +kernel)
theorem dX12_nextOrder_5 : decode cX12_nextOrder 5 = .ok (.ifCond .lt 26, 3) := oc_155 (a := 0) (b := 26) (by decide +kernel)
theorem dX12_nextOrder_31 : decode cX12_nextOrder 31 = .ok (.iload_n 2, 1) := oc_28 (by decide +kernel)
theorem dX12_nextOrder_32 : decode cX12_nextOrder 32 = .ok (.ifCond .ge 5, 3) := oc_156 (a := 0) (b := 5) (by decide +kernel)
theorem dX12_nextOrder_35 : decode cX12_nextOrder 35 = .ok (.iconst 0, 1) := oc_3 (by decide +kernel)
theorem dX12_nextOrder_36 : decode cX12_nextOrder 36 = .ok (.ireturn, 1) := oc_172 (by decide +kernel)
theorem dX12_nextOrder_8 : decode cX12_nextOrder 8 = .ok (.aload_n 0, 1) := oc_42 (by decide +kernel)
theorem tw_191 : Cond.fieldLink RX12 55 "RingsUnderModel" "rings" "[I" ∈ wsL_law := sg_8 _ (List.mem_of_getElem? (i := 23) rfl)
theorem dX12_nextOrder_9 : decode cX12_nextOrder 9 = .ok (.getfield 55, 3) := oc_180 (a := 0) (b := 55) (by decide +kernel)
theorem dX12_nextOrder_12 : decode cX12_nextOrder 12 = .ok (.iload_n 2, 1) := oc_28 (by decide +kernel)
theorem dX12_nextOrder_13 : decode cX12_nextOrder 13 = .ok (.iaload, 1) := oc_46 (by decide +kernel)
theorem dX12_nextOrder_14 : decode cX12_nextOrder 14 = .ok (.aload_n 0, 1) := oc_42 (by decide +kernel)
theorem dX12_nextOrder_15 : decode cX12_nextOrder 15 = .ok (.getfield 55, 3) := oc_180 (a := 0) (b := 55) (by decide +kernel)
theorem dX12_nextOrder_18 : decode cX12_nextOrder 18 = .ok (.iload_n 2, 1) := oc_28 (by decide +kernel)
theorem dX12_nextOrder_19 : decode cX12_nextOrder 19 = .ok (.iconst 1, 1) := oc_4 (by decide +kernel)
theorem dX12_nextOrder_20 : decode cX12_nextOrder 20 = .ok (.iadd, 1) := oc_96 (by decide +kernel)
theorem dX12_nextOrder_21 : decode cX12_nextOrder 21 = .ok (.iaload, 1) := oc_46 (by decide +kernel)
theorem dX12_nextOrder_22 : decode cX12_nextOrder 22 = .ok (.if_icmp .le 9, 3) := oc_164 (a := 0) (b := 9) (by decide +kernel)
theorem dX12_nextOrder_37 : decode cX12_nextOrder 37 = .ok (.iload_n 1, 1) := oc_27 (by decide +kernel)
theorem dX12_nextOrder_38 : decode cX12_nextOrder 38 = .ok (.iconst 1, 1) := oc_4 (by decide +kernel)
theorem dX12_nextOrder_39 : decode cX12_nextOrder 39 = .ok (.isub, 1) := oc_100 (by decide +kernel)
theorem dX12_nextOrder_40 : decode cX12_nextOrder 40 = .ok (.istore_n 3, 1) := oc_62 (by decide +kernel)
theorem dX12_nextOrder_41 : decode cX12_nextOrder 41 = .ok (.aload_n 0, 1) := oc_42 (by decide +kernel)
theorem dX12_nextOrder_42 : decode cX12_nextOrder 42 = .ok (.getfield 55, 3) := oc_180 (a := 0) (b := 55) (by decide +kernel)
theorem dX12_nextOrder_45 : decode cX12_nextOrder 45 = .ok (.iload_n 3, 1) := oc_29 (by decide +kernel)
theorem dX12_nextOrder_46 : decode cX12_nextOrder 46 = .ok (.iaload, 1) := oc_46 (by decide +kernel)
theorem dX12_nextOrder_47 : decode cX12_nextOrder 47 = .ok (.aload_n 0, 1) := oc_42 (by decide +kernel)
theorem dX12_nextOrder_48 : decode cX12_nextOrder 48 = .ok (.getfield 55, 3) := oc_180 (a := 0) (b := 55) (by decide +kernel)
theorem dX12_nextOrder_51 : decode cX12_nextOrder 51 = .ok (.iload_n 2, 1) := oc_28 (by decide +kernel)
theorem dX12_nextOrder_52 : decode cX12_nextOrder 52 = .ok (.iaload, 1) := oc_46 (by decide +kernel)
theorem dX12_nextOrder_53 : decode cX12_nextOrder 53 = .ok (.if_icmp .ge 9, 3) := oc_162 (a := 0) (b := 9) (by decide +kernel)
theorem dX12_nextOrder_62 : decode cX12_nextOrder 62 = .ok (.aload_n 0, 1) := oc_42 (by decide +kernel)
theorem dX12_nextOrder_63 : decode cX12_nextOrder 63 = .ok (.getfield 55, 3) := oc_180 (a := 0) (b := 55) (by decide +kernel)
theorem dX12_nextOrder_66 : decode cX12_nextOrder 66 = .ok (.iload_n 2, 1) := oc_28 (by decide +kernel)
theorem dX12_nextOrder_67 : decode cX12_nextOrder 67 = .ok (.iaload, 1) := oc_46 (by decide +kernel)
theorem dX12_nextOrder_68 : decode cX12_nextOrder 68 = .ok (.istore 4, 2) := oc_54 (by decide +kernel)
theorem dX12_nextOrder_70 : decode cX12_nextOrder 70 = .ok (.aload_n 0, 1) := oc_42 (by decide +kernel)
theorem dX12_nextOrder_71 : decode cX12_nextOrder 71 = .ok (.getfield 55, 3) := oc_180 (a := 0) (b := 55) (by decide +kernel)
theorem dX12_nextOrder_74 : decode cX12_nextOrder 74 = .ok (.iload_n 2, 1) := oc_28 (by decide +kernel)
theorem dX12_nextOrder_75 : decode cX12_nextOrder 75 = .ok (.aload_n 0, 1) := oc_42 (by decide +kernel)
theorem dX12_nextOrder_76 : decode cX12_nextOrder 76 = .ok (.getfield 55, 3) := oc_180 (a := 0) (b := 55) (by decide +kernel)
theorem dX12_nextOrder_79 : decode cX12_nextOrder 79 = .ok (.iload_n 3, 1) := oc_29 (by decide +kernel)
theorem dX12_nextOrder_80 : decode cX12_nextOrder 80 = .ok (.iaload, 1) := oc_46 (by decide +kernel)
theorem dX12_nextOrder_81 : decode cX12_nextOrder 81 = .ok (.iastore, 1) := oc_79 (by decide +kernel)
theorem dX12_nextOrder_82 : decode cX12_nextOrder 82 = .ok (.aload_n 0, 1) := oc_42 (by decide +kernel)
theorem dX12_nextOrder_83 : decode cX12_nextOrder 83 = .ok (.getfield 55, 3) := oc_180 (a := 0) (b := 55) (by decide +kernel)
theorem dX12_nextOrder_86 : decode cX12_nextOrder 86 = .ok (.iload_n 3, 1) := oc_29 (by decide +kernel)
theorem dX12_nextOrder_87 : decode cX12_nextOrder 87 = .ok (.iload 4, 2) := oc_21 (by decide +kernel)
theorem dX12_nextOrder_89 : decode cX12_nextOrder 89 = .ok (.iastore, 1) := oc_79 (by decide +kernel)
theorem dX12_nextOrder_90 : decode cX12_nextOrder 90 = .ok (.iload_n 2, 1) := oc_28 (by decide +kernel)
theorem dX12_nextOrder_91 : decode cX12_nextOrder 91 = .ok (.iconst 1, 1) := oc_4 (by decide +kernel)
theorem dX12_nextOrder_92 : decode cX12_nextOrder 92 = .ok (.iadd, 1) := oc_96 (by decide +kernel)
theorem dX12_nextOrder_93 : decode cX12_nextOrder 93 = .ok (.istore 5, 2) := oc_54 (by decide +kernel)
theorem dX12_nextOrder_95 : decode cX12_nextOrder 95 = .ok (.iload_n 1, 1) := oc_27 (by decide +kernel)
theorem dX12_nextOrder_96 : decode cX12_nextOrder 96 = .ok (.iconst 1, 1) := oc_4 (by decide +kernel)
theorem dX12_nextOrder_97 : decode cX12_nextOrder 97 = .ok (.isub, 1) := oc_100 (by decide +kernel)
theorem dX12_nextOrder_98 : decode cX12_nextOrder 98 = .ok (.istore 6, 2) := oc_54 (by decide +kernel)
theorem dX12_nextOrder_100 : decode cX12_nextOrder 100 = .ok (.iload 5, 2) := oc_21 (by decide +kernel)
theorem dX12_nextOrder_102 : decode cX12_nextOrder 102 = .ok (.iload 6, 2) := oc_21 (by decide +kernel)
theorem dX12_nextOrder_104 : decode cX12_nextOrder 104 = .ok (.if_icmp .ge 44, 3) := oc_162 (a := 0) (b := 44) (by decide +kernel)
theorem dX12_nextOrder_148 : decode cX12_nextOrder 148 = .ok (.iconst 1, 1) := oc_4 (by decide +kernel)
theorem dX12_nextOrder_149 : decode cX12_nextOrder 149 = .ok (.ireturn, 1) := oc_172 (by decide +kernel)
theorem dX12_nextOrder_107 : decode cX12_nextOrder 107 = .ok (.aload_n 0, 1) := oc_42 (by decide +kernel)
theorem dX12_nextOrder_108 : decode cX12_nextOrder 108 = .ok (.getfield 55, 3) := oc_180 (a := 0) (b := 55) (by decide +kernel)
theorem dX12_nextOrder_111 : decode cX12_nextOrder 111 = .ok (.iload 5, 2) := oc_21 (by decide +kernel)
theorem dX12_nextOrder_113 : decode cX12_nextOrder 113 = .ok (.iaload, 1) := oc_46 (by decide +kernel)
theorem dX12_nextOrder_114 : decode cX12_nextOrder 114 = .ok (.istore 4, 2) := oc_54 (by decide +kernel)
theorem dX12_nextOrder_116 : decode cX12_nextOrder 116 = .ok (.aload_n 0, 1) := oc_42 (by decide +kernel)
theorem dX12_nextOrder_117 : decode cX12_nextOrder 117 = .ok (.getfield 55, 3) := oc_180 (a := 0) (b := 55) (by decide +kernel)
theorem dX12_nextOrder_120 : decode cX12_nextOrder 120 = .ok (.iload 5, 2) := oc_21 (by decide +kernel)
theorem dX12_nextOrder_122 : decode cX12_nextOrder 122 = .ok (.aload_n 0, 1) := oc_42 (by decide +kernel)
theorem dX12_nextOrder_123 : decode cX12_nextOrder 123 = .ok (.getfield 55, 3) := oc_180 (a := 0) (b := 55) (by decide +kernel)
theorem dX12_nextOrder_126 : decode cX12_nextOrder 126 = .ok (.iload 6, 2) := oc_21 (by decide +kernel)
theorem dX12_nextOrder_128 : decode cX12_nextOrder 128 = .ok (.iaload, 1) := oc_46 (by decide +kernel)
theorem dX12_nextOrder_129 : decode cX12_nextOrder 129 = .ok (.iastore, 1) := oc_79 (by decide +kernel)
theorem dX12_nextOrder_130 : decode cX12_nextOrder 130 = .ok (.aload_n 0, 1) := oc_42 (by decide +kernel)
theorem dX12_nextOrder_131 : decode cX12_nextOrder 131 = .ok (.getfield 55, 3) := oc_180 (a := 0) (b := 55) (by decide +kernel)
theorem dX12_nextOrder_134 : decode cX12_nextOrder 134 = .ok (.iload 6, 2) := oc_21 (by decide +kernel)
theorem dX12_nextOrder_136 : decode cX12_nextOrder 136 = .ok (.iload 4, 2) := oc_21 (by decide +kernel)
theorem dX12_nextOrder_138 : decode cX12_nextOrder 138 = .ok (.iastore, 1) := oc_79 (by decide +kernel)
theorem dX12_nextOrder_139 : decode cX12_nextOrder 139 = .ok (.iinc 5 1, 3) := oc_132 (b := 1) (by decide +kernel)
theorem dX12_nextOrder_142 : decode cX12_nextOrder 142 = .ok (.iinc 6 (-1), 3) := oc_132 (b := 255) (by decide +kernel)
theorem dX12_nextOrder_145 : decode cX12_nextOrder 145 = .ok (.goto (-45), 3) := oc_167 (a := 255) (b := 211) (by decide +kernel)
theorem dX12_nextOrder_56 : decode cX12_nextOrder 56 = .ok (.iinc 3 (-1), 3) := oc_132 (b := 255) (by decide +kernel)
theorem dX12_nextOrder_59 : decode cX12_nextOrder 59 = .ok (.goto (-18), 3) := oc_167 (a := 255) (b := 238) (by decide +kernel)
theorem dX12_nextOrder_25 : decode cX12_nextOrder 25 = .ok (.iinc 2 (-1), 3) := oc_132 (b := 255) (by decide +kernel)
theorem dX12_nextOrder_28 : decode cX12_nextOrder 28 = .ok (.goto (-24), 3) := oc_167 (a := 255) (b := 232) (by decide +kernel)
set_option maxHeartbeats 4000000 in
set_option maxRecDepth 100000 in
theorem s_X12_personAt_c8 (l : Launch) (D : va_G) (t : pq_T) (σ : pq_S) (I : Nat → Nat → Int32) (J : Nat → Nat → Int64) (ri : Nat → Nat → Int32) (rj : Nat → Nat → Int64) (rq : Nat → Nat → Option Nat) (sz : Nat) (tg : Nat → Nat) (hSH : SH σ tg) (hG0 : GT tg I ri) (this : Nat) (a0 : Int32) (hL_this : this ∈ σ.1) (hK_this : σ.2.1 this = 12) (h_a0 : rg a0 0 39) (this_a : Nat) (hR_this_a : σ.2.2.1 384 this = some this_a) (hL_this_a : this_a ∈ σ.1) (hK_this_a : σ.2.1 this_a = 13) (hN_this_a : σ.2.2.2 this_a = 12720) (hT_this_a : tg this_a = 384) : MetI l yX12_personAt (wa yX12_personAt cX12_personAt 3 (some .int)) ({ frames := 0, cells := 0, slots := 0, locals := 0 }) [.ref this, .int a0, .int 8] D t σ (I, J, ri, rj, rq) sz 0 0 (fun (r : Int32) (u : pq_S × pq_M) => u = (σ, I, J, ri, rj, rq) ∧ (r = ri this_a (748 + 12 * a0.toNatClampNeg))) := by
  refine Met.ofW (cc := cX12_personAt) (maxL := 3) (ret := (some .int)) (by decide) rfl ?_
  intro p e s m args below meth c s₁ B hml hv
  obtain ⟨rfl, hsz, hP, hK, hD0, hN⟩ := hv
  have hx := B.exec
  have hb := B.bytes
  have hr := B.returns
  have hts := atoms_spec (ws := (wa yX12_personAt cX12_personAt 3 (some .int))) B.pre
  have hown : s.vm.findClass RX12 = some m.cls := findClass_of_methodNamed B.named
  have hlocks := B.notSynchronized
  subst hsz
  have hD : va_D (pq_B t σ (I, J, ri, rj, rq) s.heap.size) (pq_P t σ (I, J, ri, rj, rq)) := hD0.self
  generalize hAe : pq_B t σ (I, J, ri, rj, rq) s.heap.size = A at hD ⊢
  have hA : ∀ q : Nat, s.heap.size ≤ q → A q := fun q h => by rw [← hAe]; exact Or.inr h
  have hS : va_S A s.heap s.heap [] := va_S.rf
  have hG : GM [] tg σ I ri I ri rq := ⟨hG0, fun _ _ _ => rfl, fun _ _ _ _ _ => rfl, fun _ _ _ _ _ _ => rfl⟩
  have hl := lv_entry ([.ref this, .int a0, .int 8]) (n := 3) (Nat.le_of_ble_eq_true rfl)
  rw [lg_entry_eq]
  generalize (lg_sl ([.ref this, .int a0, .int 8]) ++ List.replicate (3 - (lg_sl ([.ref this, .int a0, .int 8])).length) Slot.unset).toArray = ls at hl ⊢
  have hl : lv_has ls 3 [(0, .ref this), (1, .int a0), (2, .int 8)] := hl
  refine q_gen (fun Q hQ => ?_)
  have go : ∀ (H : Heap) (locs : List Loc) (ls : Array Slot), va_P D vwCl (pq_P t σ (I, J, ri, rj, rq)) H → va_D A (pq_P t σ (I, J, ri, rj, rq)) → va_S A s.heap H locs → lv_has ls 3 [(0, .ref this), (1, .int a0), (2, .int 8)] → W p l e ({ frames := 0, cells := 0, slots := 0, locals := 0 } : Room) s m (List.toArray ([.ref this, .int a0, .int 8] : List Value)) below meth c H locs 0 0 Q (F0 m 0 ls []) := by
    intro H locs ls hP hD hS hl
    refine lv_aload_n hx hb dX12_personAt_0 rfl (lv_at hl 0 rfl) ?_
    refine pg_f (v := .ref this_a) (C := RX12) (T := TX12) (N := 31) hx hb hts (tw_i inlX12) hown hK hP hL_this hK_this (by decide) rfl 0 (by decide) (hts _ (tw_c tw_176)) (pq_hv rfl hR_this_a) dX12_personAt_1 ?_
    refine lv_sipush (v := 740) hx hb dX12_personAt_4 (by decide) ?_
    refine lv_bipush (v := 12) hx hb dX12_personAt_7 (by decide) ?_
    refine lv_iload_n hx hb dX12_personAt_9 rfl (lv_at hl 1 rfl) ?_
    refine lv_imul hx hb dX12_personAt_10 ?_
    refine lv_topi (fun x_1 ex_1 => ?_)
    have h_2 : rg x_1 0 468 := rg_of_eq ex_1 (rg_mul (rg_k (12 : Int32) 12 rfl) h_a0 (by decide))
    have uh_2 := h_2.1
    have vh_2 := h_2.2
    have tx_1 : (x_1).toInt = 12 * (a0).toInt := by rw [ex_1]; exact i_mul_rg (a2 := 12) (b2 := (a0).toInt) rfl rfl (rg_k (12 : Int32) 12 rfl) h_a0 (by decide)
    refine lv_iadd hx hb dX12_personAt_11 ?_
    refine lv_topi (fun x_3 ex_3 => ?_)
    have h_4 : rg x_3 740 1208 := rg_of_eq ex_3 (rg_add (rg_k (740 : Int32) 740 rfl) h_2 (by decide))
    have uh_4 := h_4.1
    have vh_4 := h_4.2
    have tx_3 : (x_3).toInt = 740 + (x_1).toInt := by rw [ex_3]; exact i_add_rg (a2 := 740) (b2 := (x_1).toInt) rfl rfl (rg_k (740 : Int32) 740 rfl) h_2 (by decide)
    refine lv_iload_n hx hb dX12_personAt_12 rfl (lv_at hl 2 rfl) ?_
    refine lv_iadd hx hb dX12_personAt_13 ?_
    refine lv_topi (fun x_5 ex_5 => ?_)
    have h_6 : rg x_5 748 1216 := rg_of_eq ex_5 (rg_add h_4 (rg_k (8 : Int32) 8 rfl) (by decide))
    have uh_6 := h_6.1
    have vh_6 := h_6.2
    have tx_5 : (x_5).toInt = (x_3).toInt + 8 := by rw [ex_5]; exact i_add_rg (a2 := (x_3).toInt) (b2 := 8) rfl rfl h_4 (rg_k (8 : Int32) 8 rfl) (by decide)
    refine pl_i hx hb hK hP hL_this_a hK_this_a hN_this_a (rg_in h_6 (by decide)) dX12_personAt_14 ?_
    refine lv_topi (fun x_7 ex_7 => ?_)
    subst hQ
    exact W.iret (v := x_7) hx hb hr (fun t1 ht hW => ⟨⟨x_7, (σ, I, J, ri, rj, rq), rfl, ⟨rfl, (show x_7 = ri this_a (748 + 12 * a0.toNatClampNeg) from ex_7.trans (congrArg (ri this_a) (by have z0 := clampE a0; have z1 := clampE x_5; omega)))⟩, by rw [ht]; exact hP, va_K.moved hW.alike hK, hD⟩, hS.F ht⟩) hS.2.2 dX12_personAt_15
  exact go _ _ _ hP hD hS hl

set_option maxHeartbeats 4000000 in
set_option maxRecDepth 100000 in
theorem s_X12_council (l : Launch) (D : va_G) (t : pq_T) (σ : pq_S) (I : Nat → Nat → Int32) (J : Nat → Nat → Int64) (ri : Nat → Nat → Int32) (rj : Nat → Nat → Int64) (rq : Nat → Nat → Option Nat) (sz : Nat) (tg : Nat → Nat) (hSH : SH σ tg) (hG0 : GT tg I ri) (this : Nat) (a0 : Int64) (hL_this : this ∈ σ.1) (hK_this : σ.2.1 this = 12) : MetI l yX12_council (wa yX12_council cX12_council 8 (some .int)) ({ frames := 5, cells := 0, slots := 0, locals := 125 }) [.ref this, .long a0] D t σ (I, J, ri, rj, rq) sz 0 0 (fun (r : Int32) (u : pq_S × pq_M) => ∃ ri' : Nat → Nat → Int32, ∃ rj' : Nat → Nat → Int64, u = (σ, I, J, ri', rj', rq) ∧ GM [] tg σ I ri I ri' rq ∧ rg r (-1) 2) := by
  refine Met.ofW (cc := cX12_council) (maxL := 8) (ret := (some .int)) (by decide) rfl ?_
  intro p e s m args below meth c s₁ B hml hv
  obtain ⟨rfl, hsz, hP, hK, hD0, hN⟩ := hv
  have hx := B.exec
  have hb := B.bytes
  have hr := B.returns
  have hts := atoms_spec (ws := (wa yX12_council cX12_council 8 (some .int))) B.pre
  have hown : s.vm.findClass RX12 = some m.cls := findClass_of_methodNamed B.named
  have hlocks := B.notSynchronized
  subst hsz
  have hD : va_D (pq_B t σ (I, J, ri, rj, rq) s.heap.size) (pq_P t σ (I, J, ri, rj, rq)) := hD0.self
  generalize hAe : pq_B t σ (I, J, ri, rj, rq) s.heap.size = A at hD ⊢
  have hA : ∀ q : Nat, s.heap.size ≤ q → A q := fun q h => by rw [← hAe]; exact Or.inr h
  have hS : va_S A s.heap s.heap [] := va_S.rf
  have hG : GM [] tg σ I ri I ri rq := ⟨hG0, fun _ _ _ => rfl, fun _ _ _ _ _ => rfl, fun _ _ _ _ _ _ => rfl⟩
  have hl := lv_entry ([.ref this, .long a0]) (n := 8) (Nat.le_of_ble_eq_true rfl)
  rw [lg_entry_eq]
  generalize (lg_sl ([.ref this, .long a0]) ++ List.replicate (8 - (lg_sl ([.ref this, .long a0])).length) Slot.unset).toArray = ls at hl ⊢
  have hl : lv_has ls 8 [(0, .ref this), (1, .long a0)] := hl
  refine q_gen (fun Q hQ => ?_)
  have go : ∀ (H : Heap) (locs : List Loc) (ls : Array Slot), va_P D vwCl (pq_P t σ (I, J, ri, rj, rq)) H → va_D A (pq_P t σ (I, J, ri, rj, rq)) → va_S A s.heap H locs → lv_has ls 8 [(0, .ref this), (1, .long a0)] → W p l e ({ frames := 5, cells := 0, slots := 0, locals := 125 } : Room) s m (List.toArray ([.ref this, .long a0] : List Value)) below meth c H locs 0 0 Q (F0 m 0 ls []) := by
    intro H locs ls hP hD hS hl
    refine lv_lload_n hx hb dX12_council_0 rfl (lv_at hl 1 rfl) ?_
    refine lv_lconst (v := 0) hx hb dX12_council_1 (by decide) ?_
    refine W.lcmp hx hb dX12_council_2 ?_
    refine lv_topi (fun x_1 ex_1 => ?_)
    have K_3065 : ∀  (H : Heap) (locs : List Loc) (ls : Array Slot), GM [] tg σ I ri I ri rq → va_P D vwCl (pq_P t σ (I, J, ri, rj, rq)) H → va_D A (pq_P t σ (I, J, ri, rj, rq)) → va_S A s.heap H locs → lv_has ls 8 [] → W p l e ({ frames := 5, cells := 0, slots := 0, locals := 125 } : Room) s m (List.toArray ([.ref this, .long a0] : List Value)) below meth c H locs 0 0 Q (F0 m 19 ls []) := by
      intro H locs ls hG hP hD hS hl
      refine lv_iconst (v := (-1)) hx hb dX12_council_19 (by decide) ?_
      subst hQ
      exact W.iret (v := (-1)) hx hb hr (fun t1 ht hW => ⟨⟨(-1), (σ, I, J, ri, rj, rq), rfl, ⟨ri, rj, rfl, hG, (rg_w (rg_k (-1 : Int32) (-1) rfl) (by decide))⟩, by rw [ht]; exact hP, va_K.moved hW.alike hK, hD⟩, hS.F ht⟩) hS.2.2 dX12_council_20
    refine lv_if_lt (tgt := 19) hx hb dX12_council_3 (by decide) (fun c_3066 => ?_) (fun c_3066 => ?_)
    · have tc_3067 : (x_1).toInt < 0 := Int32.lt_iff_toInt_lt.mp c_3066
      have h_3068 : rg x_1 (-2147483648) (-1) := rg_lt1 c_3066 (rg_full _) (rg_k (0 : Int32) 0 rfl) (by decide)
      have uh_3068 := h_3068.1
      have vh_3068 := h_3068.2
      exact K_3065 _ _ _ hG hP hD hS (lv_sub hl [] rfl)
    · have tc_3069 : 0 ≤ (x_1).toInt := Int32.le_iff_toInt_le.mp (nlt c_3066)
      have h_3070 : rg x_1 0 2147483647 := rg_le2 (nlt c_3066) (rg_k (0 : Int32) 0 rfl) (rg_full _) (by decide)
      have uh_3070 := h_3070.1
      have vh_3070 := h_3070.2
      refine lv_lload_n hx hb dX12_council_6 rfl (lv_at hl 1 rfl) ?_
      refine lv_aload_n hx hb dX12_council_7 rfl (lv_at hl 0 rfl) ?_
      obtain ⟨w_3071, hR_w_3071, hL_w_3071, hK_w_3071, hN_w_3071, hT_w_3071⟩ := sh_a hSH 384 (ci := 12) (kd := 13) (len := 12720) rfl (by decide) hL_this hK_this
      refine pg_f (v := .ref w_3071) (C := RX12) (T := TX12) (N := 31) hx hb hts (tw_i inlX12) hown hK hP hL_this hK_this (by decide) rfl 0 (by decide) (hts _ (tw_c tw_176)) (pq_hv rfl hR_w_3071) dX12_council_8 ?_
      refine lv_iconst (v := 5) hx hb dX12_council_11 (by decide) ?_
      refine pl_i hx hb hK hP hL_w_3071 hK_w_3071 hN_w_3071 (vp_in_iff.mpr (by decide)) dX12_council_12 ?_
      refine lv_tov (ri w_3071 5) rfl ?_
      have h_3072 : rg (ri w_3071 5) 0 40 := GM.z0 hG0 (by rw [hT_w_3071]; decide) (i := 5) (k := 5) (by decide) rfl
      have uh_3072 := h_3072.1
      have vh_3072 := h_3072.2
      refine lv_lshr hx hb dX12_council_13 rfl ?_
      refine lv_topl (fun x_3073 ex_3073 => ?_)
      refine lv_lconst (v := 0) hx hb dX12_council_14 (by decide) ?_
      refine W.lcmp hx hb dX12_council_15 ?_
      refine lv_topi (fun x_3074 ex_3074 => ?_)
      refine lv_if_eq (tgt := 21) hx hb dX12_council_16 (by decide) (fun c_3075 => ?_) (fun c_3075 => ?_)
      · have tc_3076 : (x_3074).toInt = 0 := congrArg Int32.toInt c_3075
        have h_3077 : rg x_3074 0 0 := rg_and (rg_full _) (rg_of_eq c_3075 (rg_k (0 : Int32) 0 rfl)) (by decide)
        have uh_3077 := h_3077.1
        have vh_3077 := h_3077.2
        refine lv_aload_n hx hb dX12_council_21 rfl (lv_at hl 0 rfl) ?_
        refine pg_f (v := .ref w_3071) (C := RX12) (T := TX12) (N := 31) hx hb hts (tw_i inlX12) hown hK hP hL_this hK_this (by decide) rfl 0 (by decide) (hts _ (tw_c tw_176)) (pq_hv rfl hR_w_3071) dX12_council_22 ?_
        refine lv_iconst (v := 0) hx hb dX12_council_25 (by decide) ?_
        refine pl_i hx hb hK hP hL_w_3071 hK_w_3071 hN_w_3071 (vp_in_iff.mpr (by decide)) dX12_council_26 ?_
        refine lv_tov (ri w_3071 0) rfl ?_
        have h_3078 : rg (ri w_3071 0) 0 600 := GM.z0 hG0 (by rw [hT_w_3071]; decide) (i := 0) (k := 0) (by decide) rfl
        have uh_3078 := h_3078.1
        have vh_3078 := h_3078.2
        refine lv_istore_n (lv' := [(3, .int (ri w_3071 0)), (0, .ref this), (1, .long a0)]) hx hb dX12_council_27 rfl hl (by decide) rfl (fun ls hl => ?_)
        refine lv_iconst (v := 0) hx hb dX12_council_28 (by decide) ?_
        refine lv_istore (lv' := [(4, .int 0), (3, .int (ri w_3071 0)), (0, .ref this), (1, .long a0)]) hx hb dX12_council_29 hl (by decide) rfl (fun ls hl => ?_)
        refine lv_iconst (v := 0) hx hb dX12_council_31 (by decide) ?_
        refine lv_istore (lv' := [(5, .int 0), (4, .int 0), (3, .int (ri w_3071 0)), (0, .ref this), (1, .long a0)]) hx hb dX12_council_32 hl (by decide) rfl (fun ls hl => ?_)
        refine lv_iconst (v := 0) hx hb dX12_council_34 (by decide) ?_
        refine lv_istore (lv' := [(6, .int 0), (5, .int 0), (4, .int 0), (3, .int (ri w_3071 0)), (0, .ref this), (1, .long a0)]) hx hb dX12_council_35 hl (by decide) rfl (fun ls hl => ?_)
        refine lv_iconst (v := 0) hx hb dX12_council_37 (by decide) ?_
        refine lv_istore (lv' := [(7, .int 0), (6, .int 0), (5, .int 0), (4, .int 0), (3, .int (ri w_3071 0)), (0, .ref this), (1, .long a0)]) hx hb dX12_council_38 hl (by decide) rfl (fun ls hl => ?_)
        have L_6023 : ∀ (n_6022 : Nat) (x_5910 : Int32) (x_5911 : Int32) (x_5912 : Int32) (x_5913 : Int32) (ri_5914 : Nat → Nat → Int32) (rj_5915 : Nat → Nat → Int64) (H : Heap) (locs : List Loc) (ls : Array Slot), rg x_5913 0 40 → (40 - (x_5913).toInt).toNat < n_6022 → GM [] tg σ I ri I ri_5914 rq → va_P D vwCl (pq_P t σ (I, J, ri_5914, rj_5915, rq)) H → va_D A (pq_P t σ (I, J, ri_5914, rj_5915, rq)) → va_S A s.heap H locs → lv_has ls 8 [(0, .ref this), (1, .long a0), (3, .int (ri w_3071 0)), (4, .int x_5910), (5, .int x_5911), (6, .int x_5912), (7, .int x_5913)] → W p l e ({ frames := 5, cells := 0, slots := 0, locals := 125 } : Room) s m (List.toArray ([.ref this, .long a0] : List Value)) below meth c H locs 0 0 Q (F0 m 40 ls []) := by
          intro n_6022
          induction n_6022 with
          | zero => intro x_5910 x_5911 x_5912 x_5913 ri_5914 rj_5915 H locs ls h_6026 hm_6021 hG hP hD hS hl; exact absurd hm_6021 (Nat.not_lt_zero _)
          | succ n_6022 ih_6024 =>
            intro x_5910 x_5911 x_5912 x_5913 ri_5914 rj_5915 H locs ls h_6026 hm_6021 hG hP hD hS hl
            have uh_6026 := h_6026.1
            have vh_6026 := h_6026.2
            refine lv_iload hx hb dX12_council_40 (lv_at hl 6 rfl) ?_
            refine lv_aload_n hx hb dX12_council_42 rfl (lv_at hl 0 rfl) ?_
            refine pg_f (v := .ref w_3071) (C := RX12) (T := TX12) (N := 31) hx hb hts (tw_i inlX12) hown hK hP hL_this hK_this (by decide) rfl 0 (by decide) (hts _ (tw_c tw_176)) (pq_hv rfl hR_w_3071) dX12_council_43 ?_
            refine lv_iconst (v := 5) hx hb dX12_council_46 (by decide) ?_
            refine pl_i hx hb hK hP hL_w_3071 hK_w_3071 hN_w_3071 (vp_in_iff.mpr (by decide)) dX12_council_47 ?_
            refine lv_tov (ri w_3071 5) (hG.2.2.1 w_3071 hT_w_3071 5 (by decide) (by decide)) ?_
            refine lv_icmp_ge (tgt := 152) hx hb dX12_council_48 (by decide) (fun c_6027 => ?_) (fun c_6027 => ?_)
            · have tc_6028 : (ri w_3071 5).toInt ≤ (x_5913).toInt := Int32.le_iff_toInt_le.mp c_6027
              refine lv_bipush (v := 100) hx hb dX12_council_152 (by decide) ?_
              refine lv_iload hx hb dX12_council_154 (lv_at hl 4 rfl) ?_
              refine lv_imul hx hb dX12_council_156 ?_
              refine lv_topi (fun x_6029 ex_6029 => ?_)
              refine lv_aload_n hx hb dX12_council_157 rfl (lv_at hl 0 rfl) ?_
              refine lv_bipush (v := 7) hx hb dX12_council_158 (by decide) ?_
              refine lv_iload_n hx hb dX12_council_160 rfl (lv_at hl 2 rfl) ?_
              refine lv_bipush (v := 50) hx hb dX12_council_161 (by decide) ?_
              refine pk_i (va_runV (As := [.int 7, .int (ri w_3071 0), .int 50]) (rest := [.int x_6029]) ⟨hx, hb, hml, hown, hts⟩ (s_X12_numberOf l D t σ I J ri_5914 rj_5915 rq H.size tg hSH hG.1 this (7 : Int32) (ri w_3071 0) (50 : Int32) hL_this hK_this w_3071 hR_w_3071 hL_w_3071 hK_w_3071 hN_w_3071 hT_w_3071) (cwV 3 hts (tw_V tw_1016 tw_1017 tw_1018 tw_5 tw_1019) rfl rfl rfl cv_yX12_numberOf_3 ⟨Nat.le_of_ble_eq_true rfl, Nat.le_of_ble_eq_true rfl⟩) ⟨pq_blind, pq_recv hK hP hL_this hK_this (by decide) rfl, pq_pre hK hN hP hD⟩ rfl rfl hl.1 rfl (lv_room (Nat.le_of_ble_eq_true rfl)) dX12_council_163 ⟨Nat.le_of_ble_eq_true rfl, Nat.le_of_ble_eq_true rfl⟩) hD hS hA (fun x_6030 σ1 μ1 H locs hw_6031 hP hD hS => ?_)
              have hu_6032 := hw_6031
              obtain ⟨hu_6032a, hu_6032b⟩ := Prod.mk.inj hu_6032
              rw [hu_6032a, hu_6032b] at hP hD
              refine lv_iload hx hb dX12_council_166 (lv_at hl 3 rfl) ?_
              refine lv_imul hx hb dX12_council_168 ?_
              refine lv_topi (fun x_6035 ex_6035 => ?_)
              refine lv_icmp_ge (tgt := 174) hx hb dX12_council_169 (by decide) (fun c_6036 => ?_) (fun c_6036 => ?_)
              · have tc_6037 : (x_6035).toInt ≤ (x_6029).toInt := Int32.le_iff_toInt_le.mp c_6036
                refine lv_iload hx hb dX12_council_174 (lv_at hl 5 rfl) ?_
                refine lv_if_le (tgt := 183) hx hb dX12_council_176 (by decide) (fun c_6038 => ?_) (fun c_6038 => ?_)
                · have tc_6039 : (x_5912).toInt ≤ 0 := Int32.le_iff_toInt_le.mp c_6038
                  have h_6040 : rg x_5912 (-2147483648) 0 := rg_le1 c_6038 (rg_full _) (rg_k (0 : Int32) 0 rfl) (by decide)
                  have uh_6040 := h_6040.1
                  have vh_6040 := h_6040.2
                  refine lv_iconst (v := 0) hx hb dX12_council_183 (by decide) ?_
                  subst hQ
                  exact W.iret (v := 0) hx hb hr (fun t1 ht hW => ⟨⟨0, (σ, I, J, ri_5914, rj_5915, rq), rfl, ⟨ri_5914, rj_5915, rfl, hG, (rg_w (rg_k (0 : Int32) 0 rfl) (by decide))⟩, by rw [ht]; exact hP, va_K.moved hW.alike hK, hD⟩, hS.F ht⟩) hS.2.2 dX12_council_184
                · have tc_6041 : 0 < (x_5912).toInt := Int32.lt_iff_toInt_lt.mp (nle c_6038)
                  have h_6042 : rg x_5912 1 2147483647 := rg_lt2 (nle c_6038) (rg_k (0 : Int32) 0 rfl) (rg_full _) (by decide)
                  have uh_6042 := h_6042.1
                  have vh_6042 := h_6042.2
                  refine lv_iconst (v := 1) hx hb dX12_council_179 (by decide) ?_
                  refine lv_goto (tgt := 184) hx hb dX12_council_180 (by decide) ?_
                  subst hQ
                  exact W.iret (v := 1) hx hb hr (fun t1 ht hW => ⟨⟨1, (σ, I, J, ri_5914, rj_5915, rq), rfl, ⟨ri_5914, rj_5915, rfl, hG, (rg_w (rg_k (1 : Int32) 1 rfl) (by decide))⟩, by rw [ht]; exact hP, va_K.moved hW.alike hK, hD⟩, hS.F ht⟩) hS.2.2 dX12_council_184
              · have tc_6043 : (x_6029).toInt < (x_6035).toInt := Int32.lt_iff_toInt_lt.mp (nle c_6036)
                have h_6044 : rg x_6029 (-2147483648) 2147483646 := rg_lt1 (nle c_6036) (rg_full _) (rg_full _) (by decide)
                have uh_6044 := h_6044.1
                have vh_6044 := h_6044.2
                have h_6045 : rg x_6035 (-2147483647) 2147483647 := rg_lt2 (nle c_6036) (rg_full _) (rg_full _) (by decide)
                have uh_6045 := h_6045.1
                have vh_6045 := h_6045.2
                refine lv_iconst (v := 2) hx hb dX12_council_172 (by decide) ?_
                subst hQ
                exact W.iret (v := 2) hx hb hr (fun t1 ht hW => ⟨⟨2, (σ, I, J, ri_5914, rj_5915, rq), rfl, ⟨ri_5914, rj_5915, rfl, hG, (rg_w (rg_k (2 : Int32) 2 rfl) (by decide))⟩, by rw [ht]; exact hP, va_K.moved hW.alike hK, hD⟩, hS.F ht⟩) hS.2.2 dX12_council_173
            · have tc_6046 : (x_5913).toInt < (ri w_3071 5).toInt := Int32.lt_iff_toInt_lt.mp (nle c_6027)
              have h_6047 : rg x_5913 0 39 := rg_lt1 (nle c_6027) h_6026 h_3072 (by decide)
              have uh_6047 := h_6047.1
              have vh_6047 := h_6047.2
              have h_6048 : rg (ri w_3071 5) 1 40 := rg_lt2 (nle c_6027) h_6026 h_3072 (by decide)
              have uh_6048 := h_6048.1
              have vh_6048 := h_6048.2
              refine lv_aload_n hx hb dX12_council_51 rfl (lv_at hl 0 rfl) ?_
              refine lv_iload hx hb dX12_council_52 (lv_at hl 6 rfl) ?_
              refine lv_iconst (v := 3) hx hb dX12_council_54 (by decide) ?_
              refine pk_i (va_runV (As := [.int x_5913, .int 3]) (rest := []) ⟨hx, hb, hml, hown, hts⟩ (s_X12_personAt_c3 l D t σ I J ri_5914 rj_5915 rq H.size tg hSH hG.1 this x_5913 hL_this hK_this (rg_w h_6047 (by decide)) w_3071 hR_w_3071 hL_w_3071 hK_w_3071 hN_w_3071 hT_w_3071) (cwV 2 hts (tw_V tw_437 tw_438 tw_439 tw_5 tw_440) rfl rfl rfl cv_yX12_personAt_2 ⟨Nat.le_of_ble_eq_true rfl, Nat.le_of_ble_eq_true rfl⟩) ⟨pq_blind, pq_recv hK hP hL_this hK_this (by decide) rfl, pq_pre hK hN hP hD⟩ rfl rfl hl.1 rfl (lv_room (Nat.le_of_ble_eq_true rfl)) dX12_council_55 ⟨Nat.le_of_ble_eq_true rfl, Nat.le_of_ble_eq_true rfl⟩) hD hS hA (fun x_6049 σ1 μ1 H locs hw_6050 hP hD hS => ?_)
              obtain ⟨hu_6051, hp_6054, hp_6055, hr_6053⟩ := hw_6050
              obtain ⟨hu_6051a, hu_6051b⟩ := Prod.mk.inj hu_6051
              rw [hu_6051a, hu_6051b] at hP hD
              have tt_6056 := hp_6055
              refine lv_sipush (v := 300) hx hb dX12_council_58 (by decide) ?_
              have K_6131 : ∀  (x_6124 : Int32) (x_6125 : Int32) (x_6126 : Int32) (ri_6127 : Nat → Nat → Int32) (rj_6128 : Nat → Nat → Int64) (H : Heap) (locs : List Loc) (ls : Array Slot), GM [] tg σ I ri I ri_6127 rq → va_P D vwCl (pq_P t σ (I, J, ri_6127, rj_6128, rq)) H → va_D A (pq_P t σ (I, J, ri_6127, rj_6128, rq)) → va_S A s.heap H locs → lv_has ls 8 [(0, .ref this), (1, .long a0), (3, .int (ri w_3071 0)), (4, .int x_6124), (5, .int x_6125), (6, .int x_6126), (7, .int x_5913)] → W p l e ({ frames := 5, cells := 0, slots := 0, locals := 125 } : Room) s m (List.toArray ([.ref this, .long a0] : List Value)) below meth c H locs 0 0 Q (F0 m 146 ls []) := by
                intro x_6124 x_6125 x_6126 ri_6127 rj_6128 H locs ls hG hP hD hS hl
                obtain ⟨x_6132, ex_6132⟩ : ∃ y : Int32, y = x_5913 + Int32.ofInt 1 := ⟨_, rfl⟩
                have h_6133 : rg x_6132 1 40 := rg_of_eq ex_6132 (rg_add h_6047 (rg_k (Int32.ofInt 1) 1 rfl) (by decide))
                have uh_6133 := h_6133.1
                have vh_6133 := h_6133.2
                have tx_6132 : (x_6132).toInt = (x_5913).toInt + 1 := by rw [ex_6132]; exact i_add_rg (a2 := (x_5913).toInt) (b2 := 1) rfl rfl h_6047 (rg_k (Int32.ofInt 1) 1 rfl) (by decide)
                refine lv_iinc (v := x_6132) (lv' := [(7, .int x_6132), (0, .ref this), (1, .long a0), (3, .int (ri w_3071 0)), (4, .int x_6124), (5, .int x_6125), (6, .int x_6126)]) hx hb dX12_council_146 hl (k := 6) rfl ex_6132.symm (by decide) rfl (fun ls hl => ?_)
                refine lv_goto (tgt := 40) hx hb dX12_council_149 (by decide) ?_
                exact ih_6024 x_6124 x_6125 x_6126 x_6132 ri_6127 rj_6128 _ _ _ (rg_w h_6133 (by decide)) (ms_up 1 hm_6021 ex_6132 rfl (by decide) h_6047 (by decide) (by decide)) hG hP hD hS (lv_sub hl [1, 2, 3, 4, 5, 6, 0] rfl)
              refine lv_icmp_eq (tgt := 146) hx hb dX12_council_61 (by decide) (fun c_6134 => ?_) (fun c_6134 => ?_)
              · have tc_6135 : (x_6049).toInt = 300 := congrArg Int32.toInt c_6134
                have h_6136 : rg x_6049 300 300 := rg_and hr_6053 (rg_of_eq c_6134 (rg_k (300 : Int32) 300 rfl)) (by decide)
                have uh_6136 := h_6136.1
                have vh_6136 := h_6136.2
                exact K_6131 x_5910 x_5911 x_5912 ri_5914 rj_5915 _ _ _ hG hP hD hS (lv_sub hl [0, 1, 2, 3, 4, 5, 6] rfl)
              · have tc_6137 : (x_6049).toInt ≠ 300 := fun q => c_6134 (Int32.toInt_inj.mp q)
                have h_6138 : rg x_6049 0 299 := rg_ne c_6134 hr_6053 300 rfl (by decide)
                have uh_6138 := h_6138.1
                have vh_6138 := h_6138.2
                refine lv_aload_n hx hb dX12_council_64 rfl (lv_at hl 0 rfl) ?_
                refine lv_iconst (v := 2) hx hb dX12_council_65 (by decide) ?_
                refine lv_iload hx hb dX12_council_66 (lv_at hl 6 rfl) ?_
                refine lv_iload_n hx hb dX12_council_68 rfl (lv_at hl 2 rfl) ?_
                refine pk_i (va_runV (As := [.int 2, .int x_5913, .int (ri w_3071 0)]) (rest := []) ⟨hx, hb, hml, hown, hts⟩ (s_X12_isFor l D t σ I J ri_5914 rj_5915 rq H.size tg hSH hG.1 this (2 : Int32) x_5913 (ri w_3071 0) hL_this hK_this (rg_w (rg_k (2 : Int32) 2 rfl) (by decide)) (rg_w h_6047 (by decide)) w_3071 hR_w_3071 hL_w_3071 hK_w_3071 hN_w_3071 hT_w_3071) (cwV 3 hts (tw_V tw_971 tw_972 tw_973 tw_5 tw_974) rfl rfl rfl cv_yX12_isFor_3 ⟨Nat.le_of_ble_eq_true rfl, Nat.le_of_ble_eq_true rfl⟩) ⟨pq_blind, pq_recv hK hP hL_this hK_this (by decide) rfl, pq_pre hK hN hP hD⟩ rfl rfl hl.1 rfl (lv_room (Nat.le_of_ble_eq_true rfl)) dX12_council_69 ⟨Nat.le_of_ble_eq_true rfl, Nat.le_of_ble_eq_true rfl⟩) hD hS hA (fun x_6139 σ1 μ1 H locs hw_6140 hP hD hS => ?_)
                obtain ⟨ri_6141, rj_6142, hu_6143, hg_6144, hp_6146, hr_6145⟩ := hw_6140
                obtain ⟨hu_6143a, hu_6143b⟩ := Prod.mk.inj hu_6143
                rw [hu_6143a, hu_6143b] at hP hD
                have hG := GM.tr hG hg_6144 (by decide)
                have h_6147 : rg x_6139 0 1 := by rcases hr_6145 with ⟨q, -⟩ | ⟨q, -⟩ <;> rw [q] <;> exact ⟨by decide, by decide⟩
                have uh_6147 := h_6147.1
                have vh_6147 := h_6147.2
                refine lv_if_eq (tgt := 146) hx hb dX12_council_72 (by decide) (fun c_6148 => ?_) (fun c_6148 => ?_)
                · have tc_6149 : (x_6139).toInt = 0 := congrArg Int32.toInt c_6148
                  have h_6150 : rg x_6139 0 0 := rg_and h_6147 (rg_of_eq c_6148 (rg_k (0 : Int32) 0 rfl)) (by decide)
                  have uh_6150 := h_6150.1
                  have vh_6150 := h_6150.2
                  exact K_6131 x_5910 x_5911 x_5912 ri_6141 rj_6142 _ _ _ hG hP hD hS (lv_sub hl [0, 1, 2, 3, 4, 5, 6] rfl)
                · have tc_6151 : (x_6139).toInt ≠ 0 := fun q => c_6148 (Int32.toInt_inj.mp q)
                  have h_6152 : rg x_6139 1 1 := rg_ne c_6148 h_6147 0 rfl (by decide)
                  have uh_6152 := h_6152.1
                  have vh_6152 := h_6152.2
                  refine lv_aload_n hx hb dX12_council_75 rfl (lv_at hl 0 rfl) ?_
                  refine lv_iconst (v := 4) hx hb dX12_council_76 (by decide) ?_
                  refine lv_iload hx hb dX12_council_77 (lv_at hl 6 rfl) ?_
                  refine lv_iload_n hx hb dX12_council_79 rfl (lv_at hl 2 rfl) ?_
                  refine pk_i (va_runV (As := [.int 4, .int x_5913, .int (ri w_3071 0)]) (rest := []) ⟨hx, hb, hml, hown, hts⟩ (s_X12_isFor l D t σ I J ri_6141 rj_6142 rq H.size tg hSH hG.1 this (4 : Int32) x_5913 (ri w_3071 0) hL_this hK_this (rg_w (rg_k (4 : Int32) 4 rfl) (by decide)) (rg_w h_6047 (by decide)) w_3071 hR_w_3071 hL_w_3071 hK_w_3071 hN_w_3071 hT_w_3071) (cwV 3 hts (tw_V tw_971 tw_972 tw_973 tw_5 tw_974) rfl rfl rfl cv_yX12_isFor_3 ⟨Nat.le_of_ble_eq_true rfl, Nat.le_of_ble_eq_true rfl⟩) ⟨pq_blind, pq_recv hK hP hL_this hK_this (by decide) rfl, pq_pre hK hN hP hD⟩ rfl rfl hl.1 rfl (lv_room (Nat.le_of_ble_eq_true rfl)) dX12_council_80 ⟨Nat.le_of_ble_eq_true rfl, Nat.le_of_ble_eq_true rfl⟩) hD hS hA (fun x_6153 σ1 μ1 H locs hw_6154 hP hD hS => ?_)
                  obtain ⟨ri_6155, rj_6156, hu_6157, hg_6158, hp_6160, hr_6159⟩ := hw_6154
                  obtain ⟨hu_6157a, hu_6157b⟩ := Prod.mk.inj hu_6157
                  rw [hu_6157a, hu_6157b] at hP hD
                  have hG := GM.tr hG hg_6158 (by decide)
                  have h_6161 : rg x_6153 0 1 := by rcases hr_6159 with ⟨q, -⟩ | ⟨q, -⟩ <;> rw [q] <;> exact ⟨by decide, by decide⟩
                  have uh_6161 := h_6161.1
                  have vh_6161 := h_6161.2
                  refine lv_if_ne (tgt := 89) hx hb dX12_council_83 (by decide) (fun c_6162 => ?_) (fun c_6162 => ?_)
                  · have tc_6163 : (x_6153).toInt ≠ 0 := fun q => c_6162 (Int32.toInt_inj.mp q)
                    have h_6164 : rg x_6153 1 1 := rg_ne c_6162 h_6161 0 rfl (by decide)
                    have uh_6164 := h_6164.1
                    have vh_6164 := h_6164.2
                    obtain ⟨x_6165, ex_6165⟩ : ∃ y : Int32, y = x_5910 + Int32.ofInt 1 := ⟨_, rfl⟩
                    refine lv_iinc (v := x_6165) (lv' := [(4, .int x_6165), (0, .ref this), (1, .long a0), (3, .int (ri w_3071 0)), (5, .int x_5911), (6, .int x_5912), (7, .int x_5913)]) hx hb dX12_council_89 hl (k := 3) rfl ex_6165.symm (by decide) rfl (fun ls hl => ?_)
                    refine lv_lload_n hx hb dX12_council_92 rfl (lv_at hl 2 rfl) ?_
                    refine lv_iload hx hb dX12_council_93 (lv_at hl 6 rfl) ?_
                    refine lv_lshr hx hb dX12_council_95 rfl ?_
                    refine lv_topl (fun x_6166 ex_6166 => ?_)
                    refine lv_lconst (v := 1) hx hb dX12_council_96 (by decide) ?_
                    refine lv_land hx hb dX12_council_97 ?_
                    refine lv_topl (fun x_6167 ex_6167 => ?_)
                    refine lv_lconst (v := 0) hx hb dX12_council_98 (by decide) ?_
                    refine W.lcmp hx hb dX12_council_99 ?_
                    refine lv_topi (fun x_6168 ex_6168 => ?_)
                    refine lv_if_ne (tgt := 106) hx hb dX12_council_100 (by decide) (fun c_6169 => ?_) (fun c_6169 => ?_)
                    · have tc_6170 : (x_6168).toInt ≠ 0 := fun q => c_6169 (Int32.toInt_inj.mp q)
                      obtain ⟨x_6171, ex_6171⟩ : ∃ y : Int32, y = x_5911 + Int32.ofInt 1 := ⟨_, rfl⟩
                      refine lv_iinc (v := x_6171) (lv' := [(5, .int x_6171), (4, .int x_6165), (0, .ref this), (1, .long a0), (3, .int (ri w_3071 0)), (6, .int x_5912), (7, .int x_5913)]) hx hb dX12_council_106 hl (k := 4) rfl ex_6171.symm (by decide) rfl (fun ls hl => ?_)
                      refine lv_iload hx hb dX12_council_109 (lv_at hl 5 rfl) ?_
                      refine lv_aload_n hx hb dX12_council_111 rfl (lv_at hl 2 rfl) ?_
                      refine lv_iload hx hb dX12_council_112 (lv_at hl 6 rfl) ?_
                      refine lv_bipush (v := 8) hx hb dX12_council_114 (by decide) ?_
                      refine pk_i (va_runV (As := [.int x_5913, .int 8]) (rest := [.int x_5912]) ⟨hx, hb, hml, hown, hts⟩ (s_X12_personAt_c8 l D t σ I J ri_6155 rj_6156 rq H.size tg hSH hG.1 this x_5913 hL_this hK_this (rg_w h_6047 (by decide)) w_3071 hR_w_3071 hL_w_3071 hK_w_3071 hN_w_3071 hT_w_3071) (cwV 2 hts (tw_V tw_437 tw_438 tw_439 tw_5 tw_440) rfl rfl rfl cv_yX12_personAt_2 ⟨Nat.le_of_ble_eq_true rfl, Nat.le_of_ble_eq_true rfl⟩) ⟨pq_blind, pq_recv hK hP hL_this hK_this (by decide) rfl, pq_pre hK hN hP hD⟩ rfl rfl hl.1 rfl (lv_room (Nat.le_of_ble_eq_true rfl)) dX12_council_116 ⟨Nat.le_of_ble_eq_true rfl, Nat.le_of_ble_eq_true rfl⟩) hD hS hA (fun x_6172 σ1 μ1 H locs hw_6173 hP hD hS => ?_)
                      obtain ⟨hu_6174, hp_6177⟩ := hw_6173
                      obtain ⟨hu_6174a, hu_6174b⟩ := Prod.mk.inj hu_6174
                      rw [hu_6174a, hu_6174b] at hP hD
                      refine lv_iconst (v := 1) hx hb dX12_council_119 (by decide) ?_
                      have K_6197 : ∀  (H : Heap) (locs : List Loc) (ls : Array Slot), GM [] tg σ I ri I ri_6155 rq → va_P D vwCl (pq_P t σ (I, J, ri_6155, rj_6156, rq)) H → va_D A (pq_P t σ (I, J, ri_6155, rj_6156, rq)) → va_S A s.heap H locs → lv_has ls 8 [(0, .ref this), (1, .long a0), (3, .int (ri w_3071 0)), (4, .int x_6165), (5, .int x_6171), (7, .int x_5913)] → W p l e ({ frames := 5, cells := 0, slots := 0, locals := 125 } : Room) s m (List.toArray ([.ref this, .long a0] : List Value)) below meth c H locs 0 0 Q (F0 m 143 ls [.int 0, .int x_5912]) := by
                        intro H locs ls hG hP hD hS hl
                        refine lv_iadd hx hb dX12_council_143 ?_
                        refine lv_topi (fun x_6198 ex_6198 => ?_)
                        have h_6199 : rg x_6198 (-2147483648) 2147483647 := rg_of_eq ex_6198 (rg_add (rg_full _) (rg_k (0 : Int32) 0 rfl) (by decide))
                        have uh_6199 := h_6199.1
                        have vh_6199 := h_6199.2
                        have tx_6198 : (x_6198).toInt = (x_5912).toInt + 0 := by rw [ex_6198]; exact i_add_rg (a2 := (x_5912).toInt) (b2 := 0) rfl rfl (rg_full _) (rg_k (0 : Int32) 0 rfl) (by decide)
                        refine lv_istore (lv' := [(6, .int x_6198), (0, .ref this), (1, .long a0), (3, .int (ri w_3071 0)), (4, .int x_6165), (5, .int x_6171), (7, .int x_5913)]) hx hb dX12_council_144 hl (by decide) rfl (fun ls hl => ?_)
                        exact K_6131 x_6165 x_6171 x_6198 ri_6155 rj_6156 _ _ _ hG hP hD hS (lv_sub hl [1, 2, 3, 4, 5, 0, 6] rfl)
                      have K_6200 : ∀  (H : Heap) (locs : List Loc) (ls : Array Slot), GM [] tg σ I ri I ri_6155 rq → va_P D vwCl (pq_P t σ (I, J, ri_6155, rj_6156, rq)) H → va_D A (pq_P t σ (I, J, ri_6155, rj_6156, rq)) → va_S A s.heap H locs → lv_has ls 8 [(0, .ref this), (1, .long a0), (3, .int (ri w_3071 0)), (4, .int x_6165), (5, .int x_6171), (7, .int x_5913)] → W p l e ({ frames := 5, cells := 0, slots := 0, locals := 125 } : Room) s m (List.toArray ([.ref this, .long a0] : List Value)) below meth c H locs 0 0 Q (F0 m 143 ls [.int (-1), .int x_5912]) := by
                        intro H locs ls hG hP hD hS hl
                        refine lv_iadd hx hb dX12_council_143 ?_
                        refine lv_topi (fun x_6201 ex_6201 => ?_)
                        refine lv_istore (lv' := [(6, .int x_6201), (0, .ref this), (1, .long a0), (3, .int (ri w_3071 0)), (4, .int x_6165), (5, .int x_6171), (7, .int x_5913)]) hx hb dX12_council_144 hl (by decide) rfl (fun ls hl => ?_)
                        exact K_6131 x_6165 x_6171 x_6201 ri_6155 rj_6156 _ _ _ hG hP hD hS (lv_sub hl [1, 2, 3, 4, 5, 0, 6] rfl)
                      have K_6202 : ∀  (H : Heap) (locs : List Loc) (ls : Array Slot), rg (x_6172) 1 1 → GM [] tg σ I ri I ri_6155 rq → va_P D vwCl (pq_P t σ (I, J, ri_6155, rj_6156, rq)) H → va_D A (pq_P t σ (I, J, ri_6155, rj_6156, rq)) → va_S A s.heap H locs → lv_has ls 8 [(0, .ref this), (1, .long a0), (3, .int (ri w_3071 0)), (4, .int x_6165), (5, .int x_6171), (7, .int x_5913)] → W p l e ({ frames := 5, cells := 0, slots := 0, locals := 125 } : Room) s m (List.toArray ([.ref this, .long a0] : List Value)) below meth c H locs 0 0 Q (F0 m 143 ls [.int 1, .int x_5912]) := by
                        intro H locs ls h_6204 hG hP hD hS hl
                        have uh_6204 := h_6204.1
                        have vh_6204 := h_6204.2
                        refine lv_iadd hx hb dX12_council_143 ?_
                        refine lv_topi (fun x_6205 ex_6205 => ?_)
                        refine lv_istore (lv' := [(6, .int x_6205), (0, .ref this), (1, .long a0), (3, .int (ri w_3071 0)), (4, .int x_6165), (5, .int x_6171), (7, .int x_5913)]) hx hb dX12_council_144 hl (by decide) rfl (fun ls hl => ?_)
                        exact K_6131 x_6165 x_6171 x_6205 ri_6155 rj_6156 _ _ _ hG hP hD hS (lv_sub hl [1, 2, 3, 4, 5, 0, 6] rfl)
                      refine lv_icmp_ne (tgt := 127) hx hb dX12_council_120 (by decide) (fun c_6206 => ?_) (fun c_6206 => ?_)
                      · have tc_6207 : (x_6172).toInt ≠ 1 := fun q => c_6206 (Int32.toInt_inj.mp q)
                        refine lv_aload_n hx hb dX12_council_127 rfl (lv_at hl 2 rfl) ?_
                        refine lv_iload hx hb dX12_council_128 (lv_at hl 6 rfl) ?_
                        refine lv_bipush (v := 8) hx hb dX12_council_130 (by decide) ?_
                        refine pk_i (va_runV (As := [.int x_5913, .int 8]) (rest := [.int x_5912]) ⟨hx, hb, hml, hown, hts⟩ (s_X12_personAt_c8 l D t σ I J ri_6155 rj_6156 rq H.size tg hSH hG.1 this x_5913 hL_this hK_this (rg_w h_6047 (by decide)) w_3071 hR_w_3071 hL_w_3071 hK_w_3071 hN_w_3071 hT_w_3071) (cwV 2 hts (tw_V tw_437 tw_438 tw_439 tw_5 tw_440) rfl rfl rfl cv_yX12_personAt_2 ⟨Nat.le_of_ble_eq_true rfl, Nat.le_of_ble_eq_true rfl⟩) ⟨pq_blind, pq_recv hK hP hL_this hK_this (by decide) rfl, pq_pre hK hN hP hD⟩ rfl rfl hl.1 rfl (lv_room (Nat.le_of_ble_eq_true rfl)) dX12_council_132 ⟨Nat.le_of_ble_eq_true rfl, Nat.le_of_ble_eq_true rfl⟩) hD hS hA (fun x_6208 σ1 μ1 H locs hw_6209 hP hD hS => ?_)
                        obtain ⟨hu_6210, hp_6213⟩ := hw_6209
                        obtain ⟨hu_6210a, hu_6210b⟩ := Prod.mk.inj hu_6210
                        rw [hu_6210a, hu_6210b] at hP hD
                        refine lv_if_ne (tgt := 142) hx hb dX12_council_135 (by decide) (fun c_6214 => ?_) (fun c_6214 => ?_)
                        · have tc_6215 : (x_6208).toInt ≠ 0 := fun q => c_6214 (Int32.toInt_inj.mp q)
                          refine lv_iconst (v := 0) hx hb dX12_council_142 (by decide) ?_
                          exact K_6197 _ _ _ hG hP hD hS (lv_sub hl [2, 3, 4, 1, 0, 6] rfl)
                        · have tc_6216 : (x_6208).toInt = 0 := congrArg Int32.toInt c_6214
                          have h_6217 : rg x_6208 0 0 := rg_and (rg_full _) (rg_of_eq c_6214 (rg_k (0 : Int32) 0 rfl)) (by decide)
                          have uh_6217 := h_6217.1
                          have vh_6217 := h_6217.2
                          refine lv_iconst (v := (-1)) hx hb dX12_council_138 (by decide) ?_
                          refine lv_goto (tgt := 143) hx hb dX12_council_139 (by decide) ?_
                          exact K_6200 _ _ _ hG hP hD hS (lv_sub hl [2, 3, 4, 1, 0, 6] rfl)
                      · have tc_6218 : (x_6172).toInt = 1 := congrArg Int32.toInt c_6206
                        have h_6219 : rg x_6172 1 1 := rg_and (rg_full _) (rg_of_eq c_6206 (rg_k (1 : Int32) 1 rfl)) (by decide)
                        have uh_6219 := h_6219.1
                        have vh_6219 := h_6219.2
                        refine lv_iconst (v := 1) hx hb dX12_council_123 (by decide) ?_
                        refine lv_goto (tgt := 143) hx hb dX12_council_124 (by decide) ?_
                        exact K_6202 _ _ _ (rg_w h_6219 (by decide)) hG hP hD hS (lv_sub hl [2, 3, 4, 1, 0, 6] rfl)
                    · have tc_6220 : (x_6168).toInt = 0 := congrArg Int32.toInt c_6169
                      have h_6221 : rg x_6168 0 0 := rg_and (rg_full _) (rg_of_eq c_6169 (rg_k (0 : Int32) 0 rfl)) (by decide)
                      have uh_6221 := h_6221.1
                      have vh_6221 := h_6221.2
                      refine lv_goto (tgt := 146) hx hb dX12_council_103 (by decide) ?_
                      exact K_6131 x_6165 x_5911 x_5912 ri_6155 rj_6156 _ _ _ hG hP hD hS (lv_sub hl [1, 2, 3, 0, 4, 5, 6] rfl)
                  · have tc_6222 : (x_6153).toInt = 0 := congrArg Int32.toInt c_6162
                    have h_6223 : rg x_6153 0 0 := rg_and h_6161 (rg_of_eq c_6162 (rg_k (0 : Int32) 0 rfl)) (by decide)
                    have uh_6223 := h_6223.1
                    have vh_6223 := h_6223.2
                    refine lv_goto (tgt := 146) hx hb dX12_council_86 (by decide) ?_
                    exact K_6131 x_5910 x_5911 x_5912 ri_6155 rj_6156 _ _ _ hG hP hD hS (lv_sub hl [0, 1, 2, 3, 4, 5, 6] rfl)
        exact L_6023 _ (0 : Int32) (0 : Int32) (0 : Int32) (0 : Int32) ri rj _ _ _ (rg_w (rg_k (0 : Int32) 0 rfl) (by decide)) (Nat.lt_succ_self _) hG hP hD hS (lv_sub hl [5, 6, 4, 3, 2, 1, 0] rfl)
      · have tc_6224 : (x_3074).toInt ≠ 0 := fun q => c_3075 (Int32.toInt_inj.mp q)
        exact K_3065 _ _ _ hG hP hD hS (lv_sub hl [] rfl)
  exact go _ _ _ hP hD hS hl

set_option maxHeartbeats 4000000 in
set_option maxRecDepth 100000 in
theorem s_X12_wants (l : Launch) (D : va_G) (t : pq_T) (σ : pq_S) (I : Nat → Nat → Int32) (J : Nat → Nat → Int64) (ri : Nat → Nat → Int32) (rj : Nat → Nat → Int64) (rq : Nat → Nat → Option Nat) (sz : Nat) (tg : Nat → Nat) (hSH : SH σ tg) (hG0 : GT tg I ri) (this : Nat) (hL_this : this ∈ σ.1) (hK_this : σ.2.1 this = 12) : MetI l yX12_wants (wa yX12_wants cX12_wants 3 (some .int)) ({ frames := 1, cells := 0, slots := 0, locals := 22 }) [.ref this] D t σ (I, J, ri, rj, rq) sz 0 0 (fun (r : Int32) (u : pq_S × pq_M) => u = (σ, I, J, ri, rj, rq)) := by
  refine Met.ofW (cc := cX12_wants) (maxL := 3) (ret := (some .int)) (by decide) rfl ?_
  intro p e s m args below meth c s₁ B hml hv
  obtain ⟨rfl, hsz, hP, hK, hD0, hN⟩ := hv
  have hx := B.exec
  have hb := B.bytes
  have hr := B.returns
  have hts := atoms_spec (ws := (wa yX12_wants cX12_wants 3 (some .int))) B.pre
  have hown : s.vm.findClass RX12 = some m.cls := findClass_of_methodNamed B.named
  have hlocks := B.notSynchronized
  subst hsz
  have hD : va_D (pq_B t σ (I, J, ri, rj, rq) s.heap.size) (pq_P t σ (I, J, ri, rj, rq)) := hD0.self
  generalize hAe : pq_B t σ (I, J, ri, rj, rq) s.heap.size = A at hD ⊢
  have hA : ∀ q : Nat, s.heap.size ≤ q → A q := fun q h => by rw [← hAe]; exact Or.inr h
  have hS : va_S A s.heap s.heap [] := va_S.rf
  have hG : GM [] tg σ I ri I ri rq := ⟨hG0, fun _ _ _ => rfl, fun _ _ _ _ _ => rfl, fun _ _ _ _ _ _ => rfl⟩
  have hl := lv_entry ([.ref this]) (n := 3) (Nat.le_of_ble_eq_true rfl)
  rw [lg_entry_eq]
  generalize (lg_sl ([.ref this]) ++ List.replicate (3 - (lg_sl ([.ref this])).length) Slot.unset).toArray = ls at hl ⊢
  have hl : lv_has ls 3 [(0, .ref this)] := hl
  refine q_gen (fun Q hQ => ?_)
  have go : ∀ (H : Heap) (locs : List Loc) (ls : Array Slot), va_P D vwCl (pq_P t σ (I, J, ri, rj, rq)) H → va_D A (pq_P t σ (I, J, ri, rj, rq)) → va_S A s.heap H locs → lv_has ls 3 [(0, .ref this)] → W p l e ({ frames := 1, cells := 0, slots := 0, locals := 22 } : Room) s m (List.toArray ([.ref this] : List Value)) below meth c H locs 0 0 Q (F0 m 0 ls []) := by
    intro H locs ls hP hD hS hl
    refine lv_iconst (v := 0) hx hb dX12_wants_0 (by decide) ?_
    refine lv_istore_n (lv' := [(1, .int 0), (0, .ref this)]) hx hb dX12_wants_1 rfl hl (by decide) rfl (fun ls hl => ?_)
    refine lv_iconst (v := 0) hx hb dX12_wants_2 (by decide) ?_
    refine lv_istore_n (lv' := [(2, .int 0), (1, .int 0), (0, .ref this)]) hx hb dX12_wants_3 rfl hl (by decide) rfl (fun ls hl => ?_)
    have L_341 : ∀ (n_340 : Nat) (x_313 : Int32) (x_314 : Int32) (H : Heap) (locs : List Loc) (ls : Array Slot), rg x_314 0 40 → (40 - (x_314).toInt).toNat < n_340 → GM [] tg σ I ri I ri rq → va_P D vwCl (pq_P t σ (I, J, ri, rj, rq)) H → va_D A (pq_P t σ (I, J, ri, rj, rq)) → va_S A s.heap H locs → lv_has ls 3 [(0, .ref this), (1, .int x_313), (2, .int x_314)] → W p l e ({ frames := 1, cells := 0, slots := 0, locals := 22 } : Room) s m (List.toArray ([.ref this] : List Value)) below meth c H locs 0 0 Q (F0 m 4 ls []) := by
      intro n_340
      induction n_340 with
      | zero => intro x_313 x_314 H locs ls h_344 hm_339 hG hP hD hS hl; exact absurd hm_339 (Nat.not_lt_zero _)
      | succ n_340 ih_342 =>
        intro x_313 x_314 H locs ls h_344 hm_339 hG hP hD hS hl
        have uh_344 := h_344.1
        have vh_344 := h_344.2
        refine lv_iload_n hx hb dX12_wants_4 rfl (lv_at hl 2 rfl) ?_
        refine lv_aload_n hx hb dX12_wants_5 rfl (lv_at hl 0 rfl) ?_
        obtain ⟨w_345, hR_w_345, hL_w_345, hK_w_345, hN_w_345, hT_w_345⟩ := sh_a hSH 384 (ci := 12) (kd := 13) (len := 12720) rfl (by decide) hL_this hK_this
        refine pg_f (v := .ref w_345) (C := RX12) (T := TX12) (N := 31) hx hb hts (tw_i inlX12) hown hK hP hL_this hK_this (by decide) rfl 0 (by decide) (hts _ (tw_c tw_176)) (pq_hv rfl hR_w_345) dX12_wants_6 ?_
        refine lv_iconst (v := 5) hx hb dX12_wants_9 (by decide) ?_
        refine pl_i hx hb hK hP hL_w_345 hK_w_345 hN_w_345 (vp_in_iff.mpr (by decide)) dX12_wants_10 ?_
        refine lv_tov (ri w_345 5) rfl ?_
        have h_346 : rg (ri w_345 5) 0 40 := GM.z0 hG0 (by rw [hT_w_345]; decide) (i := 5) (k := 5) (by decide) rfl
        have uh_346 := h_346.1
        have vh_346 := h_346.2
        refine lv_icmp_ge (tgt := 37) hx hb dX12_wants_11 (by decide) (fun c_347 => ?_) (fun c_347 => ?_)
        · have tc_348 : (ri w_345 5).toInt ≤ (x_314).toInt := Int32.le_iff_toInt_le.mp c_347
          refine lv_iload_n hx hb dX12_wants_37 rfl (lv_at hl 1 rfl) ?_
          subst hQ
          exact W.iret (v := x_313) hx hb hr (fun t1 ht hW => ⟨⟨x_313, (σ, I, J, ri, rj, rq), rfl, rfl, by rw [ht]; exact hP, va_K.moved hW.alike hK, hD⟩, hS.F ht⟩) hS.2.2 dX12_wants_38
        · have tc_349 : (x_314).toInt < (ri w_345 5).toInt := Int32.lt_iff_toInt_lt.mp (nle c_347)
          have h_350 : rg x_314 0 39 := rg_lt1 (nle c_347) h_344 h_346 (by decide)
          have uh_350 := h_350.1
          have vh_350 := h_350.2
          have h_351 : rg (ri w_345 5) 1 40 := rg_lt2 (nle c_347) h_344 h_346 (by decide)
          have uh_351 := h_351.1
          have vh_351 := h_351.2
          refine lv_iload_n hx hb dX12_wants_14 rfl (lv_at hl 1 rfl) ?_
          refine lv_aload_n hx hb dX12_wants_15 rfl (lv_at hl 0 rfl) ?_
          refine lv_iload_n hx hb dX12_wants_16 rfl (lv_at hl 2 rfl) ?_
          refine lv_iconst (v := 5) hx hb dX12_wants_17 (by decide) ?_
          refine pk_i (va_runV (As := [.int x_314, .int 5]) (rest := [.int x_313]) ⟨hx, hb, hml, hown, hts⟩ (s_X12_personAt_c5 l D t σ I J ri rj rq H.size tg hSH hG.1 this x_314 hL_this hK_this (rg_w h_350 (by decide)) w_345 hR_w_345 hL_w_345 hK_w_345 hN_w_345 hT_w_345) (cwV 2 hts (tw_V tw_437 tw_438 tw_439 tw_5 tw_440) rfl rfl rfl cv_yX12_personAt_2 ⟨Nat.le_of_ble_eq_true rfl, Nat.le_of_ble_eq_true rfl⟩) ⟨pq_blind, pq_recv hK hP hL_this hK_this (by decide) rfl, pq_pre hK hN hP hD⟩ rfl rfl hl.1 rfl (lv_room (Nat.le_of_ble_eq_true rfl)) dX12_wants_18 ⟨Nat.le_of_ble_eq_true rfl, Nat.le_of_ble_eq_true rfl⟩) hD hS hA (fun x_352 σ1 μ1 H locs hw_353 hP hD hS => ?_)
          obtain ⟨hu_354, hp_357⟩ := hw_353
          obtain ⟨hu_354a, hu_354b⟩ := Prod.mk.inj hu_354
          rw [hu_354a, hu_354b] at hP hD
          refine lv_aload_n hx hb dX12_wants_21 rfl (lv_at hl 0 rfl) ?_
          refine lv_iload_n hx hb dX12_wants_22 rfl (lv_at hl 2 rfl) ?_
          refine lv_bipush (v := 6) hx hb dX12_wants_23 (by decide) ?_
          refine pk_i (va_runV (As := [.int x_314, .int 6]) (rest := [.int x_352, .int x_313]) ⟨hx, hb, hml, hown, hts⟩ (s_X12_personAt_c6 l D t σ I J ri rj rq H.size tg hSH hG.1 this x_314 hL_this hK_this (rg_w h_350 (by decide)) w_345 hR_w_345 hL_w_345 hK_w_345 hN_w_345 hT_w_345) (cwV 2 hts (tw_V tw_437 tw_438 tw_439 tw_5 tw_440) rfl rfl rfl cv_yX12_personAt_2 ⟨Nat.le_of_ble_eq_true rfl, Nat.le_of_ble_eq_true rfl⟩) ⟨pq_blind, pq_recv hK hP hL_this hK_this (by decide) rfl, pq_pre hK hN hP hD⟩ rfl rfl hl.1 rfl (lv_room (Nat.le_of_ble_eq_true rfl)) dX12_wants_25 ⟨Nat.le_of_ble_eq_true rfl, Nat.le_of_ble_eq_true rfl⟩) hD hS hA (fun x_358 σ1 μ1 H locs hw_359 hP hD hS => ?_)
          obtain ⟨hu_360, hp_363⟩ := hw_359
          obtain ⟨hu_360a, hu_360b⟩ := Prod.mk.inj hu_360
          rw [hu_360a, hu_360b] at hP hD
          refine lv_iadd hx hb dX12_wants_28 ?_
          refine lv_topi (fun x_364 ex_364 => ?_)
          refine lv_iadd hx hb dX12_wants_29 ?_
          refine lv_topi (fun x_365 ex_365 => ?_)
          refine lv_istore_n (lv' := [(1, .int x_365), (0, .ref this), (2, .int x_314)]) hx hb dX12_wants_30 rfl hl (by decide) rfl (fun ls hl => ?_)
          obtain ⟨x_366, ex_366⟩ : ∃ y : Int32, y = x_314 + Int32.ofInt 1 := ⟨_, rfl⟩
          have h_367 : rg x_366 1 40 := rg_of_eq ex_366 (rg_add h_350 (rg_k (Int32.ofInt 1) 1 rfl) (by decide))
          have uh_367 := h_367.1
          have vh_367 := h_367.2
          have tx_366 : (x_366).toInt = (x_314).toInt + 1 := by rw [ex_366]; exact i_add_rg (a2 := (x_314).toInt) (b2 := 1) rfl rfl h_350 (rg_k (Int32.ofInt 1) 1 rfl) (by decide)
          refine lv_iinc (v := x_366) (lv' := [(2, .int x_366), (1, .int x_365), (0, .ref this)]) hx hb dX12_wants_31 hl (k := 2) rfl ex_366.symm (by decide) rfl (fun ls hl => ?_)
          refine lv_goto (tgt := 4) hx hb dX12_wants_34 (by decide) ?_
          exact ih_342 x_365 x_366 _ _ _ (rg_w h_367 (by decide)) (ms_up 1 hm_339 ex_366 rfl (by decide) h_350 (by decide) (by decide)) hG hP hD hS (lv_sub hl [2, 1, 0] rfl)
    exact L_341 _ (0 : Int32) (0 : Int32) _ _ _ (rg_w (rg_k (0 : Int32) 0 rfl) (by decide)) (Nat.lt_succ_self _) hG hP hD hS (lv_sub hl [2, 1, 0] rfl)
  exact go _ _ _ hP hD hS hl

set_option maxHeartbeats 4000000 in
set_option maxRecDepth 100000 in
theorem s_X12_nextOrder (l : Launch) (D : va_G) (t : pq_T) (σ : pq_S) (I : Nat → Nat → Int32) (J : Nat → Nat → Int64) (ri : Nat → Nat → Int32) (rj : Nat → Nat → Int64) (rq : Nat → Nat → Option Nat) (sz : Nat) (tg : Nat → Nat) (hSH : SH σ tg) (hG0 : GT tg I ri) (this : Nat) (a0 : Int32) (hL_this : this ∈ σ.1) (hK_this : σ.2.1 this = 12) (h_a0 : rg a0 0 5) (this_rings : Nat) (hR_this_rings : σ.2.2.1 414 this = some this_rings) (hL_this_rings : this_rings ∈ σ.1) (hK_this_rings : σ.2.1 this_rings = 13) (hN_this_rings : σ.2.2.2 this_rings = 5) (hT_this_rings : tg this_rings = 414) (hinj : InjI a0.toInt (ri this_rings)) : MetI l yX12_nextOrder (wa yX12_nextOrder cX12_nextOrder 7 (some .boolean)) ({ frames := 0, cells := 0, slots := 0, locals := 0 }) [.ref this, .int a0] D t σ (I, J, ri, rj, rq) sz 0 0 (fun (r : Int32) (u : pq_S × pq_M) => ∃ ri' : Nat → Nat → Int32, u = (σ, I, J, ri', rj, rq) ∧ GM [2002] tg σ I ri I ri' rq ∧ ((r = 1 ∧ InjI a0.toInt (ri' this_rings) ∧ ∃ k : Nat, k < 4 ∧ (∀ i, i < k → ri' this_rings i = ri this_rings i) ∧ (ri this_rings k).toInt < (ri' this_rings k).toInt) ∨ (r = 0 ∧ ri' = ri))) := by
  refine Met.ofW (cc := cX12_nextOrder) (maxL := 7) (ret := (some .boolean)) (by decide) rfl ?_
  intro p e s m args below meth c s₁ B hml hv
  obtain ⟨rfl, hsz, hP, hK, hD0, hN⟩ := hv
  have hx := B.exec
  have hb := B.bytes
  have hr := B.returns
  have hts := atoms_spec (ws := (wa yX12_nextOrder cX12_nextOrder 7 (some .boolean))) B.pre
  have hown : s.vm.findClass RX12 = some m.cls := findClass_of_methodNamed B.named
  have hlocks := B.notSynchronized
  subst hsz
  have hD : va_D (pq_B t σ (I, J, ri, rj, rq) s.heap.size) (pq_P t σ (I, J, ri, rj, rq)) := hD0.self
  generalize hAe : pq_B t σ (I, J, ri, rj, rq) s.heap.size = A at hD ⊢
  have hA : ∀ q : Nat, s.heap.size ≤ q → A q := fun q h => by rw [← hAe]; exact Or.inr h
  have hS : va_S A s.heap s.heap [] := va_S.rf
  have hG : GM [2002] tg σ I ri I ri rq := ⟨hG0, fun _ _ _ => rfl, fun _ _ _ _ _ => rfl, fun _ _ _ _ _ _ => rfl⟩
  have hl := lv_entry ([.ref this, .int a0]) (n := 7) (Nat.le_of_ble_eq_true rfl)
  rw [lg_entry_eq]
  generalize (lg_sl ([.ref this, .int a0]) ++ List.replicate (7 - (lg_sl ([.ref this, .int a0])).length) Slot.unset).toArray = ls at hl ⊢
  have hl : lv_has ls 7 [(0, .ref this), (1, .int a0)] := hl
  refine q_gen (fun Q hQ => ?_)
  have go : ∀ (H : Heap) (locs : List Loc) (ls : Array Slot), va_P D vwCl (pq_P t σ (I, J, ri, rj, rq)) H → va_D A (pq_P t σ (I, J, ri, rj, rq)) → va_S A s.heap H locs → lv_has ls 7 [(0, .ref this), (1, .int a0)] → W p l e ({ frames := 0, cells := 0, slots := 0, locals := 0 } : Room) s m (List.toArray ([.ref this, .int a0] : List Value)) below meth c H locs 0 0 Q (F0 m 0 ls []) := by
    intro H locs ls hP hD hS hl
    refine lv_iload_n hx hb dX12_nextOrder_0 rfl (lv_at hl 1 rfl) ?_
    refine lv_iconst (v := 2) hx hb dX12_nextOrder_1 (by decide) ?_
    refine lv_isub hx hb dX12_nextOrder_2 ?_
    refine lv_topi (fun x_1 ex_1 => ?_)
    have h_2 : rg x_1 (-2) 3 := rg_of_eq ex_1 (rg_sub h_a0 (rg_k (2 : Int32) 2 rfl) (by decide))
    have uh_2 := h_2.1
    have vh_2 := h_2.2
    have tx_1 : (x_1).toInt = (a0).toInt - 2 := by rw [ex_1]; exact i_sub_rg (a2 := (a0).toInt) (b2 := 2) rfl rfl h_a0 (rg_k (2 : Int32) 2 rfl) (by decide)
    refine lv_istore_n (lv' := [(2, .int x_1), (0, .ref this), (1, .int a0)]) hx hb dX12_nextOrder_3 rfl hl (by decide) rfl (fun ls hl => ?_)
    have L_2575 : ∀ (n_2574 : Nat) (x_1930 : Int32) (H : Heap) (locs : List Loc) (ls : Array Slot), rg x_1930 (-2) 3 → ((x_1930).toInt + 2 ≤ (a0).toInt) → ((x_1930).toInt - (-2)).toNat < n_2574 → GM [2002] tg σ I ri I ri rq → va_P D vwCl (pq_P t σ (I, J, ri, rj, rq)) H → va_D A (pq_P t σ (I, J, ri, rj, rq)) → va_S A s.heap H locs → lv_has ls 7 [(0, .ref this), (1, .int a0), (2, .int x_1930)] → W p l e ({ frames := 0, cells := 0, slots := 0, locals := 0 } : Room) s m (List.toArray ([.ref this, .int a0] : List Value)) below meth c H locs 0 0 Q (F0 m 4 ls []) := by
      intro n_2574
      induction n_2574 with
      | zero => intro x_1930 H locs ls h_2579 hrel_2580 hm_2573 hG hP hD hS hl; exact absurd hm_2573 (Nat.not_lt_zero _)
      | succ n_2574 ih_2576 =>
        intro x_1930 H locs ls h_2579 hrel_2580 hm_2573 hG hP hD hS hl
        have uh_2579 := h_2579.1
        have vh_2579 := h_2579.2
        refine lv_iload_n hx hb dX12_nextOrder_4 rfl (lv_at hl 2 rfl) ?_
        refine lv_if_lt (tgt := 31) hx hb dX12_nextOrder_5 (by decide) (fun c_2581 => ?_) (fun c_2581 => ?_)
        · have tc_2582 : (x_1930).toInt < 0 := Int32.lt_iff_toInt_lt.mp c_2581
          have h_2583 : rg x_1930 (-2) (-1) := rg_lt1 c_2581 h_2579 (rg_k (0 : Int32) 0 rfl) (by decide)
          have uh_2583 := h_2583.1
          have vh_2583 := h_2583.2
          refine lv_iload_n hx hb dX12_nextOrder_31 rfl (lv_at hl 2 rfl) ?_
          refine lv_if_ge (tgt := 37) hx hb dX12_nextOrder_32 (by decide) (fun c_2584 => ?_) (fun c_2584 => ?_)
          · have tc_2585 : 0 ≤ (x_1930).toInt := Int32.le_iff_toInt_le.mp c_2584
            exact (rg_empty (rg_le2 c_2584 (rg_k (0 : Int32) 0 rfl) h_2583 (lo := 0) (hi := (-1)) (by decide)) (by decide)).elim
          · have tc_2586 : (x_1930).toInt < 0 := Int32.lt_iff_toInt_lt.mp (nle c_2584)
            refine lv_iconst (v := 0) hx hb dX12_nextOrder_35 (by decide) ?_
            subst hQ
            exact W.zret (v := 0) hx hb hr (by decide) (fun t1 ht hW => ⟨⟨0, (σ, I, J, ri, rj, rq), rfl, ⟨ri, rfl, hG, (Or.inr ⟨rfl, rfl⟩)⟩, by rw [ht]; exact hP, va_K.moved hW.alike hK, hD⟩, hS.F ht⟩) hS.2.2 dX12_nextOrder_36
        · have tc_2587 : 0 ≤ (x_1930).toInt := Int32.le_iff_toInt_le.mp (nlt c_2581)
          have h_2588 : rg x_1930 0 3 := rg_le2 (nlt c_2581) (rg_k (0 : Int32) 0 rfl) h_2579 (by decide)
          have uh_2588 := h_2588.1
          have vh_2588 := h_2588.2
          refine lv_aload_n hx hb dX12_nextOrder_8 rfl (lv_at hl 0 rfl) ?_
          refine pg_f (v := .ref this_rings) (C := RX12) (T := TX12) (N := 31) hx hb hts (tw_i inlX12) hown hK hP hL_this hK_this (by decide) rfl 30 (by decide) (hts _ (tw_c tw_191)) (pq_hv rfl hR_this_rings) dX12_nextOrder_9 ?_
          refine lv_iload_n hx hb dX12_nextOrder_12 rfl (lv_at hl 2 rfl) ?_
          refine pl_i hx hb hK hP hL_this_rings hK_this_rings hN_this_rings (rg_in h_2588 (by decide)) dX12_nextOrder_13 ?_
          refine lv_topi (fun x_2589 ex_2589 => ?_)
          have h_2590 : rg x_2589 0 4 := rg_of_eq ex_2589 (GM.rR hG hT_this_rings rfl)
          have uh_2590 := h_2590.1
          have vh_2590 := h_2590.2
          refine lv_aload_n hx hb dX12_nextOrder_14 rfl (lv_at hl 0 rfl) ?_
          refine pg_f (v := .ref this_rings) (C := RX12) (T := TX12) (N := 31) hx hb hts (tw_i inlX12) hown hK hP hL_this hK_this (by decide) rfl 30 (by decide) (hts _ (tw_c tw_191)) (pq_hv rfl hR_this_rings) dX12_nextOrder_15 ?_
          refine lv_iload_n hx hb dX12_nextOrder_18 rfl (lv_at hl 2 rfl) ?_
          refine lv_iconst (v := 1) hx hb dX12_nextOrder_19 (by decide) ?_
          refine lv_iadd hx hb dX12_nextOrder_20 ?_
          refine lv_topi (fun x_2591 ex_2591 => ?_)
          have h_2592 : rg x_2591 1 4 := rg_of_eq ex_2591 (rg_add h_2588 (rg_k (1 : Int32) 1 rfl) (by decide))
          have uh_2592 := h_2592.1
          have vh_2592 := h_2592.2
          have tx_2591 : (x_2591).toInt = (x_1930).toInt + 1 := by rw [ex_2591]; exact i_add_rg (a2 := (x_1930).toInt) (b2 := 1) rfl rfl h_2588 (rg_k (1 : Int32) 1 rfl) (by decide)
          refine pl_i hx hb hK hP hL_this_rings hK_this_rings hN_this_rings (rg_in h_2592 (by decide)) dX12_nextOrder_21 ?_
          refine lv_topi (fun x_2593 ex_2593 => ?_)
          have h_2594 : rg x_2593 0 4 := rg_of_eq ex_2593 (GM.rR hG hT_this_rings rfl)
          have uh_2594 := h_2594.1
          have vh_2594 := h_2594.2
          refine lv_icmp_le (tgt := 31) hx hb dX12_nextOrder_22 (by decide) (fun c_2595 => ?_) (fun c_2595 => ?_)
          · have tc_2596 : (x_2589).toInt ≤ (x_2593).toInt := Int32.le_iff_toInt_le.mp c_2595
            refine lv_iload_n hx hb dX12_nextOrder_31 rfl (lv_at hl 2 rfl) ?_
            refine lv_if_ge (tgt := 37) hx hb dX12_nextOrder_32 (by decide) (fun c_2597 => ?_) (fun c_2597 => ?_)
            · have tc_2598 : 0 ≤ (x_1930).toInt := Int32.le_iff_toInt_le.mp c_2597
              refine lv_iload_n hx hb dX12_nextOrder_37 rfl (lv_at hl 1 rfl) ?_
              refine lv_iconst (v := 1) hx hb dX12_nextOrder_38 (by decide) ?_
              refine lv_isub hx hb dX12_nextOrder_39 ?_
              refine lv_topi (fun x_2599 ex_2599 => ?_)
              have h_2600 : rg x_2599 (-1) 4 := rg_of_eq ex_2599 (rg_sub h_a0 (rg_k (1 : Int32) 1 rfl) (by decide))
              have uh_2600 := h_2600.1
              have vh_2600 := h_2600.2
              have tx_2599 : (x_2599).toInt = (a0).toInt - 1 := by rw [ex_2599]; exact i_sub_rg (a2 := (a0).toInt) (b2 := 1) rfl rfl h_a0 (rg_k (1 : Int32) 1 rfl) (by decide)
              refine lv_istore_n (lv' := [(3, .int x_2599), (0, .ref this), (1, .int a0), (2, .int x_1930)]) hx hb dX12_nextOrder_40 rfl hl (by decide) rfl (fun ls hl => ?_)
              have L_3093 : ∀ (n_3092 : Nat) (x_2968 : Int32) (H : Heap) (locs : List Loc) (ls : Array Slot), rg x_2968 (-1) 4 → ((x_1930).toInt + 1 ≤ (x_2968).toInt ∧ (x_2968).toInt ≤ 4 ∧ (x_2968).toInt + 1 ≤ a0.toInt) → ((x_2968).toInt - (x_1930).toInt).toNat < n_3092 → GM [2002] tg σ I ri I ri rq → va_P D vwCl (pq_P t σ (I, J, ri, rj, rq)) H → va_D A (pq_P t σ (I, J, ri, rj, rq)) → va_S A s.heap H locs → lv_has ls 7 [(0, .ref this), (1, .int a0), (2, .int x_1930), (3, .int x_2968)] → W p l e ({ frames := 0, cells := 0, slots := 0, locals := 0 } : Room) s m (List.toArray ([.ref this, .int a0] : List Value)) below meth c H locs 0 0 Q (F0 m 41 ls []) := by
                intro n_3092
                induction n_3092 with
                | zero => intro x_2968 H locs ls h_3097 hrel_3098 hm_3091 hG hP hD hS hl; exact absurd hm_3091 (Nat.not_lt_zero _)
                | succ n_3092 ih_3094 =>
                  intro x_2968 H locs ls h_3097 hrel_3098 hm_3091 hG hP hD hS hl
                  have uh_3097 := h_3097.1
                  have vh_3097 := h_3097.2
                  refine lv_aload_n hx hb dX12_nextOrder_41 rfl (lv_at hl 0 rfl) ?_
                  refine pg_f (v := .ref this_rings) (C := RX12) (T := TX12) (N := 31) hx hb hts (tw_i inlX12) hown hK hP hL_this hK_this (by decide) rfl 30 (by decide) (hts _ (tw_c tw_191)) (pq_hv rfl hR_this_rings) dX12_nextOrder_42 ?_
                  refine lv_iload_n hx hb dX12_nextOrder_45 rfl (lv_at hl 3 rfl) ?_
                  have h_3099 : rg x_2968 0 4 := ⟨by omega, by omega⟩
                  have uh_3099 := h_3099.1
                  have vh_3099 := h_3099.2
                  refine pl_i hx hb hK hP hL_this_rings hK_this_rings hN_this_rings (rg_in h_3099 (by decide)) dX12_nextOrder_46 ?_
                  refine lv_topi (fun x_3100 ex_3100 => ?_)
                  have h_3101 : rg x_3100 0 4 := rg_of_eq ex_3100 (GM.rR hG hT_this_rings rfl)
                  have uh_3101 := h_3101.1
                  have vh_3101 := h_3101.2
                  refine lv_aload_n hx hb dX12_nextOrder_47 rfl (lv_at hl 0 rfl) ?_
                  refine pg_f (v := .ref this_rings) (C := RX12) (T := TX12) (N := 31) hx hb hts (tw_i inlX12) hown hK hP hL_this hK_this (by decide) rfl 30 (by decide) (hts _ (tw_c tw_191)) (pq_hv rfl hR_this_rings) dX12_nextOrder_48 ?_
                  refine lv_iload_n hx hb dX12_nextOrder_51 rfl (lv_at hl 2 rfl) ?_
                  refine pl_i hx hb hK hP hL_this_rings hK_this_rings hN_this_rings (rg_in h_2588 (by decide)) dX12_nextOrder_52 ?_
                  refine lv_tov x_2589 ex_2589.symm ?_
                  refine lv_icmp_ge (tgt := 62) hx hb dX12_nextOrder_53 (by decide) (fun c_3102 => ?_) (fun c_3102 => ?_)
                  · have tc_3103 : (x_2589).toInt ≤ (x_3100).toInt := Int32.le_iff_toInt_le.mp c_3102
                    refine lv_aload_n hx hb dX12_nextOrder_62 rfl (lv_at hl 0 rfl) ?_
                    refine pg_f (v := .ref this_rings) (C := RX12) (T := TX12) (N := 31) hx hb hts (tw_i inlX12) hown hK hP hL_this hK_this (by decide) rfl 30 (by decide) (hts _ (tw_c tw_191)) (pq_hv rfl hR_this_rings) dX12_nextOrder_63 ?_
                    refine lv_iload_n hx hb dX12_nextOrder_66 rfl (lv_at hl 2 rfl) ?_
                    refine pl_i hx hb hK hP hL_this_rings hK_this_rings hN_this_rings (rg_in h_2588 (by decide)) dX12_nextOrder_67 ?_
                    refine lv_tov x_2589 ex_2589.symm ?_
                    refine lv_istore (lv' := [(4, .int x_2589), (0, .ref this), (1, .int a0), (2, .int x_1930), (3, .int x_2968)]) hx hb dX12_nextOrder_68 hl (by decide) rfl (fun ls hl => ?_)
                    refine lv_aload_n hx hb dX12_nextOrder_70 rfl (lv_at hl 1 rfl) ?_
                    refine pg_f (v := .ref this_rings) (C := RX12) (T := TX12) (N := 31) hx hb hts (tw_i inlX12) hown hK hP hL_this hK_this (by decide) rfl 30 (by decide) (hts _ (tw_c tw_191)) (pq_hv rfl hR_this_rings) dX12_nextOrder_71 ?_
                    refine lv_iload_n hx hb dX12_nextOrder_74 rfl (lv_at hl 3 rfl) ?_
                    refine lv_aload_n hx hb dX12_nextOrder_75 rfl (lv_at hl 1 rfl) ?_
                    refine pg_f (v := .ref this_rings) (C := RX12) (T := TX12) (N := 31) hx hb hts (tw_i inlX12) hown hK hP hL_this hK_this (by decide) rfl 30 (by decide) (hts _ (tw_c tw_191)) (pq_hv rfl hR_this_rings) dX12_nextOrder_76 ?_
                    refine lv_iload_n hx hb dX12_nextOrder_79 rfl (lv_at hl 4 rfl) ?_
                    refine pl_i hx hb hK hP hL_this_rings hK_this_rings hN_this_rings (rg_in h_3099 (by decide)) dX12_nextOrder_80 ?_
                    refine lv_tov x_3100 ex_3100.symm ?_
                    refine pt_i hx hb hK hP hD hS hL_this_rings hK_this_rings hN_this_rings (rg_in h_2588 (by decide)) dX12_nextOrder_81 (fun r_3104 H locs er_3104 hP hD hS => ?_)
                    have hG := GM.wR hG hSH hT_this_rings rfl er_3104 (rg_w h_3101 (by decide)) (by decide)
                    refine lv_aload_n hx hb dX12_nextOrder_82 rfl (lv_at hl 1 rfl) ?_
                    refine pg_f (v := .ref this_rings) (C := RX12) (T := TX12) (N := 31) hx hb hts (tw_i inlX12) hown hK hP hL_this hK_this (by decide) rfl 30 (by decide) (hts _ (tw_c tw_191)) (pq_hv rfl hR_this_rings) dX12_nextOrder_83 ?_
                    refine lv_iload_n hx hb dX12_nextOrder_86 rfl (lv_at hl 4 rfl) ?_
                    refine lv_iload hx hb dX12_nextOrder_87 (lv_at hl 0 rfl) ?_
                    refine pt_i hx hb hK hP hD hS hL_this_rings hK_this_rings hN_this_rings (rg_in h_3099 (by decide)) dX12_nextOrder_89 (fun r_3105 H locs er_3105 hP hD hS => ?_)
                    have hG := GM.wR hG hSH hT_this_rings rfl er_3105 (rg_w h_2590 (by decide)) (by decide)
                    have hsi : InjI a0.toInt (r_3105 this_rings) := sw_inj hinj er_3104 er_3105 ex_3100 ex_2589 (by have z0 := clampE x_1930; omega) (by have z0 := clampE x_2968; omega)
                    have hnp : ∀ i : Nat, i < x_1930.toNatClampNeg → r_3105 this_rings i = ri this_rings i := fun i hi => by rw [sw_eq er_3104 er_3105 ex_3100 ex_2589, if_neg (by have z0 := clampE x_1930; have z1 := clampE x_2968; omega), if_neg (by omega)]
                    have hnk : r_3105 this_rings x_1930.toNatClampNeg = x_3100 := by rw [sw_eq er_3104 er_3105 ex_3100 ex_2589, if_neg (by have z0 := clampE x_1930; have z1 := clampE x_2968; omega), if_pos rfl]; exact ex_3100.symm
                    have hne : (x_3100).toInt ≠ (x_2589).toInt := fun q => by have e := hinj x_2968.toNatClampNeg x_1930.toNatClampNeg (by have z0 := clampE x_2968; omega) (by have z0 := clampE x_1930; omega) (ex_3100.symm.trans ((Int32.toInt_inj.mp q).trans ex_2589)); have z0 := clampE x_2968; have z1 := clampE x_1930; omega
                    have hnl : (ri this_rings x_1930.toNatClampNeg).toInt < (r_3105 this_rings x_1930.toNatClampNeg).toInt := by have q := congrArg Int32.toInt hnk; have q2 : (x_2589).toInt = (ri this_rings x_1930.toNatClampNeg).toInt := congrArg Int32.toInt ex_2589; omega
                    refine lv_iload_n hx hb dX12_nextOrder_90 rfl (lv_at hl 3 rfl) ?_
                    refine lv_iconst (v := 1) hx hb dX12_nextOrder_91 (by decide) ?_
                    refine lv_iadd hx hb dX12_nextOrder_92 ?_
                    refine lv_topi (fun x_3106 ex_3106 => ?_)
                    have h_3107 : rg x_3106 1 4 := rg_of_eq ex_3106 (rg_add h_2588 (rg_k (1 : Int32) 1 rfl) (by decide))
                    have uh_3107 := h_3107.1
                    have vh_3107 := h_3107.2
                    have tx_3106 : (x_3106).toInt = (x_1930).toInt + 1 := by rw [ex_3106]; exact i_add_rg (a2 := (x_1930).toInt) (b2 := 1) rfl rfl h_2588 (rg_k (1 : Int32) 1 rfl) (by decide)
                    refine lv_istore (lv' := [(5, .int x_3106), (4, .int x_2589), (0, .ref this), (1, .int a0), (2, .int x_1930), (3, .int x_2968)]) hx hb dX12_nextOrder_93 hl (by decide) rfl (fun ls hl => ?_)
                    refine lv_iload_n hx hb dX12_nextOrder_95 rfl (lv_at hl 3 rfl) ?_
                    refine lv_iconst (v := 1) hx hb dX12_nextOrder_96 (by decide) ?_
                    refine lv_isub hx hb dX12_nextOrder_97 ?_
                    refine lv_topi (fun x_3108 ex_3108 => ?_)
                    have h_3109 : rg x_3108 (-1) 4 := rg_of_eq ex_3108 (rg_sub h_a0 (rg_k (1 : Int32) 1 rfl) (by decide))
                    have uh_3109 := h_3109.1
                    have vh_3109 := h_3109.2
                    have tx_3108 : (x_3108).toInt = (a0).toInt - 1 := by rw [ex_3108]; exact i_sub_rg (a2 := (a0).toInt) (b2 := 1) rfl rfl h_a0 (rg_k (1 : Int32) 1 rfl) (by decide)
                    refine lv_istore (lv' := [(6, .int x_3108), (5, .int x_3106), (4, .int x_2589), (0, .ref this), (1, .int a0), (2, .int x_1930), (3, .int x_2968)]) hx hb dX12_nextOrder_98 hl (by decide) rfl (fun ls hl => ?_)
                    have L_3195 : ∀ (n_3194 : Nat) (x_3171 : Int32) (x_3172 : Int32) (ri_3173 : Nat → Nat → Int32) (H : Heap) (locs : List Loc) (ls : Array Slot), rg x_3171 1 4 → rg x_3172 (-1) 4 → (x_1930.toInt + 1 ≤ (x_3171).toInt ∧ (x_3172).toInt + 1 ≤ a0.toInt) → (InjI a0.toInt (ri_3173 this_rings) ∧ ∀ i : Nat, i ≤ x_1930.toNatClampNeg → ri_3173 this_rings i = r_3105 this_rings i) → ((x_3172).toInt - (x_3171).toInt).toNat < n_3194 → GM [2002] tg σ I ri I ri_3173 rq → va_P D vwCl (pq_P t σ (I, J, ri_3173, rj, rq)) H → va_D A (pq_P t σ (I, J, ri_3173, rj, rq)) → va_S A s.heap H locs → lv_has ls 7 [(0, .ref this), (5, .int x_3171), (6, .int x_3172)] → W p l e ({ frames := 0, cells := 0, slots := 0, locals := 0 } : Room) s m (List.toArray ([.ref this, .int a0] : List Value)) below meth c H locs 0 0 Q (F0 m 100 ls []) := by
                      intro n_3194
                      induction n_3194 with
                      | zero => intro x_3171 x_3172 ri_3173 H locs ls h_3201 h_3202 hrel_3203 hrel_3204 hm_3193 hG hP hD hS hl; exact absurd hm_3193 (Nat.not_lt_zero _)
                      | succ n_3194 ih_3196 =>
                        intro x_3171 x_3172 ri_3173 H locs ls h_3201 h_3202 hrel_3203 hrel_3204 hm_3193 hG hP hD hS hl
                        have uh_3201 := h_3201.1
                        have vh_3201 := h_3201.2
                        have uh_3202 := h_3202.1
                        have vh_3202 := h_3202.2
                        refine lv_iload hx hb dX12_nextOrder_100 (lv_at hl 1 rfl) ?_
                        refine lv_iload hx hb dX12_nextOrder_102 (lv_at hl 2 rfl) ?_
                        refine lv_icmp_ge (tgt := 148) hx hb dX12_nextOrder_104 (by decide) (fun c_3205 => ?_) (fun c_3205 => ?_)
                        · have tc_3206 : (x_3172).toInt ≤ (x_3171).toInt := Int32.le_iff_toInt_le.mp c_3205
                          refine lv_iconst (v := 1) hx hb dX12_nextOrder_148 (by decide) ?_
                          subst hQ
                          exact W.zret (v := 1) hx hb hr (by decide) (fun t1 ht hW => ⟨⟨1, (σ, I, J, ri_3173, rj, rq), rfl, ⟨ri_3173, rfl, hG, (Or.inl ⟨rfl, ⟨hrel_3204.1, x_1930.toNatClampNeg, by have z0 := clampE x_1930; omega, fun i hi => (hrel_3204.2 i (by omega)).trans (hnp i hi), by rw [hrel_3204.2 _ (Nat.le_refl _)]; exact hnl⟩⟩)⟩, by rw [ht]; exact hP, va_K.moved hW.alike hK, hD⟩, hS.F ht⟩) hS.2.2 dX12_nextOrder_149
                        · have tc_3207 : (x_3171).toInt < (x_3172).toInt := Int32.lt_iff_toInt_lt.mp (nle c_3205)
                          have h_3208 : rg x_3171 1 3 := rg_lt1 (nle c_3205) h_3201 h_3202 (by decide)
                          have uh_3208 := h_3208.1
                          have vh_3208 := h_3208.2
                          have h_3209 : rg x_3172 2 4 := rg_lt2 (nle c_3205) h_3201 h_3202 (by decide)
                          have uh_3209 := h_3209.1
                          have vh_3209 := h_3209.2
                          refine lv_aload_n hx hb dX12_nextOrder_107 rfl (lv_at hl 0 rfl) ?_
                          refine pg_f (v := .ref this_rings) (C := RX12) (T := TX12) (N := 31) hx hb hts (tw_i inlX12) hown hK hP hL_this hK_this (by decide) rfl 30 (by decide) (hts _ (tw_c tw_191)) (pq_hv rfl hR_this_rings) dX12_nextOrder_108 ?_
                          refine lv_iload hx hb dX12_nextOrder_111 (lv_at hl 1 rfl) ?_
                          refine pl_i hx hb hK hP hL_this_rings hK_this_rings hN_this_rings (rg_in h_3208 (by decide)) dX12_nextOrder_113 ?_
                          refine lv_topi (fun x_3210 ex_3210 => ?_)
                          have h_3211 : rg x_3210 0 4 := rg_of_eq ex_3210 (GM.rR hG hT_this_rings rfl)
                          have uh_3211 := h_3211.1
                          have vh_3211 := h_3211.2
                          refine lv_istore (lv' := [(4, .int x_3210), (0, .ref this), (5, .int x_3171), (6, .int x_3172)]) hx hb dX12_nextOrder_114 hl (by decide) rfl (fun ls hl => ?_)
                          refine lv_aload_n hx hb dX12_nextOrder_116 rfl (lv_at hl 1 rfl) ?_
                          refine pg_f (v := .ref this_rings) (C := RX12) (T := TX12) (N := 31) hx hb hts (tw_i inlX12) hown hK hP hL_this hK_this (by decide) rfl 30 (by decide) (hts _ (tw_c tw_191)) (pq_hv rfl hR_this_rings) dX12_nextOrder_117 ?_
                          refine lv_iload hx hb dX12_nextOrder_120 (lv_at hl 2 rfl) ?_
                          refine lv_aload_n hx hb dX12_nextOrder_122 rfl (lv_at hl 1 rfl) ?_
                          refine pg_f (v := .ref this_rings) (C := RX12) (T := TX12) (N := 31) hx hb hts (tw_i inlX12) hown hK hP hL_this hK_this (by decide) rfl 30 (by decide) (hts _ (tw_c tw_191)) (pq_hv rfl hR_this_rings) dX12_nextOrder_123 ?_
                          refine lv_iload hx hb dX12_nextOrder_126 (lv_at hl 3 rfl) ?_
                          refine pl_i hx hb hK hP hL_this_rings hK_this_rings hN_this_rings (rg_in h_3209 (by decide)) dX12_nextOrder_128 ?_
                          refine lv_topi (fun x_3212 ex_3212 => ?_)
                          have h_3213 : rg x_3212 0 4 := rg_of_eq ex_3212 (GM.rR hG hT_this_rings rfl)
                          have uh_3213 := h_3213.1
                          have vh_3213 := h_3213.2
                          refine pt_i hx hb hK hP hD hS hL_this_rings hK_this_rings hN_this_rings (rg_in h_3208 (by decide)) dX12_nextOrder_129 (fun r_3214 H locs er_3214 hP hD hS => ?_)
                          have hG := GM.wR hG hSH hT_this_rings rfl er_3214 (rg_w h_3213 (by decide)) (by decide)
                          refine lv_aload_n hx hb dX12_nextOrder_130 rfl (lv_at hl 1 rfl) ?_
                          refine pg_f (v := .ref this_rings) (C := RX12) (T := TX12) (N := 31) hx hb hts (tw_i inlX12) hown hK hP hL_this hK_this (by decide) rfl 30 (by decide) (hts _ (tw_c tw_191)) (pq_hv rfl hR_this_rings) dX12_nextOrder_131 ?_
                          refine lv_iload hx hb dX12_nextOrder_134 (lv_at hl 3 rfl) ?_
                          refine lv_iload hx hb dX12_nextOrder_136 (lv_at hl 0 rfl) ?_
                          refine pt_i hx hb hK hP hD hS hL_this_rings hK_this_rings hN_this_rings (rg_in h_3209 (by decide)) dX12_nextOrder_138 (fun r_3215 H locs er_3215 hP hD hS => ?_)
                          have hG := GM.wR hG hSH hT_this_rings rfl er_3215 (rg_w h_3211 (by decide)) (by decide)
                          obtain ⟨x_3216, ex_3216⟩ : ∃ y : Int32, y = x_3171 + Int32.ofInt 1 := ⟨_, rfl⟩
                          have h_3217 : rg x_3216 2 4 := rg_of_eq ex_3216 (rg_add h_3208 (rg_k (Int32.ofInt 1) 1 rfl) (by decide))
                          have uh_3217 := h_3217.1
                          have vh_3217 := h_3217.2
                          have tx_3216 : (x_3216).toInt = (x_3171).toInt + 1 := by rw [ex_3216]; exact i_add_rg (a2 := (x_3171).toInt) (b2 := 1) rfl rfl h_3208 (rg_k (Int32.ofInt 1) 1 rfl) (by decide)
                          refine lv_iinc (v := x_3216) (lv' := [(5, .int x_3216), (4, .int x_3210), (0, .ref this), (6, .int x_3172)]) hx hb dX12_nextOrder_139 hl (k := 2) rfl ex_3216.symm (by decide) rfl (fun ls hl => ?_)
                          obtain ⟨x_3218, ex_3218⟩ : ∃ y : Int32, y = x_3172 + Int32.ofInt (-1) := ⟨_, rfl⟩
                          have h_3219 : rg x_3218 1 3 := rg_of_eq ex_3218 (rg_add h_3209 (rg_k (Int32.ofInt (-1)) (-1) rfl) (by decide))
                          have uh_3219 := h_3219.1
                          have vh_3219 := h_3219.2
                          have tx_3218 : (x_3218).toInt = (x_3172).toInt + (-1) := by rw [ex_3218]; exact i_add_rg (a2 := (x_3172).toInt) (b2 := (-1)) rfl rfl h_3209 (rg_k (Int32.ofInt (-1)) (-1) rfl) (by decide)
                          refine lv_iinc (v := x_3218) (lv' := [(6, .int x_3218), (5, .int x_3216), (4, .int x_3210), (0, .ref this)]) hx hb dX12_nextOrder_142 hl (k := 3) rfl ex_3218.symm (by decide) rfl (fun ls hl => ?_)
                          refine lv_goto (tgt := 100) hx hb dX12_nextOrder_145 (by decide) ?_
                          exact ih_3196 x_3216 x_3218 r_3215 _ _ _ (rg_w h_3217 (by decide)) (rg_w h_3219 (by decide)) (by omega) ⟨sw_inj hrel_3204.1 er_3214 er_3215 ex_3212 ex_3210 (by have z0 := clampE x_3171; omega) (by have z0 := clampE x_3172; omega), fun i hi => by rw [sw_eq er_3214 er_3215 ex_3212 ex_3210, if_neg (by have z0 := clampE x_3172; have z1 := clampE x_1930; omega), if_neg (by have z0 := clampE x_3171; have z1 := clampE x_1930; omega)]; exact hrel_3204.2 i hi⟩ (by omega) hG hP hD hS (lv_sub hl [3, 1, 0] rfl)
                    exact L_3195 _ x_3106 x_3108 r_3105 _ _ _ (rg_w h_3107 (by decide)) (rg_w h_3109 (by decide)) (by omega) ⟨hsi, fun _ _ => rfl⟩ (Nat.lt_succ_self _) hG hP hD hS (lv_sub hl [3, 1, 0] rfl)
                  · have tc_3220 : (x_3100).toInt < (x_2589).toInt := Int32.lt_iff_toInt_lt.mp (nle c_3102)
                    have h_3221 : rg x_3100 0 3 := rg_lt1 (nle c_3102) h_3101 h_2590 (by decide)
                    have uh_3221 := h_3221.1
                    have vh_3221 := h_3221.2
                    have h_3222 : rg x_2589 1 4 := rg_lt2 (nle c_3102) h_3101 h_2590 (by decide)
                    have uh_3222 := h_3222.1
                    have vh_3222 := h_3222.2
                    have tno : (x_2968).toInt ≠ (x_2591).toInt := fun q => by have e := Int32.toInt_inj.mp q; have e2 := ex_3100; rw [e] at e2; have e3 := congrArg Int32.toInt (e2.trans ex_2593.symm); omega
                    obtain ⟨x_3223, ex_3223⟩ : ∃ y : Int32, y = x_2968 + Int32.ofInt (-1) := ⟨_, rfl⟩
                    have h_3224 : rg x_3223 (-1) 3 := rg_of_eq ex_3223 (rg_add h_3099 (rg_k (Int32.ofInt (-1)) (-1) rfl) (by decide))
                    have uh_3224 := h_3224.1
                    have vh_3224 := h_3224.2
                    have tx_3223 : (x_3223).toInt = (x_2968).toInt + (-1) := by rw [ex_3223]; exact i_add_rg (a2 := (x_2968).toInt) (b2 := (-1)) rfl rfl h_3099 (rg_k (Int32.ofInt (-1)) (-1) rfl) (by decide)
                    refine lv_iinc (v := x_3223) (lv' := [(3, .int x_3223), (0, .ref this), (1, .int a0), (2, .int x_1930)]) hx hb dX12_nextOrder_56 hl (k := 3) rfl ex_3223.symm (by decide) rfl (fun ls hl => ?_)
                    refine lv_goto (tgt := 41) hx hb dX12_nextOrder_59 (by decide) ?_
                    exact ih_3094 x_3223 _ _ _ (rg_w h_3224 (by decide)) (by omega) (by omega) hG hP hD hS (lv_sub hl [1, 2, 3, 0] rfl)
              exact L_3093 _ x_2599 _ _ _ (rg_w h_2600 (by decide)) (by omega) (Nat.lt_succ_self _) hG hP hD hS (lv_sub hl [1, 2, 3, 0] rfl)
            · have tc_3225 : (x_1930).toInt < 0 := Int32.lt_iff_toInt_lt.mp (nle c_2597)
              exact (rg_empty (rg_lt1 (nle c_2597) h_2588 (rg_k (0 : Int32) 0 rfl) (lo := 0) (hi := (-1)) (by decide)) (by decide)).elim
          · have tc_3226 : (x_2593).toInt < (x_2589).toInt := Int32.lt_iff_toInt_lt.mp (nle c_2595)
            have h_3227 : rg x_2593 0 3 := rg_lt1 (nle c_2595) h_2594 h_2590 (by decide)
            have uh_3227 := h_3227.1
            have vh_3227 := h_3227.2
            have h_3228 : rg x_2589 1 4 := rg_lt2 (nle c_2595) h_2594 h_2590 (by decide)
            have uh_3228 := h_3228.1
            have vh_3228 := h_3228.2
            obtain ⟨x_3229, ex_3229⟩ : ∃ y : Int32, y = x_1930 + Int32.ofInt (-1) := ⟨_, rfl⟩
            have h_3230 : rg x_3229 (-1) 2 := rg_of_eq ex_3229 (rg_add h_2588 (rg_k (Int32.ofInt (-1)) (-1) rfl) (by decide))
            have uh_3230 := h_3230.1
            have vh_3230 := h_3230.2
            have tx_3229 : (x_3229).toInt = (x_1930).toInt + (-1) := by rw [ex_3229]; exact i_add_rg (a2 := (x_1930).toInt) (b2 := (-1)) rfl rfl h_2588 (rg_k (Int32.ofInt (-1)) (-1) rfl) (by decide)
            refine lv_iinc (v := x_3229) (lv' := [(2, .int x_3229), (0, .ref this), (1, .int a0)]) hx hb dX12_nextOrder_25 hl (k := 2) rfl ex_3229.symm (by decide) rfl (fun ls hl => ?_)
            refine lv_goto (tgt := 4) hx hb dX12_nextOrder_28 (by decide) ?_
            exact ih_2576 x_3229 _ _ _ (rg_w h_3230 (by decide)) (by omega) (ms_dn 1 hm_2573 ex_3229 rfl (by decide) h_2588 (by decide) (by decide)) hG hP hD hS (lv_sub hl [1, 2, 0] rfl)
    exact L_2575 _ x_1 _ _ _ (rg_w h_2 (by decide)) (by omega) (Nat.lt_succ_self _) hG hP hD hS (lv_sub hl [1, 2, 0] rfl)
  exact go _ _ _ hP hD hS hl
