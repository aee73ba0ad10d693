theorem dX0_sleep_0 : decode cX0_sleep 0 = .ok (.iload_n 2, 1) := oc_28 (by decide +kernel)
theorem dX0_sleep_1 : decode cX0_sleep 1 = .ok (.ifCond .lt 11, 3) := oc_155 (a := 0) (b := 11) (by decide +kernel)
theorem dX0_sleep_4 : decode cX0_sleep 4 = .ok (.iload_n 2, 1) := oc_28 (by decide +kernel)
theorem dX0_sleep_5 : decode cX0_sleep 5 = .ok (.iconst 5, 1) := oc_8 (by decide +kernel)
theorem dX0_sleep_6 : decode cX0_sleep 6 = .ok (.iadd, 1) := oc_96 (by decide +kernel)
theorem dX0_sleep_7 : decode cX0_sleep 7 = .ok (.aload_n 1, 1) := oc_43 (by decide +kernel)
theorem dX0_sleep_8 : decode cX0_sleep 8 = .ok (.arraylength, 1) := oc_190 (by decide +kernel)
theorem dX0_sleep_9 : decode cX0_sleep 9 = .ok (.if_icmp .le 5, 3) := oc_164 (a := 0) (b := 5) (by decide +kernel)
theorem dX0_sleep_14 : decode cX0_sleep 14 = .ok (.aload_n 1, 1) := oc_43 (by decide +kernel)
theorem dX0_sleep_15 : decode cX0_sleep 15 = .ok (.iload_n 2, 1) := oc_28 (by decide +kernel)
theorem dX0_sleep_16 : decode cX0_sleep 16 = .ok (.aload_n 0, 1) := oc_42 (by decide +kernel)
theorem dX0_sleep_17 : decode cX0_sleep 17 = .ok (.getfield 42, 3) := oc_180 (a := 0) (b := 42) (by decide +kernel)
theorem dX0_sleep_20 : decode cX0_sleep 20 = .ok (.iconst 0, 1) := oc_3 (by decide +kernel)
theorem dX0_sleep_21 : decode cX0_sleep 21 = .ok (.iconst 5, 1) := oc_8 (by decide +kernel)
theorem tw_1124 : Cond.methodLink RX0 94 arraycopyName ∈ wsL_law := sg_47 _ (List.mem_of_getElem? (i := 20) rfl)
theorem dX0_sleep_22 : decode cX0_sleep 22 = .ok (.invokestatic 94, 3) := oc_184 (a := 0) (b := 94) (by decide +kernel)
theorem dX0_sleep_25 : decode cX0_sleep 25 = .ok (.iconst 0, 1) := oc_3 (by decide +kernel)
theorem dX0_sleep_26 : decode cX0_sleep 26 = .ok (.istore_n 3, 1) := oc_62 (by decide +kernel)
theorem dX0_sleep_27 : decode cX0_sleep 27 = .ok (.iconst 0, 1) := oc_3 (by decide +kernel)
theorem dX0_sleep_28 : decode cX0_sleep 28 = .ok (.istore 4, 2) := oc_54 (by decide +kernel)
theorem dX0_sleep_30 : decode cX0_sleep 30 = .ok (.iload 4, 2) := oc_21 (by decide +kernel)
theorem dX0_sleep_32 : decode cX0_sleep 32 = .ok (.aload_n 0, 1) := oc_42 (by decide +kernel)
theorem dX0_sleep_33 : decode cX0_sleep 33 = .ok (.getfield 54, 3) := oc_180 (a := 0) (b := 54) (by decide +kernel)
theorem dX0_sleep_36 : decode cX0_sleep 36 = .ok (.if_icmp .ge 66, 3) := oc_162 (a := 0) (b := 66) (by decide +kernel)
theorem dX0_sleep_102 : decode cX0_sleep 102 = .ok (.iload_n 3, 1) := oc_29 (by decide +kernel)
theorem dX0_sleep_103 : decode cX0_sleep 103 = .ok (.ireturn, 1) := oc_172 (by decide +kernel)
theorem dX0_sleep_39 : decode cX0_sleep 39 = .ok (.aload_n 0, 1) := oc_42 (by decide +kernel)
theorem dX0_sleep_40 : decode cX0_sleep 40 = .ok (.iload 4, 2) := oc_21 (by decide +kernel)
theorem dX0_sleep_42 : decode cX0_sleep 42 = .ok (.invokevirtual 65, 3) := oc_182 (a := 0) (b := 65) (by decide +kernel)
theorem dX0_sleep_96 : decode cX0_sleep 96 = .ok (.iinc 4 1, 3) := oc_132 (b := 1) (by decide +kernel)
theorem dX0_sleep_99 : decode cX0_sleep 99 = .ok (.goto (-69), 3) := oc_167 (a := 255) (b := 187) (by decide +kernel)
theorem dX0_sleep_45 : decode cX0_sleep 45 = .ok (.ifCond .eq 51, 3) := oc_153 (a := 0) (b := 51) (by decide +kernel)
theorem dX0_sleep_48 : decode cX0_sleep 48 = .ok (.aload_n 0, 1) := oc_42 (by decide +kernel)
theorem dX0_sleep_49 : decode cX0_sleep 49 = .ok (.getfield 42, 3) := oc_180 (a := 0) (b := 42) (by decide +kernel)
theorem dX0_sleep_52 : decode cX0_sleep 52 = .ok (.aload_n 0, 1) := oc_42 (by decide +kernel)
theorem dX0_sleep_53 : decode cX0_sleep 53 = .ok (.getfield 24, 3) := oc_180 (a := 0) (b := 24) (by decide +kernel)
theorem dX0_sleep_56 : decode cX0_sleep 56 = .ok (.iload 4, 2) := oc_21 (by decide +kernel)
theorem dX0_sleep_58 : decode cX0_sleep 58 = .ok (.iaload, 1) := oc_46 (by decide +kernel)
theorem dX0_sleep_59 : decode cX0_sleep 59 = .ok (.iaload, 1) := oc_46 (by decide +kernel)
theorem dX0_sleep_60 : decode cX0_sleep 60 = .ok (.ifCond .le 22, 3) := oc_158 (a := 0) (b := 22) (by decide +kernel)
theorem dX0_sleep_82 : decode cX0_sleep 82 = .ok (.aload_n 0, 1) := oc_42 (by decide +kernel)
theorem dX0_sleep_83 : decode cX0_sleep 83 = .ok (.getfield 30, 3) := oc_180 (a := 0) (b := 30) (by decide +kernel)
theorem dX0_sleep_86 : decode cX0_sleep 86 = .ok (.iload 4, 2) := oc_21 (by decide +kernel)
theorem dX0_sleep_88 : decode cX0_sleep 88 = .ok (.dup2, 1) := oc_92 (by decide +kernel)
theorem dX0_sleep_89 : decode cX0_sleep 89 = .ok (.iaload, 1) := oc_46 (by decide +kernel)
theorem dX0_sleep_90 : decode cX0_sleep 90 = .ok (.iconst 1, 1) := oc_4 (by decide +kernel)
theorem dX0_sleep_91 : decode cX0_sleep 91 = .ok (.iadd, 1) := oc_96 (by decide +kernel)
theorem dX0_sleep_92 : decode cX0_sleep 92 = .ok (.iastore, 1) := oc_79 (by decide +kernel)
theorem dX0_sleep_93 : decode cX0_sleep 93 = .ok (.iinc 3 1, 3) := oc_132 (b := 1) (by decide +kernel)
theorem dX0_sleep_63 : decode cX0_sleep 63 = .ok (.aload_n 0, 1) := oc_42 (by decide +kernel)
theorem dX0_sleep_64 : decode cX0_sleep 64 = .ok (.getfield 42, 3) := oc_180 (a := 0) (b := 42) (by decide +kernel)
theorem dX0_sleep_67 : decode cX0_sleep 67 = .ok (.aload_n 0, 1) := oc_42 (by decide +kernel)
theorem dX0_sleep_68 : decode cX0_sleep 68 = .ok (.getfield 24, 3) := oc_180 (a := 0) (b := 24) (by decide +kernel)
theorem dX0_sleep_71 : decode cX0_sleep 71 = .ok (.iload 4, 2) := oc_21 (by decide +kernel)
theorem dX0_sleep_73 : decode cX0_sleep 73 = .ok (.iaload, 1) := oc_46 (by decide +kernel)
theorem dX0_sleep_74 : decode cX0_sleep 74 = .ok (.dup2, 1) := oc_92 (by decide +kernel)
theorem dX0_sleep_75 : decode cX0_sleep 75 = .ok (.iaload, 1) := oc_46 (by decide +kernel)
theorem dX0_sleep_76 : decode cX0_sleep 76 = .ok (.iconst 1, 1) := oc_4 (by decide +kernel)
theorem dX0_sleep_77 : decode cX0_sleep 77 = .ok (.isub, 1) := oc_100 (by decide +kernel)
theorem dX0_sleep_78 : decode cX0_sleep 78 = .ok (.iastore, 1) := oc_79 (by decide +kernel)
theorem dX0_sleep_79 : decode cX0_sleep 79 = .ok (.goto 17, 3) := oc_167 (a := 0) (b := 17) (by decide +kernel)
theorem dX0_board_0 : decode cX0_board 0 = .ok (.aload_n 0, 1) := oc_42 (by decide +kernel)
theorem dX0_board_1 : decode cX0_board 1 = .ok (.lload_n 1, 1) := oc_31 (by decide +kernel)
theorem tw_1172 : Cond.methodLink RX0 100 yX0_countGroups ∈ wsL_law := sg_49 _ (List.mem_of_getElem? (i := 20) rfl)
theorem tw_1173 : Cond.instanceMethod yX0_countGroups ∈ wsL_law := sg_49 _ (List.mem_of_getElem? (i := 21) rfl)
theorem tw_1174 : Cond.selects RX0 yX0_countGroups yX0_countGroups ∈ wsL_law := sg_49 _ (List.mem_of_getElem? (i := 22) rfl)
theorem tw_1175 : Cond.code yX0_countGroups cX0_countGroups 4 none ∈ wsL_law := sg_49 _ (List.mem_of_getElem? (i := 23) rfl)
theorem dX0_board_2 : decode cX0_board 2 = .ok (.invokevirtual 100, 3) := oc_182 (a := 0) (b := 100) (by decide +kernel)
theorem dX0_board_5 : decode cX0_board 5 = .ok (.iconst 0, 1) := oc_3 (by decide +kernel)
theorem dX0_board_6 : decode cX0_board 6 = .ok (.istore 7, 2) := oc_54 (by decide +kernel)
theorem dX0_board_8 : decode cX0_board 8 = .ok (.iload 7, 2) := oc_21 (by decide +kernel)
theorem dX0_board_10 : decode cX0_board 10 = .ok (.aload_n 0, 1) := oc_42 (by decide +kernel)
theorem dX0_board_11 : decode cX0_board 11 = .ok (.getfield 62, 3) := oc_180 (a := 0) (b := 62) (by decide +kernel)
theorem dX0_board_14 : decode cX0_board 14 = .ok (.if_icmp .ge 22, 3) := oc_162 (a := 0) (b := 22) (by decide +kernel)
theorem dX0_board_36 : decode cX0_board 36 = .ok (.iload 5, 2) := oc_21 (by decide +kernel)
theorem dX0_board_38 : decode cX0_board 38 = .ok (.istore 7, 2) := oc_54 (by decide +kernel)
theorem dX0_board_40 : decode cX0_board 40 = .ok (.iconst 0, 1) := oc_3 (by decide +kernel)
theorem dX0_board_41 : decode cX0_board 41 = .ok (.istore 8, 2) := oc_54 (by decide +kernel)
theorem dX0_board_43 : decode cX0_board 43 = .ok (.iload 8, 2) := oc_21 (by decide +kernel)
theorem dX0_board_45 : decode cX0_board 45 = .ok (.iload 4, 2) := oc_21 (by decide +kernel)
theorem dX0_board_47 : decode cX0_board 47 = .ok (.if_icmp .ge 161, 3) := oc_162 (a := 0) (b := 161) (by decide +kernel)
theorem dX0_board_208 : decode cX0_board 208 = .ok (.return_, 1) := oc_177 (by decide +kernel)
theorem dX0_board_50 : decode cX0_board 50 = .ok (.iload 8, 2) := oc_21 (by decide +kernel)
theorem dX0_board_52 : decode cX0_board 52 = .ok (.aload_n 3, 1) := oc_45 (by decide +kernel)
theorem dX0_board_53 : decode cX0_board 53 = .ok (.arraylength, 1) := oc_190 (by decide +kernel)
theorem dX0_board_54 : decode cX0_board 54 = .ok (.if_icmp .ge 154, 3) := oc_162 (a := 0) (b := 154) (by decide +kernel)
theorem dX0_board_57 : decode cX0_board 57 = .ok (.aload_n 3, 1) := oc_45 (by decide +kernel)
theorem dX0_board_58 : decode cX0_board 58 = .ok (.iload 8, 2) := oc_21 (by decide +kernel)
theorem dX0_board_60 : decode cX0_board 60 = .ok (.iaload, 1) := oc_46 (by decide +kernel)
theorem dX0_board_61 : decode cX0_board 61 = .ok (.istore 9, 2) := oc_54 (by decide +kernel)
theorem dX0_board_63 : decode cX0_board 63 = .ok (.lload_n 1, 1) := oc_31 (by decide +kernel)
theorem dX0_board_64 : decode cX0_board 64 = .ok (.iload 9, 2) := oc_21 (by decide +kernel)
theorem dX0_board_66 : decode cX0_board 66 = .ok (.invokestatic 73, 3) := oc_184 (a := 0) (b := 73) (by decide +kernel)
theorem dX0_board_202 : decode cX0_board 202 = .ok (.iinc 8 1, 3) := oc_132 (b := 1) (by decide +kernel)
theorem dX0_board_205 : decode cX0_board 205 = .ok (.goto (-162), 3) := oc_167 (a := 255) (b := 94) (by decide +kernel)
theorem dX0_board_69 : decode cX0_board 69 = .ok (.ifCond .eq 133, 3) := oc_153 (a := 0) (b := 133) (by decide +kernel)
theorem dX0_board_72 : decode cX0_board 72 = .ok (.aload_n 0, 1) := oc_42 (by decide +kernel)
theorem dX0_board_73 : decode cX0_board 73 = .ok (.iload 9, 2) := oc_21 (by decide +kernel)
theorem dX0_board_75 : decode cX0_board 75 = .ok (.invokevirtual 65, 3) := oc_182 (a := 0) (b := 65) (by decide +kernel)
theorem dX0_board_78 : decode cX0_board 78 = .ok (.ifCond .ne 6, 3) := oc_154 (a := 0) (b := 6) (by decide +kernel)
theorem dX0_board_84 : decode cX0_board 84 = .ok (.aload_n 0, 1) := oc_42 (by decide +kernel)
theorem dX0_board_85 : decode cX0_board 85 = .ok (.iload 9, 2) := oc_21 (by decide +kernel)
theorem dX0_board_87 : decode cX0_board 87 = .ok (.invokevirtual 107, 3) := oc_182 (a := 0) (b := 107) (by decide +kernel)
theorem dX0_board_90 : decode cX0_board 90 = .ok (.istore 10, 2) := oc_54 (by decide +kernel)
theorem dX0_board_92 : decode cX0_board 92 = .ok (.aload_n 0, 1) := oc_42 (by decide +kernel)
theorem dX0_board_93 : decode cX0_board 93 = .ok (.getfield 51, 3) := oc_180 (a := 0) (b := 51) (by decide +kernel)
theorem dX0_board_96 : decode cX0_board 96 = .ok (.iload 10, 2) := oc_21 (by decide +kernel)
theorem dX0_board_98 : decode cX0_board 98 = .ok (.iaload, 1) := oc_46 (by decide +kernel)
theorem dX0_board_99 : decode cX0_board 99 = .ok (.bipush (-2), 2) := oc_16 (a := 254) (by decide +kernel)
theorem dX0_board_165 : decode cX0_board 165 = .ok (.aload_n 0, 1) := oc_42 (by decide +kernel)
theorem dX0_board_166 : decode cX0_board 166 = .ok (.getfield 51, 3) := oc_180 (a := 0) (b := 51) (by decide +kernel)
theorem dX0_board_169 : decode cX0_board 169 = .ok (.iload 10, 2) := oc_21 (by decide +kernel)
theorem dX0_board_171 : decode cX0_board 171 = .ok (.iaload, 1) := oc_46 (by decide +kernel)
theorem dX0_board_172 : decode cX0_board 172 = .ok (.iconst (-1), 1) := oc_2 (by decide +kernel)
theorem dX0_board_173 : decode cX0_board 173 = .ok (.if_icmp .eq 29, 3) := oc_159 (a := 0) (b := 29) (by decide +kernel)
theorem dX0_board_176 : decode cX0_board 176 = .ok (.aload_n 0, 1) := oc_42 (by decide +kernel)
theorem dX0_board_177 : decode cX0_board 177 = .ok (.getfield 24, 3) := oc_180 (a := 0) (b := 24) (by decide +kernel)
theorem dX0_board_180 : decode cX0_board 180 = .ok (.iload 9, 2) := oc_21 (by decide +kernel)
theorem dX0_board_182 : decode cX0_board 182 = .ok (.bipush 100, 2) := oc_16 (a := 100) (by decide +kernel)
theorem dX0_board_184 : decode cX0_board 184 = .ok (.aload_n 0, 1) := oc_42 (by decide +kernel)
theorem dX0_board_185 : decode cX0_board 185 = .ok (.getfield 51, 3) := oc_180 (a := 0) (b := 51) (by decide +kernel)
theorem dX0_board_188 : decode cX0_board 188 = .ok (.iload 10, 2) := oc_21 (by decide +kernel)
theorem dX0_board_190 : decode cX0_board 190 = .ok (.iaload, 1) := oc_46 (by decide +kernel)
theorem dX0_board_191 : decode cX0_board 191 = .ok (.iadd, 1) := oc_96 (by decide +kernel)
theorem dX0_board_192 : decode cX0_board 192 = .ok (.iastore, 1) := oc_79 (by decide +kernel)
theorem dX0_board_193 : decode cX0_board 193 = .ok (.aload_n 0, 1) := oc_42 (by decide +kernel)
theorem dX0_board_194 : decode cX0_board 194 = .ok (.getfield 33, 3) := oc_180 (a := 0) (b := 33) (by decide +kernel)
theorem dX0_board_197 : decode cX0_board 197 = .ok (.iload 9, 2) := oc_21 (by decide +kernel)
theorem dX0_board_199 : decode cX0_board 199 = .ok (.iload 6, 2) := oc_21 (by decide +kernel)
theorem dX0_board_201 : decode cX0_board 201 = .ok (.iastore, 1) := oc_79 (by decide +kernel)
theorem dX0_board_101 : decode cX0_board 101 = .ok (.if_icmp .ne 64, 3) := oc_160 (a := 0) (b := 64) (by decide +kernel)
theorem dX0_board_104 : decode cX0_board 104 = .ok (.aload_n 0, 1) := oc_42 (by decide +kernel)
theorem dX0_board_105 : decode cX0_board 105 = .ok (.getfield 51, 3) := oc_180 (a := 0) (b := 51) (by decide +kernel)
theorem dX0_board_108 : decode cX0_board 108 = .ok (.iload 10, 2) := oc_21 (by decide +kernel)
theorem dX0_board_110 : decode cX0_board 110 = .ok (.aload_n 0, 1) := oc_42 (by decide +kernel)
theorem dX0_board_111 : decode cX0_board 111 = .ok (.getfield 48, 3) := oc_180 (a := 0) (b := 48) (by decide +kernel)
theorem dX0_board_114 : decode cX0_board 114 = .ok (.iload 10, 2) := oc_21 (by decide +kernel)
theorem dX0_board_116 : decode cX0_board 116 = .ok (.iaload, 1) := oc_46 (by decide +kernel)
theorem dX0_board_117 : decode cX0_board 117 = .ok (.iload 7, 2) := oc_21 (by decide +kernel)
theorem dX0_board_137 : decode cX0_board 137 = .ok (.iastore, 1) := oc_79 (by decide +kernel)
theorem dX0_board_138 : decode cX0_board 138 = .ok (.iload 7, 2) := oc_21 (by decide +kernel)
theorem dX0_board_140 : decode cX0_board 140 = .ok (.aload_n 0, 1) := oc_42 (by decide +kernel)
theorem dX0_board_141 : decode cX0_board 141 = .ok (.getfield 51, 3) := oc_180 (a := 0) (b := 51) (by decide +kernel)
theorem dX0_board_144 : decode cX0_board 144 = .ok (.iload 10, 2) := oc_21 (by decide +kernel)
theorem dX0_board_146 : decode cX0_board 146 = .ok (.iaload, 1) := oc_46 (by decide +kernel)
theorem dX0_board_147 : decode cX0_board 147 = .ok (.iconst (-1), 1) := oc_2 (by decide +kernel)
theorem dX0_board_162 : decode cX0_board 162 = .ok (.isub, 1) := oc_100 (by decide +kernel)
theorem dX0_board_163 : decode cX0_board 163 = .ok (.istore 7, 2) := oc_54 (by decide +kernel)
theorem dX0_board_148 : decode cX0_board 148 = .ok (.if_icmp .ne 7, 3) := oc_160 (a := 0) (b := 7) (by decide +kernel)
theorem dX0_board_155 : decode cX0_board 155 = .ok (.aload_n 0, 1) := oc_42 (by decide +kernel)
theorem dX0_board_156 : decode cX0_board 156 = .ok (.getfield 48, 3) := oc_180 (a := 0) (b := 48) (by decide +kernel)
theorem dX0_board_159 : decode cX0_board 159 = .ok (.iload 10, 2) := oc_21 (by decide +kernel)
theorem dX0_board_161 : decode cX0_board 161 = .ok (.iaload, 1) := oc_46 (by decide +kernel)
theorem dX0_board_151 : decode cX0_board 151 = .ok (.iconst 0, 1) := oc_3 (by decide +kernel)
theorem dX0_board_152 : decode cX0_board 152 = .ok (.goto 10, 3) := oc_167 (a := 0) (b := 10) (by decide +kernel)
theorem dX0_board_119 : decode cX0_board 119 = .ok (.if_icmp .gt 17, 3) := oc_163 (a := 0) (b := 17) (by decide +kernel)
theorem dX0_board_136 : decode cX0_board 136 = .ok (.iconst (-1), 1) := oc_2 (by decide +kernel)
theorem dX0_board_122 : decode cX0_board 122 = .ok (.aload_n 0, 1) := oc_42 (by decide +kernel)
theorem dX0_board_123 : decode cX0_board 123 = .ok (.aload_n 0, 1) := oc_42 (by decide +kernel)
theorem dX0_board_124 : decode cX0_board 124 = .ok (.getfield 48, 3) := oc_180 (a := 0) (b := 48) (by decide +kernel)
theorem dX0_board_127 : decode cX0_board 127 = .ok (.iload 10, 2) := oc_21 (by decide +kernel)
theorem dX0_board_129 : decode cX0_board 129 = .ok (.iaload, 1) := oc_46 (by decide +kernel)
theorem tw_1181 : Cond.methodLink RX0 110 yX0_takeLot ∈ wsL_law := sg_50 _ (List.mem_of_getElem? (i := 5) rfl)
theorem tw_1182 : Cond.instanceMethod yX0_takeLot ∈ wsL_law := sg_50 _ (List.mem_of_getElem? (i := 6) rfl)
theorem tw_1183 : Cond.selects RX0 yX0_takeLot yX0_takeLot ∈ wsL_law := sg_50 _ (List.mem_of_getElem? (i := 7) rfl)
theorem tw_1184 : Cond.code yX0_takeLot cX0_takeLot 3 (some .int) ∈ wsL_law := sg_50 _ (List.mem_of_getElem? (i := 8) rfl)
theorem dX0_board_130 : decode cX0_board 130 = .ok (.invokevirtual 110, 3) := oc_182 (a := 0) (b := 110) (by decide +kernel)
theorem dX0_board_133 : decode cX0_board 133 = .ok (.goto 4, 3) := oc_167 (a := 0) (b := 4) (by decide +kernel)
theorem dX0_board_81 : decode cX0_board 81 = .ok (.goto 121, 3) := oc_167 (a := 0) (b := 121) (by decide +kernel)
theorem dX0_board_17 : decode cX0_board 17 = .ok (.aload_n 0, 1) := oc_42 (by decide +kernel)
theorem dX0_board_18 : decode cX0_board 18 = .ok (.getfield 45, 3) := oc_180 (a := 0) (b := 45) (by decide +kernel)
theorem dX0_board_21 : decode cX0_board 21 = .ok (.iload 7, 2) := oc_21 (by decide +kernel)
theorem dX0_board_23 : decode cX0_board 23 = .ok (.aload_n 0, 1) := oc_42 (by decide +kernel)
theorem dX0_board_24 : decode cX0_board 24 = .ok (.iload 7, 2) := oc_21 (by decide +kernel)
theorem tw_1180 : Cond.methodLink RX0 104 yX0_freeBeds ∈ wsL_law := sg_50 _ (List.mem_of_getElem? (i := 4) rfl)
theorem tw_414 : Cond.instanceMethod yX0_freeBeds ∈ wsL_law := sg_18 _ (List.mem_of_getElem? (i := 6) rfl)
theorem tw_415 : Cond.selects RX0 yX0_freeBeds yX0_freeBeds ∈ wsL_law := sg_18 _ (List.mem_of_getElem? (i := 7) rfl)
theorem tw_416 : Cond.code yX0_freeBeds cX0_freeBeds 2 (some .int) ∈ wsL_law := sg_18 _ (List.mem_of_getElem? (i := 8) rfl)
theorem dX0_board_26 : decode cX0_board 26 = .ok (.invokevirtual 104, 3) := oc_182 (a := 0) (b := 104) (by decide +kernel)
theorem dX0_board_29 : decode cX0_board 29 = .ok (.iastore, 1) := oc_79 (by decide +kernel)
theorem dX0_board_30 : decode cX0_board 30 = .ok (.iinc 7 1, 3) := oc_132 (b := 1) (by decide +kernel)
theorem dX0_board_33 : decode cX0_board 33 = .ok (.goto (-25), 3) := oc_167 (a := 255) (b := 231) (by decide +kernel)
theorem dX5_lacksOf_0 : decode cX5_lacksOf 0 = .ok (.aload_n 2, 1) := oc_44 (by decide +kernel)
theorem dX5_lacksOf_1 : decode cX5_lacksOf 1 = .ok (.getfield 31, 3) := oc_180 (a := 0) (b := 31) (by decide +kernel)
theorem tw_1458 : Cond.fieldLink RX5 102 "RingsUnder$Land" "wells" "LRingsUnder$Wells;" ∈ wsL_law := sg_61 _ (List.mem_of_getElem? (i := 18) rfl)
theorem dX5_lacksOf_4 : decode cX5_lacksOf 4 = .ok (.getfield 102, 3) := oc_180 (a := 0) (b := 102) (by decide +kernel)
theorem dX5_lacksOf_7 : decode cX5_lacksOf 7 = .ok (.aload_n 1, 1) := oc_43 (by decide +kernel)
theorem dX5_lacksOf_8 : decode cX5_lacksOf 8 = .ok (.getfield 31, 3) := oc_180 (a := 0) (b := 31) (by decide +kernel)
theorem dX5_lacksOf_11 : decode cX5_lacksOf 11 = .ok (.getfield 102, 3) := oc_180 (a := 0) (b := 102) (by decide +kernel)
theorem tw_1465 : Cond.methodLink RX5 106 yX9_copyFrom ∈ wsL_law := sg_62 _ (List.mem_of_getElem? (i := 1) rfl)
theorem dX5_lacksOf_14 : decode cX5_lacksOf 14 = .ok (.invokevirtual 106, 3) := oc_182 (a := 0) (b := 106) (by decide +kernel)
theorem dX5_lacksOf_17 : decode cX5_lacksOf 17 = .ok (.aload_n 1, 1) := oc_43 (by decide +kernel)
theorem dX5_lacksOf_18 : decode cX5_lacksOf 18 = .ok (.getfield 68, 3) := oc_180 (a := 0) (b := 68) (by decide +kernel)
theorem dX5_lacksOf_21 : decode cX5_lacksOf 21 = .ok (.getfield 112, 3) := oc_180 (a := 0) (b := 112) (by decide +kernel)
theorem dX5_lacksOf_24 : decode cX5_lacksOf 24 = .ok (.aload_n 2, 1) := oc_44 (by decide +kernel)
theorem dX5_lacksOf_25 : decode cX5_lacksOf 25 = .ok (.getfield 68, 3) := oc_180 (a := 0) (b := 68) (by decide +kernel)
theorem dX5_lacksOf_28 : decode cX5_lacksOf 28 = .ok (.getfield 112, 3) := oc_180 (a := 0) (b := 112) (by decide +kernel)
theorem dX5_lacksOf_31 : decode cX5_lacksOf 31 = .ok (.invokestatic 60, 3) := oc_184 (a := 0) (b := 60) (by decide +kernel)
theorem dX5_lacksOf_34 : decode cX5_lacksOf 34 = .ok (.aload_n 0, 1) := oc_42 (by decide +kernel)
theorem dX5_lacksOf_35 : decode cX5_lacksOf 35 = .ok (.aload_n 1, 1) := oc_43 (by decide +kernel)
theorem dX5_lacksOf_36 : decode cX5_lacksOf 36 = .ok (.getfield 68, 3) := oc_180 (a := 0) (b := 68) (by decide +kernel)
theorem dX5_lacksOf_39 : decode cX5_lacksOf 39 = .ok (.aload_n 1, 1) := oc_43 (by decide +kernel)
theorem dX5_lacksOf_40 : decode cX5_lacksOf 40 = .ok (.getfield 31, 3) := oc_180 (a := 0) (b := 31) (by decide +kernel)
theorem tw_1439 : Cond.fieldLink RX5 37 "RingsUnder$Land" "rings" "I" ∈ wsL_law := sg_60 _ (List.mem_of_getElem? (i := 23) rfl)
theorem dX5_lacksOf_43 : decode cX5_lacksOf 43 = .ok (.getfield 37, 3) := oc_180 (a := 0) (b := 37) (by decide +kernel)
theorem tw_1466 : Cond.methodLink RX5 115 yX5_lineUp ∈ wsL_law := sg_62 _ (List.mem_of_getElem? (i := 2) rfl)
theorem tw_1467 : Cond.instanceMethod yX5_lineUp ∈ wsL_law := sg_62 _ (List.mem_of_getElem? (i := 3) rfl)
theorem tw_1468 : Cond.selects RX5 yX5_lineUp yX5_lineUp ∈ wsL_law := sg_62 _ (List.mem_of_getElem? (i := 4) rfl)
theorem tw_21 : Cond.initialized RX5 ∈ wsL_law := sg_1 _ (List.mem_of_getElem? (i := 21) rfl)
theorem tw_1469 : Cond.code yX5_lineUp cX5_lineUp 5 none ∈ wsL_law := sg_62 _ (List.mem_of_getElem? (i := 5) rfl)
theorem dX5_lacksOf_46 : decode cX5_lacksOf 46 = .ok (.invokevirtual 115, 3) := oc_182 (a := 0) (b := 115) (by decide +kernel)
theorem dX5_lacksOf_49 : decode cX5_lacksOf 49 = .ok (.iconst 0, 1) := oc_3 (by decide +kernel)
theorem dX5_lacksOf_50 : decode cX5_lacksOf 50 = .ok (.istore 4, 2) := oc_54 (by decide +kernel)
theorem dX5_lacksOf_52 : decode cX5_lacksOf 52 = .ok (.iconst 0, 1) := oc_3 (by decide +kernel)
theorem dX5_lacksOf_53 : decode cX5_lacksOf 53 = .ok (.istore 5, 2) := oc_54 (by decide +kernel)
theorem dX5_lacksOf_55 : decode cX5_lacksOf 55 = .ok (.iload 5, 2) := oc_21 (by decide +kernel)
theorem dX5_lacksOf_57 : decode cX5_lacksOf 57 = .ok (.iload_n 3, 1) := oc_29 (by decide +kernel)
theorem dX5_lacksOf_193 : decode cX5_lacksOf 193 = .ok (.iload 4, 2) := oc_21 (by decide +kernel)
theorem dX5_lacksOf_195 : decode cX5_lacksOf 195 = .ok (.ireturn, 1) := oc_172 (by decide +kernel)
theorem dX5_lacksOf_58 : decode cX5_lacksOf 58 = .ok (.if_icmp .ge 135, 3) := oc_162 (a := 0) (b := 135) (by decide +kernel)
theorem dX5_lacksOf_61 : decode cX5_lacksOf 61 = .ok (.iload 4, 2) := oc_21 (by decide +kernel)
theorem dX5_lacksOf_63 : decode cX5_lacksOf 63 = .ok (.aload_n 0, 1) := oc_42 (by decide +kernel)
theorem tw_1441 : Cond.fieldLink RX5 53 "RingsUnder$RingOrders" "least" "I" ∈ wsL_law := sg_61 _ (List.mem_of_getElem? (i := 1) rfl)
theorem dX5_lacksOf_64 : decode cX5_lacksOf 64 = .ok (.getfield 53, 3) := oc_180 (a := 0) (b := 53) (by decide +kernel)
theorem dX5_lacksOf_67 : decode cX5_lacksOf 67 = .ok (.if_icmp .ge 126, 3) := oc_162 (a := 0) (b := 126) (by decide +kernel)
theorem dX5_lacksOf_70 : decode cX5_lacksOf 70 = .ok (.aload_n 1, 1) := oc_43 (by decide +kernel)
theorem dX5_lacksOf_71 : decode cX5_lacksOf 71 = .ok (.getfield 93, 3) := oc_180 (a := 0) (b := 93) (by decide +kernel)
theorem dX5_lacksOf_74 : decode cX5_lacksOf 74 = .ok (.iload 5, 2) := oc_21 (by decide +kernel)
theorem dX5_lacksOf_76 : decode cX5_lacksOf 76 = .ok (.iadd, 1) := oc_96 (by decide +kernel)
theorem dX5_lacksOf_77 : decode cX5_lacksOf 77 = .ok (.istore 6, 2) := oc_54 (by decide +kernel)
theorem dX5_lacksOf_79 : decode cX5_lacksOf 79 = .ok (.aload_n 2, 1) := oc_44 (by decide +kernel)
theorem dX5_lacksOf_80 : decode cX5_lacksOf 80 = .ok (.getfield 31, 3) := oc_180 (a := 0) (b := 31) (by decide +kernel)
theorem dX5_lacksOf_83 : decode cX5_lacksOf 83 = .ok (.getfield 102, 3) := oc_180 (a := 0) (b := 102) (by decide +kernel)
theorem dX5_lacksOf_86 : decode cX5_lacksOf 86 = .ok (.aload_n 2, 1) := oc_44 (by decide +kernel)
theorem dX5_lacksOf_87 : decode cX5_lacksOf 87 = .ok (.getfield 31, 3) := oc_180 (a := 0) (b := 31) (by decide +kernel)
theorem tw_1460 : Cond.fieldLink RX5 119 "RingsUnder$Land" "cells" "I" ∈ wsL_law := sg_61 _ (List.mem_of_getElem? (i := 20) rfl)
theorem dX5_lacksOf_90 : decode cX5_lacksOf 90 = .ok (.getfield 119, 3) := oc_180 (a := 0) (b := 119) (by decide +kernel)
theorem dX5_lacksOf_93 : decode cX5_lacksOf 93 = .ok (.aload_n 0, 1) := oc_42 (by decide +kernel)
theorem dX5_lacksOf_94 : decode cX5_lacksOf 94 = .ok (.getfield 21, 3) := oc_180 (a := 0) (b := 21) (by decide +kernel)
theorem dX5_lacksOf_97 : decode cX5_lacksOf 97 = .ok (.iload 5, 2) := oc_21 (by decide +kernel)
theorem dX5_lacksOf_99 : decode cX5_lacksOf 99 = .ok (.laload, 1) := oc_47 (by decide +kernel)
theorem dX5_lacksOf_100 : decode cX5_lacksOf 100 = .ok (.aload_n 1, 1) := oc_43 (by decide +kernel)
theorem tw_1461 : Cond.fieldLink RX5 122 "RingsUnder$World" "seas" "LRingsUnder$Seas;" ∈ wsL_law := sg_61 _ (List.mem_of_getElem? (i := 21) rfl)
theorem dX5_lacksOf_101 : decode cX5_lacksOf 101 = .ok (.getfield 122, 3) := oc_180 (a := 0) (b := 122) (by decide +kernel)
theorem tw_1462 : Cond.fieldLink RX5 126 "RingsUnder$Seas" "rain" "[I" ∈ wsL_law := sg_61 _ (List.mem_of_getElem? (i := 22) rfl)
theorem dX5_lacksOf_104 : decode cX5_lacksOf 104 = .ok (.getfield 126, 3) := oc_180 (a := 0) (b := 126) (by decide +kernel)
theorem dX5_lacksOf_107 : decode cX5_lacksOf 107 = .ok (.iload 6, 2) := oc_21 (by decide +kernel)
theorem dX5_lacksOf_109 : decode cX5_lacksOf 109 = .ok (.bipush 12, 2) := oc_16 (a := 12) (by decide +kernel)
theorem dX5_lacksOf_111 : decode cX5_lacksOf 111 = .ok (.irem, 1) := oc_112 (by decide +kernel)
theorem dX5_lacksOf_112 : decode cX5_lacksOf 112 = .ok (.iaload, 1) := oc_46 (by decide +kernel)
theorem tw_1471 : Cond.methodLink RX5 131 yX9_fillUp ∈ wsL_law := sg_62 _ (List.mem_of_getElem? (i := 7) rfl)
theorem tw_1084 : Cond.instanceMethod yX9_fillUp ∈ wsL_law := sg_46 _ (List.mem_of_getElem? (i := 4) rfl)
theorem tw_1085 : Cond.selects RX9 yX9_fillUp yX9_fillUp ∈ wsL_law := sg_46 _ (List.mem_of_getElem? (i := 5) rfl)
theorem tw_1086 : Cond.code yX9_fillUp cX9_fillUp 6 none ∈ wsL_law := sg_46 _ (List.mem_of_getElem? (i := 6) rfl)
theorem dX5_lacksOf_113 : decode cX5_lacksOf 113 = .ok (.invokevirtual 131, 3) := oc_182 (a := 0) (b := 131) (by decide +kernel)
theorem dX5_lacksOf_116 : decode cX5_lacksOf 116 = .ok (.iload 4, 2) := oc_21 (by decide +kernel)
theorem dX5_lacksOf_118 : decode cX5_lacksOf 118 = .ok (.aload_n 2, 1) := oc_44 (by decide +kernel)
theorem dX5_lacksOf_119 : decode cX5_lacksOf 119 = .ok (.getfield 68, 3) := oc_180 (a := 0) (b := 68) (by decide +kernel)
theorem dX5_lacksOf_122 : decode cX5_lacksOf 122 = .ok (.aload_n 2, 1) := oc_44 (by decide +kernel)
theorem dX5_lacksOf_123 : decode cX5_lacksOf 123 = .ok (.getfield 31, 3) := oc_180 (a := 0) (b := 31) (by decide +kernel)
theorem tw_1472 : Cond.methodLink RX5 135 yX0_drink ∈ wsL_law := sg_62 _ (List.mem_of_getElem? (i := 8) rfl)
theorem tw_1095 : Cond.instanceMethod yX0_drink ∈ wsL_law := sg_46 _ (List.mem_of_getElem? (i := 15) rfl)
theorem tw_1096 : Cond.selects RX0 yX0_drink yX0_drink ∈ wsL_law := sg_46 _ (List.mem_of_getElem? (i := 16) rfl)
theorem tw_1097 : Cond.code yX0_drink cX0_drink 5 (some .int) ∈ wsL_law := sg_46 _ (List.mem_of_getElem? (i := 17) rfl)
theorem dX5_lacksOf_126 : decode cX5_lacksOf 126 = .ok (.invokevirtual 135, 3) := oc_182 (a := 0) (b := 135) (by decide +kernel)
theorem dX5_lacksOf_129 : decode cX5_lacksOf 129 = .ok (.iadd, 1) := oc_96 (by decide +kernel)
theorem dX5_lacksOf_130 : decode cX5_lacksOf 130 = .ok (.istore 4, 2) := oc_54 (by decide +kernel)
theorem dX5_lacksOf_132 : decode cX5_lacksOf 132 = .ok (.iload 4, 2) := oc_21 (by decide +kernel)
theorem dX5_lacksOf_134 : decode cX5_lacksOf 134 = .ok (.aload_n 2, 1) := oc_44 (by decide +kernel)
theorem dX5_lacksOf_135 : decode cX5_lacksOf 135 = .ok (.getfield 68, 3) := oc_180 (a := 0) (b := 68) (by decide +kernel)
theorem dX5_lacksOf_138 : decode cX5_lacksOf 138 = .ok (.aload_n 0, 1) := oc_42 (by decide +kernel)
theorem dX5_lacksOf_139 : decode cX5_lacksOf 139 = .ok (.getfield 25, 3) := oc_180 (a := 0) (b := 25) (by decide +kernel)
theorem dX5_lacksOf_142 : decode cX5_lacksOf 142 = .ok (.iload 5, 2) := oc_21 (by decide +kernel)
theorem dX5_lacksOf_144 : decode cX5_lacksOf 144 = .ok (.iconst 5, 1) := oc_8 (by decide +kernel)
theorem dX5_lacksOf_145 : decode cX5_lacksOf 145 = .ok (.imul, 1) := oc_104 (by decide +kernel)
theorem tw_1473 : Cond.methodLink RX5 139 yX0_sleep ∈ wsL_law := sg_62 _ (List.mem_of_getElem? (i := 9) rfl)
theorem tw_1121 : Cond.instanceMethod yX0_sleep ∈ wsL_law := sg_47 _ (List.mem_of_getElem? (i := 17) rfl)
theorem tw_1122 : Cond.selects RX0 yX0_sleep yX0_sleep ∈ wsL_law := sg_47 _ (List.mem_of_getElem? (i := 18) rfl)
theorem tw_1123 : Cond.code yX0_sleep cX0_sleep 5 (some .int) ∈ wsL_law := sg_47 _ (List.mem_of_getElem? (i := 19) rfl)
theorem dX5_lacksOf_146 : decode cX5_lacksOf 146 = .ok (.invokevirtual 139, 3) := oc_182 (a := 0) (b := 139) (by decide +kernel)
theorem dX5_lacksOf_149 : decode cX5_lacksOf 149 = .ok (.iadd, 1) := oc_96 (by decide +kernel)
theorem dX5_lacksOf_150 : decode cX5_lacksOf 150 = .ok (.istore 4, 2) := oc_54 (by decide +kernel)
theorem dX5_lacksOf_152 : decode cX5_lacksOf 152 = .ok (.aload_n 1, 1) := oc_43 (by decide +kernel)
theorem tw_1463 : Cond.fieldLink RX5 143 "RingsUnder$World" "boats" "I" ∈ wsL_law := sg_61 _ (List.mem_of_getElem? (i := 23) rfl)
theorem dX5_lacksOf_153 : decode cX5_lacksOf 153 = .ok (.getfield 143, 3) := oc_180 (a := 0) (b := 143) (by decide +kernel)
theorem dX5_lacksOf_187 : decode cX5_lacksOf 187 = .ok (.iinc 5 1, 3) := oc_132 (b := 1) (by decide +kernel)
theorem dX5_lacksOf_190 : decode cX5_lacksOf 190 = .ok (.goto (-135), 3) := oc_167 (a := 255) (b := 121) (by decide +kernel)
theorem dX5_lacksOf_156 : decode cX5_lacksOf 156 = .ok (.ifCond .le 31, 3) := oc_158 (a := 0) (b := 31) (by decide +kernel)
theorem dX5_lacksOf_159 : decode cX5_lacksOf 159 = .ok (.aload_n 2, 1) := oc_44 (by decide +kernel)
theorem dX5_lacksOf_160 : decode cX5_lacksOf 160 = .ok (.getfield 68, 3) := oc_180 (a := 0) (b := 68) (by decide +kernel)
theorem dX5_lacksOf_163 : decode cX5_lacksOf 163 = .ok (.aload_n 0, 1) := oc_42 (by decide +kernel)
theorem dX5_lacksOf_164 : decode cX5_lacksOf 164 = .ok (.getfield 28, 3) := oc_180 (a := 0) (b := 28) (by decide +kernel)
theorem dX5_lacksOf_167 : decode cX5_lacksOf 167 = .ok (.iload 5, 2) := oc_21 (by decide +kernel)
theorem dX5_lacksOf_169 : decode cX5_lacksOf 169 = .ok (.laload, 1) := oc_47 (by decide +kernel)
theorem dX5_lacksOf_170 : decode cX5_lacksOf 170 = .ok (.aload_n 0, 1) := oc_42 (by decide +kernel)
theorem dX5_lacksOf_171 : decode cX5_lacksOf 171 = .ok (.getfield 18, 3) := oc_180 (a := 0) (b := 18) (by decide +kernel)
theorem dX5_lacksOf_174 : decode cX5_lacksOf 174 = .ok (.aload_n 0, 1) := oc_42 (by decide +kernel)
theorem dX5_lacksOf_175 : decode cX5_lacksOf 175 = .ok (.getfield 146, 3) := oc_180 (a := 0) (b := 146) (by decide +kernel)
theorem dX5_lacksOf_178 : decode cX5_lacksOf 178 = .ok (.aload_n 1, 1) := oc_43 (by decide +kernel)
theorem dX5_lacksOf_179 : decode cX5_lacksOf 179 = .ok (.getfield 143, 3) := oc_180 (a := 0) (b := 143) (by decide +kernel)
theorem dX5_lacksOf_182 : decode cX5_lacksOf 182 = .ok (.iload 6, 2) := oc_21 (by decide +kernel)
theorem tw_1474 : Cond.methodLink RX5 149 yX0_board ∈ wsL_law := sg_62 _ (List.mem_of_getElem? (i := 10) rfl)
theorem tw_1168 : Cond.instanceMethod yX0_board ∈ wsL_law := sg_49 _ (List.mem_of_getElem? (i := 16) rfl)
theorem tw_1169 : Cond.selects RX0 yX0_board yX0_board ∈ wsL_law := sg_49 _ (List.mem_of_getElem? (i := 17) rfl)
theorem tw_1170 : Cond.code yX0_board cX0_board 11 none ∈ wsL_law := sg_49 _ (List.mem_of_getElem? (i := 18) rfl)
theorem dX5_lacksOf_184 : decode cX5_lacksOf 184 = .ok (.invokevirtual 149, 3) := oc_182 (a := 0) (b := 149) (by decide +kernel)
theorem dX5_swap_0 : decode cX5_swap 0 = .ok (.aload_n 0, 1) := oc_42 (by decide +kernel)
theorem dX5_swap_1 : decode cX5_swap 1 = .ok (.getfield 15, 3) := oc_180 (a := 0) (b := 15) (by decide +kernel)
theorem dX5_swap_4 : decode cX5_swap 4 = .ok (.iload_n 1, 1) := oc_27 (by decide +kernel)
theorem dX5_swap_5 : decode cX5_swap 5 = .ok (.iaload, 1) := oc_46 (by decide +kernel)
theorem dX5_swap_6 : decode cX5_swap 6 = .ok (.istore_n 3, 1) := oc_62 (by decide +kernel)
theorem dX5_swap_7 : decode cX5_swap 7 = .ok (.aload_n 0, 1) := oc_42 (by decide +kernel)
theorem dX5_swap_8 : decode cX5_swap 8 = .ok (.getfield 15, 3) := oc_180 (a := 0) (b := 15) (by decide +kernel)
theorem dX5_swap_11 : decode cX5_swap 11 = .ok (.iload_n 1, 1) := oc_27 (by decide +kernel)
theorem dX5_swap_12 : decode cX5_swap 12 = .ok (.aload_n 0, 1) := oc_42 (by decide +kernel)
theorem dX5_swap_13 : decode cX5_swap 13 = .ok (.getfield 15, 3) := oc_180 (a := 0) (b := 15) (by decide +kernel)
theorem dX5_swap_16 : decode cX5_swap 16 = .ok (.iload_n 2, 1) := oc_28 (by decide +kernel)
theorem dX5_swap_17 : decode cX5_swap 17 = .ok (.iaload, 1) := oc_46 (by decide +kernel)
theorem dX5_swap_18 : decode cX5_swap 18 = .ok (.iastore, 1) := oc_79 (by decide +kernel)
theorem dX5_swap_19 : decode cX5_swap 19 = .ok (.aload_n 0, 1) := oc_42 (by decide +kernel)
theorem dX5_swap_20 : decode cX5_swap 20 = .ok (.getfield 15, 3) := oc_180 (a := 0) (b := 15) (by decide +kernel)
theorem dX5_swap_23 : decode cX5_swap 23 = .ok (.iload_n 2, 1) := oc_28 (by decide +kernel)
theorem dX5_swap_24 : decode cX5_swap 24 = .ok (.iload_n 3, 1) := oc_29 (by decide +kernel)
theorem dX5_swap_25 : decode cX5_swap 25 = .ok (.iastore, 1) := oc_79 (by decide +kernel)
theorem dX5_swap_26 : decode cX5_swap 26 = .ok (.return_, 1) := oc_177 (by decide +kernel)
theorem dX5_toNextOrder_0 : decode cX5_toNextOrder 0 = .ok (.iload_n 1, 1) := oc_27 (by decide +kernel)
theorem dX5_toNextOrder_1 : decode cX5_toNextOrder 1 = .ok (.iconst 2, 1) := oc_5 (by decide +kernel)
theorem dX5_toNextOrder_2 : decode cX5_toNextOrder 2 = .ok (.isub, 1) := oc_100 (by decide +kernel)
theorem dX5_toNextOrder_3 : decode cX5_toNextOrder 3 = .ok (.istore_n 2, 1) := oc_61 (by decide +kernel)
theorem dX5_toNextOrder_4 : decode cX5_toNextOrder 4 = .ok (.iload_n 2, 1) := oc_28 (by decide +kernel)
theorem dX5_toNextOrder_31 : decode cX5_toNextOrder 31 = .ok (.iload_n 2, 1) := oc_28 (by decide +kernel)
theorem dX5_toNextOrder_32 : decode cX5_toNextOrder 32 = .ok (.ifCond .ge 5, 3) := oc_156 (a := 0) (b := 5) (by decide +kernel)
theorem dX5_toNextOrder_37 : decode cX5_toNextOrder 37 = .ok (.iload_n 1, 1) := oc_27 (by decide +kernel)
theorem dX5_toNextOrder_38 : decode cX5_toNextOrder 38 = .ok (.iconst 1, 1) := oc_4 (by decide +kernel)
theorem dX5_toNextOrder_39 : decode cX5_toNextOrder 39 = .ok (.isub, 1) := oc_100 (by decide +kernel)
theorem dX5_toNextOrder_40 : decode cX5_toNextOrder 40 = .ok (.istore_n 3, 1) := oc_62 (by decide +kernel)
theorem dX5_toNextOrder_41 : decode cX5_toNextOrder 41 = .ok (.iload_n 3, 1) := oc_29 (by decide +kernel)
theorem dX5_toNextOrder_42 : decode cX5_toNextOrder 42 = .ok (.iload_n 2, 1) := oc_28 (by decide +kernel)
theorem dX5_toNextOrder_67 : decode cX5_toNextOrder 67 = .ok (.aload_n 0, 1) := oc_42 (by decide +kernel)
theorem dX5_toNextOrder_68 : decode cX5_toNextOrder 68 = .ok (.iload_n 2, 1) := oc_28 (by decide +kernel)
theorem dX5_toNextOrder_69 : decode cX5_toNextOrder 69 = .ok (.iload_n 3, 1) := oc_29 (by decide +kernel)
theorem tw_1479 : Cond.methodLink RX5 156 yX5_swap ∈ wsL_law := sg_62 _ (List.mem_of_getElem? (i := 15) rfl)
theorem tw_1480 : Cond.instanceMethod yX5_swap ∈ wsL_law := sg_62 _ (List.mem_of_getElem? (i := 16) rfl)
theorem tw_1481 : Cond.selects RX5 yX5_swap yX5_swap ∈ wsL_law := sg_62 _ (List.mem_of_getElem? (i := 17) rfl)
theorem tw_1482 : Cond.code yX5_swap cX5_swap 4 none ∈ wsL_law := sg_62 _ (List.mem_of_getElem? (i := 18) rfl)
theorem dX5_toNextOrder_70 : decode cX5_toNextOrder 70 = .ok (.invokevirtual 156, 3) := oc_182 (a := 0) (b := 156) (by decide +kernel)
theorem dX5_toNextOrder_73 : decode cX5_toNextOrder 73 = .ok (.iload_n 2, 1) := oc_28 (by decide +kernel)
theorem dX5_toNextOrder_74 : decode cX5_toNextOrder 74 = .ok (.iconst 1, 1) := oc_4 (by decide +kernel)
theorem dX5_toNextOrder_75 : decode cX5_toNextOrder 75 = .ok (.iadd, 1) := oc_96 (by decide +kernel)
theorem dX5_toNextOrder_76 : decode cX5_toNextOrder 76 = .ok (.istore 4, 2) := oc_54 (by decide +kernel)
theorem dX5_toNextOrder_78 : decode cX5_toNextOrder 78 = .ok (.iload_n 1, 1) := oc_27 (by decide +kernel)
theorem dX5_toNextOrder_79 : decode cX5_toNextOrder 79 = .ok (.iconst 1, 1) := oc_4 (by decide +kernel)
theorem dX5_toNextOrder_80 : decode cX5_toNextOrder 80 = .ok (.isub, 1) := oc_100 (by decide +kernel)
theorem dX5_toNextOrder_81 : decode cX5_toNextOrder 81 = .ok (.istore 5, 2) := oc_54 (by decide +kernel)
theorem dX5_toNextOrder_83 : decode cX5_toNextOrder 83 = .ok (.iload 4, 2) := oc_21 (by decide +kernel)
theorem dX5_toNextOrder_85 : decode cX5_toNextOrder 85 = .ok (.iload 5, 2) := oc_21 (by decide +kernel)
theorem dX5_toNextOrder_87 : decode cX5_toNextOrder 87 = .ok (.if_icmp .ge 20, 3) := oc_162 (a := 0) (b := 20) (by decide +kernel)
theorem dX5_toNextOrder_107 : decode cX5_toNextOrder 107 = .ok (.iconst 1, 1) := oc_4 (by decide +kernel)
theorem dX5_toNextOrder_108 : decode cX5_toNextOrder 108 = .ok (.ireturn, 1) := oc_172 (by decide +kernel)
theorem dX5_toNextOrder_90 : decode cX5_toNextOrder 90 = .ok (.aload_n 0, 1) := oc_42 (by decide +kernel)
theorem dX5_toNextOrder_91 : decode cX5_toNextOrder 91 = .ok (.iload 4, 2) := oc_21 (by decide +kernel)
theorem dX5_toNextOrder_93 : decode cX5_toNextOrder 93 = .ok (.iload 5, 2) := oc_21 (by decide +kernel)
theorem dX5_toNextOrder_95 : decode cX5_toNextOrder 95 = .ok (.invokevirtual 156, 3) := oc_182 (a := 0) (b := 156) (by decide +kernel)
theorem dX5_toNextOrder_98 : decode cX5_toNextOrder 98 = .ok (.iinc 4 1, 3) := oc_132 (b := 1) (by decide +kernel)
theorem dX5_toNextOrder_101 : decode cX5_toNextOrder 101 = .ok (.iinc 5 (-1), 3) := oc_132 (b := 255) (by decide +kernel)
theorem dX5_toNextOrder_104 : decode cX5_toNextOrder 104 = .ok (.goto (-21), 3) := oc_167 (a := 255) (b := 235) (by decide +kernel)
theorem dX5_toNextOrder_43 : decode cX5_toNextOrder 43 = .ok (.if_icmp .le 24, 3) := oc_164 (a := 0) (b := 24) (by decide +kernel)
theorem dX5_toNextOrder_46 : decode cX5_toNextOrder 46 = .ok (.aload_n 0, 1) := oc_42 (by decide +kernel)
theorem dX5_toNextOrder_47 : decode cX5_toNextOrder 47 = .ok (.getfield 15, 3) := oc_180 (a := 0) (b := 15) (by decide +kernel)
theorem dX5_toNextOrder_50 : decode cX5_toNextOrder 50 = .ok (.iload_n 3, 1) := oc_29 (by decide +kernel)
theorem dX5_toNextOrder_51 : decode cX5_toNextOrder 51 = .ok (.iaload, 1) := oc_46 (by decide +kernel)
theorem dX5_toNextOrder_52 : decode cX5_toNextOrder 52 = .ok (.aload_n 0, 1) := oc_42 (by decide +kernel)
theorem dX5_toNextOrder_53 : decode cX5_toNextOrder 53 = .ok (.getfield 15, 3) := oc_180 (a := 0) (b := 15) (by decide +kernel)
theorem dX5_toNextOrder_56 : decode cX5_toNextOrder 56 = .ok (.iload_n 2, 1) := oc_28 (by decide +kernel)
theorem dX5_toNextOrder_57 : decode cX5_toNextOrder 57 = .ok (.iaload, 1) := oc_46 (by decide +kernel)
theorem dX5_toNextOrder_58 : decode cX5_toNextOrder 58 = .ok (.if_icmp .ge 9, 3) := oc_162 (a := 0) (b := 9) (by decide +kernel)
theorem dX5_toNextOrder_61 : decode cX5_toNextOrder 61 = .ok (.iinc 3 (-1), 3) := oc_132 (b := 255) (by decide +kernel)
theorem dX5_toNextOrder_64 : decode cX5_toNextOrder 64 = .ok (.goto (-23), 3) := oc_167 (a := 255) (b := 233) (by decide +kernel)
theorem dX5_toNextOrder_35 : decode cX5_toNextOrder 35 = .ok (.iconst 0, 1) := oc_3 (by decide +kernel)
theorem dX5_toNextOrder_36 : decode cX5_toNextOrder 36 = .ok (.ireturn, 1) := oc_172 (by decide +kernel)
theorem dX5_toNextOrder_5 : decode cX5_toNextOrder 5 = .ok (.ifCond .lt 26, 3) := oc_155 (a := 0) (b := 26) (by decide +kernel)
theorem dX5_toNextOrder_8 : decode cX5_toNextOrder 8 = .ok (.aload_n 0, 1) := oc_42 (by decide +kernel)
theorem dX5_toNextOrder_9 : decode cX5_toNextOrder 9 = .ok (.getfield 15, 3) := oc_180 (a := 0) (b := 15) (by decide +kernel)
theorem dX5_toNextOrder_12 : decode cX5_toNextOrder 12 = .ok (.iload_n 2, 1) := oc_28 (by decide +kernel)
theorem dX5_toNextOrder_13 : decode cX5_toNextOrder 13 = .ok (.iaload, 1) := oc_46 (by decide +kernel)
theorem dX5_toNextOrder_14 : decode cX5_toNextOrder 14 = .ok (.aload_n 0, 1) := oc_42 (by decide +kernel)
theorem dX5_toNextOrder_15 : decode cX5_toNextOrder 15 = .ok (.getfield 15, 3) := oc_180 (a := 0) (b := 15) (by decide +kernel)
theorem dX5_toNextOrder_18 : decode cX5_toNextOrder 18 = .ok (.iload_n 2, 1) := oc_28 (by decide +kernel)
theorem dX5_toNextOrder_19 : decode cX5_toNextOrder 19 = .ok (.iconst 1, 1) := oc_4 (by decide +kernel)
theorem dX5_toNextOrder_20 : decode cX5_toNextOrder 20 = .ok (.iadd, 1) := oc_96 (by decide +kernel)
theorem dX5_toNextOrder_21 : decode cX5_toNextOrder 21 = .ok (.iaload, 1) := oc_46 (by decide +kernel)
theorem dX5_toNextOrder_22 : decode cX5_toNextOrder 22 = .ok (.if_icmp .le 9, 3) := oc_164 (a := 0) (b := 9) (by decide +kernel)
theorem dX5_toNextOrder_25 : decode cX5_toNextOrder 25 = .ok (.iinc 2 (-1), 3) := oc_132 (b := 255) (by decide +kernel)
theorem dX5_toNextOrder_28 : decode cX5_toNextOrder 28 = .ok (.goto (-24), 3) := oc_167 (a := 255) (b := 232) (by decide +kernel)
theorem dX5_seek_0 : decode cX5_seek 0 = .ok (.aload_n 1, 1) := oc_43 (by decide +kernel)
theorem dX5_seek_1 : decode cX5_seek 1 = .ok (.getfield 31, 3) := oc_180 (a := 0) (b := 31) (by decide +kernel)
theorem dX5_seek_4 : decode cX5_seek 4 = .ok (.getfield 37, 3) := oc_180 (a := 0) (b := 37) (by decide +kernel)
theorem dX5_seek_7 : decode cX5_seek 7 = .ok (.istore 5, 2) := oc_54 (by decide +kernel)
theorem dX5_seek_9 : decode cX5_seek 9 = .ok (.aload_n 0, 1) := oc_42 (by decide +kernel)
theorem dX5_seek_10 : decode cX5_seek 10 = .ok (.aload_n 2, 1) := oc_44 (by decide +kernel)
theorem dX5_seek_11 : decode cX5_seek 11 = .ok (.iload_n 3, 1) := oc_29 (by decide +kernel)
theorem dX5_seek_12 : decode cX5_seek 12 = .ok (.iload 4, 2) := oc_21 (by decide +kernel)
theorem dX5_seek_14 : decode cX5_seek 14 = .ok (.bipush 12, 2) := oc_16 (a := 12) (by decide +kernel)
theorem tw_1440 : Cond.methodLink RX5 43 Lib.Math.min.name ∈ wsL_law := sg_61 _ (List.mem_of_getElem? (i := 0) rfl)
theorem dX5_seek_16 : decode cX5_seek 16 = .ok (.invokestatic 43, 3) := oc_184 (a := 0) (b := 43) (by decide +kernel)
theorem tw_1442 : Cond.methodLink RX5 49 yX5_foresee ∈ wsL_law := sg_61 _ (List.mem_of_getElem? (i := 2) rfl)
theorem tw_1443 : Cond.instanceMethod yX5_foresee ∈ wsL_law := sg_61 _ (List.mem_of_getElem? (i := 3) rfl)
theorem tw_1444 : Cond.selects RX5 yX5_foresee yX5_foresee ∈ wsL_law := sg_61 _ (List.mem_of_getElem? (i := 4) rfl)
theorem tw_1445 : Cond.code yX5_foresee cX5_foresee 7 none ∈ wsL_law := sg_61 _ (List.mem_of_getElem? (i := 5) rfl)
theorem dX5_seek_19 : decode cX5_seek 19 = .ok (.invokevirtual 49, 3) := oc_182 (a := 0) (b := 49) (by decide +kernel)
theorem dX5_seek_22 : decode cX5_seek 22 = .ok (.iconst 0, 1) := oc_3 (by decide +kernel)
theorem dX5_seek_23 : decode cX5_seek 23 = .ok (.istore 6, 2) := oc_54 (by decide +kernel)
theorem dX5_seek_25 : decode cX5_seek 25 = .ok (.iload 6, 2) := oc_21 (by decide +kernel)
theorem dX5_seek_27 : decode cX5_seek 27 = .ok (.iload 5, 2) := oc_21 (by decide +kernel)
theorem dX5_seek_29 : decode cX5_seek 29 = .ok (.if_icmp .ge 18, 3) := oc_162 (a := 0) (b := 18) (by decide +kernel)
theorem dX5_seek_47 : decode cX5_seek 47 = .ok (.aload_n 0, 1) := oc_42 (by decide +kernel)
theorem dX5_seek_48 : decode cX5_seek 48 = .ok (.sipush 961, 3) := oc_17 (a := 3) (b := 193) (by decide +kernel)
theorem dX5_seek_51 : decode cX5_seek 51 = .ok (.putfield 53, 3) := oc_181 (a := 0) (b := 53) (by decide +kernel)
theorem dX5_seek_54 : decode cX5_seek 54 = .ok (.iconst 1, 1) := oc_4 (by decide +kernel)
theorem dX5_seek_55 : decode cX5_seek 55 = .ok (.istore 6, 2) := oc_54 (by decide +kernel)
theorem dX5_seek_57 : decode cX5_seek 57 = .ok (.iconst 0, 1) := oc_3 (by decide +kernel)
theorem dX5_seek_58 : decode cX5_seek 58 = .ok (.istore 7, 2) := oc_54 (by decide +kernel)
theorem dX5_seek_60 : decode cX5_seek 60 = .ok (.iload 7, 2) := oc_21 (by decide +kernel)
theorem dX5_seek_62 : decode cX5_seek 62 = .ok (.bipush 120, 2) := oc_16 (a := 120) (by decide +kernel)
theorem dX5_seek_64 : decode cX5_seek 64 = .ok (.if_icmp .ge 63, 3) := oc_162 (a := 0) (b := 63) (by decide +kernel)
theorem dX5_seek_127 : decode cX5_seek 127 = .ok (.return_, 1) := oc_177 (by decide +kernel)
theorem dX5_seek_67 : decode cX5_seek 67 = .ok (.iload 6, 2) := oc_21 (by decide +kernel)
theorem dX5_seek_69 : decode cX5_seek 69 = .ok (.ifCond .eq 58, 3) := oc_153 (a := 0) (b := 58) (by decide +kernel)
theorem dX5_seek_72 : decode cX5_seek 72 = .ok (.aload_n 0, 1) := oc_42 (by decide +kernel)
theorem dX5_seek_73 : decode cX5_seek 73 = .ok (.aload_n 1, 1) := oc_43 (by decide +kernel)
theorem dX5_seek_74 : decode cX5_seek 74 = .ok (.aload_n 2, 1) := oc_44 (by decide +kernel)
theorem dX5_seek_75 : decode cX5_seek 75 = .ok (.iload 4, 2) := oc_21 (by decide +kernel)
theorem dX5_seek_77 : decode cX5_seek 77 = .ok (.bipush 12, 2) := oc_16 (a := 12) (by decide +kernel)
theorem dX5_seek_79 : decode cX5_seek 79 = .ok (.invokestatic 43, 3) := oc_184 (a := 0) (b := 43) (by decide +kernel)
theorem tw_1454 : Cond.methodLink RX5 56 yX5_lacksOf ∈ wsL_law := sg_61 _ (List.mem_of_getElem? (i := 14) rfl)
theorem tw_1455 : Cond.instanceMethod yX5_lacksOf ∈ wsL_law := sg_61 _ (List.mem_of_getElem? (i := 15) rfl)
theorem tw_1456 : Cond.selects RX5 yX5_lacksOf yX5_lacksOf ∈ wsL_law := sg_61 _ (List.mem_of_getElem? (i := 16) rfl)
theorem tw_1457 : Cond.code yX5_lacksOf cX5_lacksOf 7 (some .int) ∈ wsL_law := sg_61 _ (List.mem_of_getElem? (i := 17) rfl)
theorem dX5_seek_82 : decode cX5_seek 82 = .ok (.invokevirtual 56, 3) := oc_182 (a := 0) (b := 56) (by decide +kernel)
theorem dX5_seek_85 : decode cX5_seek 85 = .ok (.istore 8, 2) := oc_54 (by decide +kernel)
theorem dX5_seek_87 : decode cX5_seek 87 = .ok (.iload 8, 2) := oc_21 (by decide +kernel)
theorem dX5_seek_89 : decode cX5_seek 89 = .ok (.aload_n 0, 1) := oc_42 (by decide +kernel)
theorem dX5_seek_90 : decode cX5_seek 90 = .ok (.getfield 53, 3) := oc_180 (a := 0) (b := 53) (by decide +kernel)
theorem dX5_seek_113 : decode cX5_seek 113 = .ok (.aload_n 0, 1) := oc_42 (by decide +kernel)
theorem dX5_seek_114 : decode cX5_seek 114 = .ok (.iload 5, 2) := oc_21 (by decide +kernel)
theorem tw_1475 : Cond.methodLink RX5 64 yX5_toNextOrder ∈ wsL_law := sg_62 _ (List.mem_of_getElem? (i := 11) rfl)
theorem tw_1476 : Cond.instanceMethod yX5_toNextOrder ∈ wsL_law := sg_62 _ (List.mem_of_getElem? (i := 12) rfl)
theorem tw_1477 : Cond.selects RX5 yX5_toNextOrder yX5_toNextOrder ∈ wsL_law := sg_62 _ (List.mem_of_getElem? (i := 13) rfl)
theorem tw_1478 : Cond.code yX5_toNextOrder cX5_toNextOrder 6 (some .boolean) ∈ wsL_law := sg_62 _ (List.mem_of_getElem? (i := 14) rfl)
theorem dX5_seek_116 : decode cX5_seek 116 = .ok (.invokevirtual 64, 3) := oc_182 (a := 0) (b := 64) (by decide +kernel)
theorem dX5_seek_119 : decode cX5_seek 119 = .ok (.istore 6, 2) := oc_54 (by decide +kernel)
theorem dX5_seek_121 : decode cX5_seek 121 = .ok (.iinc 7 1, 3) := oc_132 (b := 1) (by decide +kernel)
theorem dX5_seek_124 : decode cX5_seek 124 = .ok (.goto (-64), 3) := oc_167 (a := 255) (b := 192) (by decide +kernel)
theorem dX5_seek_93 : decode cX5_seek 93 = .ok (.if_icmp .ge 20, 3) := oc_162 (a := 0) (b := 20) (by decide +kernel)
theorem dX5_seek_96 : decode cX5_seek 96 = .ok (.aload_n 0, 1) := oc_42 (by decide +kernel)
theorem dX5_seek_97 : decode cX5_seek 97 = .ok (.iload 8, 2) := oc_21 (by decide +kernel)
theorem dX5_seek_99 : decode cX5_seek 99 = .ok (.putfield 53, 3) := oc_181 (a := 0) (b := 53) (by decide +kernel)
theorem dX5_seek_102 : decode cX5_seek 102 = .ok (.aload_n 0, 1) := oc_42 (by decide +kernel)
theorem dX5_seek_103 : decode cX5_seek 103 = .ok (.getfield 15, 3) := oc_180 (a := 0) (b := 15) (by decide +kernel)
theorem dX5_seek_106 : decode cX5_seek 106 = .ok (.aload_n 0, 1) := oc_42 (by decide +kernel)
theorem tw_142 : Cond.fieldLink RX5 9 "RingsUnder$RingOrders" "best" "[I" ∈ wsL_law := sg_6 _ (List.mem_of_getElem? (i := 22) rfl)
theorem dX5_seek_107 : decode cX5_seek 107 = .ok (.getfield 9, 3) := oc_180 (a := 0) (b := 9) (by decide +kernel)
theorem dX5_seek_110 : decode cX5_seek 110 = .ok (.invokestatic 60, 3) := oc_184 (a := 0) (b := 60) (by decide +kernel)
theorem dX5_seek_32 : decode cX5_seek 32 = .ok (.aload_n 0, 1) := oc_42 (by decide +kernel)
theorem dX5_seek_33 : decode cX5_seek 33 = .ok (.getfield 15, 3) := oc_180 (a := 0) (b := 15) (by decide +kernel)
theorem dX5_seek_36 : decode cX5_seek 36 = .ok (.iload 6, 2) := oc_21 (by decide +kernel)
theorem dX5_seek_38 : decode cX5_seek 38 = .ok (.iload 6, 2) := oc_21 (by decide +kernel)
theorem dX5_seek_40 : decode cX5_seek 40 = .ok (.iastore, 1) := oc_79 (by decide +kernel)
theorem dX5_seek_41 : decode cX5_seek 41 = .ok (.iinc 6 1, 3) := oc_132 (b := 1) (by decide +kernel)
theorem dX5_seek_44 : decode cX5_seek 44 = .ok (.goto (-19), 3) := oc_167 (a := 255) (b := 237) (by decide +kernel)
set_option maxHeartbeats 4000000 in
set_option maxRecDepth 100000 in
theorem s_X0_sleep_166 (l : Launch) (D : va_G) (t : pq_T) (σ : pq_S) (I : Nat → Nat → Int32) (J : Nat → Nat → Int64) (ri : Nat → Nat → Int32) (rj : Nat → Nat → Int64) (rq : Nat → Nat → Option Nat) (sz : Nat) (tg : Nat → Nat) (hSH : SH σ tg) (hG0 : GS tg σ I ri rq) (this : Nat) (a0 : Nat) (a1 : Int32) (hL_this : this ∈ σ.1) (hK_this : σ.2.1 this = 0) (hL_a0 : a0 ∈ σ.1) (hK_a0 : σ.2.1 a0 = 13) (hN_a0 : σ.2.2.2 a0 = 60) (hT_a0 : tg a0 = 166) (h_a1 : rg a1 0 55) : MetI l yX0_sleep (wa yX0_sleep cX0_sleep 5 (some .int)) ({ frames := 1, cells := 0, slots := 0, locals := 60 }) [.ref this, .ref a0, .int a1] D t σ (I, J, ri, rj, rq) sz 0 0 (fun (r : Int32) (u : pq_S × pq_M) => ∃ ri' : Nat → Nat → Int32, u = (σ, I, J, ri', rj, rq) ∧ GX [] tg σ I ri rj I ri' rj rq) := by
  refine Met.ofW (cc := cX0_sleep) (maxL := 5) (ret := (some .int)) (by decide) rfl ?_
  intro p e s m args below meth c s₁ B hml hv
  obtain ⟨rfl, hsz, hP, hK, hD0, hN⟩ := hv
  have hx := B.exec
  have hb := B.bytes
  have hr := B.returns
  have hts := atoms_spec (ws := (wa yX0_sleep cX0_sleep 5 (some .int))) B.pre
  have hown : s.vm.findClass RX0 = some m.cls := findClass_of_methodNamed B.named
  have hlocks := B.notSynchronized
  subst hsz
  have hD : va_D (pq_B t σ (I, J, ri, rj, rq) s.heap.size) (pq_P t σ (I, J, ri, rj, rq)) := hD0.self
  generalize hAe : pq_B t σ (I, J, ri, rj, rq) s.heap.size = A at hD ⊢
  have hA : ∀ q : Nat, s.heap.size ≤ q → A q := fun q h => by rw [← hAe]; exact Or.inr h
  have hS : va_S A s.heap s.heap [] := va_S.rf
  have hG : GX [] tg σ I ri rj I ri rj rq := ⟨hG0, fun _ _ _ => rfl, fun _ _ _ _ _ => rfl, fun _ _ _ _ _ => rfl⟩
  have hl := lv_entry ([.ref this, .ref a0, .int a1]) (n := 5) (Nat.le_of_ble_eq_true rfl)
  rw [lg_entry_eq]
  generalize (lg_sl ([.ref this, .ref a0, .int a1]) ++ List.replicate (5 - (lg_sl ([.ref this, .ref a0, .int a1])).length) Slot.unset).toArray = ls at hl ⊢
  have hl : lv_has ls 5 [(0, .ref this), (1, .ref a0), (2, .int a1)] := hl
  refine q_gen (fun Q hQ => ?_)
  have go : ∀ (H : Heap) (locs : List Loc) (ls : Array Slot), va_P D vwCl (pq_P t σ (I, J, ri, rj, rq)) H → va_D A (pq_P t σ (I, J, ri, rj, rq)) → va_S A s.heap H locs → lv_has ls 5 [(0, .ref this), (1, .ref a0), (2, .int a1)] → W p l e ({ frames := 1, cells := 0, slots := 0, locals := 60 } : Room) s m (List.toArray ([.ref this, .ref a0, .int a1] : List Value)) below meth c H locs 0 0 Q (F0 m 0 ls []) := by
    intro H locs ls hP hD hS hl
    refine lv_iload_n hx hb dX0_sleep_0 rfl (lv_at hl 2 rfl) ?_
    refine lv_if_lt (tgt := 12) hx hb dX0_sleep_1 (by decide) (fun c_1053 => ?_) (fun c_1053 => ?_)
    · exact (rg_empty (rg_lt1 c_1053 h_a1 (rg_k (0 : Int32) 0 rfl) (lo := 0) (hi := (-1)) (by decide)) (by decide)).elim
    · refine lv_iload_n hx hb dX0_sleep_4 rfl (lv_at hl 2 rfl) ?_
      refine lv_iconst (v := 5) hx hb dX0_sleep_5 (by decide) ?_
      refine lv_iadd hx hb dX0_sleep_6 ?_
      refine lv_topi (fun x_1054 ex_1054 => ?_)
      have h_1055 : rg x_1054 5 60 := rg_of_eq ex_1054 (rg_add h_a1 (rg_k (5 : Int32) 5 rfl) (by decide))
      refine lv_aload_n hx hb dX0_sleep_7 rfl (lv_at hl 1 rfl) ?_
      refine pn_i (v := 60) hx hb hK hP hL_a0 hK_a0 hN_a0 (by decide) dX0_sleep_8 ?_
      refine lv_icmp_le (tgt := 14) hx hb dX0_sleep_9 (by decide) (fun c_1056 => ?_) (fun c_1056 => ?_)
      · refine lv_aload_n hx hb dX0_sleep_14 rfl (lv_at hl 1 rfl) ?_
        refine lv_iload_n hx hb dX0_sleep_15 rfl (lv_at hl 2 rfl) ?_
        refine lv_aload_n hx hb dX0_sleep_16 rfl (lv_at hl 0 rfl) ?_
        obtain ⟨w_1057, hR_w_1057, hL_w_1057, hK_w_1057, hN_w_1057, hT_w_1057⟩ := sh_a hSH 12 (ci := 0) (kd := 13) (len := 5) rfl (by decide) hL_this hK_this
        refine pg_f (v := .ref w_1057) (C := RX0) (T := TX0) (N := 16) hx hb hts (tw_i inlX0) hown hK hP hL_this hK_this (by decide) rfl 12 (by decide) (hts _ (tw_c tw_120)) (pq_hv rfl hR_w_1057) dX0_sleep_17 ?_
        refine lv_iconst (v := 0) hx hb dX0_sleep_20 (by decide) ?_
        refine lv_iconst (v := 5) hx hb dX0_sleep_21 (by decide) ?_
        refine pc_i hx hb (hml.trans hl.1.symm) hown (hts _ (tw_c tw_1124)) (hts _ (tw_c tw_1105)) (hts _ (tw_c tw_1106)) (hts _ (tw_c tw_1107)) hK hP hD hS hL_a0 hK_a0 hN_a0 hL_w_1057 hK_w_1057 hN_w_1057 (rg_pos h_a1 (by decide)) (rg_pos (rg_k (5 : Int32) 5 rfl) (by decide)) (rg_cp h_a1 (rg_k (5 : Int32) 5 rfl) (by decide)) (rg_cl (rg_k (5 : Int32) 5 rfl) (by decide)) (Nat.le_of_ble_eq_true rfl) (Nat.le_of_ble_eq_true rfl) dX0_sleep_22 (fun r_1058 H locs er_1058 hP hD hS => ?_)
        have hG := GX.cR hG hSH hT_a0 rfl hT_w_1057 rfl er_1058 (by decide)
        refine lv_iconst (v := 0) hx hb dX0_sleep_25 (by decide) ?_
        refine lv_istore_n (lv' := [(3, .int 0), (0, .ref this), (1, .ref a0), (2, .int a1)]) hx hb dX0_sleep_26 rfl hl (by decide) rfl (fun ls hl => ?_)
        refine lv_iconst (v := 0) hx hb dX0_sleep_27 (by decide) ?_
        refine lv_istore (lv' := [(4, .int 0), (3, .int 0), (0, .ref this), (1, .ref a0), (2, .int a1)]) hx hb dX0_sleep_28 hl (by decide) rfl (fun ls hl => ?_)
        have L_2070 : ∀ (n_2069 : Nat) (x_2030 : Int32) (x_2031 : Int32) (ri_2032 : Nat → Nat → Int32) (H : Heap) (locs : List Loc) (ls : Array Slot), rg x_2031 0 40 → (40 - (x_2031).toInt).toNat < n_2069 → GX [] tg σ I ri rj I ri_2032 rj rq → va_P D vwCl (pq_P t σ (I, J, ri_2032, rj, rq)) H → va_D A (pq_P t σ (I, J, ri_2032, rj, rq)) → va_S A s.heap H locs → lv_has ls 5 [(0, .ref this), (3, .int x_2030), (4, .int x_2031)] → W p l e ({ frames := 1, cells := 0, slots := 0, locals := 60 } : Room) s m (List.toArray ([.ref this, .ref a0, .int a1] : List Value)) below meth c H locs 0 0 Q (F0 m 30 ls []) := by
          intro n_2069
          induction n_2069 with
          | zero => intro x_2030 x_2031 ri_2032 H locs ls h_2073 hm_2068 hG hP hD hS hl; exact absurd hm_2068 (Nat.not_lt_zero _)
          | succ n_2069 ih_2071 =>
            intro x_2030 x_2031 ri_2032 H locs ls h_2073 hm_2068 hG hP hD hS hl
            refine lv_iload hx hb dX0_sleep_30 (lv_at hl 2 rfl) ?_
            refine lv_aload_n hx hb dX0_sleep_32 rfl (lv_at hl 0 rfl) ?_
            refine pg_f (v := .int (I 0 this)) (C := RX0) (T := TX0) (N := 16) hx hb hts (tw_i inlX0) hown hK hP hL_this hK_this (by decide) rfl 0 (by decide) (hts _ (tw_c tw_395)) rfl dX0_sleep_33 ?_
            have h_2074 : rg (I 0 this) 0 40 := GX.rI hG 0 rfl
            refine lv_icmp_ge (tgt := 102) hx hb dX0_sleep_36 (by decide) (fun c_2075 => ?_) (fun c_2075 => ?_)
            · refine lv_iload_n hx hb dX0_sleep_102 rfl (lv_at hl 1 rfl) ?_
              subst hQ
              exact W.iret (v := x_2030) hx hb hr (fun t1 ht hW => ⟨⟨x_2030, (σ, I, J, ri_2032, rj, rq), rfl, ⟨ri_2032, rfl, hG⟩, by rw [ht]; exact hP, va_K.moved hW.alike hK, hD⟩, hS.F ht⟩) hS.2.2 dX0_sleep_103
            · have h_2076 : rg x_2031 0 39 := rg_lt1 (nle c_2075) h_2073 h_2074 (by decide)
              have h_2077 : rg (I 0 this) 1 40 := rg_lt2 (nle c_2075) h_2073 h_2074 (by decide)
              refine lv_aload_n hx hb dX0_sleep_39 rfl (lv_at hl 0 rfl) ?_
              refine lv_iload hx hb dX0_sleep_40 (lv_at hl 2 rfl) ?_
              obtain ⟨w_2078, hR_w_2078, hL_w_2078, hK_w_2078, hN_w_2078, hT_w_2078⟩ := sh_a hSH 5 (ci := 0) (kd := 13) (len := 40) rfl (by decide) hL_this hK_this
              refine pk_i (va_runV (As := [.int x_2031]) (rest := []) ⟨hx, hb, hml, hown, hts⟩ (s_X0_isOnRing l D t σ I J ri_2032 rj rq H.size tg hSH hG.1 this x_2031 hL_this hK_this (rg_w h_2076 (by decide)) w_2078 hR_w_2078 hL_w_2078 hK_w_2078 hN_w_2078 hT_w_2078) (cwV 1 hts (tw_V tw_1108 tw_1109 tw_1110 tw_45 tw_1111) rfl rfl rfl cv_yX0_isOnRing_1 ⟨Nat.le_of_ble_eq_true rfl, Nat.le_of_ble_eq_true rfl⟩) ⟨pq_blind, pq_recv hK hP hL_this hK_this (by decide) rfl, pq_pre hK hN hP hD⟩ rfl rfl hl.1 rfl (lv_room (Nat.le_of_ble_eq_true rfl)) dX0_sleep_42 ⟨Nat.le_of_ble_eq_true rfl, Nat.le_of_ble_eq_true rfl⟩) hD hS hA (fun x_2079 σ1 μ1 H locs hw_2080 hP hD hS => ?_)
              obtain ⟨hu_2081, hr_2083⟩ := hw_2080
              obtain ⟨hu_2081a, hu_2081b⟩ := Prod.mk.inj hu_2081
              rw [hu_2081a, hu_2081b] at hP hD
              have h_2084 : rg x_2079 0 1 := by rcases hr_2083 with ⟨q, -⟩ | ⟨q, -⟩ <;> rw [q] <;> exact ⟨by decide, by decide⟩
              have K_2108 : ∀  (x_2104 : Int32) (ri_2105 : Nat → Nat → Int32) (H : Heap) (locs : List Loc) (ls : Array Slot), GX [] tg σ I ri rj I ri_2105 rj rq → va_P D vwCl (pq_P t σ (I, J, ri_2105, rj, rq)) H → va_D A (pq_P t σ (I, J, ri_2105, rj, rq)) → va_S A s.heap H locs → lv_has ls 5 [(0, .ref this), (3, .int x_2104), (4, .int x_2031)] → W p l e ({ frames := 1, cells := 0, slots := 0, locals := 60 } : Room) s m (List.toArray ([.ref this, .ref a0, .int a1] : List Value)) below meth c H locs 0 0 Q (F0 m 96 ls []) := by
                intro x_2104 ri_2105 H locs ls hG hP hD hS hl
                obtain ⟨x_2109, ex_2109⟩ : ∃ y : Int32, y = x_2031 + Int32.ofInt 1 := ⟨_, rfl⟩
                have h_2110 : rg x_2109 1 40 := rg_of_eq ex_2109 (rg_add h_2076 (rg_k (Int32.ofInt 1) 1 rfl) (by decide))
                refine lv_iinc (v := x_2109) (lv' := [(4, .int x_2109), (0, .ref this), (3, .int x_2104)]) hx hb dX0_sleep_96 hl (k := 2) rfl ex_2109.symm (by decide) rfl (fun ls hl => ?_)
                refine lv_goto (tgt := 30) hx hb dX0_sleep_99 (by decide) ?_
                exact ih_2071 x_2104 x_2109 ri_2105 _ _ _ (rg_w h_2110 (by decide)) (ms_up 1 hm_2068 ex_2109 rfl (by decide) h_2076 (by decide) (by decide)) hG hP hD hS (lv_sub hl [1, 2, 0] rfl)
              refine lv_if_eq (tgt := 96) hx hb dX0_sleep_45 (by decide) (fun c_2111 => ?_) (fun c_2111 => ?_)
              · have f_2112 := (hr_2083.resolve_left (fun q => absurd (q.1.symm.trans c_2111) (by decide))).2
                have h_2113 : rg x_2079 0 0 := rg_and h_2084 (rg_of_eq c_2111 (rg_k (0 : Int32) 0 rfl)) (by decide)
                exact K_2108 x_2030 ri_2032 _ _ _ hG hP hD hS (lv_sub hl [0, 1, 2] rfl)
              · have f_2114 := (hr_2083.resolve_right (fun q => c_2111 q.1)).2
                have h_2115 : rg x_2079 1 1 := rg_ne c_2111 h_2084 0 rfl (by decide)
                refine lv_aload_n hx hb dX0_sleep_48 rfl (lv_at hl 0 rfl) ?_
                refine pg_f (v := .ref w_1057) (C := RX0) (T := TX0) (N := 16) hx hb hts (tw_i inlX0) hown hK hP hL_this hK_this (by decide) rfl 12 (by decide) (hts _ (tw_c tw_120)) (pq_hv rfl hR_w_1057) dX0_sleep_49 ?_
                refine lv_aload_n hx hb dX0_sleep_52 rfl (lv_at hl 0 rfl) ?_
                refine pg_f (v := .ref w_2078) (C := RX0) (T := TX0) (N := 16) hx hb hts (tw_i inlX0) hown hK hP hL_this hK_this (by decide) rfl 5 (by decide) (hts _ (tw_c tw_114)) (pq_hv rfl hR_w_2078) dX0_sleep_53 ?_
                refine lv_iload hx hb dX0_sleep_56 (lv_at hl 2 rfl) ?_
                refine pl_i hx hb hK hP hL_w_2078 hK_w_2078 hN_w_2078 (rg_in h_2076 (by decide)) dX0_sleep_58 ?_
                refine lv_topi (fun x_2116 ex_2116 => ?_)
                have h_2117 : rg x_2116 0 4 := rg_of_eq ex_2116 (f_2114)
                refine pl_i hx hb hK hP hL_w_1057 hK_w_1057 hN_w_1057 (rg_in h_2117 (by decide)) dX0_sleep_59 ?_
                refine lv_topi (fun x_2118 ex_2118 => ?_)
                refine lv_if_le (tgt := 82) hx hb dX0_sleep_60 (by decide) (fun c_2119 => ?_) (fun c_2119 => ?_)
                · have h_2120 : rg x_2118 (-2147483648) 0 := rg_le1 c_2119 (rg_full _) (rg_k (0 : Int32) 0 rfl) (by decide)
                  refine lv_aload_n hx hb dX0_sleep_82 rfl (lv_at hl 0 rfl) ?_
                  obtain ⟨w_2121, hR_w_2121, hL_w_2121, hK_w_2121, hN_w_2121, hT_w_2121⟩ := sh_a hSH 7 (ci := 0) (kd := 13) (len := 40) rfl (by decide) hL_this hK_this
                  refine pg_f (v := .ref w_2121) (C := RX0) (T := TX0) (N := 16) hx hb hts (tw_i inlX0) hown hK hP hL_this hK_this (by decide) rfl 7 (by decide) (hts _ (tw_c tw_116)) (pq_hv rfl hR_w_2121) dX0_sleep_83 ?_
                  refine lv_iload hx hb dX0_sleep_86 (lv_at hl 2 rfl) ?_
                  refine lv_dup2_11 hx hb dX0_sleep_88 rfl rfl ?_
                  refine pl_i hx hb hK hP hL_w_2121 hK_w_2121 hN_w_2121 (rg_in h_2076 (by decide)) dX0_sleep_89 ?_
                  refine lv_topi (fun x_2122 ex_2122 => ?_)
                  refine lv_iconst (v := 1) hx hb dX0_sleep_90 (by decide) ?_
                  refine lv_iadd hx hb dX0_sleep_91 ?_
                  refine lv_topi (fun x_2123 ex_2123 => ?_)
                  refine pt_i hx hb hK hP hD hS hL_w_2121 hK_w_2121 hN_w_2121 (rg_in h_2076 (by decide)) dX0_sleep_92 (fun r_2124 H locs er_2124 hP hD hS => ?_)
                  have hG := GX.wR hG hSH hT_w_2121 rfl er_2124 (rg_w (rg_full _) (by decide)) (by decide)
                  obtain ⟨x_2125, ex_2125⟩ : ∃ y : Int32, y = x_2030 + Int32.ofInt 1 := ⟨_, rfl⟩
                  refine lv_iinc (v := x_2125) (lv' := [(3, .int x_2125), (0, .ref this), (4, .int x_2031)]) hx hb dX0_sleep_93 hl (k := 1) rfl ex_2125.symm (by decide) rfl (fun ls hl => ?_)
                  exact K_2108 x_2125 r_2124 _ _ _ hG hP hD hS (lv_sub hl [1, 0, 2] rfl)
                · have h_2126 : rg x_2118 1 2147483647 := rg_lt2 (nle c_2119) (rg_k (0 : Int32) 0 rfl) (rg_full _) (by decide)
                  refine lv_aload_n hx hb dX0_sleep_63 rfl (lv_at hl 0 rfl) ?_
                  refine pg_f (v := .ref w_1057) (C := RX0) (T := TX0) (N := 16) hx hb hts (tw_i inlX0) hown hK hP hL_this hK_this (by decide) rfl 12 (by decide) (hts _ (tw_c tw_120)) (pq_hv rfl hR_w_1057) dX0_sleep_64 ?_
                  refine lv_aload_n hx hb dX0_sleep_67 rfl (lv_at hl 0 rfl) ?_
                  refine pg_f (v := .ref w_2078) (C := RX0) (T := TX0) (N := 16) hx hb hts (tw_i inlX0) hown hK hP hL_this hK_this (by decide) rfl 5 (by decide) (hts _ (tw_c tw_114)) (pq_hv rfl hR_w_2078) dX0_sleep_68 ?_
                  refine lv_iload hx hb dX0_sleep_71 (lv_at hl 2 rfl) ?_
                  refine pl_i hx hb hK hP hL_w_2078 hK_w_2078 hN_w_2078 (rg_in h_2076 (by decide)) dX0_sleep_73 ?_
                  refine lv_tov x_2116 ex_2116.symm ?_
                  refine lv_dup2_11 hx hb dX0_sleep_74 rfl rfl ?_
                  refine pl_i hx hb hK hP hL_w_1057 hK_w_1057 hN_w_1057 (rg_in h_2117 (by decide)) dX0_sleep_75 ?_
                  refine lv_tov x_2118 ex_2118.symm ?_
                  refine lv_iconst (v := 1) hx hb dX0_sleep_76 (by decide) ?_
                  refine lv_isub hx hb dX0_sleep_77 ?_
                  refine lv_topi (fun x_2127 ex_2127 => ?_)
                  have h_2128 : rg x_2127 0 2147483646 := rg_of_eq ex_2127 (rg_sub h_2126 (rg_k (1 : Int32) 1 rfl) (by decide))
                  refine pt_i hx hb hK hP hD hS hL_w_1057 hK_w_1057 hN_w_1057 (rg_in h_2117 (by decide)) dX0_sleep_78 (fun r_2129 H locs er_2129 hP hD hS => ?_)
                  have hG := GX.wR hG hSH hT_w_1057 rfl er_2129 (rg_w h_2128 (by decide)) (by decide)
                  refine lv_goto (tgt := 96) hx hb dX0_sleep_79 (by decide) ?_
                  exact K_2108 x_2030 r_2129 _ _ _ hG hP hD hS (lv_sub hl [0, 1, 2] rfl)
        exact L_2070 _ (0 : Int32) (0 : Int32) r_1058 _ _ _ (rg_w (rg_k (0 : Int32) 0 rfl) (by decide)) (Nat.lt_succ_self _) hG hP hD hS (lv_sub hl [2, 1, 0] rfl)
      · exact (rg_empty (rg_lt2 (nle c_1056) (rg_k (60 : Int32) 60 rfl) h_1055 (lo := 61) (hi := 60) (by decide)) (by decide)).elim
  exact go _ _ _ hP hD hS hl

set_option maxHeartbeats 4000000 in
set_option maxRecDepth 100000 in
theorem s_X0_board_163 (l : Launch) (D : va_G) (t : pq_T) (σ : pq_S) (I : Nat → Nat → Int32) (J : Nat → Nat → Int64) (ri : Nat → Nat → Int32) (rj : Nat → Nat → Int64) (rq : Nat → Nat → Option Nat) (sz : Nat) (tg : Nat → Nat) (hSH : SH σ tg) (hG0 : GS tg σ I ri rq) (this : Nat) (a0 : Int64) (a1 : Nat) (a2 : Int32) (a3 : Int32) (a4 : Int32) (hL_this : this ∈ σ.1) (hK_this : σ.2.1 this = 0) (hL_a1 : a1 ∈ σ.1) (hK_a1 : σ.2.1 a1 = 13) (hN_a1 : σ.2.2.2 a1 = 40) (hT_a1 : tg a1 = 163) : MetV l yX0_board (wa yX0_board cX0_board 11 none) ({ frames := 2, cells := 0, slots := 0, locals := 45 }) [.ref this, .long a0, .ref a1, .int a2, .int a3, .int a4] D t σ (I, J, ri, rj, rq) sz 0 0 (fun (u : pq_S × pq_M) => ∃ ri' : Nat → Nat → Int32, u = (σ, I, J, ri', rj, rq) ∧ GX [1005] tg σ I ri rj I ri' rj rq) := by
  refine Met.ofW (cc := cX0_board) (maxL := 11) (ret := none) (by decide) rfl ?_
  intro p e s m args below meth c s₁ B hml hv
  obtain ⟨rfl, hsz, hP, hK, hD0, hN⟩ := hv
  have hx := B.exec
  have hb := B.bytes
  have hr := B.returns
  have hts := atoms_spec (ws := (wa yX0_board cX0_board 11 none)) B.pre
  have hown : s.vm.findClass RX0 = some m.cls := findClass_of_methodNamed B.named
  have hlocks := B.notSynchronized
  subst hsz
  have hD : va_D (pq_B t σ (I, J, ri, rj, rq) s.heap.size) (pq_P t σ (I, J, ri, rj, rq)) := hD0.self
  generalize hAe : pq_B t σ (I, J, ri, rj, rq) s.heap.size = A at hD ⊢
  have hA : ∀ q : Nat, s.heap.size ≤ q → A q := fun q h => by rw [← hAe]; exact Or.inr h
  have hS : va_S A s.heap s.heap [] := va_S.rf
  have hG : GX [1005] tg σ I ri rj I ri rj rq := ⟨hG0, fun _ _ _ => rfl, fun _ _ _ _ _ => rfl, fun _ _ _ _ _ => rfl⟩
  have hl := lv_entry ([.ref this, .long a0, .ref a1, .int a2, .int a3, .int a4]) (n := 11) (Nat.le_of_ble_eq_true rfl)
  rw [lg_entry_eq]
  generalize (lg_sl ([.ref this, .long a0, .ref a1, .int a2, .int a3, .int a4]) ++ List.replicate (11 - (lg_sl ([.ref this, .long a0, .ref a1, .int a2, .int a3, .int a4])).length) Slot.unset).toArray = ls at hl ⊢
  have hl : lv_has ls 11 [(0, .ref this), (1, .long a0), (3, .ref a1), (4, .int a2), (5, .int a3), (6, .int a4)] := hl
  refine q_gen (fun Q hQ => ?_)
  have go : ∀ (H : Heap) (locs : List Loc) (ls : Array Slot), va_P D vwCl (pq_P t σ (I, J, ri, rj, rq)) H → va_D A (pq_P t σ (I, J, ri, rj, rq)) → va_S A s.heap H locs → lv_has ls 11 [(0, .ref this), (1, .long a0), (3, .ref a1), (4, .int a2), (5, .int a3), (6, .int a4)] → W p l e ({ frames := 2, cells := 0, slots := 0, locals := 45 } : Room) s m (List.toArray ([.ref this, .long a0, .ref a1, .int a2, .int a3, .int a4] : List Value)) below meth c H locs 0 0 Q (F0 m 0 ls []) := by
    intro H locs ls hP hD hS hl
    refine lv_aload_n hx hb dX0_board_0 rfl (lv_at hl 0 rfl) ?_
    refine lv_lload_n hx hb dX0_board_1 rfl (lv_at hl 1 rfl) ?_
    refine pk_v (va_runV (As := [.long a0]) (rest := []) ⟨hx, hb, hml, hown, hts⟩ (s_X0_countGroups l D t σ I J ri rj rq H.size tg hSH hG.1 this a0 hL_this hK_this) (cwV 1 hts (tw_V tw_1172 tw_1173 tw_1174 tw_45 tw_1175) rfl rfl rfl cv_yX0_countGroups_1 ⟨Nat.le_of_ble_eq_true rfl, Nat.le_of_ble_eq_true rfl⟩) ⟨pq_blind, pq_recv hK hP hL_this hK_this (by decide) rfl, pq_pre hK hN hP hD⟩ rfl rfl hl.1 rfl (lv_room (Nat.le_of_ble_eq_true rfl)) dX0_board_2 ⟨Nat.le_of_ble_eq_true rfl, Nat.le_of_ble_eq_true rfl⟩) hD hS hA (fun σ1 μ1 H locs hw_2 hP hD hS => ?_)
    obtain ⟨ri_3, hu_4, hg_5⟩ := hw_2
    obtain ⟨hu_4a, hu_4b⟩ := Prod.mk.inj hu_4
    rw [hu_4a, hu_4b] at hP hD
    have hG := GX.tr hG hg_5 (by decide)
    refine lv_iconst (v := 0) hx hb dX0_board_5 (by decide) ?_
    refine lv_istore (lv' := [(7, .int 0), (0, .ref this), (1, .long a0), (3, .ref a1), (4, .int a2), (5, .int a3), (6, .int a4)]) hx hb dX0_board_6 hl (by decide) rfl (fun ls hl => ?_)
    have L_7881 : ∀ (n_7880 : Nat) (x_6754 : Int32) (ri_6755 : Nat → Nat → Int32) (H : Heap) (locs : List Loc) (ls : Array Slot), rg x_6754 0 5 → (5 - (x_6754).toInt).toNat < n_7880 → GX [1005] tg σ I ri rj I ri_6755 rj rq → va_P D vwCl (pq_P t σ (I, J, ri_6755, rj, rq)) H → va_D A (pq_P t σ (I, J, ri_6755, rj, rq)) → va_S A s.heap H locs → lv_has ls 11 [(0, .ref this), (1, .long a0), (3, .ref a1), (4, .int a2), (5, .int a3), (6, .int a4), (7, .int x_6754)] → W p l e ({ frames := 2, cells := 0, slots := 0, locals := 45 } : Room) s m (List.toArray ([.ref this, .long a0, .ref a1, .int a2, .int a3, .int a4] : List Value)) below meth c H locs 0 0 Q (F0 m 8 ls []) := by
      intro n_7880
      induction n_7880 with
      | zero => intro x_6754 ri_6755 H locs ls h_7884 hm_7879 hG hP hD hS hl; exact absurd hm_7879 (Nat.not_lt_zero _)
      | succ n_7880 ih_7882 =>
        intro x_6754 ri_6755 H locs ls h_7884 hm_7879 hG hP hD hS hl
        refine lv_iload hx hb dX0_board_8 (lv_at hl 6 rfl) ?_
        refine lv_aload_n hx hb dX0_board_10 rfl (lv_at hl 0 rfl) ?_
        refine pg_f (v := .int (I 10 this)) (C := RX0) (T := TX0) (N := 16) hx hb hts (tw_i inlX0) hown hK hP hL_this hK_this (by decide) rfl 10 (by decide) (hts _ (tw_c tw_1171)) rfl dX0_board_11 ?_
        have h_7885 : rg (I 10 this) 0 5 := GX.rI hG 10 rfl
        refine lv_icmp_ge (tgt := 36) hx hb dX0_board_14 (by decide) (fun c_7886 => ?_) (fun c_7886 => ?_)
        · refine lv_iload hx hb dX0_board_36 (lv_at hl 4 rfl) ?_
          refine lv_istore (lv' := [(7, .int a3), (0, .ref this), (1, .long a0), (3, .ref a1), (4, .int a2), (5, .int a3), (6, .int a4)]) hx hb dX0_board_38 hl (by decide) rfl (fun ls hl => ?_)
          refine lv_iconst (v := 0) hx hb dX0_board_40 (by decide) ?_
          refine lv_istore (lv' := [(8, .int 0), (7, .int a3), (0, .ref this), (1, .long a0), (3, .ref a1), (4, .int a2), (5, .int a3), (6, .int a4)]) hx hb dX0_board_41 hl (by decide) rfl (fun ls hl => ?_)
          have L_8918 : ∀ (n_8917 : Nat) (x_8835 : Int32) (x_8836 : Int32) (ri_8837 : Nat → Nat → Int32) (H : Heap) (locs : List Loc) (ls : Array Slot), rg x_8836 0 40 → (40 - (x_8836).toInt).toNat < n_8917 → GX [1005] tg σ I ri rj I ri_8837 rj rq → va_P D vwCl (pq_P t σ (I, J, ri_8837, rj, rq)) H → va_D A (pq_P t σ (I, J, ri_8837, rj, rq)) → va_S A s.heap H locs → lv_has ls 11 [(0, .ref this), (1, .long a0), (3, .ref a1), (4, .int a2), (6, .int a4), (7, .int x_8835), (8, .int x_8836)] → W p l e ({ frames := 2, cells := 0, slots := 0, locals := 45 } : Room) s m (List.toArray ([.ref this, .long a0, .ref a1, .int a2, .int a3, .int a4] : List Value)) below meth c H locs 0 0 Q (F0 m 43 ls []) := by
            intro n_8917
            induction n_8917 with
            | zero => intro x_8835 x_8836 ri_8837 H locs ls h_8921 hm_8916 hG hP hD hS hl; exact absurd hm_8916 (Nat.not_lt_zero _)
            | succ n_8917 ih_8919 =>
              intro x_8835 x_8836 ri_8837 H locs ls h_8921 hm_8916 hG hP hD hS hl
              refine lv_iload hx hb dX0_board_43 (lv_at hl 6 rfl) ?_
              refine lv_iload hx hb dX0_board_45 (lv_at hl 3 rfl) ?_
              refine lv_icmp_ge (tgt := 208) hx hb dX0_board_47 (by decide) (fun c_8922 => ?_) (fun c_8922 => ?_)
              · have h_8923 : rg a2 (-2147483648) 40 := rg_le1 c_8922 (rg_full _) h_8921 (by decide)
                subst hQ
                exact W.vret hx hb hr (fun t1 ht hW => ⟨⟨(σ, I, J, ri_8837, rj, rq), rfl, ⟨ri_8837, rfl, hG⟩, by rw [ht]; exact hP, va_K.moved hW.alike hK, hD⟩, hS.F ht⟩) hS.2.2 dX0_board_208
              · have h_8924 : rg a2 1 2147483647 := rg_lt2 (nle c_8922) h_8921 (rg_full _) (by decide)
                refine lv_iload hx hb dX0_board_50 (lv_at hl 6 rfl) ?_
                refine lv_aload_n hx hb dX0_board_52 rfl (lv_at hl 2 rfl) ?_
                refine pn_i (v := 40) hx hb hK hP hL_a1 hK_a1 hN_a1 (by decide) dX0_board_53 ?_
                refine lv_icmp_ge (tgt := 208) hx hb dX0_board_54 (by decide) (fun c_8925 => ?_) (fun c_8925 => ?_)
                · have h_8926 : rg x_8836 40 40 := rg_le2 c_8925 (rg_k (40 : Int32) 40 rfl) h_8921 (by decide)
                  subst hQ
                  exact W.vret hx hb hr (fun t1 ht hW => ⟨⟨(σ, I, J, ri_8837, rj, rq), rfl, ⟨ri_8837, rfl, hG⟩, by rw [ht]; exact hP, va_K.moved hW.alike hK, hD⟩, hS.F ht⟩) hS.2.2 dX0_board_208
                · have h_8927 : rg x_8836 0 39 := rg_lt1 (nle c_8925) h_8921 (rg_k (40 : Int32) 40 rfl) (by decide)
                  refine lv_aload_n hx hb dX0_board_57 rfl (lv_at hl 2 rfl) ?_
                  refine lv_iload hx hb dX0_board_58 (lv_at hl 6 rfl) ?_
                  refine pl_i hx hb hK hP hL_a1 hK_a1 hN_a1 (rg_in h_8927 (by decide)) dX0_board_60 ?_
                  refine lv_topi (fun x_8928 ex_8928 => ?_)
                  have h_8929 : rg x_8928 0 39 := rg_of_eq ex_8928 (GX.rR hG hT_a1 rfl)
                  refine lv_istore (lv' := [(9, .int x_8928), (0, .ref this), (1, .long a0), (3, .ref a1), (4, .int a2), (6, .int a4), (7, .int x_8835), (8, .int x_8836)]) hx hb dX0_board_61 hl (by decide) rfl (fun ls hl => ?_)
                  refine lv_lload_n hx hb dX0_board_63 rfl (lv_at hl 2 rfl) ?_
                  refine lv_iload hx hb dX0_board_64 (lv_at hl 0 rfl) ?_
                  refine pk_i (va_runSN (As := [.long a0, .int x_8928]) (rest := []) ⟨hx, hb, hml, hown, hts⟩ (s_X11_hasBit l D t σ I J ri_8837 rj rq H.size tg hSH hG.1 a0 x_8928) ⟨va_cnB (host := "RingsUnder") 2 hts (tw_W tw_560) rfl rfl rfl (nl_13 hN) (hts _ (tw_c tw_2)) cd_yX11_hasBit_2 ⟨Nat.le_of_ble_eq_true rfl, Nat.le_of_ble_eq_true rfl⟩, hts (.static yX11_hasBit) (tw_c tq_static_yX11_hasBit), trivial⟩ ⟨pq_blind, pq_pre hK hN hP hD⟩ rfl rfl hl.1 rfl (lv_room (Nat.le_of_ble_eq_true rfl)) dX0_board_66 ⟨Nat.le_of_ble_eq_true rfl, Nat.le_of_ble_eq_true rfl⟩) hD hS hA (fun x_8930 σ1 μ1 H locs hw_8931 hP hD hS => ?_)
                  obtain ⟨hu_8932, hr_8934⟩ := hw_8931
                  obtain ⟨hu_8932a, hu_8932b⟩ := Prod.mk.inj hu_8932
                  rw [hu_8932a, hu_8932b] at hP hD
                  have h_8935 : rg x_8930 0 1 := by rcases hr_8934 with ⟨q, -⟩ | ⟨q, -⟩ <;> rw [q] <;> exact ⟨by decide, by decide⟩
                  have K_8999 : ∀  (x_8995 : Int32) (ri_8996 : Nat → Nat → Int32) (H : Heap) (locs : List Loc) (ls : Array Slot), GX [1005] tg σ I ri rj I ri_8996 rj rq → va_P D vwCl (pq_P t σ (I, J, ri_8996, rj, rq)) H → va_D A (pq_P t σ (I, J, ri_8996, rj, rq)) → va_S A s.heap H locs → lv_has ls 11 [(0, .ref this), (1, .long a0), (3, .ref a1), (4, .int a2), (6, .int a4), (7, .int x_8995), (8, .int x_8836)] → W p l e ({ frames := 2, cells := 0, slots := 0, locals := 45 } : Room) s m (List.toArray ([.ref this, .long a0, .ref a1, .int a2, .int a3, .int a4] : List Value)) below meth c H locs 0 0 Q (F0 m 202 ls []) := by
                    intro x_8995 ri_8996 H locs ls hG hP hD hS hl
                    obtain ⟨x_9000, ex_9000⟩ : ∃ y : Int32, y = x_8836 + Int32.ofInt 1 := ⟨_, rfl⟩
                    have h_9001 : rg x_9000 1 40 := rg_of_eq ex_9000 (rg_add h_8927 (rg_k (Int32.ofInt 1) 1 rfl) (by decide))
                    refine lv_iinc (v := x_9000) (lv' := [(8, .int x_9000), (0, .ref this), (1, .long a0), (3, .ref a1), (4, .int a2), (6, .int a4), (7, .int x_8995)]) hx hb dX0_board_202 hl (k := 6) rfl ex_9000.symm (by decide) rfl (fun ls hl => ?_)
                    refine lv_goto (tgt := 43) hx hb dX0_board_205 (by decide) ?_
                    exact ih_8919 x_8995 x_9000 ri_8996 _ _ _ (rg_w h_9001 (by decide)) (ms_up 1 hm_8916 ex_9000 rfl (by decide) h_8927 (by decide) (by decide)) hG hP hD hS (lv_sub hl [1, 2, 3, 4, 5, 6, 0] rfl)
                  refine lv_if_eq (tgt := 202) hx hb dX0_board_69 (by decide) (fun c_9002 => ?_) (fun c_9002 => ?_)
                  · have h_9003 : rg x_8930 0 0 := rg_and h_8935 (rg_of_eq c_9002 (rg_k (0 : Int32) 0 rfl)) (by decide)
                    exact K_8999 x_8835 ri_8837 _ _ _ hG hP hD hS (lv_sub hl [1, 2, 3, 4, 5, 6, 7] rfl)
                  · have h_9004 : rg x_8930 1 1 := rg_ne c_9002 h_8935 0 rfl (by decide)
                    refine lv_aload_n hx hb dX0_board_72 rfl (lv_at hl 1 rfl) ?_
                    refine lv_iload hx hb dX0_board_73 (lv_at hl 0 rfl) ?_
                    obtain ⟨w_9005, hR_w_9005, hL_w_9005, hK_w_9005, hN_w_9005, hT_w_9005⟩ := sh_a hSH 5 (ci := 0) (kd := 13) (len := 40) rfl (by decide) hL_this hK_this
                    refine pk_i (va_runV (As := [.int x_8928]) (rest := []) ⟨hx, hb, hml, hown, hts⟩ (s_X0_isOnRing l D t σ I J ri_8837 rj rq H.size tg hSH hG.1 this x_8928 hL_this hK_this (rg_w h_8929 (by decide)) w_9005 hR_w_9005 hL_w_9005 hK_w_9005 hN_w_9005 hT_w_9005) (cwV 1 hts (tw_V tw_1108 tw_1109 tw_1110 tw_45 tw_1111) rfl rfl rfl cv_yX0_isOnRing_1 ⟨Nat.le_of_ble_eq_true rfl, Nat.le_of_ble_eq_true rfl⟩) ⟨pq_blind, pq_recv hK hP hL_this hK_this (by decide) rfl, pq_pre hK hN hP hD⟩ rfl rfl hl.1 rfl (lv_room (Nat.le_of_ble_eq_true rfl)) dX0_board_75 ⟨Nat.le_of_ble_eq_true rfl, Nat.le_of_ble_eq_true rfl⟩) hD hS hA (fun x_9006 σ1 μ1 H locs hw_9007 hP hD hS => ?_)
                    obtain ⟨hu_9008, hr_9010⟩ := hw_9007
                    obtain ⟨hu_9008a, hu_9008b⟩ := Prod.mk.inj hu_9008
                    rw [hu_9008a, hu_9008b] at hP hD
                    have h_9011 : rg x_9006 0 1 := by rcases hr_9010 with ⟨q, -⟩ | ⟨q, -⟩ <;> rw [q] <;> exact ⟨by decide, by decide⟩
                    refine lv_if_ne (tgt := 84) hx hb dX0_board_78 (by decide) (fun c_9012 => ?_) (fun c_9012 => ?_)
                    · have f_9013 := (hr_9010.resolve_right (fun q => c_9012 q.1)).2
                      have h_9014 : rg x_9006 1 1 := rg_ne c_9012 h_9011 0 rfl (by decide)
                      refine lv_aload_n hx hb dX0_board_84 rfl (lv_at hl 1 rfl) ?_
                      refine lv_iload hx hb dX0_board_85 (lv_at hl 0 rfl) ?_
                      refine pk_i (va_runV (As := [.int x_8928]) (rest := []) ⟨hx, hb, hml, hown, hts⟩ (s_X0_groupOf l D t σ I J ri_8837 rj rq H.size tg hSH hG.1 this x_8928 hL_this hK_this (rg_w h_8929 (by decide)) w_9005 hR_w_9005 hL_w_9005 hK_w_9005 hN_w_9005 hT_w_9005 (rg_w f_9013 (by decide))) (cwV 1 hts (tw_V tw_1176 tw_1177 tw_1178 tw_45 tw_1179) rfl rfl rfl cv_yX0_groupOf_1 ⟨Nat.le_of_ble_eq_true rfl, Nat.le_of_ble_eq_true rfl⟩) ⟨pq_blind, pq_recv hK hP hL_this hK_this (by decide) rfl, pq_pre hK hN hP hD⟩ rfl rfl hl.1 rfl (lv_room (Nat.le_of_ble_eq_true rfl)) dX0_board_87 ⟨Nat.le_of_ble_eq_true rfl, Nat.le_of_ble_eq_true rfl⟩) hD hS hA (fun x_9015 σ1 μ1 H locs hw_9016 hP hD hS => ?_)
                      obtain ⟨hu_9017, hr_9019⟩ := hw_9016
                      obtain ⟨hu_9017a, hu_9017b⟩ := Prod.mk.inj hu_9017
                      rw [hu_9017a, hu_9017b] at hP hD
                      refine lv_istore (lv' := [(10, .int x_9015), (9, .int x_8928), (0, .ref this), (1, .long a0), (3, .ref a1), (4, .int a2), (6, .int a4), (7, .int x_8835), (8, .int x_8836)]) hx hb dX0_board_90 hl (by decide) rfl (fun ls hl => ?_)
                      refine lv_aload_n hx hb dX0_board_92 rfl (lv_at hl 2 rfl) ?_
                      obtain ⟨w_9020, hR_w_9020, hL_w_9020, hK_w_9020, hN_w_9020, hT_w_9020⟩ := sh_a hSH 15 (ci := 0) (kd := 13) (len := 50) rfl (by decide) hL_this hK_this
                      refine pg_f (v := .ref w_9020) (C := RX0) (T := TX0) (N := 16) hx hb hts (tw_i inlX0) hown hK hP hL_this hK_this (by decide) rfl 15 (by decide) (hts _ (tw_c tw_123)) (pq_hv rfl hR_w_9020) dX0_board_93 ?_
                      refine lv_iload hx hb dX0_board_96 (lv_at hl 0 rfl) ?_
                      refine pl_i hx hb hK hP hL_w_9020 hK_w_9020 hN_w_9020 (rg_in hr_9019 (by decide)) dX0_board_98 ?_
                      refine lv_topi (fun x_9021 ex_9021 => ?_)
                      have h_9022 : rg x_9021 (-2) 4 := rg_of_eq ex_9021 (GX.rR hG hT_w_9020 rfl)
                      refine lv_bipush (v := (-2)) hx hb dX0_board_99 (by decide) ?_
                      have K_9059 : ∀  (x_9048 : Int32) (ri_9049 : Nat → Nat → Int32) (H : Heap) (locs : List Loc) (ls : Array Slot), GX [1005] tg σ I ri rj I ri_9049 rj rq → va_P D vwCl (pq_P t σ (I, J, ri_9049, rj, rq)) H → va_D A (pq_P t σ (I, J, ri_9049, rj, rq)) → va_S A s.heap H locs → lv_has ls 11 [(0, .ref this), (1, .long a0), (3, .ref a1), (4, .int a2), (6, .int a4), (7, .int x_9048), (8, .int x_8836), (9, .int x_8928), (10, .int x_9015)] → W p l e ({ frames := 2, cells := 0, slots := 0, locals := 45 } : Room) s m (List.toArray ([.ref this, .long a0, .ref a1, .int a2, .int a3, .int a4] : List Value)) below meth c H locs 0 0 Q (F0 m 165 ls []) := by
                        intro x_9048 ri_9049 H locs ls hG hP hD hS hl
                        refine lv_aload_n hx hb dX0_board_165 rfl (lv_at hl 0 rfl) ?_
                        refine pg_f (v := .ref w_9020) (C := RX0) (T := TX0) (N := 16) hx hb hts (tw_i inlX0) hown hK hP hL_this hK_this (by decide) rfl 15 (by decide) (hts _ (tw_c tw_123)) (pq_hv rfl hR_w_9020) dX0_board_166 ?_
                        refine lv_iload hx hb dX0_board_169 (lv_at hl 8 rfl) ?_
                        refine pl_i hx hb hK hP hL_w_9020 hK_w_9020 hN_w_9020 (rg_in hr_9019 (by decide)) dX0_board_171 ?_
                        refine lv_topi (fun x_9060 ex_9060 => ?_)
                        have h_9061 : rg x_9060 (-2) 4 := rg_of_eq ex_9060 (GX.rR hG hT_w_9020 rfl)
                        refine lv_iconst (v := (-1)) hx hb dX0_board_172 (by decide) ?_
                        refine lv_icmp_eq (tgt := 202) hx hb dX0_board_173 (by decide) (fun c_9062 => ?_) (fun c_9062 => ?_)
                        · have h_9063 : rg x_9060 (-1) (-1) := rg_and h_9061 (rg_of_eq c_9062 (rg_k (-1 : Int32) (-1) rfl)) (by decide)
                          exact K_8999 x_9048 ri_9049 _ _ _ hG hP hD hS (lv_sub hl [0, 1, 2, 3, 4, 5, 6] rfl)
                        · refine lv_aload_n hx hb dX0_board_176 rfl (lv_at hl 0 rfl) ?_
                          refine pg_f (v := .ref w_9005) (C := RX0) (T := TX0) (N := 16) hx hb hts (tw_i inlX0) hown hK hP hL_this hK_this (by decide) rfl 5 (by decide) (hts _ (tw_c tw_114)) (pq_hv rfl hR_w_9005) dX0_board_177 ?_
                          refine lv_iload hx hb dX0_board_180 (lv_at hl 7 rfl) ?_
                          refine lv_bipush (v := 100) hx hb dX0_board_182 (by decide) ?_
                          refine lv_aload_n hx hb dX0_board_184 rfl (lv_at hl 0 rfl) ?_
                          refine pg_f (v := .ref w_9020) (C := RX0) (T := TX0) (N := 16) hx hb hts (tw_i inlX0) hown hK hP hL_this hK_this (by decide) rfl 15 (by decide) (hts _ (tw_c tw_123)) (pq_hv rfl hR_w_9020) dX0_board_185 ?_
                          refine lv_iload hx hb dX0_board_188 (lv_at hl 8 rfl) ?_
                          refine pl_i hx hb hK hP hL_w_9020 hK_w_9020 hN_w_9020 (rg_in hr_9019 (by decide)) dX0_board_190 ?_
                          refine lv_tov x_9060 ex_9060.symm ?_
                          refine lv_iadd hx hb dX0_board_191 ?_
                          refine lv_topi (fun x_9064 ex_9064 => ?_)
                          have h_9065 : rg x_9064 98 104 := rg_of_eq ex_9064 (rg_add (rg_k (100 : Int32) 100 rfl) h_9061 (by decide))
                          refine pt_i hx hb hK hP hD hS hL_w_9005 hK_w_9005 hN_w_9005 (rg_in h_8929 (by decide)) dX0_board_192 (fun r_9066 H locs er_9066 hP hD hS => ?_)
                          have hG := GX.wR hG hSH hT_w_9005 rfl er_9066 (rg_w h_9065 (by decide)) (by decide)
                          refine lv_aload_n hx hb dX0_board_193 rfl (lv_at hl 0 rfl) ?_
                          obtain ⟨w_9067, hR_w_9067, hL_w_9067, hK_w_9067, hN_w_9067, hT_w_9067⟩ := sh_a hSH 8 (ci := 0) (kd := 13) (len := 40) rfl (by decide) hL_this hK_this
                          refine pg_f (v := .ref w_9067) (C := RX0) (T := TX0) (N := 16) hx hb hts (tw_i inlX0) hown hK hP hL_this hK_this (by decide) rfl 8 (by decide) (hts _ (tw_c tw_117)) (pq_hv rfl hR_w_9067) dX0_board_194 ?_
                          refine lv_iload hx hb dX0_board_197 (lv_at hl 7 rfl) ?_
                          refine lv_iload hx hb dX0_board_199 (lv_at hl 4 rfl) ?_
                          refine pt_i hx hb hK hP hD hS hL_w_9067 hK_w_9067 hN_w_9067 (rg_in h_8929 (by decide)) dX0_board_201 (fun r_9068 H locs er_9068 hP hD hS => ?_)
                          have hG := GX.wR hG hSH hT_w_9067 rfl er_9068 (rg_w (rg_full _) (by decide)) (by decide)
                          exact K_8999 x_9048 r_9068 _ _ _ hG hP hD hS (lv_sub hl [0, 1, 2, 3, 4, 5, 6] rfl)
                      refine lv_icmp_ne (tgt := 165) hx hb dX0_board_101 (by decide) (fun c_9069 => ?_) (fun c_9069 => ?_)
                      · have h_9070 : rg x_9021 (-1) 4 := rg_ne c_9069 h_9022 (-2) rfl (by decide)
                        exact K_9059 x_8835 ri_8837 _ _ _ hG hP hD hS (lv_sub hl [2, 3, 4, 5, 6, 7, 8, 1, 0] rfl)
                      · have h_9071 : rg x_9021 (-2) (-2) := rg_and h_9022 (rg_of_eq c_9069 (rg_k (-2 : Int32) (-2) rfl)) (by decide)
                        refine lv_aload_n hx hb dX0_board_104 rfl (lv_at hl 2 rfl) ?_
                        refine pg_f (v := .ref w_9020) (C := RX0) (T := TX0) (N := 16) hx hb hts (tw_i inlX0) hown hK hP hL_this hK_this (by decide) rfl 15 (by decide) (hts _ (tw_c tw_123)) (pq_hv rfl hR_w_9020) dX0_board_105 ?_
                        refine lv_iload hx hb dX0_board_108 (lv_at hl 0 rfl) ?_
                        refine lv_aload_n hx hb dX0_board_110 rfl (lv_at hl 2 rfl) ?_
                        obtain ⟨w_9072, hR_w_9072, hL_w_9072, hK_w_9072, hN_w_9072, hT_w_9072⟩ := sh_a hSH 14 (ci := 0) (kd := 13) (len := 50) rfl (by decide) hL_this hK_this
                        refine pg_f (v := .ref w_9072) (C := RX0) (T := TX0) (N := 16) hx hb hts (tw_i inlX0) hown hK hP hL_this hK_this (by decide) rfl 14 (by decide) (hts _ (tw_c tw_122)) (pq_hv rfl hR_w_9072) dX0_board_111 ?_
                        refine lv_iload hx hb dX0_board_114 (lv_at hl 0 rfl) ?_
                        refine pl_i hx hb hK hP hL_w_9072 hK_w_9072 hN_w_9072 (rg_in hr_9019 (by decide)) dX0_board_116 ?_
                        refine lv_topi (fun x_9073 ex_9073 => ?_)
                        refine lv_iload hx hb dX0_board_117 (lv_at hl 7 rfl) ?_
                        have K_9094 : ∀  (x_9083 : Int32) (ri_9084 : Nat → Nat → Int32) (H : Heap) (locs : List Loc) (ls : Array Slot), rg x_9083 (-1) 4 → GX [1005] tg σ I ri rj I ri_9084 rj rq → va_P D vwCl (pq_P t σ (I, J, ri_9084, rj, rq)) H → va_D A (pq_P t σ (I, J, ri_9084, rj, rq)) → va_S A s.heap H locs → lv_has ls 11 [(0, .ref this), (1, .long a0), (3, .ref a1), (4, .int a2), (6, .int a4), (7, .int x_8835), (8, .int x_8836), (9, .int x_8928), (10, .int x_9015)] → W p l e ({ frames := 2, cells := 0, slots := 0, locals := 45 } : Room) s m (List.toArray ([.ref this, .long a0, .ref a1, .int a2, .int a3, .int a4] : List Value)) below meth c H locs 0 0 Q (F0 m 137 ls [.int x_9083, .int x_9015, .ref w_9020]) := by
                          intro x_9083 ri_9084 H locs ls h_9096 hG hP hD hS hl
                          refine pt_i hx hb hK hP hD hS hL_w_9020 hK_w_9020 hN_w_9020 (rg_in hr_9019 (by decide)) dX0_board_137 (fun r_9097 H locs er_9097 hP hD hS => ?_)
                          have hG := GX.wR hG hSH hT_w_9020 rfl er_9097 (rg_w h_9096 (by decide)) (by decide)
                          refine lv_iload hx hb dX0_board_138 (lv_at hl 5 rfl) ?_
                          refine lv_aload_n hx hb dX0_board_140 rfl (lv_at hl 0 rfl) ?_
                          refine pg_f (v := .ref w_9020) (C := RX0) (T := TX0) (N := 16) hx hb hts (tw_i inlX0) hown hK hP hL_this hK_this (by decide) rfl 15 (by decide) (hts _ (tw_c tw_123)) (pq_hv rfl hR_w_9020) dX0_board_141 ?_
                          refine lv_iload hx hb dX0_board_144 (lv_at hl 8 rfl) ?_
                          refine pl_i hx hb hK hP hL_w_9020 hK_w_9020 hN_w_9020 (rg_in hr_9019 (by decide)) dX0_board_146 ?_
                          refine lv_topi (fun x_9098 ex_9098 => ?_)
                          have h_9099 : rg x_9098 (-2) 4 := rg_of_eq ex_9098 (GX.rR hG hT_w_9020 rfl)
                          refine lv_iconst (v := (-1)) hx hb dX0_board_147 (by decide) ?_
                          have K_9105 : ∀  (x_9103 : Int32) (H : Heap) (locs : List Loc) (ls : Array Slot), GX [1005] tg σ I ri rj I r_9097 rj rq → va_P D vwCl (pq_P t σ (I, J, r_9097, rj, rq)) H → va_D A (pq_P t σ (I, J, r_9097, rj, rq)) → va_S A s.heap H locs → lv_has ls 11 [(0, .ref this), (1, .long a0), (3, .ref a1), (4, .int a2), (6, .int a4), (8, .int x_8836), (9, .int x_8928), (10, .int x_9015)] → W p l e ({ frames := 2, cells := 0, slots := 0, locals := 45 } : Room) s m (List.toArray ([.ref this, .long a0, .ref a1, .int a2, .int a3, .int a4] : List Value)) below meth c H locs 0 0 Q (F0 m 162 ls [.int x_9103, .int x_8835]) := by
                            intro x_9103 H locs ls hG hP hD hS hl
                            refine lv_isub hx hb dX0_board_162 ?_
                            refine lv_topi (fun x_9106 ex_9106 => ?_)
                            refine lv_istore (lv' := [(7, .int x_9106), (0, .ref this), (1, .long a0), (3, .ref a1), (4, .int a2), (6, .int a4), (8, .int x_8836), (9, .int x_8928), (10, .int x_9015)]) hx hb dX0_board_163 hl (by decide) rfl (fun ls hl => ?_)
                            exact K_9059 x_9106 r_9097 _ _ _ hG hP hD hS (lv_sub hl [1, 2, 3, 4, 5, 0, 6, 7, 8] rfl)
                          refine lv_icmp_ne (tgt := 155) hx hb dX0_board_148 (by decide) (fun c_9107 => ?_) (fun c_9107 => ?_)
                          · refine lv_aload_n hx hb dX0_board_155 rfl (lv_at hl 0 rfl) ?_
                            refine pg_f (v := .ref w_9072) (C := RX0) (T := TX0) (N := 16) hx hb hts (tw_i inlX0) hown hK hP hL_this hK_this (by decide) rfl 14 (by decide) (hts _ (tw_c tw_122)) (pq_hv rfl hR_w_9072) dX0_board_156 ?_
                            refine lv_iload hx hb dX0_board_159 (lv_at hl 8 rfl) ?_
                            refine pl_i hx hb hK hP hL_w_9072 hK_w_9072 hN_w_9072 (rg_in hr_9019 (by decide)) dX0_board_161 ?_
                            refine lv_topi (fun x_9108 ex_9108 => ?_)
                            exact K_9105 x_9108 _ _ _ hG hP hD hS (lv_sub hl [0, 1, 2, 3, 4, 6, 7, 8] rfl)
                          · have h_9109 : rg x_9098 (-1) (-1) := rg_and h_9099 (rg_of_eq c_9107 (rg_k (-1 : Int32) (-1) rfl)) (by decide)
                            refine lv_iconst (v := 0) hx hb dX0_board_151 (by decide) ?_
                            refine lv_goto (tgt := 162) hx hb dX0_board_152 (by decide) ?_
                            exact K_9105 (0 : Int32) _ _ _ hG hP hD hS (lv_sub hl [0, 1, 2, 3, 4, 6, 7, 8] rfl)
                        refine lv_icmp_gt (tgt := 136) hx hb dX0_board_119 (by decide) (fun c_9110 => ?_) (fun c_9110 => ?_)
                        · have h_9111 : rg x_8835 (-2147483648) 2147483646 := rg_lt1 c_9110 (rg_full _) (rg_full _) (by decide)
                          have h_9112 : rg x_9073 (-2147483647) 2147483647 := rg_lt2 c_9110 (rg_full _) (rg_full _) (by decide)
                          refine lv_iconst (v := (-1)) hx hb dX0_board_136 (by decide) ?_
                          exact K_9094 (-1 : Int32) ri_8837 _ _ _ (rg_w (rg_k (-1 : Int32) (-1) rfl) (by decide)) hG hP hD hS (lv_sub hl [2, 3, 4, 5, 6, 7, 8, 1, 0] rfl)
                        · refine lv_aload_n hx hb dX0_board_122 rfl (lv_at hl 2 rfl) ?_
                          refine lv_aload_n hx hb dX0_board_123 rfl (lv_at hl 2 rfl) ?_
                          refine pg_f (v := .ref w_9072) (C := RX0) (T := TX0) (N := 16) hx hb hts (tw_i inlX0) hown hK hP hL_this hK_this (by decide) rfl 14 (by decide) (hts _ (tw_c tw_122)) (pq_hv rfl hR_w_9072) dX0_board_124 ?_
                          refine lv_iload hx hb dX0_board_127 (lv_at hl 0 rfl) ?_
                          refine pl_i hx hb hK hP hL_w_9072 hK_w_9072 hN_w_9072 (rg_in hr_9019 (by decide)) dX0_board_129 ?_
                          refine lv_tov x_9073 ex_9073.symm ?_
                          refine pk_i (va_runV (As := [.int x_9073]) (rest := [.int x_9015, .ref w_9020]) ⟨hx, hb, hml, hown, hts⟩ (s_X0_takeLot l D t σ I J ri_8837 rj rq H.size tg hSH hG.1 this x_9073 hL_this hK_this) (cwV 1 hts (tw_V tw_1181 tw_1182 tw_1183 tw_45 tw_1184) rfl rfl rfl cv_yX0_takeLot_1 ⟨Nat.le_of_ble_eq_true rfl, Nat.le_of_ble_eq_true rfl⟩) ⟨pq_blind, pq_recv hK hP hL_this hK_this (by decide) rfl, pq_pre hK hN hP hD⟩ rfl rfl hl.1 rfl (lv_room (Nat.le_of_ble_eq_true rfl)) dX0_board_130 ⟨Nat.le_of_ble_eq_true rfl, Nat.le_of_ble_eq_true rfl⟩) hD hS hA (fun x_9113 σ1 μ1 H locs hw_9114 hP hD hS => ?_)
                          obtain ⟨ri_9115, hu_9116, hg_9117, hr_9118⟩ := hw_9114
                          obtain ⟨hu_9116a, hu_9116b⟩ := Prod.mk.inj hu_9116
                          rw [hu_9116a, hu_9116b] at hP hD
                          have hG := GX.tr hG hg_9117 (by decide)
                          refine lv_goto (tgt := 137) hx hb dX0_board_133 (by decide) ?_
                          exact K_9094 x_9113 ri_9115 _ _ _ (rg_w hr_9118 (by decide)) hG hP hD hS (lv_sub hl [2, 3, 4, 5, 6, 7, 8, 1, 0] rfl)
                    · have f_9119 := (hr_9010.resolve_left (fun q => absurd (q.1.symm.trans c_9012) (by decide))).2
                      have h_9120 : rg x_9006 0 0 := rg_and h_9011 (rg_of_eq c_9012 (rg_k (0 : Int32) 0 rfl)) (by decide)
                      refine lv_goto (tgt := 202) hx hb dX0_board_81 (by decide) ?_
                      exact K_8999 x_8835 ri_8837 _ _ _ hG hP hD hS (lv_sub hl [1, 2, 3, 4, 5, 6, 7] rfl)
          exact L_8918 _ a3 (0 : Int32) ri_6755 _ _ _ (rg_w (rg_k (0 : Int32) 0 rfl) (by decide)) (Nat.lt_succ_self _) hG hP hD hS (lv_sub hl [2, 3, 4, 5, 7, 1, 0] rfl)
        · have h_9121 : rg x_6754 0 4 := rg_lt1 (nle c_7886) h_7884 h_7885 (by decide)
          have h_9122 : rg (I 10 this) 1 5 := rg_lt2 (nle c_7886) h_7884 h_7885 (by decide)
          refine lv_aload_n hx hb dX0_board_17 rfl (lv_at hl 0 rfl) ?_
          obtain ⟨w_9123, hR_w_9123, hL_w_9123, hK_w_9123, hN_w_9123, hT_w_9123⟩ := sh_a hSH 13 (ci := 0) (kd := 13) (len := 5) rfl (by decide) hL_this hK_this
          refine pg_f (v := .ref w_9123) (C := RX0) (T := TX0) (N := 16) hx hb hts (tw_i inlX0) hown hK hP hL_this hK_this (by decide) rfl 13 (by decide) (hts _ (tw_c tw_121)) (pq_hv rfl hR_w_9123) dX0_board_18 ?_
          refine lv_iload hx hb dX0_board_21 (lv_at hl 6 rfl) ?_
          refine lv_aload_n hx hb dX0_board_23 rfl (lv_at hl 0 rfl) ?_
          refine lv_iload hx hb dX0_board_24 (lv_at hl 6 rfl) ?_
          refine pk_i (va_runV (As := [.int x_6754]) (rest := [.int x_6754, .ref w_9123]) ⟨hx, hb, hml, hown, hts⟩ (s_X0_freeBeds l D t σ I J ri_6755 rj rq H.size tg hSH hG.1 this x_6754 hL_this hK_this (rg_w h_9121 (by decide))) (cwV 1 hts (tw_V tw_1180 tw_414 tw_415 tw_45 tw_416) rfl rfl rfl cv_yX0_freeBeds_1 ⟨Nat.le_of_ble_eq_true rfl, Nat.le_of_ble_eq_true rfl⟩) ⟨pq_blind, pq_recv hK hP hL_this hK_this (by decide) rfl, pq_pre hK hN hP hD⟩ rfl rfl hl.1 rfl (lv_room (Nat.le_of_ble_eq_true rfl)) dX0_board_26 ⟨Nat.le_of_ble_eq_true rfl, Nat.le_of_ble_eq_true rfl⟩) hD hS hA (fun x_9124 σ1 μ1 H locs hw_9125 hP hD hS => ?_)
          have hu_9126 := hw_9125
          obtain ⟨hu_9126a, hu_9126b⟩ := Prod.mk.inj hu_9126
          rw [hu_9126a, hu_9126b] at hP hD
          refine pt_i hx hb hK hP hD hS hL_w_9123 hK_w_9123 hN_w_9123 (rg_in h_9121 (by decide)) dX0_board_29 (fun r_9129 H locs er_9129 hP hD hS => ?_)
          have hG := GX.wR hG hSH hT_w_9123 rfl er_9129 (rg_w (rg_full _) (by decide)) (by decide)
          obtain ⟨x_9130, ex_9130⟩ : ∃ y : Int32, y = x_6754 + Int32.ofInt 1 := ⟨_, rfl⟩
          have h_9131 : rg x_9130 1 5 := rg_of_eq ex_9130 (rg_add h_9121 (rg_k (Int32.ofInt 1) 1 rfl) (by decide))
          refine lv_iinc (v := x_9130) (lv' := [(7, .int x_9130), (0, .ref this), (1, .long a0), (3, .ref a1), (4, .int a2), (5, .int a3), (6, .int a4)]) hx hb dX0_board_30 hl (k := 6) rfl ex_9130.symm (by decide) rfl (fun ls hl => ?_)
          refine lv_goto (tgt := 8) hx hb dX0_board_33 (by decide) ?_
          exact ih_7882 x_9130 r_9129 _ _ _ (rg_w h_9131 (by decide)) (ms_up 1 hm_7879 ex_9130 rfl (by decide) h_9121 (by decide) (by decide)) hG hP hD hS (lv_sub hl [1, 2, 3, 4, 5, 6, 0] rfl)
    exact L_7881 _ (0 : Int32) ri_3 _ _ _ (rg_w (rg_k (0 : Int32) 0 rfl) (by decide)) (Nat.lt_succ_self _) hG hP hD hS (lv_sub hl [1, 2, 3, 4, 5, 6, 0] rfl)
  exact go _ _ _ hP hD hS hl

set_option maxHeartbeats 4000000 in
set_option maxRecDepth 100000 in
theorem s_X11_copy_162_161 (l : Launch) (D : va_G) (t : pq_T) (σ : pq_S) (I : Nat → Nat → Int32) (J : Nat → Nat → Int64) (ri : Nat → Nat → Int32) (rj : Nat → Nat → Int64) (rq : Nat → Nat → Option Nat) (sz : Nat) (tg : Nat → Nat) (hSH : SH σ tg) (hG0 : GS tg σ I ri rq) (a0 : Nat) (a1 : Nat) (hL_a0 : a0 ∈ σ.1) (hK_a0 : σ.2.1 a0 = 13) (hN_a0 : σ.2.2.2 a0 = 5) (hT_a0 : tg a0 = 162) (hL_a1 : a1 ∈ σ.1) (hK_a1 : σ.2.1 a1 = 13) (hN_a1 : σ.2.2.2 a1 = 5) (hT_a1 : tg a1 = 161) : MetV l yX11_copy (wa yX11_copy cX11_copy 2 none) ({ frames := 1, cells := 0, slots := 0, locals := 60 }) [.ref a0, .ref a1] D t σ (I, J, ri, rj, rq) sz 0 0 (fun (u : pq_S × pq_M) => ∃ ri' : Nat → Nat → Int32, u = (σ, I, J, ri', rj, rq) ∧ GX [] tg σ I ri rj I ri' rj rq ∧ (∀ j, j < 5 → ri' a1 j = ri a0 j) ∧ (∀ q, q ≠ a1 → ri' q = ri q)) := by
  refine Met.ofW (cc := cX11_copy) (maxL := 2) (ret := none) (by decide) rfl ?_
  intro p e s m args below meth c s₁ B hml hv
  obtain ⟨rfl, hsz, hP, hK, hD0, hN⟩ := hv
  have hx := B.exec
  have hb := B.bytes
  have hr := B.returns
  have hts := atoms_spec (ws := (wa yX11_copy cX11_copy 2 none)) B.pre
  have hown : s.vm.findClass RX11 = some m.cls := findClass_of_methodNamed B.named
  have hlocks := B.notSynchronized
  subst hsz
  have hD : va_D (pq_B t σ (I, J, ri, rj, rq) s.heap.size) (pq_P t σ (I, J, ri, rj, rq)) := hD0.self
  generalize hAe : pq_B t σ (I, J, ri, rj, rq) s.heap.size = A at hD ⊢
  have hA : ∀ q : Nat, s.heap.size ≤ q → A q := fun q h => by rw [← hAe]; exact Or.inr h
  have hS : va_S A s.heap s.heap [] := va_S.rf
  have hG : GX [] tg σ I ri rj I ri rj rq := ⟨hG0, fun _ _ _ => rfl, fun _ _ _ _ _ => rfl, fun _ _ _ _ _ => rfl⟩
  have hl := lv_entry ([.ref a0, .ref a1]) (n := 2) (Nat.le_of_ble_eq_true rfl)
  rw [lg_entry_eq]
  generalize (lg_sl ([.ref a0, .ref a1]) ++ List.replicate (2 - (lg_sl ([.ref a0, .ref a1])).length) Slot.unset).toArray = ls at hl ⊢
  have hl : lv_has ls 2 [(0, .ref a0), (1, .ref a1)] := hl
  refine q_gen (fun Q hQ => ?_)
  have go : ∀ (H : Heap) (locs : List Loc) (ls : Array Slot), va_P D vwCl (pq_P t σ (I, J, ri, rj, rq)) H → va_D A (pq_P t σ (I, J, ri, rj, rq)) → va_S A s.heap H locs → lv_has ls 2 [(0, .ref a0), (1, .ref a1)] → W p l e ({ frames := 1, cells := 0, slots := 0, locals := 60 } : Room) s m (List.toArray ([.ref a0, .ref a1] : List Value)) below meth c H locs 0 0 Q (F0 m 0 ls []) := by
    intro H locs ls hP hD hS hl
    refine lv_aload_n hx hb dX11_copy_0 rfl (lv_at hl 0 rfl) ?_
    refine lv_iconst (v := 0) hx hb dX11_copy_1 (by decide) ?_
    refine lv_aload_n hx hb dX11_copy_2 rfl (lv_at hl 1 rfl) ?_
    refine lv_iconst (v := 0) hx hb dX11_copy_3 (by decide) ?_
    refine lv_aload_n hx hb dX11_copy_4 rfl (lv_at hl 0 rfl) ?_
    refine pn_i (v := 5) hx hb hK hP hL_a0 hK_a0 hN_a0 (by decide) dX11_copy_5 ?_
    refine lv_aload_n hx hb dX11_copy_6 rfl (lv_at hl 1 rfl) ?_
    refine pn_i (v := 5) hx hb hK hP hL_a1 hK_a1 hN_a1 (by decide) dX11_copy_7 ?_
    refine va_mmin hx hb (hml.trans hl.1.symm) hown (hts _ (tw_c tw_1103)) (hts _ (tw_c tw_467)) (hts _ (tw_c tw_276)) (hts _ (tw_c tw_468)) (Nat.le_of_ble_eq_true rfl) (Nat.le_of_ble_eq_true rfl) (Nat.zero_le _) (Nat.zero_le _) dX11_copy_8 ?_
    refine lv_topi (fun x_1 ex_1 => ?_)
    have h_2 : rg x_1 5 5 := rg_of_eq ex_1 (rg_min2 (rg_k (5 : Int32) 5 rfl) (rg_k (5 : Int32) 5 rfl) (by decide))
    refine pc_i hx hb (hml.trans hl.1.symm) hown (hts _ (tw_c tw_1104)) (hts _ (tw_c tw_1105)) (hts _ (tw_c tw_1106)) (hts _ (tw_c tw_1107)) hK hP hD hS hL_a0 hK_a0 hN_a0 hL_a1 hK_a1 hN_a1 (rg_pos (rg_k (0 : Int32) 0 rfl) (by decide)) (rg_pos h_2 (by decide)) (rg_cp (rg_k (0 : Int32) 0 rfl) h_2 (by decide)) (rg_cl h_2 (by decide)) (Nat.le_of_ble_eq_true rfl) (Nat.le_of_ble_eq_true rfl) dX11_copy_11 (fun r_3 H locs er_3 hP hD hS => ?_)
    have hG := GX.cR hG hSH hT_a0 rfl hT_a1 rfl er_3 (by decide)
    subst hQ
    exact W.vret hx hb hr (fun t1 ht hW => ⟨⟨(σ, I, J, r_3, rj, rq), rfl, ⟨r_3, rfl, hG, (cpy_eq er_3 h_2 rfl), (fun q hq => by rw [er_3, va_up_ne _ _ hq])⟩, by rw [ht]; exact hP, va_K.moved hW.alike hK, hD⟩, hS.F ht⟩) hS.2.2 dX11_copy_14
  exact go _ _ _ hP hD hS hl

set_option maxHeartbeats 4000000 in
set_option maxRecDepth 100000 in
theorem s_X5_swap (l : Launch) (D : va_G) (t : pq_T) (σ : pq_S) (I : Nat → Nat → Int32) (J : Nat → Nat → Int64) (ri : Nat → Nat → Int32) (rj : Nat → Nat → Int64) (rq : Nat → Nat → Option Nat) (sz : Nat) (tg : Nat → Nat) (hSH : SH σ tg) (hG0 : GS tg σ I ri rq) (this : Nat) (a0 : Int32) (a1 : Int32) (hL_this : this ∈ σ.1) (hK_this : σ.2.1 this = 5) (h_a0 : rg a0 0 4) (h_a1 : rg a1 0 4) : MetV l yX5_swap (wa yX5_swap cX5_swap 4 none) ({ frames := 0, cells := 0, slots := 0, locals := 0 }) [.ref this, .int a0, .int a1] D t σ (I, J, ri, rj, rq) sz 0 0 (fun (u : pq_S × pq_M) => ∃ ri' : Nat → Nat → Int32, u = (σ, I, J, ri', rj, rq) ∧ GX [] tg σ I ri rj I ri' rj rq) := by
  refine Met.ofW (cc := cX5_swap) (maxL := 4) (ret := none) (by decide) rfl ?_
  intro p e s m args below meth c s₁ B hml hv
  obtain ⟨rfl, hsz, hP, hK, hD0, hN⟩ := hv
  have hx := B.exec
  have hb := B.bytes
  have hr := B.returns
  have hts := atoms_spec (ws := (wa yX5_swap cX5_swap 4 none)) B.pre
  have hown : s.vm.findClass RX5 = some m.cls := findClass_of_methodNamed B.named
  have hlocks := B.notSynchronized
  subst hsz
  have hD : va_D (pq_B t σ (I, J, ri, rj, rq) s.heap.size) (pq_P t σ (I, J, ri, rj, rq)) := hD0.self
  generalize hAe : pq_B t σ (I, J, ri, rj, rq) s.heap.size = A at hD ⊢
  have hA : ∀ q : Nat, s.heap.size ≤ q → A q := fun q h => by rw [← hAe]; exact Or.inr h
  have hS : va_S A s.heap s.heap [] := va_S.rf
  have hG : GX [] tg σ I ri rj I ri rj rq := ⟨hG0, fun _ _ _ => rfl, fun _ _ _ _ _ => rfl, fun _ _ _ _ _ => rfl⟩
  have hl := lv_entry ([.ref this, .int a0, .int a1]) (n := 4) (Nat.le_of_ble_eq_true rfl)
  rw [lg_entry_eq]
  generalize (lg_sl ([.ref this, .int a0, .int a1]) ++ List.replicate (4 - (lg_sl ([.ref this, .int a0, .int a1])).length) Slot.unset).toArray = ls at hl ⊢
  have hl : lv_has ls 4 [(0, .ref this), (1, .int a0), (2, .int a1)] := hl
  refine q_gen (fun Q hQ => ?_)
  have go : ∀ (H : Heap) (locs : List Loc) (ls : Array Slot), va_P D vwCl (pq_P t σ (I, J, ri, rj, rq)) H → va_D A (pq_P t σ (I, J, ri, rj, rq)) → va_S A s.heap H locs → lv_has ls 4 [(0, .ref this), (1, .int a0), (2, .int a1)] → W p l e ({ frames := 0, cells := 0, slots := 0, locals := 0 } : Room) s m (List.toArray ([.ref this, .int a0, .int a1] : List Value)) below meth c H locs 0 0 Q (F0 m 0 ls []) := by
    intro H locs ls hP hD hS hl
    refine lv_aload_n hx hb dX5_swap_0 rfl (lv_at hl 0 rfl) ?_
    obtain ⟨w_1, hR_w_1, hL_w_1, hK_w_1, hN_w_1, hT_w_1⟩ := sh_a hSH 162 (ci := 5) (kd := 13) (len := 5) rfl (by decide) hL_this hK_this
    refine pg_f (v := .ref w_1) (C := RX5) (T := TX5) (N := 8) hx hb hts (tw_i inlX5) hown hK hP hL_this hK_this (by decide) rfl 2 (by decide) (hts _ (tw_c tw_143)) (pq_hv rfl hR_w_1) dX5_swap_1 ?_
    refine lv_iload_n hx hb dX5_swap_4 rfl (lv_at hl 1 rfl) ?_
    refine pl_i hx hb hK hP hL_w_1 hK_w_1 hN_w_1 (rg_in h_a0 (by decide)) dX5_swap_5 ?_
    refine lv_topi (fun x_2 ex_2 => ?_)
    have h_3 : rg x_2 0 4 := rg_of_eq ex_2 (GX.rR hG hT_w_1 rfl)
    refine lv_istore_n (lv' := [(3, .int x_2), (0, .ref this), (1, .int a0), (2, .int a1)]) hx hb dX5_swap_6 rfl hl (by decide) rfl (fun ls hl => ?_)
    refine lv_aload_n hx hb dX5_swap_7 rfl (lv_at hl 1 rfl) ?_
    refine pg_f (v := .ref w_1) (C := RX5) (T := TX5) (N := 8) hx hb hts (tw_i inlX5) hown hK hP hL_this hK_this (by decide) rfl 2 (by decide) (hts _ (tw_c tw_143)) (pq_hv rfl hR_w_1) dX5_swap_8 ?_
    refine lv_iload_n hx hb dX5_swap_11 rfl (lv_at hl 2 rfl) ?_
    refine lv_aload_n hx hb dX5_swap_12 rfl (lv_at hl 1 rfl) ?_
    refine pg_f (v := .ref w_1) (C := RX5) (T := TX5) (N := 8) hx hb hts (tw_i inlX5) hown hK hP hL_this hK_this (by decide) rfl 2 (by decide) (hts _ (tw_c tw_143)) (pq_hv rfl hR_w_1) dX5_swap_13 ?_
    refine lv_iload_n hx hb dX5_swap_16 rfl (lv_at hl 3 rfl) ?_
    refine pl_i hx hb hK hP hL_w_1 hK_w_1 hN_w_1 (rg_in h_a1 (by decide)) dX5_swap_17 ?_
    refine lv_topi (fun x_4 ex_4 => ?_)
    have h_5 : rg x_4 0 4 := rg_of_eq ex_4 (GX.rR hG hT_w_1 rfl)
    refine pt_i hx hb hK hP hD hS hL_w_1 hK_w_1 hN_w_1 (rg_in h_a0 (by decide)) dX5_swap_18 (fun r_6 H locs er_6 hP hD hS => ?_)
    have hG := GX.wR hG hSH hT_w_1 rfl er_6 (rg_w h_5 (by decide)) (by decide)
    refine lv_aload_n hx hb dX5_swap_19 rfl (lv_at hl 1 rfl) ?_
    refine pg_f (v := .ref w_1) (C := RX5) (T := TX5) (N := 8) hx hb hts (tw_i inlX5) hown hK hP hL_this hK_this (by decide) rfl 2 (by decide) (hts _ (tw_c tw_143)) (pq_hv rfl hR_w_1) dX5_swap_20 ?_
    refine lv_iload_n hx hb dX5_swap_23 rfl (lv_at hl 3 rfl) ?_
    refine lv_iload_n hx hb dX5_swap_24 rfl (lv_at hl 0 rfl) ?_
    refine pt_i hx hb hK hP hD hS hL_w_1 hK_w_1 hN_w_1 (rg_in h_a1 (by decide)) dX5_swap_25 (fun r_7 H locs er_7 hP hD hS => ?_)
    have hG := GX.wR hG hSH hT_w_1 rfl er_7 (rg_w h_3 (by decide)) (by decide)
    subst hQ
    exact W.vret hx hb hr (fun t1 ht hW => ⟨⟨(σ, I, J, r_7, rj, rq), rfl, ⟨r_7, rfl, hG⟩, by rw [ht]; exact hP, va_K.moved hW.alike hK, hD⟩, hS.F ht⟩) hS.2.2 dX5_swap_26
  exact go _ _ _ hP hD hS hl

set_option maxHeartbeats 4000000 in
set_option maxRecDepth 100000 in
theorem s_X5_toNextOrder (l : Launch) (D : va_G) (t : pq_T) (σ : pq_S) (I : Nat → Nat → Int32) (J : Nat → Nat → Int64) (ri : Nat → Nat → Int32) (rj : Nat → Nat → Int64) (rq : Nat → Nat → Option Nat) (sz : Nat) (tg : Nat → Nat) (hSH : SH σ tg) (hG0 : GS tg σ I ri rq) (this : Nat) (a0 : Int32) (hL_this : this ∈ σ.1) (hK_this : σ.2.1 this = 5) (h_a0 : rg a0 0 5) : MetI l yX5_toNextOrder (wa yX5_toNextOrder cX5_toNextOrder 6 (some .boolean)) ({ frames := 1, cells := 0, slots := 0, locals := 23 }) [.ref this, .int a0] D t σ (I, J, ri, rj, rq) sz 0 0 (fun (r : Int32) (u : pq_S × pq_M) => ∃ ri' : Nat → Nat → Int32, u = (σ, I, J, ri', rj, rq) ∧ GX [] tg σ I ri rj I ri' rj rq ∧ ((r = 1 ∧ True) ∨ (r = 0 ∧ True))) := by
  refine Met.ofW (cc := cX5_toNextOrder) (maxL := 6) (ret := (some .boolean)) (by decide) rfl ?_
  intro p e s m args below meth c s₁ B hml hv
  obtain ⟨rfl, hsz, hP, hK, hD0, hN⟩ := hv
  have hx := B.exec
  have hb := B.bytes
  have hr := B.returns
  have hts := atoms_spec (ws := (wa yX5_toNextOrder cX5_toNextOrder 6 (some .boolean))) B.pre
  have hown : s.vm.findClass RX5 = some m.cls := findClass_of_methodNamed B.named
  have hlocks := B.notSynchronized
  subst hsz
  have hD : va_D (pq_B t σ (I, J, ri, rj, rq) s.heap.size) (pq_P t σ (I, J, ri, rj, rq)) := hD0.self
  generalize hAe : pq_B t σ (I, J, ri, rj, rq) s.heap.size = A at hD ⊢
  have hA : ∀ q : Nat, s.heap.size ≤ q → A q := fun q h => by rw [← hAe]; exact Or.inr h
  have hS : va_S A s.heap s.heap [] := va_S.rf
  have hG : GX [] tg σ I ri rj I ri rj rq := ⟨hG0, fun _ _ _ => rfl, fun _ _ _ _ _ => rfl, fun _ _ _ _ _ => rfl⟩
  have hl := lv_entry ([.ref this, .int a0]) (n := 6) (Nat.le_of_ble_eq_true rfl)
  rw [lg_entry_eq]
  generalize (lg_sl ([.ref this, .int a0]) ++ List.replicate (6 - (lg_sl ([.ref this, .int a0])).length) Slot.unset).toArray = ls at hl ⊢
  have hl : lv_has ls 6 [(0, .ref this), (1, .int a0)] := hl
  refine q_gen (fun Q hQ => ?_)
  have go : ∀ (H : Heap) (locs : List Loc) (ls : Array Slot), va_P D vwCl (pq_P t σ (I, J, ri, rj, rq)) H → va_D A (pq_P t σ (I, J, ri, rj, rq)) → va_S A s.heap H locs → lv_has ls 6 [(0, .ref this), (1, .int a0)] → W p l e ({ frames := 1, cells := 0, slots := 0, locals := 23 } : Room) s m (List.toArray ([.ref this, .int a0] : List Value)) below meth c H locs 0 0 Q (F0 m 0 ls []) := by
    intro H locs ls hP hD hS hl
    refine lv_iload_n hx hb dX5_toNextOrder_0 rfl (lv_at hl 1 rfl) ?_
    refine lv_iconst (v := 2) hx hb dX5_toNextOrder_1 (by decide) ?_
    refine lv_isub hx hb dX5_toNextOrder_2 ?_
    refine lv_topi (fun x_1 ex_1 => ?_)
    have h_2 : rg x_1 (-2) 3 := rg_of_eq ex_1 (rg_sub h_a0 (rg_k (2 : Int32) 2 rfl) (by decide))
    have uh_2 := h_2.1
    have vh_2 := h_2.2
    have tx_1 : (x_1).toInt = (a0).toInt - 2 := by rw [ex_1]; exact i_sub_rg (a2 := (a0).toInt) (b2 := 2) rfl rfl h_a0 (rg_k (2 : Int32) 2 rfl) (by decide)
    refine lv_istore_n (lv' := [(2, .int x_1), (0, .ref this), (1, .int a0)]) hx hb dX5_toNextOrder_3 rfl hl (by decide) rfl (fun ls hl => ?_)
    have L_2615 : ∀ (n_2614 : Nat) (x_1960 : Int32) (H : Heap) (locs : List Loc) (ls : Array Slot), rg x_1960 (-2) 3 → ((x_1960).toInt + 2 ≤ (a0).toInt) → ((x_1960).toInt - (-2)).toNat < n_2614 → GX [] tg σ I ri rj I ri rj rq → va_P D vwCl (pq_P t σ (I, J, ri, rj, rq)) H → va_D A (pq_P t σ (I, J, ri, rj, rq)) → va_S A s.heap H locs → lv_has ls 6 [(0, .ref this), (1, .int a0), (2, .int x_1960)] → W p l e ({ frames := 1, cells := 0, slots := 0, locals := 23 } : Room) s m (List.toArray ([.ref this, .int a0] : List Value)) below meth c H locs 0 0 Q (F0 m 4 ls []) := by
      intro n_2614
      induction n_2614 with
      | zero => intro x_1960 H locs ls h_2619 hrel_2620 hm_2613 hG hP hD hS hl; exact absurd hm_2613 (Nat.not_lt_zero _)
      | succ n_2614 ih_2616 =>
        intro x_1960 H locs ls h_2619 hrel_2620 hm_2613 hG hP hD hS hl
        have uh_2619 := h_2619.1
        have vh_2619 := h_2619.2
        refine lv_iload_n hx hb dX5_toNextOrder_4 rfl (lv_at hl 2 rfl) ?_
        have K_3271 : ∀  (H : Heap) (locs : List Loc) (ls : Array Slot), GX [] tg σ I ri rj I ri rj rq → va_P D vwCl (pq_P t σ (I, J, ri, rj, rq)) H → va_D A (pq_P t σ (I, J, ri, rj, rq)) → va_S A s.heap H locs → lv_has ls 6 [(0, .ref this), (1, .int a0), (2, .int x_1960)] → W p l e ({ frames := 1, cells := 0, slots := 0, locals := 23 } : Room) s m (List.toArray ([.ref this, .int a0] : List Value)) below meth c H locs 0 0 Q (F0 m 31 ls []) := by
          intro H locs ls hG hP hD hS hl
          refine lv_iload_n hx hb dX5_toNextOrder_31 rfl (lv_at hl 2 rfl) ?_
          refine lv_if_ge (tgt := 37) hx hb dX5_toNextOrder_32 (by decide) (fun c_3272 => ?_) (fun c_3272 => ?_)
          · have tc_3273 : 0 ≤ (x_1960).toInt := Int32.le_iff_toInt_le.mp c_3272
            have h_3274 : rg x_1960 0 3 := rg_le2 c_3272 (rg_k (0 : Int32) 0 rfl) h_2619 (by decide)
            have uh_3274 := h_3274.1
            have vh_3274 := h_3274.2
            refine lv_iload_n hx hb dX5_toNextOrder_37 rfl (lv_at hl 1 rfl) ?_
            refine lv_iconst (v := 1) hx hb dX5_toNextOrder_38 (by decide) ?_
            refine lv_isub hx hb dX5_toNextOrder_39 ?_
            refine lv_topi (fun x_3275 ex_3275 => ?_)
            have h_3276 : rg x_3275 (-1) 4 := rg_of_eq ex_3275 (rg_sub h_a0 (rg_k (1 : Int32) 1 rfl) (by decide))
            have uh_3276 := h_3276.1
            have vh_3276 := h_3276.2
            have tx_3275 : (x_3275).toInt = (a0).toInt - 1 := by rw [ex_3275]; exact i_sub_rg (a2 := (a0).toInt) (b2 := 1) rfl rfl h_a0 (rg_k (1 : Int32) 1 rfl) (by decide)
            refine lv_istore_n (lv' := [(3, .int x_3275), (0, .ref this), (1, .int a0), (2, .int x_1960)]) hx hb dX5_toNextOrder_40 rfl hl (by decide) rfl (fun ls hl => ?_)
            have L_3777 : ∀ (n_3776 : Nat) (x_3650 : Int32) (H : Heap) (locs : List Loc) (ls : Array Slot), rg x_3650 (-1) 4 → ((x_1960).toInt ≤ (x_3650).toInt) → ((x_3650).toInt - (-1)).toNat < n_3776 → GX [] tg σ I ri rj I ri rj rq → va_P D vwCl (pq_P t σ (I, J, ri, rj, rq)) H → va_D A (pq_P t σ (I, J, ri, rj, rq)) → va_S A s.heap H locs → lv_has ls 6 [(0, .ref this), (1, .int a0), (2, .int x_1960), (3, .int x_3650)] → W p l e ({ frames := 1, cells := 0, slots := 0, locals := 23 } : Room) s m (List.toArray ([.ref this, .int a0] : List Value)) below meth c H locs 0 0 Q (F0 m 41 ls []) := by
              intro n_3776
              induction n_3776 with
              | zero => intro x_3650 H locs ls h_3781 hrel_3782 hm_3775 hG hP hD hS hl; exact absurd hm_3775 (Nat.not_lt_zero _)
              | succ n_3776 ih_3778 =>
                intro x_3650 H locs ls h_3781 hrel_3782 hm_3775 hG hP hD hS hl
                have uh_3781 := h_3781.1
                have vh_3781 := h_3781.2
                refine lv_iload_n hx hb dX5_toNextOrder_41 rfl (lv_at hl 3 rfl) ?_
                refine lv_iload_n hx hb dX5_toNextOrder_42 rfl (lv_at hl 2 rfl) ?_
                have K_3905 : ∀  (H : Heap) (locs : List Loc) (ls : Array Slot), GX [] tg σ I ri rj I ri rj rq → va_P D vwCl (pq_P t σ (I, J, ri, rj, rq)) H → va_D A (pq_P t σ (I, J, ri, rj, rq)) → va_S A s.heap H locs → lv_has ls 6 [(0, .ref this), (1, .int a0), (2, .int x_1960), (3, .int x_3650)] → W p l e ({ frames := 1, cells := 0, slots := 0, locals := 23 } : Room) s m (List.toArray ([.ref this, .int a0] : List Value)) below meth c H locs 0 0 Q (F0 m 67 ls []) := by
                  intro H locs ls hG hP hD hS hl
                  refine lv_aload_n hx hb dX5_toNextOrder_67 rfl (lv_at hl 0 rfl) ?_
                  refine lv_iload_n hx hb dX5_toNextOrder_68 rfl (lv_at hl 2 rfl) ?_
                  refine lv_iload_n hx hb dX5_toNextOrder_69 rfl (lv_at hl 3 rfl) ?_
                  have h_3906 : rg x_3650 0 4 := ⟨by omega, by omega⟩
                  have uh_3906 := h_3906.1
                  have vh_3906 := h_3906.2
                  refine pk_v (va_runV (As := [.int x_1960, .int x_3650]) (rest := []) ⟨hx, hb, hml, hown, hts⟩ (s_X5_swap l D t σ I J ri rj rq H.size tg hSH hG.1 this x_1960 x_3650 hL_this hK_this (rg_w h_3274 (by decide)) (rg_w h_3906 (by decide))) (cwV 2 hts (tw_V tw_1479 tw_1480 tw_1481 tw_21 tw_1482) rfl rfl rfl cv_yX5_swap_2 ⟨Nat.le_of_ble_eq_true rfl, Nat.le_of_ble_eq_true rfl⟩) ⟨pq_blind, pq_recv hK hP hL_this hK_this (by decide) rfl, pq_pre hK hN hP hD⟩ rfl rfl hl.1 rfl (lv_room (Nat.le_of_ble_eq_true rfl)) dX5_toNextOrder_70 ⟨Nat.le_of_ble_eq_true rfl, Nat.le_of_ble_eq_true rfl⟩) hD hS hA (fun σ1 μ1 H locs hw_3908 hP hD hS => ?_)
                  obtain ⟨ri_3909, hu_3910, hg_3911⟩ := hw_3908
                  obtain ⟨hu_3910a, hu_3910b⟩ := Prod.mk.inj hu_3910
                  rw [hu_3910a, hu_3910b] at hP hD
                  have hG := GX.tr hG hg_3911 (by decide)
                  refine lv_iload_n hx hb dX5_toNextOrder_73 rfl (lv_at hl 2 rfl) ?_
                  refine lv_iconst (v := 1) hx hb dX5_toNextOrder_74 (by decide) ?_
                  refine lv_iadd hx hb dX5_toNextOrder_75 ?_
                  refine lv_topi (fun x_3913 ex_3913 => ?_)
                  have h_3914 : rg x_3913 1 4 := rg_of_eq ex_3913 (rg_add h_3274 (rg_k (1 : Int32) 1 rfl) (by decide))
                  have uh_3914 := h_3914.1
                  have vh_3914 := h_3914.2
                  have tx_3913 : (x_3913).toInt = (x_1960).toInt + 1 := by rw [ex_3913]; exact i_add_rg (a2 := (x_1960).toInt) (b2 := 1) rfl rfl h_3274 (rg_k (1 : Int32) 1 rfl) (by decide)
                  refine lv_istore (lv' := [(4, .int x_3913), (0, .ref this), (1, .int a0), (2, .int x_1960), (3, .int x_3650)]) hx hb dX5_toNextOrder_76 hl (by decide) rfl (fun ls hl => ?_)
                  refine lv_iload_n hx hb dX5_toNextOrder_78 rfl (lv_at hl 2 rfl) ?_
                  refine lv_iconst (v := 1) hx hb dX5_toNextOrder_79 (by decide) ?_
                  refine lv_isub hx hb dX5_toNextOrder_80 ?_
                  refine lv_topi (fun x_3915 ex_3915 => ?_)
                  have h_3916 : rg x_3915 (-1) 4 := rg_of_eq ex_3915 (rg_sub h_a0 (rg_k (1 : Int32) 1 rfl) (by decide))
                  have uh_3916 := h_3916.1
                  have vh_3916 := h_3916.2
                  have tx_3915 : (x_3915).toInt = (a0).toInt - 1 := by rw [ex_3915]; exact i_sub_rg (a2 := (a0).toInt) (b2 := 1) rfl rfl h_a0 (rg_k (1 : Int32) 1 rfl) (by decide)
                  refine lv_istore (lv' := [(5, .int x_3915), (4, .int x_3913), (0, .ref this), (1, .int a0), (2, .int x_1960), (3, .int x_3650)]) hx hb dX5_toNextOrder_81 hl (by decide) rfl (fun ls hl => ?_)
                  have L_3994 : ∀ (n_3993 : Nat) (x_3972 : Int32) (x_3973 : Int32) (ri_3974 : Nat → Nat → Int32) (H : Heap) (locs : List Loc) (ls : Array Slot), rg x_3972 1 4 → rg x_3973 (-1) 4 → (4 - (x_3972).toInt).toNat < n_3993 → GX [] tg σ I ri rj I ri_3974 rj rq → va_P D vwCl (pq_P t σ (I, J, ri_3974, rj, rq)) H → va_D A (pq_P t σ (I, J, ri_3974, rj, rq)) → va_S A s.heap H locs → lv_has ls 6 [(0, .ref this), (4, .int x_3972), (5, .int x_3973)] → W p l e ({ frames := 1, cells := 0, slots := 0, locals := 23 } : Room) s m (List.toArray ([.ref this, .int a0] : List Value)) below meth c H locs 0 0 Q (F0 m 83 ls []) := by
                    intro n_3993
                    induction n_3993 with
                    | zero => intro x_3972 x_3973 ri_3974 H locs ls h_3998 h_3999 hm_3992 hG hP hD hS hl; exact absurd hm_3992 (Nat.not_lt_zero _)
                    | succ n_3993 ih_3995 =>
                      intro x_3972 x_3973 ri_3974 H locs ls h_3998 h_3999 hm_3992 hG hP hD hS hl
                      have uh_3998 := h_3998.1
                      have vh_3998 := h_3998.2
                      have uh_3999 := h_3999.1
                      have vh_3999 := h_3999.2
                      refine lv_iload hx hb dX5_toNextOrder_83 (lv_at hl 1 rfl) ?_
                      refine lv_iload hx hb dX5_toNextOrder_85 (lv_at hl 2 rfl) ?_
                      refine lv_icmp_ge (tgt := 107) hx hb dX5_toNextOrder_87 (by decide) (fun c_4000 => ?_) (fun c_4000 => ?_)
                      · have tc_4001 : (x_3973).toInt ≤ (x_3972).toInt := Int32.le_iff_toInt_le.mp c_4000
                        refine lv_iconst (v := 1) hx hb dX5_toNextOrder_107 (by decide) ?_
                        subst hQ
                        exact W.zret (v := 1) hx hb hr (by decide) (fun t1 ht hW => ⟨⟨1, (σ, I, J, ri_3974, rj, rq), rfl, ⟨ri_3974, rfl, hG, (Or.inl ⟨rfl, trivial⟩)⟩, by rw [ht]; exact hP, va_K.moved hW.alike hK, hD⟩, hS.F ht⟩) hS.2.2 dX5_toNextOrder_108
                      · have tc_4002 : (x_3972).toInt < (x_3973).toInt := Int32.lt_iff_toInt_lt.mp (nle c_4000)
                        have h_4003 : rg x_3972 1 3 := rg_lt1 (nle c_4000) h_3998 h_3999 (by decide)
                        have uh_4003 := h_4003.1
                        have vh_4003 := h_4003.2
                        have h_4004 : rg x_3973 2 4 := rg_lt2 (nle c_4000) h_3998 h_3999 (by decide)
                        have uh_4004 := h_4004.1
                        have vh_4004 := h_4004.2
                        refine lv_aload_n hx hb dX5_toNextOrder_90 rfl (lv_at hl 0 rfl) ?_
                        refine lv_iload hx hb dX5_toNextOrder_91 (lv_at hl 1 rfl) ?_
                        refine lv_iload hx hb dX5_toNextOrder_93 (lv_at hl 2 rfl) ?_
                        refine pk_v (va_runV (As := [.int x_3972, .int x_3973]) (rest := []) ⟨hx, hb, hml, hown, hts⟩ (s_X5_swap l D t σ I J ri_3974 rj rq H.size tg hSH hG.1 this x_3972 x_3973 hL_this hK_this (rg_w h_4003 (by decide)) (rg_w h_4004 (by decide))) (cwV 2 hts (tw_V tw_1479 tw_1480 tw_1481 tw_21 tw_1482) rfl rfl rfl cv_yX5_swap_2 ⟨Nat.le_of_ble_eq_true rfl, Nat.le_of_ble_eq_true rfl⟩) ⟨pq_blind, pq_recv hK hP hL_this hK_this (by decide) rfl, pq_pre hK hN hP hD⟩ rfl rfl hl.1 rfl (lv_room (Nat.le_of_ble_eq_true rfl)) dX5_toNextOrder_95 ⟨Nat.le_of_ble_eq_true rfl, Nat.le_of_ble_eq_true rfl⟩) hD hS hA (fun σ1 μ1 H locs hw_4006 hP hD hS => ?_)
                        obtain ⟨ri_4007, hu_4008, hg_4009⟩ := hw_4006
                        obtain ⟨hu_4008a, hu_4008b⟩ := Prod.mk.inj hu_4008
                        rw [hu_4008a, hu_4008b] at hP hD
                        have hG := GX.tr hG hg_4009 (by decide)
                        obtain ⟨x_4011, ex_4011⟩ : ∃ y : Int32, y = x_3972 + Int32.ofInt 1 := ⟨_, rfl⟩
                        have h_4012 : rg x_4011 2 4 := rg_of_eq ex_4011 (rg_add h_4003 (rg_k (Int32.ofInt 1) 1 rfl) (by decide))
                        have uh_4012 := h_4012.1
                        have vh_4012 := h_4012.2
                        have tx_4011 : (x_4011).toInt = (x_3972).toInt + 1 := by rw [ex_4011]; exact i_add_rg (a2 := (x_3972).toInt) (b2 := 1) rfl rfl h_4003 (rg_k (Int32.ofInt 1) 1 rfl) (by decide)
                        refine lv_iinc (v := x_4011) (lv' := [(4, .int x_4011), (0, .ref this), (5, .int x_3973)]) hx hb dX5_toNextOrder_98 hl (k := 1) rfl ex_4011.symm (by decide) rfl (fun ls hl => ?_)
                        obtain ⟨x_4013, ex_4013⟩ : ∃ y : Int32, y = x_3973 + Int32.ofInt (-1) := ⟨_, rfl⟩
                        have h_4014 : rg x_4013 1 3 := rg_of_eq ex_4013 (rg_add h_4004 (rg_k (Int32.ofInt (-1)) (-1) rfl) (by decide))
                        have uh_4014 := h_4014.1
                        have vh_4014 := h_4014.2
                        have tx_4013 : (x_4013).toInt = (x_3973).toInt + (-1) := by rw [ex_4013]; exact i_add_rg (a2 := (x_3973).toInt) (b2 := (-1)) rfl rfl h_4004 (rg_k (Int32.ofInt (-1)) (-1) rfl) (by decide)
                        refine lv_iinc (v := x_4013) (lv' := [(5, .int x_4013), (4, .int x_4011), (0, .ref this)]) hx hb dX5_toNextOrder_101 hl (k := 2) rfl ex_4013.symm (by decide) rfl (fun ls hl => ?_)
                        refine lv_goto (tgt := 83) hx hb dX5_toNextOrder_104 (by decide) ?_
                        exact ih_3995 x_4011 x_4013 ri_4007 _ _ _ (rg_w h_4012 (by decide)) (rg_w h_4014 (by decide)) (ms_up 1 hm_3992 ex_4011 rfl (by decide) h_4003 (by decide) (by decide)) hG hP hD hS (lv_sub hl [2, 1, 0] rfl)
                  exact L_3994 _ x_3913 x_3915 ri_3909 _ _ _ (rg_w h_3914 (by decide)) (rg_w h_3916 (by decide)) (Nat.lt_succ_self _) hG hP hD hS (lv_sub hl [2, 1, 0] rfl)
                refine lv_icmp_le (tgt := 67) hx hb dX5_toNextOrder_43 (by decide) (fun c_4015 => ?_) (fun c_4015 => ?_)
                · have tc_4016 : (x_3650).toInt ≤ (x_1960).toInt := Int32.le_iff_toInt_le.mp c_4015
                  have h_4017 : rg x_3650 (-1) 3 := rg_le1 c_4015 h_3781 h_3274 (by decide)
                  have uh_4017 := h_4017.1
                  have vh_4017 := h_4017.2
                  exact K_3905 _ _ _ hG hP hD hS (lv_sub hl [0, 1, 2, 3] rfl)
                · have tc_4018 : (x_1960).toInt < (x_3650).toInt := Int32.lt_iff_toInt_lt.mp (nle c_4015)
                  have h_4019 : rg x_3650 1 4 := rg_lt2 (nle c_4015) h_3274 h_3781 (by decide)
                  have uh_4019 := h_4019.1
                  have vh_4019 := h_4019.2
                  refine lv_aload_n hx hb dX5_toNextOrder_46 rfl (lv_at hl 0 rfl) ?_
                  obtain ⟨w_4020, hR_w_4020, hL_w_4020, hK_w_4020, hN_w_4020, hT_w_4020⟩ := sh_a hSH 162 (ci := 5) (kd := 13) (len := 5) rfl (by decide) hL_this hK_this
                  refine pg_f (v := .ref w_4020) (C := RX5) (T := TX5) (N := 8) hx hb hts (tw_i inlX5) hown hK hP hL_this hK_this (by decide) rfl 2 (by decide) (hts _ (tw_c tw_143)) (pq_hv rfl hR_w_4020) dX5_toNextOrder_47 ?_
                  refine lv_iload_n hx hb dX5_toNextOrder_50 rfl (lv_at hl 3 rfl) ?_
                  refine pl_i hx hb hK hP hL_w_4020 hK_w_4020 hN_w_4020 (rg_in h_4019 (by decide)) dX5_toNextOrder_51 ?_
                  refine lv_topi (fun x_4021 ex_4021 => ?_)
                  have h_4022 : rg x_4021 0 4 := rg_of_eq ex_4021 (GX.rR hG hT_w_4020 rfl)
                  have uh_4022 := h_4022.1
                  have vh_4022 := h_4022.2
                  refine lv_aload_n hx hb dX5_toNextOrder_52 rfl (lv_at hl 0 rfl) ?_
                  refine pg_f (v := .ref w_4020) (C := RX5) (T := TX5) (N := 8) hx hb hts (tw_i inlX5) hown hK hP hL_this hK_this (by decide) rfl 2 (by decide) (hts _ (tw_c tw_143)) (pq_hv rfl hR_w_4020) dX5_toNextOrder_53 ?_
                  refine lv_iload_n hx hb dX5_toNextOrder_56 rfl (lv_at hl 2 rfl) ?_
                  refine pl_i hx hb hK hP hL_w_4020 hK_w_4020 hN_w_4020 (rg_in h_3274 (by decide)) dX5_toNextOrder_57 ?_
                  refine lv_topi (fun x_4023 ex_4023 => ?_)
                  have h_4024 : rg x_4023 0 4 := rg_of_eq ex_4023 (GX.rR hG hT_w_4020 rfl)
                  have uh_4024 := h_4024.1
                  have vh_4024 := h_4024.2
                  refine lv_icmp_ge (tgt := 67) hx hb dX5_toNextOrder_58 (by decide) (fun c_4025 => ?_) (fun c_4025 => ?_)
                  · have tc_4026 : (x_4023).toInt ≤ (x_4021).toInt := Int32.le_iff_toInt_le.mp c_4025
                    exact K_3905 _ _ _ hG hP hD hS (lv_sub hl [0, 1, 2, 3] rfl)
                  · have tc_4027 : (x_4021).toInt < (x_4023).toInt := Int32.lt_iff_toInt_lt.mp (nle c_4025)
                    have h_4028 : rg x_4021 0 3 := rg_lt1 (nle c_4025) h_4022 h_4024 (by decide)
                    have uh_4028 := h_4028.1
                    have vh_4028 := h_4028.2
                    have h_4029 : rg x_4023 1 4 := rg_lt2 (nle c_4025) h_4022 h_4024 (by decide)
                    have uh_4029 := h_4029.1
                    have vh_4029 := h_4029.2
                    obtain ⟨x_4030, ex_4030⟩ : ∃ y : Int32, y = x_3650 + Int32.ofInt (-1) := ⟨_, rfl⟩
                    have h_4031 : rg x_4030 0 3 := rg_of_eq ex_4030 (rg_add h_4019 (rg_k (Int32.ofInt (-1)) (-1) rfl) (by decide))
                    have uh_4031 := h_4031.1
                    have vh_4031 := h_4031.2
                    have tx_4030 : (x_4030).toInt = (x_3650).toInt + (-1) := by rw [ex_4030]; exact i_add_rg (a2 := (x_3650).toInt) (b2 := (-1)) rfl rfl h_4019 (rg_k (Int32.ofInt (-1)) (-1) rfl) (by decide)
                    refine lv_iinc (v := x_4030) (lv' := [(3, .int x_4030), (0, .ref this), (1, .int a0), (2, .int x_1960)]) hx hb dX5_toNextOrder_61 hl (k := 3) rfl ex_4030.symm (by decide) rfl (fun ls hl => ?_)
                    refine lv_goto (tgt := 41) hx hb dX5_toNextOrder_64 (by decide) ?_
                    exact ih_3778 x_4030 _ _ _ (rg_w h_4031 (by decide)) (by omega) (ms_dn 1 hm_3775 ex_4030 rfl (by decide) h_4019 (by decide) (by decide)) hG hP hD hS (lv_sub hl [1, 2, 3, 0] rfl)
            exact L_3777 _ x_3275 _ _ _ (rg_w h_3276 (by decide)) (by omega) (Nat.lt_succ_self _) hG hP hD hS (lv_sub hl [1, 2, 3, 0] rfl)
          · have tc_4032 : (x_1960).toInt < 0 := Int32.lt_iff_toInt_lt.mp (nle c_3272)
            have h_4033 : rg x_1960 (-2) (-1) := rg_lt1 (nle c_3272) h_2619 (rg_k (0 : Int32) 0 rfl) (by decide)
            have uh_4033 := h_4033.1
            have vh_4033 := h_4033.2
            refine lv_iconst (v := 0) hx hb dX5_toNextOrder_35 (by decide) ?_
            subst hQ
            exact W.zret (v := 0) hx hb hr (by decide) (fun t1 ht hW => ⟨⟨0, (σ, I, J, ri, rj, rq), rfl, ⟨ri, rfl, hG, (Or.inr ⟨rfl, trivial⟩)⟩, by rw [ht]; exact hP, va_K.moved hW.alike hK, hD⟩, hS.F ht⟩) hS.2.2 dX5_toNextOrder_36
        refine lv_if_lt (tgt := 31) hx hb dX5_toNextOrder_5 (by decide) (fun c_4034 => ?_) (fun c_4034 => ?_)
        · have tc_4035 : (x_1960).toInt < 0 := Int32.lt_iff_toInt_lt.mp c_4034
          have h_4036 : rg x_1960 (-2) (-1) := rg_lt1 c_4034 h_2619 (rg_k (0 : Int32) 0 rfl) (by decide)
          have uh_4036 := h_4036.1
          have vh_4036 := h_4036.2
          exact K_3271 _ _ _ hG hP hD hS (lv_sub hl [0, 1, 2] rfl)
        · have tc_4037 : 0 ≤ (x_1960).toInt := Int32.le_iff_toInt_le.mp (nlt c_4034)
          have h_4038 : rg x_1960 0 3 := rg_le2 (nlt c_4034) (rg_k (0 : Int32) 0 rfl) h_2619 (by decide)
          have uh_4038 := h_4038.1
          have vh_4038 := h_4038.2
          refine lv_aload_n hx hb dX5_toNextOrder_8 rfl (lv_at hl 0 rfl) ?_
          obtain ⟨w_4039, hR_w_4039, hL_w_4039, hK_w_4039, hN_w_4039, hT_w_4039⟩ := sh_a hSH 162 (ci := 5) (kd := 13) (len := 5) rfl (by decide) hL_this hK_this
          refine pg_f (v := .ref w_4039) (C := RX5) (T := TX5) (N := 8) hx hb hts (tw_i inlX5) hown hK hP hL_this hK_this (by decide) rfl 2 (by decide) (hts _ (tw_c tw_143)) (pq_hv rfl hR_w_4039) dX5_toNextOrder_9 ?_
          refine lv_iload_n hx hb dX5_toNextOrder_12 rfl (lv_at hl 2 rfl) ?_
          refine pl_i hx hb hK hP hL_w_4039 hK_w_4039 hN_w_4039 (rg_in h_4038 (by decide)) dX5_toNextOrder_13 ?_
          refine lv_topi (fun x_4040 ex_4040 => ?_)
          have h_4041 : rg x_4040 0 4 := rg_of_eq ex_4040 (GX.rR hG hT_w_4039 rfl)
          have uh_4041 := h_4041.1
          have vh_4041 := h_4041.2
          refine lv_aload_n hx hb dX5_toNextOrder_14 rfl (lv_at hl 0 rfl) ?_
          refine pg_f (v := .ref w_4039) (C := RX5) (T := TX5) (N := 8) hx hb hts (tw_i inlX5) hown hK hP hL_this hK_this (by decide) rfl 2 (by decide) (hts _ (tw_c tw_143)) (pq_hv rfl hR_w_4039) dX5_toNextOrder_15 ?_
          refine lv_iload_n hx hb dX5_toNextOrder_18 rfl (lv_at hl 2 rfl) ?_
          refine lv_iconst (v := 1) hx hb dX5_toNextOrder_19 (by decide) ?_
          refine lv_iadd hx hb dX5_toNextOrder_20 ?_
          refine lv_topi (fun x_4042 ex_4042 => ?_)
          have h_4043 : rg x_4042 1 4 := rg_of_eq ex_4042 (rg_add h_4038 (rg_k (1 : Int32) 1 rfl) (by decide))
          have uh_4043 := h_4043.1
          have vh_4043 := h_4043.2
          have tx_4042 : (x_4042).toInt = (x_1960).toInt + 1 := by rw [ex_4042]; exact i_add_rg (a2 := (x_1960).toInt) (b2 := 1) rfl rfl h_4038 (rg_k (1 : Int32) 1 rfl) (by decide)
          refine pl_i hx hb hK hP hL_w_4039 hK_w_4039 hN_w_4039 (rg_in h_4043 (by decide)) dX5_toNextOrder_21 ?_
          refine lv_topi (fun x_4044 ex_4044 => ?_)
          have h_4045 : rg x_4044 0 4 := rg_of_eq ex_4044 (GX.rR hG hT_w_4039 rfl)
          have uh_4045 := h_4045.1
          have vh_4045 := h_4045.2
          refine lv_icmp_le (tgt := 31) hx hb dX5_toNextOrder_22 (by decide) (fun c_4046 => ?_) (fun c_4046 => ?_)
          · have tc_4047 : (x_4040).toInt ≤ (x_4044).toInt := Int32.le_iff_toInt_le.mp c_4046
            exact K_3271 _ _ _ hG hP hD hS (lv_sub hl [0, 1, 2] rfl)
          · have tc_4048 : (x_4044).toInt < (x_4040).toInt := Int32.lt_iff_toInt_lt.mp (nle c_4046)
            have h_4049 : rg x_4044 0 3 := rg_lt1 (nle c_4046) h_4045 h_4041 (by decide)
            have uh_4049 := h_4049.1
            have vh_4049 := h_4049.2
            have h_4050 : rg x_4040 1 4 := rg_lt2 (nle c_4046) h_4045 h_4041 (by decide)
            have uh_4050 := h_4050.1
            have vh_4050 := h_4050.2
            obtain ⟨x_4051, ex_4051⟩ : ∃ y : Int32, y = x_1960 + Int32.ofInt (-1) := ⟨_, rfl⟩
            have h_4052 : rg x_4051 (-1) 2 := rg_of_eq ex_4051 (rg_add h_4038 (rg_k (Int32.ofInt (-1)) (-1) rfl) (by decide))
            have uh_4052 := h_4052.1
            have vh_4052 := h_4052.2
            have tx_4051 : (x_4051).toInt = (x_1960).toInt + (-1) := by rw [ex_4051]; exact i_add_rg (a2 := (x_1960).toInt) (b2 := (-1)) rfl rfl h_4038 (rg_k (Int32.ofInt (-1)) (-1) rfl) (by decide)
            refine lv_iinc (v := x_4051) (lv' := [(2, .int x_4051), (0, .ref this), (1, .int a0)]) hx hb dX5_toNextOrder_25 hl (k := 2) rfl ex_4051.symm (by decide) rfl (fun ls hl => ?_)
            refine lv_goto (tgt := 4) hx hb dX5_toNextOrder_28 (by decide) ?_
            exact ih_2616 x_4051 _ _ _ (rg_w h_4052 (by decide)) (by omega) (ms_dn 1 hm_2613 ex_4051 rfl (by decide) h_4038 (by decide) (by decide)) hG hP hD hS (lv_sub hl [1, 2, 0] rfl)
    exact L_2615 _ x_1 _ _ _ (rg_w h_2 (by decide)) (by omega) (Nat.lt_succ_self _) hG hP hD hS (lv_sub hl [1, 2, 0] rfl)
  exact go _ _ _ hP hD hS hl
