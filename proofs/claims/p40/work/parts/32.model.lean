theorem dX12_levelAt_0 : decode cX12_levelAt 0 = .ok (.aload_n 0, 1) := oc_42 (by decide +kernel)
theorem dX12_levelAt_1 : decode cX12_levelAt 1 = .ok (.iload_n 1, 1) := oc_27 (by decide +kernel)
theorem dX12_levelAt_2 : decode cX12_levelAt 2 = .ok (.iload_n 2, 1) := oc_28 (by decide +kernel)
theorem dX12_levelAt_3 : decode cX12_levelAt 3 = .ok (.iload_n 3, 1) := oc_29 (by decide +kernel)
theorem tw_293 : Cond.methodLink RX12 76 yX12_latest ∈ wsL_law := sg_13 _ (List.mem_of_getElem? (i := 5) rfl)
theorem tw_294 : Cond.instanceMethod yX12_latest ∈ wsL_law := sg_13 _ (List.mem_of_getElem? (i := 6) rfl)
theorem tw_295 : Cond.selects RX12 yX12_latest yX12_latest ∈ wsL_law := sg_13 _ (List.mem_of_getElem? (i := 7) rfl)
theorem tw_296 : Cond.code yX12_latest cX12_latest 6 (some .int) ∈ wsL_law := sg_13 _ (List.mem_of_getElem? (i := 8) rfl)
theorem dX12_levelAt_4 : decode cX12_levelAt 4 = .ok (.invokevirtual 76, 3) := oc_182 (a := 0) (b := 76) (by decide +kernel)
theorem dX12_levelAt_7 : decode cX12_levelAt 7 = .ok (.istore 4, 2) := oc_54 (by decide +kernel)
theorem dX12_levelAt_9 : decode cX12_levelAt 9 = .ok (.iload 4, 2) := oc_21 (by decide +kernel)
theorem dX12_levelAt_11 : decode cX12_levelAt 11 = .ok (.ifCond .ge 10, 3) := oc_156 (a := 0) (b := 10) (by decide +kernel)
theorem dX12_levelAt_21 : decode cX12_levelAt 21 = .ok (.aload_n 0, 1) := oc_42 (by decide +kernel)
theorem dX12_levelAt_22 : decode cX12_levelAt 22 = .ok (.getfield 7, 3) := oc_180 (a := 0) (b := 7) (by decide +kernel)
theorem dX12_levelAt_25 : decode cX12_levelAt 25 = .ok (.iload 4, 2) := oc_21 (by decide +kernel)
theorem dX12_levelAt_27 : decode cX12_levelAt 27 = .ok (.iconst 2, 1) := oc_5 (by decide +kernel)
theorem dX12_levelAt_28 : decode cX12_levelAt 28 = .ok (.iadd, 1) := oc_96 (by decide +kernel)
theorem dX12_levelAt_29 : decode cX12_levelAt 29 = .ok (.iaload, 1) := oc_46 (by decide +kernel)
theorem dX12_levelAt_30 : decode cX12_levelAt 30 = .ok (.iconst 1, 1) := oc_4 (by decide +kernel)
theorem dX12_levelAt_31 : decode cX12_levelAt 31 = .ok (.if_icmp .ne 13, 3) := oc_160 (a := 0) (b := 13) (by decide +kernel)
theorem dX12_levelAt_44 : decode cX12_levelAt 44 = .ok (.aload_n 0, 1) := oc_42 (by decide +kernel)
theorem dX12_levelAt_45 : decode cX12_levelAt 45 = .ok (.iload_n 1, 1) := oc_27 (by decide +kernel)
theorem dX12_levelAt_46 : decode cX12_levelAt 46 = .ok (.iload_n 2, 1) := oc_28 (by decide +kernel)
theorem dX12_levelAt_47 : decode cX12_levelAt 47 = .ok (.iconst 1, 1) := oc_4 (by decide +kernel)
theorem dX12_levelAt_48 : decode cX12_levelAt 48 = .ok (.isub, 1) := oc_100 (by decide +kernel)
theorem dX12_levelAt_49 : decode cX12_levelAt 49 = .ok (.iload_n 3, 1) := oc_29 (by decide +kernel)
theorem dX12_levelAt_50 : decode cX12_levelAt 50 = .ok (.invokevirtual 76, 3) := oc_182 (a := 0) (b := 76) (by decide +kernel)
theorem dX12_levelAt_53 : decode cX12_levelAt 53 = .ok (.istore 5, 2) := oc_54 (by decide +kernel)
theorem dX12_levelAt_55 : decode cX12_levelAt 55 = .ok (.aload_n 0, 1) := oc_42 (by decide +kernel)
theorem dX12_levelAt_56 : decode cX12_levelAt 56 = .ok (.iload_n 1, 1) := oc_27 (by decide +kernel)
theorem dX12_levelAt_57 : decode cX12_levelAt 57 = .ok (.iload_n 2, 1) := oc_28 (by decide +kernel)
theorem dX12_levelAt_58 : decode cX12_levelAt 58 = .ok (.iconst 1, 1) := oc_4 (by decide +kernel)
theorem dX12_levelAt_59 : decode cX12_levelAt 59 = .ok (.iadd, 1) := oc_96 (by decide +kernel)
theorem dX12_levelAt_60 : decode cX12_levelAt 60 = .ok (.iload_n 3, 1) := oc_29 (by decide +kernel)
theorem dX12_levelAt_61 : decode cX12_levelAt 61 = .ok (.invokevirtual 76, 3) := oc_182 (a := 0) (b := 76) (by decide +kernel)
theorem dX12_levelAt_64 : decode cX12_levelAt 64 = .ok (.istore 6, 2) := oc_54 (by decide +kernel)
theorem dX12_levelAt_66 : decode cX12_levelAt 66 = .ok (.iload 5, 2) := oc_21 (by decide +kernel)
theorem dX12_levelAt_89 : decode cX12_levelAt 89 = .ok (.istore 7, 2) := oc_54 (by decide +kernel)
theorem dX12_levelAt_91 : decode cX12_levelAt 91 = .ok (.iload 6, 2) := oc_21 (by decide +kernel)
theorem dX12_levelAt_114 : decode cX12_levelAt 114 = .ok (.istore 8, 2) := oc_54 (by decide +kernel)
theorem dX12_levelAt_116 : decode cX12_levelAt 116 = .ok (.iload 7, 2) := oc_21 (by decide +kernel)
theorem dX12_levelAt_118 : decode cX12_levelAt 118 = .ok (.ifCond .eq 30, 3) := oc_153 (a := 0) (b := 30) (by decide +kernel)
theorem dX12_levelAt_121 : decode cX12_levelAt 121 = .ok (.iload 8, 2) := oc_21 (by decide +kernel)
theorem dX12_levelAt_123 : decode cX12_levelAt 123 = .ok (.ifCond .eq 25, 3) := oc_153 (a := 0) (b := 25) (by decide +kernel)
theorem dX12_levelAt_126 : decode cX12_levelAt 126 = .ok (.aload_n 0, 1) := oc_42 (by decide +kernel)
theorem dX12_levelAt_127 : decode cX12_levelAt 127 = .ok (.getfield 7, 3) := oc_180 (a := 0) (b := 7) (by decide +kernel)
theorem dX12_levelAt_130 : decode cX12_levelAt 130 = .ok (.iload 5, 2) := oc_21 (by decide +kernel)
theorem dX12_levelAt_132 : decode cX12_levelAt 132 = .ok (.iconst 3, 1) := oc_6 (by decide +kernel)
theorem dX12_levelAt_133 : decode cX12_levelAt 133 = .ok (.iadd, 1) := oc_96 (by decide +kernel)
theorem dX12_levelAt_134 : decode cX12_levelAt 134 = .ok (.iaload, 1) := oc_46 (by decide +kernel)
theorem dX12_levelAt_135 : decode cX12_levelAt 135 = .ok (.aload_n 0, 1) := oc_42 (by decide +kernel)
theorem dX12_levelAt_136 : decode cX12_levelAt 136 = .ok (.getfield 7, 3) := oc_180 (a := 0) (b := 7) (by decide +kernel)
theorem dX12_levelAt_139 : decode cX12_levelAt 139 = .ok (.iload 6, 2) := oc_21 (by decide +kernel)
theorem dX12_levelAt_141 : decode cX12_levelAt 141 = .ok (.iconst 3, 1) := oc_6 (by decide +kernel)
theorem dX12_levelAt_142 : decode cX12_levelAt 142 = .ok (.iadd, 1) := oc_96 (by decide +kernel)
theorem dX12_levelAt_143 : decode cX12_levelAt 143 = .ok (.iaload, 1) := oc_46 (by decide +kernel)
theorem dX12_levelAt_144 : decode cX12_levelAt 144 = .ok (.iadd, 1) := oc_96 (by decide +kernel)
theorem dX12_levelAt_145 : decode cX12_levelAt 145 = .ok (.iconst 2, 1) := oc_5 (by decide +kernel)
theorem dX12_levelAt_146 : decode cX12_levelAt 146 = .ok (.idiv, 1) := oc_108 (by decide +kernel)
theorem dX12_levelAt_147 : decode cX12_levelAt 147 = .ok (.ireturn, 1) := oc_172 (by decide +kernel)
theorem dX12_levelAt_148 : decode cX12_levelAt 148 = .ok (.iload 7, 2) := oc_21 (by decide +kernel)
theorem dX12_levelAt_150 : decode cX12_levelAt 150 = .ok (.ifCond .eq 15, 3) := oc_153 (a := 0) (b := 15) (by decide +kernel)
theorem dX12_levelAt_153 : decode cX12_levelAt 153 = .ok (.aload_n 0, 1) := oc_42 (by decide +kernel)
theorem dX12_levelAt_154 : decode cX12_levelAt 154 = .ok (.getfield 7, 3) := oc_180 (a := 0) (b := 7) (by decide +kernel)
theorem dX12_levelAt_157 : decode cX12_levelAt 157 = .ok (.iload 5, 2) := oc_21 (by decide +kernel)
theorem dX12_levelAt_159 : decode cX12_levelAt 159 = .ok (.iconst 3, 1) := oc_6 (by decide +kernel)
theorem dX12_levelAt_160 : decode cX12_levelAt 160 = .ok (.iadd, 1) := oc_96 (by decide +kernel)
theorem dX12_levelAt_161 : decode cX12_levelAt 161 = .ok (.iaload, 1) := oc_46 (by decide +kernel)
theorem dX12_levelAt_162 : decode cX12_levelAt 162 = .ok (.goto 26, 3) := oc_167 (a := 0) (b := 26) (by decide +kernel)
theorem dX12_levelAt_188 : decode cX12_levelAt 188 = .ok (.ireturn, 1) := oc_172 (by decide +kernel)
theorem dX12_levelAt_113 : decode cX12_levelAt 113 = .ok (.iconst 0, 1) := oc_3 (by decide +kernel)
theorem dX12_levelAt_93 : decode cX12_levelAt 93 = .ok (.ifCond .lt 20, 3) := oc_155 (a := 0) (b := 20) (by decide +kernel)
theorem dX12_levelAt_96 : decode cX12_levelAt 96 = .ok (.aload_n 0, 1) := oc_42 (by decide +kernel)
theorem dX12_levelAt_97 : decode cX12_levelAt 97 = .ok (.getfield 7, 3) := oc_180 (a := 0) (b := 7) (by decide +kernel)
theorem dX12_levelAt_100 : decode cX12_levelAt 100 = .ok (.iload 6, 2) := oc_21 (by decide +kernel)
theorem dX12_levelAt_102 : decode cX12_levelAt 102 = .ok (.iconst 2, 1) := oc_5 (by decide +kernel)
theorem dX12_levelAt_103 : decode cX12_levelAt 103 = .ok (.iadd, 1) := oc_96 (by decide +kernel)
theorem dX12_levelAt_104 : decode cX12_levelAt 104 = .ok (.iaload, 1) := oc_46 (by decide +kernel)
theorem dX12_levelAt_105 : decode cX12_levelAt 105 = .ok (.iconst 1, 1) := oc_4 (by decide +kernel)
theorem dX12_levelAt_106 : decode cX12_levelAt 106 = .ok (.if_icmp .ne 7, 3) := oc_160 (a := 0) (b := 7) (by decide +kernel)
theorem dX12_levelAt_109 : decode cX12_levelAt 109 = .ok (.iconst 1, 1) := oc_4 (by decide +kernel)
theorem dX12_levelAt_110 : decode cX12_levelAt 110 = .ok (.goto 4, 3) := oc_167 (a := 0) (b := 4) (by decide +kernel)
theorem dX12_levelAt_165 : decode cX12_levelAt 165 = .ok (.iload 8, 2) := oc_21 (by decide +kernel)
theorem dX12_levelAt_167 : decode cX12_levelAt 167 = .ok (.ifCond .eq 15, 3) := oc_153 (a := 0) (b := 15) (by decide +kernel)
theorem dX12_levelAt_170 : decode cX12_levelAt 170 = .ok (.aload_n 0, 1) := oc_42 (by decide +kernel)
theorem dX12_levelAt_171 : decode cX12_levelAt 171 = .ok (.getfield 7, 3) := oc_180 (a := 0) (b := 7) (by decide +kernel)
theorem dX12_levelAt_174 : decode cX12_levelAt 174 = .ok (.iload 6, 2) := oc_21 (by decide +kernel)
theorem dX12_levelAt_176 : decode cX12_levelAt 176 = .ok (.iconst 3, 1) := oc_6 (by decide +kernel)
theorem dX12_levelAt_177 : decode cX12_levelAt 177 = .ok (.iadd, 1) := oc_96 (by decide +kernel)
theorem dX12_levelAt_178 : decode cX12_levelAt 178 = .ok (.iaload, 1) := oc_46 (by decide +kernel)
theorem dX12_levelAt_179 : decode cX12_levelAt 179 = .ok (.goto 9, 3) := oc_167 (a := 0) (b := 9) (by decide +kernel)
theorem dX12_levelAt_182 : decode cX12_levelAt 182 = .ok (.aload_n 0, 1) := oc_42 (by decide +kernel)
theorem dX12_levelAt_183 : decode cX12_levelAt 183 = .ok (.iload_n 1, 1) := oc_27 (by decide +kernel)
theorem dX12_levelAt_184 : decode cX12_levelAt 184 = .ok (.iload_n 3, 1) := oc_29 (by decide +kernel)
theorem tw_297 : Cond.methodLink RX12 80 yX12_worst ∈ wsL_law := sg_13 _ (List.mem_of_getElem? (i := 9) rfl)
theorem tw_298 : Cond.instanceMethod yX12_worst ∈ wsL_law := sg_13 _ (List.mem_of_getElem? (i := 10) rfl)
theorem tw_299 : Cond.selects RX12 yX12_worst yX12_worst ∈ wsL_law := sg_13 _ (List.mem_of_getElem? (i := 11) rfl)
theorem tw_300 : Cond.code yX12_worst cX12_worst 7 (some .int) ∈ wsL_law := sg_13 _ (List.mem_of_getElem? (i := 12) rfl)
theorem dX12_levelAt_185 : decode cX12_levelAt 185 = .ok (.invokevirtual 80, 3) := oc_182 (a := 0) (b := 80) (by decide +kernel)
theorem dX12_levelAt_88 : decode cX12_levelAt 88 = .ok (.iconst 0, 1) := oc_3 (by decide +kernel)
theorem dX12_levelAt_68 : decode cX12_levelAt 68 = .ok (.ifCond .lt 20, 3) := oc_155 (a := 0) (b := 20) (by decide +kernel)
theorem dX12_levelAt_71 : decode cX12_levelAt 71 = .ok (.aload_n 0, 1) := oc_42 (by decide +kernel)
theorem dX12_levelAt_72 : decode cX12_levelAt 72 = .ok (.getfield 7, 3) := oc_180 (a := 0) (b := 7) (by decide +kernel)
theorem dX12_levelAt_75 : decode cX12_levelAt 75 = .ok (.iload 5, 2) := oc_21 (by decide +kernel)
theorem dX12_levelAt_77 : decode cX12_levelAt 77 = .ok (.iconst 2, 1) := oc_5 (by decide +kernel)
theorem dX12_levelAt_78 : decode cX12_levelAt 78 = .ok (.iadd, 1) := oc_96 (by decide +kernel)
theorem dX12_levelAt_79 : decode cX12_levelAt 79 = .ok (.iaload, 1) := oc_46 (by decide +kernel)
theorem dX12_levelAt_80 : decode cX12_levelAt 80 = .ok (.iconst 1, 1) := oc_4 (by decide +kernel)
theorem dX12_levelAt_81 : decode cX12_levelAt 81 = .ok (.if_icmp .ne 7, 3) := oc_160 (a := 0) (b := 7) (by decide +kernel)
theorem dX12_levelAt_84 : decode cX12_levelAt 84 = .ok (.iconst 1, 1) := oc_4 (by decide +kernel)
theorem dX12_levelAt_85 : decode cX12_levelAt 85 = .ok (.goto 4, 3) := oc_167 (a := 0) (b := 4) (by decide +kernel)
theorem dX12_levelAt_34 : decode cX12_levelAt 34 = .ok (.aload_n 0, 1) := oc_42 (by decide +kernel)
theorem dX12_levelAt_35 : decode cX12_levelAt 35 = .ok (.getfield 7, 3) := oc_180 (a := 0) (b := 7) (by decide +kernel)
theorem dX12_levelAt_38 : decode cX12_levelAt 38 = .ok (.iload 4, 2) := oc_21 (by decide +kernel)
theorem dX12_levelAt_40 : decode cX12_levelAt 40 = .ok (.iconst 3, 1) := oc_6 (by decide +kernel)
theorem dX12_levelAt_41 : decode cX12_levelAt 41 = .ok (.iadd, 1) := oc_96 (by decide +kernel)
theorem dX12_levelAt_42 : decode cX12_levelAt 42 = .ok (.iaload, 1) := oc_46 (by decide +kernel)
theorem dX12_levelAt_43 : decode cX12_levelAt 43 = .ok (.ireturn, 1) := oc_172 (by decide +kernel)
theorem dX12_levelAt_14 : decode cX12_levelAt 14 = .ok (.aload_n 0, 1) := oc_42 (by decide +kernel)
theorem dX12_levelAt_15 : decode cX12_levelAt 15 = .ok (.iload_n 1, 1) := oc_27 (by decide +kernel)
theorem dX12_levelAt_16 : decode cX12_levelAt 16 = .ok (.iload_n 3, 1) := oc_29 (by decide +kernel)
theorem dX12_levelAt_17 : decode cX12_levelAt 17 = .ok (.invokevirtual 80, 3) := oc_182 (a := 0) (b := 80) (by decide +kernel)
theorem dX12_levelAt_20 : decode cX12_levelAt 20 = .ok (.ireturn, 1) := oc_172 (by decide +kernel)
theorem dX12_levelOf_0 : decode cX12_levelOf 0 = .ok (.iload_n 1, 1) := oc_27 (by decide +kernel)
theorem dX12_levelOf_1 : decode cX12_levelOf 1 = .ok (.invokestatic 70, 3) := oc_184 (a := 0) (b := 70) (by decide +kernel)
theorem tw_288 : Cond.constant RX12 87 (-1000000) ∈ wsL_law := sg_13 _ (List.mem_of_getElem? (i := 0) rfl)
theorem dX12_levelOf_35 : decode cX12_levelOf 35 = .ok (.ldc 87, 2) := oc_18 (by decide +kernel)
theorem dX12_levelOf_37 : decode cX12_levelOf 37 = .ok (.ireturn, 1) := oc_172 (by decide +kernel)
theorem dX12_levelOf_4 : decode cX12_levelOf 4 = .ok (.ifCond .eq 31, 3) := oc_153 (a := 0) (b := 31) (by decide +kernel)
theorem dX12_levelOf_7 : decode cX12_levelOf 7 = .ok (.iload_n 2, 1) := oc_28 (by decide +kernel)
theorem dX12_levelOf_8 : decode cX12_levelOf 8 = .ok (.invokestatic 73, 3) := oc_184 (a := 0) (b := 73) (by decide +kernel)
theorem dX12_levelOf_11 : decode cX12_levelOf 11 = .ok (.ifCond .eq 24, 3) := oc_153 (a := 0) (b := 24) (by decide +kernel)
theorem dX12_levelOf_14 : decode cX12_levelOf 14 = .ok (.iload_n 3, 1) := oc_29 (by decide +kernel)
theorem dX12_levelOf_15 : decode cX12_levelOf 15 = .ok (.iconst 0, 1) := oc_3 (by decide +kernel)
theorem dX12_levelOf_16 : decode cX12_levelOf 16 = .ok (.sipush 600, 3) := oc_17 (a := 2) (b := 88) (by decide +kernel)
theorem dX12_levelOf_19 : decode cX12_levelOf 19 = .ok (.invokestatic 62, 3) := oc_184 (a := 0) (b := 62) (by decide +kernel)
theorem dX12_levelOf_22 : decode cX12_levelOf 22 = .ok (.ifCond .eq 13, 3) := oc_153 (a := 0) (b := 13) (by decide +kernel)
theorem dX12_levelOf_25 : decode cX12_levelOf 25 = .ok (.aload_n 0, 1) := oc_42 (by decide +kernel)
theorem dX12_levelOf_26 : decode cX12_levelOf 26 = .ok (.iload_n 1, 1) := oc_27 (by decide +kernel)
theorem dX12_levelOf_27 : decode cX12_levelOf 27 = .ok (.iload_n 2, 1) := oc_28 (by decide +kernel)
theorem dX12_levelOf_28 : decode cX12_levelOf 28 = .ok (.iload_n 3, 1) := oc_29 (by decide +kernel)
theorem tw_289 : Cond.methodLink RX12 84 yX12_levelAt ∈ wsL_law := sg_13 _ (List.mem_of_getElem? (i := 1) rfl)
theorem tw_290 : Cond.instanceMethod yX12_levelAt ∈ wsL_law := sg_13 _ (List.mem_of_getElem? (i := 2) rfl)
theorem tw_291 : Cond.selects RX12 yX12_levelAt yX12_levelAt ∈ wsL_law := sg_13 _ (List.mem_of_getElem? (i := 3) rfl)
theorem tw_292 : Cond.code yX12_levelAt cX12_levelAt 9 (some .int) ∈ wsL_law := sg_13 _ (List.mem_of_getElem? (i := 4) rfl)
theorem dX12_levelOf_29 : decode cX12_levelOf 29 = .ok (.invokevirtual 84, 3) := oc_182 (a := 0) (b := 84) (by decide +kernel)
theorem dX12_levelOf_32 : decode cX12_levelOf 32 = .ok (.goto 5, 3) := oc_167 (a := 0) (b := 5) (by decide +kernel)
theorem dX12_table_0 : decode cX12_table 0 = .ok (.iload_n 1, 1) := oc_27 (by decide +kernel)
theorem dX12_table_1 : decode cX12_table 1 = .ok (.iconst 0, 1) := oc_3 (by decide +kernel)
theorem dX12_table_2 : decode cX12_table 2 = .ok (.bipush 11, 2) := oc_16 (a := 11) (by decide +kernel)
theorem dX12_table_4 : decode cX12_table 4 = .ok (.invokestatic 62, 3) := oc_184 (a := 0) (b := 62) (by decide +kernel)
theorem dX12_table_65 : decode cX12_table 65 = .ok (.iconst 0, 1) := oc_3 (by decide +kernel)
theorem dX12_table_66 : decode cX12_table 66 = .ok (.ireturn, 1) := oc_172 (by decide +kernel)
theorem dX12_table_7 : decode cX12_table 7 = .ok (.ifCond .eq 58, 3) := oc_153 (a := 0) (b := 58) (by decide +kernel)
theorem dX12_table_10 : decode cX12_table 10 = .ok (.iload_n 2, 1) := oc_28 (by decide +kernel)
theorem dX12_table_11 : decode cX12_table 11 = .ok (.iconst 0, 1) := oc_3 (by decide +kernel)
theorem dX12_table_12 : decode cX12_table 12 = .ok (.sipush 2000, 3) := oc_17 (a := 7) (b := 208) (by decide +kernel)
theorem dX12_table_15 : decode cX12_table 15 = .ok (.invokestatic 62, 3) := oc_184 (a := 0) (b := 62) (by decide +kernel)
theorem dX12_table_18 : decode cX12_table 18 = .ok (.ifCond .eq 47, 3) := oc_153 (a := 0) (b := 47) (by decide +kernel)
theorem dX12_table_21 : decode cX12_table 21 = .ok (.iload_n 3, 1) := oc_29 (by decide +kernel)
theorem dX12_table_22 : decode cX12_table 22 = .ok (.iload_n 2, 1) := oc_28 (by decide +kernel)
theorem dX12_table_23 : decode cX12_table 23 = .ok (.sipush 2000, 3) := oc_17 (a := 7) (b := 208) (by decide +kernel)
theorem dX12_table_26 : decode cX12_table 26 = .ok (.invokestatic 62, 3) := oc_184 (a := 0) (b := 62) (by decide +kernel)
theorem dX12_table_29 : decode cX12_table 29 = .ok (.ifCond .eq 36, 3) := oc_153 (a := 0) (b := 36) (by decide +kernel)
theorem dX12_table_32 : decode cX12_table 32 = .ok (.iload 4, 2) := oc_21 (by decide +kernel)
theorem dX12_table_34 : decode cX12_table 34 = .ok (.iconst 0, 1) := oc_3 (by decide +kernel)
theorem dX12_table_35 : decode cX12_table 35 = .ok (.bipush 40, 2) := oc_16 (a := 40) (by decide +kernel)
theorem dX12_table_37 : decode cX12_table 37 = .ok (.invokestatic 62, 3) := oc_184 (a := 0) (b := 62) (by decide +kernel)
theorem dX12_table_40 : decode cX12_table 40 = .ok (.ifCond .eq 25, 3) := oc_153 (a := 0) (b := 25) (by decide +kernel)
theorem dX12_table_43 : decode cX12_table 43 = .ok (.iload 5, 2) := oc_21 (by decide +kernel)
theorem dX12_table_45 : decode cX12_table 45 = .ok (.iconst 0, 1) := oc_3 (by decide +kernel)
theorem dX12_table_46 : decode cX12_table 46 = .ok (.bipush 50, 2) := oc_16 (a := 50) (by decide +kernel)
theorem dX12_table_48 : decode cX12_table 48 = .ok (.invokestatic 62, 3) := oc_184 (a := 0) (b := 62) (by decide +kernel)
theorem dX12_table_51 : decode cX12_table 51 = .ok (.ifCond .eq 14, 3) := oc_153 (a := 0) (b := 14) (by decide +kernel)
theorem dX12_table_54 : decode cX12_table 54 = .ok (.iload 6, 2) := oc_21 (by decide +kernel)
theorem dX12_table_56 : decode cX12_table 56 = .ok (.iconst 0, 1) := oc_3 (by decide +kernel)
theorem dX12_table_57 : decode cX12_table 57 = .ok (.bipush 100, 2) := oc_16 (a := 100) (by decide +kernel)
theorem dX12_table_59 : decode cX12_table 59 = .ok (.invokestatic 62, 3) := oc_184 (a := 0) (b := 62) (by decide +kernel)
theorem dX12_table_62 : decode cX12_table 62 = .ok (.ifCond .ne 5, 3) := oc_154 (a := 0) (b := 5) (by decide +kernel)
theorem dX12_table_67 : decode cX12_table 67 = .ok (.bipush 20, 2) := oc_16 (a := 20) (by decide +kernel)
theorem dX12_table_69 : decode cX12_table 69 = .ok (.iconst 5, 1) := oc_8 (by decide +kernel)
theorem dX12_table_70 : decode cX12_table 70 = .ok (.iload_n 1, 1) := oc_27 (by decide +kernel)
theorem dX12_table_71 : decode cX12_table 71 = .ok (.imul, 1) := oc_104 (by decide +kernel)
theorem dX12_table_72 : decode cX12_table 72 = .ok (.iadd, 1) := oc_96 (by decide +kernel)
theorem dX12_table_73 : decode cX12_table 73 = .ok (.istore 7, 2) := oc_54 (by decide +kernel)
theorem dX12_table_75 : decode cX12_table 75 = .ok (.aload_n 0, 1) := oc_42 (by decide +kernel)
theorem dX12_table_76 : decode cX12_table 76 = .ok (.getfield 7, 3) := oc_180 (a := 0) (b := 7) (by decide +kernel)
theorem dX12_table_79 : decode cX12_table 79 = .ok (.iload 7, 2) := oc_21 (by decide +kernel)
theorem dX12_table_81 : decode cX12_table 81 = .ok (.iconst 0, 1) := oc_3 (by decide +kernel)
theorem dX12_table_82 : decode cX12_table 82 = .ok (.iadd, 1) := oc_96 (by decide +kernel)
theorem dX12_table_83 : decode cX12_table 83 = .ok (.iload_n 2, 1) := oc_28 (by decide +kernel)
theorem dX12_table_84 : decode cX12_table 84 = .ok (.iastore, 1) := oc_79 (by decide +kernel)
theorem dX12_table_85 : decode cX12_table 85 = .ok (.aload_n 0, 1) := oc_42 (by decide +kernel)
theorem dX12_table_86 : decode cX12_table 86 = .ok (.getfield 7, 3) := oc_180 (a := 0) (b := 7) (by decide +kernel)
theorem dX12_table_89 : decode cX12_table 89 = .ok (.iload 7, 2) := oc_21 (by decide +kernel)
theorem dX12_table_91 : decode cX12_table 91 = .ok (.iconst 1, 1) := oc_4 (by decide +kernel)
theorem dX12_table_92 : decode cX12_table 92 = .ok (.iadd, 1) := oc_96 (by decide +kernel)
theorem dX12_table_93 : decode cX12_table 93 = .ok (.iload_n 3, 1) := oc_29 (by decide +kernel)
theorem dX12_table_94 : decode cX12_table 94 = .ok (.iastore, 1) := oc_79 (by decide +kernel)
theorem dX12_table_95 : decode cX12_table 95 = .ok (.aload_n 0, 1) := oc_42 (by decide +kernel)
theorem dX12_table_96 : decode cX12_table 96 = .ok (.getfield 7, 3) := oc_180 (a := 0) (b := 7) (by decide +kernel)
theorem dX12_table_99 : decode cX12_table 99 = .ok (.iload 7, 2) := oc_21 (by decide +kernel)
theorem dX12_table_101 : decode cX12_table 101 = .ok (.iconst 2, 1) := oc_5 (by decide +kernel)
theorem dX12_table_102 : decode cX12_table 102 = .ok (.iadd, 1) := oc_96 (by decide +kernel)
theorem dX12_table_103 : decode cX12_table 103 = .ok (.iload 4, 2) := oc_21 (by decide +kernel)
theorem dX12_table_105 : decode cX12_table 105 = .ok (.iastore, 1) := oc_79 (by decide +kernel)
theorem dX12_table_106 : decode cX12_table 106 = .ok (.aload_n 0, 1) := oc_42 (by decide +kernel)
theorem dX12_table_107 : decode cX12_table 107 = .ok (.getfield 7, 3) := oc_180 (a := 0) (b := 7) (by decide +kernel)
theorem dX12_table_110 : decode cX12_table 110 = .ok (.iload 7, 2) := oc_21 (by decide +kernel)
theorem dX12_table_112 : decode cX12_table 112 = .ok (.iconst 3, 1) := oc_6 (by decide +kernel)
theorem dX12_table_113 : decode cX12_table 113 = .ok (.iadd, 1) := oc_96 (by decide +kernel)
theorem dX12_table_114 : decode cX12_table 114 = .ok (.iload 5, 2) := oc_21 (by decide +kernel)
theorem dX12_table_116 : decode cX12_table 116 = .ok (.iastore, 1) := oc_79 (by decide +kernel)
theorem dX12_table_117 : decode cX12_table 117 = .ok (.aload_n 0, 1) := oc_42 (by decide +kernel)
theorem dX12_table_118 : decode cX12_table 118 = .ok (.getfield 7, 3) := oc_180 (a := 0) (b := 7) (by decide +kernel)
theorem dX12_table_121 : decode cX12_table 121 = .ok (.iload 7, 2) := oc_21 (by decide +kernel)
theorem dX12_table_123 : decode cX12_table 123 = .ok (.iconst 4, 1) := oc_7 (by decide +kernel)
theorem dX12_table_124 : decode cX12_table 124 = .ok (.iadd, 1) := oc_96 (by decide +kernel)
theorem dX12_table_125 : decode cX12_table 125 = .ok (.iload 6, 2) := oc_21 (by decide +kernel)
theorem dX12_table_127 : decode cX12_table 127 = .ok (.iastore, 1) := oc_79 (by decide +kernel)
theorem dX12_table_128 : decode cX12_table 128 = .ok (.iconst 1, 1) := oc_4 (by decide +kernel)
theorem dX12_table_129 : decode cX12_table 129 = .ok (.ireturn, 1) := oc_172 (by decide +kernel)
theorem dX12_rules_0 : decode cX12_rules 0 = .ok (.iload_n 1, 1) := oc_27 (by decide +kernel)
theorem dX12_rules_1 : decode cX12_rules 1 = .ok (.iconst 0, 1) := oc_3 (by decide +kernel)
theorem dX12_rules_2 : decode cX12_rules 2 = .ok (.bipush 40, 2) := oc_16 (a := 40) (by decide +kernel)
theorem dX12_rules_4 : decode cX12_rules 4 = .ok (.invokestatic 62, 3) := oc_184 (a := 0) (b := 62) (by decide +kernel)
theorem dX12_rules_51 : decode cX12_rules 51 = .ok (.iconst 0, 1) := oc_3 (by decide +kernel)
theorem dX12_rules_52 : decode cX12_rules 52 = .ok (.ireturn, 1) := oc_172 (by decide +kernel)
theorem dX12_rules_7 : decode cX12_rules 7 = .ok (.ifCond .eq 44, 3) := oc_153 (a := 0) (b := 44) (by decide +kernel)
theorem dX12_rules_10 : decode cX12_rules 10 = .ok (.iload_n 2, 1) := oc_28 (by decide +kernel)
theorem dX12_rules_11 : decode cX12_rules 11 = .ok (.iconst 0, 1) := oc_3 (by decide +kernel)
theorem dX12_rules_12 : decode cX12_rules 12 = .ok (.iconst 5, 1) := oc_8 (by decide +kernel)
theorem dX12_rules_13 : decode cX12_rules 13 = .ok (.invokestatic 62, 3) := oc_184 (a := 0) (b := 62) (by decide +kernel)
theorem dX12_rules_16 : decode cX12_rules 16 = .ok (.ifCond .eq 35, 3) := oc_153 (a := 0) (b := 35) (by decide +kernel)
theorem dX12_rules_19 : decode cX12_rules 19 = .ok (.iload_n 3, 1) := oc_29 (by decide +kernel)
theorem dX12_rules_20 : decode cX12_rules 20 = .ok (.iconst 0, 1) := oc_3 (by decide +kernel)
theorem dX12_rules_21 : decode cX12_rules 21 = .ok (.bipush 50, 2) := oc_16 (a := 50) (by decide +kernel)
theorem dX12_rules_23 : decode cX12_rules 23 = .ok (.invokestatic 62, 3) := oc_184 (a := 0) (b := 62) (by decide +kernel)
theorem dX12_rules_26 : decode cX12_rules 26 = .ok (.ifCond .eq 25, 3) := oc_153 (a := 0) (b := 25) (by decide +kernel)
theorem dX12_rules_29 : decode cX12_rules 29 = .ok (.iload 4, 2) := oc_21 (by decide +kernel)
theorem dX12_rules_31 : decode cX12_rules 31 = .ok (.iconst 1, 1) := oc_4 (by decide +kernel)
theorem dX12_rules_32 : decode cX12_rules 32 = .ok (.bipush 20, 2) := oc_16 (a := 20) (by decide +kernel)
theorem dX12_rules_34 : decode cX12_rules 34 = .ok (.invokestatic 62, 3) := oc_184 (a := 0) (b := 62) (by decide +kernel)
theorem dX12_rules_37 : decode cX12_rules 37 = .ok (.ifCond .eq 14, 3) := oc_153 (a := 0) (b := 14) (by decide +kernel)
theorem dX12_rules_40 : decode cX12_rules 40 = .ok (.iload 5, 2) := oc_21 (by decide +kernel)
theorem dX12_rules_42 : decode cX12_rules 42 = .ok (.iconst 0, 1) := oc_3 (by decide +kernel)
theorem dX12_rules_43 : decode cX12_rules 43 = .ok (.bipush 100, 2) := oc_16 (a := 100) (by decide +kernel)
theorem dX12_rules_45 : decode cX12_rules 45 = .ok (.invokestatic 62, 3) := oc_184 (a := 0) (b := 62) (by decide +kernel)
theorem dX12_rules_48 : decode cX12_rules 48 = .ok (.ifCond .ne 5, 3) := oc_154 (a := 0) (b := 5) (by decide +kernel)
theorem dX12_rules_53 : decode cX12_rules 53 = .ok (.aload_n 0, 1) := oc_42 (by decide +kernel)
theorem dX12_rules_54 : decode cX12_rules 54 = .ok (.getfield 7, 3) := oc_180 (a := 0) (b := 7) (by decide +kernel)
theorem dX12_rules_57 : decode cX12_rules 57 = .ok (.bipush 13, 2) := oc_16 (a := 13) (by decide +kernel)
theorem dX12_rules_59 : decode cX12_rules 59 = .ok (.iload_n 1, 1) := oc_27 (by decide +kernel)
theorem dX12_rules_60 : decode cX12_rules 60 = .ok (.iastore, 1) := oc_79 (by decide +kernel)
theorem dX12_rules_61 : decode cX12_rules 61 = .ok (.aload_n 0, 1) := oc_42 (by decide +kernel)
theorem dX12_rules_62 : decode cX12_rules 62 = .ok (.getfield 7, 3) := oc_180 (a := 0) (b := 7) (by decide +kernel)
theorem dX12_rules_65 : decode cX12_rules 65 = .ok (.bipush 14, 2) := oc_16 (a := 14) (by decide +kernel)
theorem dX12_rules_67 : decode cX12_rules 67 = .ok (.iload_n 2, 1) := oc_28 (by decide +kernel)
theorem dX12_rules_68 : decode cX12_rules 68 = .ok (.iastore, 1) := oc_79 (by decide +kernel)
theorem dX12_rules_69 : decode cX12_rules 69 = .ok (.aload_n 0, 1) := oc_42 (by decide +kernel)
theorem dX12_rules_70 : decode cX12_rules 70 = .ok (.getfield 7, 3) := oc_180 (a := 0) (b := 7) (by decide +kernel)
theorem dX12_rules_73 : decode cX12_rules 73 = .ok (.bipush 15, 2) := oc_16 (a := 15) (by decide +kernel)
theorem dX12_rules_75 : decode cX12_rules 75 = .ok (.iload_n 3, 1) := oc_29 (by decide +kernel)
theorem dX12_rules_76 : decode cX12_rules 76 = .ok (.iastore, 1) := oc_79 (by decide +kernel)
theorem dX12_rules_77 : decode cX12_rules 77 = .ok (.aload_n 0, 1) := oc_42 (by decide +kernel)
theorem dX12_rules_78 : decode cX12_rules 78 = .ok (.getfield 7, 3) := oc_180 (a := 0) (b := 7) (by decide +kernel)
theorem dX12_rules_81 : decode cX12_rules 81 = .ok (.bipush 16, 2) := oc_16 (a := 16) (by decide +kernel)
theorem dX12_rules_83 : decode cX12_rules 83 = .ok (.iload 4, 2) := oc_21 (by decide +kernel)
theorem dX12_rules_85 : decode cX12_rules 85 = .ok (.iastore, 1) := oc_79 (by decide +kernel)
theorem dX12_rules_86 : decode cX12_rules 86 = .ok (.aload_n 0, 1) := oc_42 (by decide +kernel)
theorem dX12_rules_87 : decode cX12_rules 87 = .ok (.getfield 7, 3) := oc_180 (a := 0) (b := 7) (by decide +kernel)
theorem dX12_rules_90 : decode cX12_rules 90 = .ok (.bipush 17, 2) := oc_16 (a := 17) (by decide +kernel)
theorem dX12_rules_92 : decode cX12_rules 92 = .ok (.iload 5, 2) := oc_21 (by decide +kernel)
theorem dX12_rules_94 : decode cX12_rules 94 = .ok (.iastore, 1) := oc_79 (by decide +kernel)
theorem dX12_rules_95 : decode cX12_rules 95 = .ok (.iconst 1, 1) := oc_4 (by decide +kernel)
theorem dX12_rules_96 : decode cX12_rules 96 = .ok (.ireturn, 1) := oc_172 (by decide +kernel)
theorem dX12_wall_0 : decode cX12_wall 0 = .ok (.aload_n 0, 1) := oc_42 (by decide +kernel)
theorem dX12_wall_1 : decode cX12_wall 1 = .ok (.iload_n 1, 1) := oc_27 (by decide +kernel)
theorem tw_340 : Cond.methodLink RX12 88 yX12_isCell ∈ wsL_law := sg_15 _ (List.mem_of_getElem? (i := 4) rfl)
theorem tw_341 : Cond.instanceMethod yX12_isCell ∈ wsL_law := sg_15 _ (List.mem_of_getElem? (i := 5) rfl)
theorem tw_342 : Cond.selects RX12 yX12_isCell yX12_isCell ∈ wsL_law := sg_15 _ (List.mem_of_getElem? (i := 6) rfl)
theorem tw_343 : Cond.code yX12_isCell cX12_isCell 2 (some .boolean) ∈ wsL_law := sg_15 _ (List.mem_of_getElem? (i := 7) rfl)
theorem dX12_wall_2 : decode cX12_wall 2 = .ok (.invokevirtual 88, 3) := oc_182 (a := 0) (b := 88) (by decide +kernel)
theorem dX12_wall_19 : decode cX12_wall 19 = .ok (.iconst 0, 1) := oc_3 (by decide +kernel)
theorem dX12_wall_20 : decode cX12_wall 20 = .ok (.ireturn, 1) := oc_172 (by decide +kernel)
theorem dX12_wall_5 : decode cX12_wall 5 = .ok (.ifCond .eq 14, 3) := oc_153 (a := 0) (b := 14) (by decide +kernel)
theorem dX12_wall_8 : decode cX12_wall 8 = .ok (.iload_n 2, 1) := oc_28 (by decide +kernel)
theorem dX12_wall_9 : decode cX12_wall 9 = .ok (.iconst 0, 1) := oc_3 (by decide +kernel)
theorem dX12_wall_10 : decode cX12_wall 10 = .ok (.sipush 1000, 3) := oc_17 (a := 3) (b := 232) (by decide +kernel)
theorem dX12_wall_13 : decode cX12_wall 13 = .ok (.invokestatic 62, 3) := oc_184 (a := 0) (b := 62) (by decide +kernel)
theorem dX12_wall_16 : decode cX12_wall 16 = .ok (.ifCond .ne 5, 3) := oc_154 (a := 0) (b := 5) (by decide +kernel)
theorem dX12_wall_21 : decode cX12_wall 21 = .ok (.aload_n 0, 1) := oc_42 (by decide +kernel)
theorem dX12_wall_22 : decode cX12_wall 22 = .ok (.getfield 7, 3) := oc_180 (a := 0) (b := 7) (by decide +kernel)
theorem dX12_wall_25 : decode cX12_wall 25 = .ok (.bipush 100, 2) := oc_16 (a := 100) (by decide +kernel)
theorem dX12_wall_27 : decode cX12_wall 27 = .ok (.bipush 16, 2) := oc_16 (a := 16) (by decide +kernel)
theorem dX12_wall_29 : decode cX12_wall 29 = .ok (.iload_n 1, 1) := oc_27 (by decide +kernel)
theorem dX12_wall_30 : decode cX12_wall 30 = .ok (.imul, 1) := oc_104 (by decide +kernel)
theorem dX12_wall_31 : decode cX12_wall 31 = .ok (.iadd, 1) := oc_96 (by decide +kernel)
theorem dX12_wall_32 : decode cX12_wall 32 = .ok (.bipush 6, 2) := oc_16 (a := 6) (by decide +kernel)
theorem dX12_wall_34 : decode cX12_wall 34 = .ok (.iadd, 1) := oc_96 (by decide +kernel)
theorem dX12_wall_35 : decode cX12_wall 35 = .ok (.iload_n 2, 1) := oc_28 (by decide +kernel)
theorem dX12_wall_36 : decode cX12_wall 36 = .ok (.iastore, 1) := oc_79 (by decide +kernel)
theorem dX12_wall_37 : decode cX12_wall 37 = .ok (.iconst 1, 1) := oc_4 (by decide +kernel)
theorem dX12_wall_38 : decode cX12_wall 38 = .ok (.ireturn, 1) := oc_172 (by decide +kernel)
theorem dX12_cellAt_0 : decode cX12_cellAt 0 = .ok (.aload_n 0, 1) := oc_42 (by decide +kernel)
theorem dX12_cellAt_1 : decode cX12_cellAt 1 = .ok (.getfield 7, 3) := oc_180 (a := 0) (b := 7) (by decide +kernel)
theorem dX12_cellAt_4 : decode cX12_cellAt 4 = .ok (.bipush 100, 2) := oc_16 (a := 100) (by decide +kernel)
theorem dX12_cellAt_6 : decode cX12_cellAt 6 = .ok (.bipush 16, 2) := oc_16 (a := 16) (by decide +kernel)
theorem dX12_cellAt_8 : decode cX12_cellAt 8 = .ok (.iload_n 1, 1) := oc_27 (by decide +kernel)
theorem dX12_cellAt_9 : decode cX12_cellAt 9 = .ok (.imul, 1) := oc_104 (by decide +kernel)
theorem dX12_cellAt_10 : decode cX12_cellAt 10 = .ok (.iadd, 1) := oc_96 (by decide +kernel)
theorem dX12_cellAt_11 : decode cX12_cellAt 11 = .ok (.iload_n 2, 1) := oc_28 (by decide +kernel)
theorem dX12_cellAt_12 : decode cX12_cellAt 12 = .ok (.iadd, 1) := oc_96 (by decide +kernel)
theorem dX12_cellAt_13 : decode cX12_cellAt 13 = .ok (.iaload, 1) := oc_46 (by decide +kernel)
theorem dX12_cellAt_14 : decode cX12_cellAt 14 = .ok (.ireturn, 1) := oc_172 (by decide +kernel)
theorem dX12_well_0 : decode cX12_well 0 = .ok (.aload_n 0, 1) := oc_42 (by decide +kernel)
theorem dX12_well_1 : decode cX12_well 1 = .ok (.iload_n 1, 1) := oc_27 (by decide +kernel)
theorem dX12_well_2 : decode cX12_well 2 = .ok (.invokevirtual 88, 3) := oc_182 (a := 0) (b := 88) (by decide +kernel)
theorem dX12_well_50 : decode cX12_well 50 = .ok (.iconst 0, 1) := oc_3 (by decide +kernel)
theorem dX12_well_51 : decode cX12_well 51 = .ok (.ireturn, 1) := oc_172 (by decide +kernel)
theorem dX12_well_5 : decode cX12_well 5 = .ok (.ifCond .eq 45, 3) := oc_153 (a := 0) (b := 45) (by decide +kernel)
theorem dX12_well_8 : decode cX12_well 8 = .ok (.iload_n 2, 1) := oc_28 (by decide +kernel)
theorem dX12_well_9 : decode cX12_well 9 = .ok (.iconst 1, 1) := oc_4 (by decide +kernel)
theorem dX12_well_10 : decode cX12_well 10 = .ok (.bipush 20, 2) := oc_16 (a := 20) (by decide +kernel)
theorem dX12_well_12 : decode cX12_well 12 = .ok (.invokestatic 62, 3) := oc_184 (a := 0) (b := 62) (by decide +kernel)
theorem dX12_well_15 : decode cX12_well 15 = .ok (.ifCond .eq 35, 3) := oc_153 (a := 0) (b := 35) (by decide +kernel)
theorem dX12_well_18 : decode cX12_well 18 = .ok (.iload_n 3, 1) := oc_29 (by decide +kernel)
theorem dX12_well_19 : decode cX12_well 19 = .ok (.iconst 0, 1) := oc_3 (by decide +kernel)
theorem dX12_well_20 : decode cX12_well 20 = .ok (.sipush 10000, 3) := oc_17 (a := 39) (b := 16) (by decide +kernel)
theorem dX12_well_23 : decode cX12_well 23 = .ok (.invokestatic 62, 3) := oc_184 (a := 0) (b := 62) (by decide +kernel)
theorem dX12_well_26 : decode cX12_well 26 = .ok (.ifCond .eq 24, 3) := oc_153 (a := 0) (b := 24) (by decide +kernel)
theorem dX12_well_29 : decode cX12_well 29 = .ok (.iload 4, 2) := oc_21 (by decide +kernel)
theorem dX12_well_31 : decode cX12_well 31 = .ok (.iconst 0, 1) := oc_3 (by decide +kernel)
theorem dX12_well_32 : decode cX12_well 32 = .ok (.bipush 100, 2) := oc_16 (a := 100) (by decide +kernel)
theorem dX12_well_34 : decode cX12_well 34 = .ok (.invokestatic 62, 3) := oc_184 (a := 0) (b := 62) (by decide +kernel)
theorem dX12_well_37 : decode cX12_well 37 = .ok (.ifCond .eq 13, 3) := oc_153 (a := 0) (b := 13) (by decide +kernel)
theorem dX12_well_40 : decode cX12_well 40 = .ok (.aload_n 0, 1) := oc_42 (by decide +kernel)
theorem dX12_well_41 : decode cX12_well 41 = .ok (.iload_n 1, 1) := oc_27 (by decide +kernel)
theorem dX12_well_42 : decode cX12_well 42 = .ok (.bipush 8, 2) := oc_16 (a := 8) (by decide +kernel)
theorem tw_361 : Cond.methodLink RX12 91 yX12_cellAt ∈ wsL_law := sg_16 _ (List.mem_of_getElem? (i := 1) rfl)
theorem tw_362 : Cond.instanceMethod yX12_cellAt ∈ wsL_law := sg_16 _ (List.mem_of_getElem? (i := 2) rfl)
theorem tw_363 : Cond.selects RX12 yX12_cellAt yX12_cellAt ∈ wsL_law := sg_16 _ (List.mem_of_getElem? (i := 3) rfl)
theorem tw_364 : Cond.code yX12_cellAt cX12_cellAt 3 (some .int) ∈ wsL_law := sg_16 _ (List.mem_of_getElem? (i := 4) rfl)
theorem dX12_well_44 : decode cX12_well 44 = .ok (.invokevirtual 91, 3) := oc_182 (a := 0) (b := 91) (by decide +kernel)
theorem dX12_well_47 : decode cX12_well 47 = .ok (.ifCond .le 5, 3) := oc_158 (a := 0) (b := 5) (by decide +kernel)
theorem dX12_well_52 : decode cX12_well 52 = .ok (.bipush 100, 2) := oc_16 (a := 100) (by decide +kernel)
theorem dX12_well_54 : decode cX12_well 54 = .ok (.bipush 16, 2) := oc_16 (a := 16) (by decide +kernel)
theorem dX12_well_56 : decode cX12_well 56 = .ok (.iload_n 1, 1) := oc_27 (by decide +kernel)
theorem dX12_well_57 : decode cX12_well 57 = .ok (.imul, 1) := oc_104 (by decide +kernel)
theorem dX12_well_58 : decode cX12_well 58 = .ok (.iadd, 1) := oc_96 (by decide +kernel)
theorem dX12_well_59 : decode cX12_well 59 = .ok (.istore 5, 2) := oc_54 (by decide +kernel)
theorem dX12_well_61 : decode cX12_well 61 = .ok (.aload_n 0, 1) := oc_42 (by decide +kernel)
theorem dX12_well_62 : decode cX12_well 62 = .ok (.getfield 7, 3) := oc_180 (a := 0) (b := 7) (by decide +kernel)
theorem dX12_well_65 : decode cX12_well 65 = .ok (.iload 5, 2) := oc_21 (by decide +kernel)
theorem dX12_well_67 : decode cX12_well 67 = .ok (.bipush 8, 2) := oc_16 (a := 8) (by decide +kernel)
theorem dX12_well_69 : decode cX12_well 69 = .ok (.iadd, 1) := oc_96 (by decide +kernel)
theorem dX12_well_70 : decode cX12_well 70 = .ok (.iload_n 2, 1) := oc_28 (by decide +kernel)
theorem dX12_well_71 : decode cX12_well 71 = .ok (.iastore, 1) := oc_79 (by decide +kernel)
theorem dX12_well_72 : decode cX12_well 72 = .ok (.aload_n 0, 1) := oc_42 (by decide +kernel)
theorem dX12_well_73 : decode cX12_well 73 = .ok (.getfield 7, 3) := oc_180 (a := 0) (b := 7) (by decide +kernel)
theorem dX12_well_76 : decode cX12_well 76 = .ok (.iload 5, 2) := oc_21 (by decide +kernel)
theorem dX12_well_78 : decode cX12_well 78 = .ok (.bipush 9, 2) := oc_16 (a := 9) (by decide +kernel)
theorem dX12_well_80 : decode cX12_well 80 = .ok (.iadd, 1) := oc_96 (by decide +kernel)
theorem dX12_well_81 : decode cX12_well 81 = .ok (.iload_n 3, 1) := oc_29 (by decide +kernel)
theorem dX12_well_82 : decode cX12_well 82 = .ok (.iastore, 1) := oc_79 (by decide +kernel)
theorem dX12_well_83 : decode cX12_well 83 = .ok (.aload_n 0, 1) := oc_42 (by decide +kernel)
theorem dX12_well_84 : decode cX12_well 84 = .ok (.getfield 7, 3) := oc_180 (a := 0) (b := 7) (by decide +kernel)
theorem dX12_well_87 : decode cX12_well 87 = .ok (.iload 5, 2) := oc_21 (by decide +kernel)
theorem dX12_well_89 : decode cX12_well 89 = .ok (.bipush 10, 2) := oc_16 (a := 10) (by decide +kernel)
theorem dX12_well_91 : decode cX12_well 91 = .ok (.iadd, 1) := oc_96 (by decide +kernel)
theorem dX12_well_92 : decode cX12_well 92 = .ok (.iload 4, 2) := oc_21 (by decide +kernel)
theorem dX12_well_94 : decode cX12_well 94 = .ok (.iastore, 1) := oc_79 (by decide +kernel)
theorem dX12_well_95 : decode cX12_well 95 = .ok (.iconst 1, 1) := oc_4 (by decide +kernel)
theorem dX12_well_96 : decode cX12_well 96 = .ok (.ireturn, 1) := oc_172 (by decide +kernel)
set_option maxHeartbeats 4000000 in
set_option maxRecDepth 100000 in
theorem s_X12_levelAt (l : Launch) (D : va_G) (t : pq_T) (σ : pq_S) (I : Nat → Nat → Int32) (J : Nat → Nat → Int64) (ri : Nat → Nat → Int32) (rj : Nat → Nat → Int64) (rq : Nat → Nat → Option Nat) (sz : Nat) (tg : Nat → Nat) (hSH : SH σ tg) (hG0 : GT tg I ri) (this : Nat) (a0 : Int32) (a1 : Int32) (a2 : Int32) (hL_this : this ∈ σ.1) (hK_this : σ.2.1 this = 12) : MetI l yX12_levelAt (wa yX12_levelAt cX12_levelAt 9 (some .int)) ({ frames := 1, cells := 0, slots := 0, locals := 26 }) [.ref this, .int a0, .int a1, .int a2] D t σ (I, J, ri, rj, rq) sz 0 0 (fun (r : Int32) (u : pq_S × pq_M) => u = (σ, I, J, ri, rj, rq)) := by
  refine Met.ofW (cc := cX12_levelAt) (maxL := 9) (ret := (some .int)) (by decide) rfl ?_
  intro p e s m args below meth c s₁ B hml hv
  obtain ⟨rfl, hsz, hP, hK, hD0, hN⟩ := hv
  have hx := B.exec
  have hb := B.bytes
  have hr := B.returns
  have hts := atoms_spec (ws := (wa yX12_levelAt cX12_levelAt 9 (some .int))) B.pre
  have hown : s.vm.findClass RX12 = some m.cls := findClass_of_methodNamed B.named
  have hlocks := B.notSynchronized
  subst hsz
  have hD : va_D (pq_B t σ (I, J, ri, rj, rq) s.heap.size) (pq_P t σ (I, J, ri, rj, rq)) := hD0.self
  generalize hAe : pq_B t σ (I, J, ri, rj, rq) s.heap.size = A at hD ⊢
  have hA : ∀ q : Nat, s.heap.size ≤ q → A q := fun q h => by rw [← hAe]; exact Or.inr h
  have hS : va_S A s.heap s.heap [] := va_S.rf
  have hG : GM [] tg σ I ri I ri rq := ⟨hG0, fun _ _ _ => rfl, fun _ _ _ _ _ => rfl, fun _ _ _ _ _ _ => rfl⟩
  have hl := lv_entry ([.ref this, .int a0, .int a1, .int a2]) (n := 9) (Nat.le_of_ble_eq_true rfl)
  rw [lg_entry_eq]
  generalize (lg_sl ([.ref this, .int a0, .int a1, .int a2]) ++ List.replicate (9 - (lg_sl ([.ref this, .int a0, .int a1, .int a2])).length) Slot.unset).toArray = ls at hl ⊢
  have hl : lv_has ls 9 [(0, .ref this), (1, .int a0), (2, .int a1), (3, .int a2)] := hl
  refine q_gen (fun Q hQ => ?_)
  have go : ∀ (H : Heap) (locs : List Loc) (ls : Array Slot), va_P D vwCl (pq_P t σ (I, J, ri, rj, rq)) H → va_D A (pq_P t σ (I, J, ri, rj, rq)) → va_S A s.heap H locs → lv_has ls 9 [(0, .ref this), (1, .int a0), (2, .int a1), (3, .int a2)] → W p l e ({ frames := 1, cells := 0, slots := 0, locals := 26 } : Room) s m (List.toArray ([.ref this, .int a0, .int a1, .int a2] : List Value)) below meth c H locs 0 0 Q (F0 m 0 ls []) := by
    intro H locs ls hP hD hS hl
    refine lv_aload_n hx hb dX12_levelAt_0 rfl (lv_at hl 0 rfl) ?_
    refine lv_iload_n hx hb dX12_levelAt_1 rfl (lv_at hl 1 rfl) ?_
    refine lv_iload_n hx hb dX12_levelAt_2 rfl (lv_at hl 2 rfl) ?_
    refine lv_iload_n hx hb dX12_levelAt_3 rfl (lv_at hl 3 rfl) ?_
    refine pk_i (va_runV (As := [.int a0, .int a1, .int a2]) (rest := []) ⟨hx, hb, hml, hown, hts⟩ (s_X12_latest l D t σ I J ri rj rq H.size tg hSH hG.1 this a0 a1 a2 hL_this hK_this) (cwV 3 hts (tw_V tw_293 tw_294 tw_295 tw_5 tw_296) rfl rfl rfl cv_yX12_latest_3 ⟨Nat.le_of_ble_eq_true rfl, Nat.le_of_ble_eq_true rfl⟩) ⟨pq_blind, pq_recv hK hP hL_this hK_this (by decide) rfl, pq_pre hK hN hP hD⟩ rfl rfl hl.1 rfl (lv_room (Nat.le_of_ble_eq_true rfl)) dX12_levelAt_4 ⟨Nat.le_of_ble_eq_true rfl, Nat.le_of_ble_eq_true rfl⟩) hD hS hA (fun x_1 σ1 μ1 H locs hw_2 hP hD hS => ?_)
    obtain ⟨hu_3, hr_5⟩ := hw_2
    obtain ⟨hu_3a, hu_3b⟩ := Prod.mk.inj hu_3
    rw [hu_3a, hu_3b] at hP hD
    refine lv_istore (lv' := [(4, .int x_1), (0, .ref this), (1, .int a0), (2, .int a1), (3, .int a2)]) hx hb dX12_levelAt_7 hl (by decide) rfl (fun ls hl => ?_)
    refine lv_iload hx hb dX12_levelAt_9 (lv_at hl 0 rfl) ?_
    refine lv_if_ge (tgt := 21) hx hb dX12_levelAt_11 (by decide) (fun c_6 => ?_) (fun c_6 => ?_)
    · have tc_7 : 0 ≤ (x_1).toInt := Int32.le_iff_toInt_le.mp c_6
      have h_8 : rg x_1 0 2215 := rg_le2 c_6 (rg_k (0 : Int32) 0 rfl) hr_5 (by decide)
      have uh_8 := h_8.1
      have vh_8 := h_8.2
      refine lv_aload_n hx hb dX12_levelAt_21 rfl (lv_at hl 1 rfl) ?_
      obtain ⟨w_9, hR_w_9, hL_w_9, hK_w_9, hN_w_9, hT_w_9⟩ := sh_a hSH 384 (ci := 12) (kd := 13) (len := 12720) rfl (by decide) hL_this hK_this
      refine pg_f (v := .ref w_9) (C := RX12) (T := TX12) (N := 31) hx hb hts (tw_i inlX12) hown hK hP hL_this hK_this (by decide) rfl 0 (by decide) (hts _ (tw_c tw_176)) (pq_hv rfl hR_w_9) dX12_levelAt_22 ?_
      refine lv_iload hx hb dX12_levelAt_25 (lv_at hl 0 rfl) ?_
      refine lv_iconst (v := 2) hx hb dX12_levelAt_27 (by decide) ?_
      refine lv_iadd hx hb dX12_levelAt_28 ?_
      refine lv_topi (fun x_10 ex_10 => ?_)
      have h_11 : rg x_10 2 2217 := rg_of_eq ex_10 (rg_add h_8 (rg_k (2 : Int32) 2 rfl) (by decide))
      have uh_11 := h_11.1
      have vh_11 := h_11.2
      have tx_10 : (x_10).toInt = (x_1).toInt + 2 := by rw [ex_10]; exact i_add_rg (a2 := (x_1).toInt) (b2 := 2) rfl rfl h_8 (rg_k (2 : Int32) 2 rfl) (by decide)
      refine pl_i hx hb hK hP hL_w_9 hK_w_9 hN_w_9 (rg_in h_11 (by decide)) dX12_levelAt_29 ?_
      refine lv_topi (fun x_12 ex_12 => ?_)
      refine lv_iconst (v := 1) hx hb dX12_levelAt_30 (by decide) ?_
      refine lv_icmp_ne (tgt := 44) hx hb dX12_levelAt_31 (by decide) (fun c_13 => ?_) (fun c_13 => ?_)
      · have tc_14 : (x_12).toInt ≠ 1 := fun q => c_13 (Int32.toInt_inj.mp q)
        refine lv_aload_n hx hb dX12_levelAt_44 rfl (lv_at hl 1 rfl) ?_
        refine lv_iload_n hx hb dX12_levelAt_45 rfl (lv_at hl 2 rfl) ?_
        refine lv_iload_n hx hb dX12_levelAt_46 rfl (lv_at hl 3 rfl) ?_
        refine lv_iconst (v := 1) hx hb dX12_levelAt_47 (by decide) ?_
        refine lv_isub hx hb dX12_levelAt_48 ?_
        refine lv_topi (fun x_15 ex_15 => ?_)
        refine lv_iload_n hx hb dX12_levelAt_49 rfl (lv_at hl 4 rfl) ?_
        refine pk_i (va_runV (As := [.int a0, .int x_15, .int a2]) (rest := []) ⟨hx, hb, hml, hown, hts⟩ (s_X12_latest l D t σ I J ri rj rq H.size tg hSH hG.1 this a0 x_15 a2 hL_this hK_this) (cwV 3 hts (tw_V tw_293 tw_294 tw_295 tw_5 tw_296) rfl rfl rfl cv_yX12_latest_3 ⟨Nat.le_of_ble_eq_true rfl, Nat.le_of_ble_eq_true rfl⟩) ⟨pq_blind, pq_recv hK hP hL_this hK_this (by decide) rfl, pq_pre hK hN hP hD⟩ rfl rfl hl.1 rfl (lv_room (Nat.le_of_ble_eq_true rfl)) dX12_levelAt_50 ⟨Nat.le_of_ble_eq_true rfl, Nat.le_of_ble_eq_true rfl⟩) hD hS hA (fun x_16 σ1 μ1 H locs hw_17 hP hD hS => ?_)
        obtain ⟨hu_18, hr_20⟩ := hw_17
        obtain ⟨hu_18a, hu_18b⟩ := Prod.mk.inj hu_18
        rw [hu_18a, hu_18b] at hP hD
        refine lv_istore (lv' := [(5, .int x_16), (4, .int x_1), (0, .ref this), (1, .int a0), (2, .int a1), (3, .int a2)]) hx hb dX12_levelAt_53 hl (by decide) rfl (fun ls hl => ?_)
        refine lv_aload_n hx hb dX12_levelAt_55 rfl (lv_at hl 2 rfl) ?_
        refine lv_iload_n hx hb dX12_levelAt_56 rfl (lv_at hl 3 rfl) ?_
        refine lv_iload_n hx hb dX12_levelAt_57 rfl (lv_at hl 4 rfl) ?_
        refine lv_iconst (v := 1) hx hb dX12_levelAt_58 (by decide) ?_
        refine lv_iadd hx hb dX12_levelAt_59 ?_
        refine lv_topi (fun x_21 ex_21 => ?_)
        refine lv_iload_n hx hb dX12_levelAt_60 rfl (lv_at hl 5 rfl) ?_
        refine pk_i (va_runV (As := [.int a0, .int x_21, .int a2]) (rest := []) ⟨hx, hb, hml, hown, hts⟩ (s_X12_latest l D t σ I J ri rj rq H.size tg hSH hG.1 this a0 x_21 a2 hL_this hK_this) (cwV 3 hts (tw_V tw_293 tw_294 tw_295 tw_5 tw_296) rfl rfl rfl cv_yX12_latest_3 ⟨Nat.le_of_ble_eq_true rfl, Nat.le_of_ble_eq_true rfl⟩) ⟨pq_blind, pq_recv hK hP hL_this hK_this (by decide) rfl, pq_pre hK hN hP hD⟩ rfl rfl hl.1 rfl (lv_room (Nat.le_of_ble_eq_true rfl)) dX12_levelAt_61 ⟨Nat.le_of_ble_eq_true rfl, Nat.le_of_ble_eq_true rfl⟩) hD hS hA (fun x_22 σ1 μ1 H locs hw_23 hP hD hS => ?_)
        obtain ⟨hu_24, hr_26⟩ := hw_23
        obtain ⟨hu_24a, hu_24b⟩ := Prod.mk.inj hu_24
        rw [hu_24a, hu_24b] at hP hD
        refine lv_istore (lv' := [(6, .int x_22), (5, .int x_16), (4, .int x_1), (0, .ref this), (1, .int a0), (2, .int a1), (3, .int a2)]) hx hb dX12_levelAt_64 hl (by decide) rfl (fun ls hl => ?_)
        refine lv_iload hx hb dX12_levelAt_66 (lv_at hl 1 rfl) ?_
        have K_96 : ∀  (H : Heap) (locs : List Loc) (ls : Array Slot), rg (x_16) 0 2215 → GM [] tg σ I ri I ri rq → va_P D vwCl (pq_P t σ (I, J, ri, rj, rq)) H → va_D A (pq_P t σ (I, J, ri, rj, rq)) → va_S A s.heap H locs → lv_has ls 9 [(0, .ref this), (1, .int a0), (3, .int a2), (5, .int x_16), (6, .int x_22)] → W p l e ({ frames := 1, cells := 0, slots := 0, locals := 26 } : Room) s m (List.toArray ([.ref this, .int a0, .int a1, .int a2] : List Value)) below meth c H locs 0 0 Q (F0 m 89 ls [.int 1]) := by
          intro H locs ls h_98 hG hP hD hS hl
          have uh_98 := h_98.1
          have vh_98 := h_98.2
          refine lv_istore (lv' := [(7, .int 1), (0, .ref this), (1, .int a0), (3, .int a2), (5, .int x_16), (6, .int x_22)]) hx hb dX12_levelAt_89 hl (by decide) rfl (fun ls hl => ?_)
          refine lv_iload hx hb dX12_levelAt_91 (lv_at hl 5 rfl) ?_
          have K_128 : ∀  (H : Heap) (locs : List Loc) (ls : Array Slot), rg (x_22) 0 2215 → GM [] tg σ I ri I ri rq → va_P D vwCl (pq_P t σ (I, J, ri, rj, rq)) H → va_D A (pq_P t σ (I, J, ri, rj, rq)) → va_S A s.heap H locs → lv_has ls 9 [(0, .ref this), (1, .int a0), (3, .int a2), (5, .int x_16), (6, .int x_22), (7, .int 1)] → W p l e ({ frames := 1, cells := 0, slots := 0, locals := 26 } : Room) s m (List.toArray ([.ref this, .int a0, .int a1, .int a2] : List Value)) below meth c H locs 0 0 Q (F0 m 114 ls [.int 1]) := by
            intro H locs ls h_130 hG hP hD hS hl
            have uh_130 := h_130.1
            have vh_130 := h_130.2
            refine lv_istore (lv' := [(8, .int 1), (0, .ref this), (1, .int a0), (3, .int a2), (5, .int x_16), (6, .int x_22), (7, .int 1)]) hx hb dX12_levelAt_114 hl (by decide) rfl (fun ls hl => ?_)
            refine lv_iload hx hb dX12_levelAt_116 (lv_at hl 6 rfl) ?_
            refine lv_if_eq (tgt := 148) hx hb dX12_levelAt_118 (by decide) (fun c_141 => absurd c_141 (by decide)) (fun c_141 => ?_)
            refine lv_iload hx hb dX12_levelAt_121 (lv_at hl 0 rfl) ?_
            refine lv_if_eq (tgt := 148) hx hb dX12_levelAt_123 (by decide) (fun c_142 => absurd c_142 (by decide)) (fun c_142 => ?_)
            refine lv_aload_n hx hb dX12_levelAt_126 rfl (lv_at hl 1 rfl) ?_
            refine pg_f (v := .ref w_9) (C := RX12) (T := TX12) (N := 31) hx hb hts (tw_i inlX12) hown hK hP hL_this hK_this (by decide) rfl 0 (by decide) (hts _ (tw_c tw_176)) (pq_hv rfl hR_w_9) dX12_levelAt_127 ?_
            refine lv_iload hx hb dX12_levelAt_130 (lv_at hl 4 rfl) ?_
            refine lv_iconst (v := 3) hx hb dX12_levelAt_132 (by decide) ?_
            refine lv_iadd hx hb dX12_levelAt_133 ?_
            refine lv_topi (fun x_143 ex_143 => ?_)
            have h_144 : rg x_143 3 2218 := rg_of_eq ex_143 (rg_add h_98 (rg_k (3 : Int32) 3 rfl) (by decide))
            have uh_144 := h_144.1
            have vh_144 := h_144.2
            have tx_143 : (x_143).toInt = (x_16).toInt + 3 := by rw [ex_143]; exact i_add_rg (a2 := (x_16).toInt) (b2 := 3) rfl rfl h_98 (rg_k (3 : Int32) 3 rfl) (by decide)
            refine pl_i hx hb hK hP hL_w_9 hK_w_9 hN_w_9 (rg_in h_144 (by decide)) dX12_levelAt_134 ?_
            refine lv_topi (fun x_145 ex_145 => ?_)
            refine lv_aload_n hx hb dX12_levelAt_135 rfl (lv_at hl 1 rfl) ?_
            refine pg_f (v := .ref w_9) (C := RX12) (T := TX12) (N := 31) hx hb hts (tw_i inlX12) hown hK hP hL_this hK_this (by decide) rfl 0 (by decide) (hts _ (tw_c tw_176)) (pq_hv rfl hR_w_9) dX12_levelAt_136 ?_
            refine lv_iload hx hb dX12_levelAt_139 (lv_at hl 5 rfl) ?_
            refine lv_iconst (v := 3) hx hb dX12_levelAt_141 (by decide) ?_
            refine lv_iadd hx hb dX12_levelAt_142 ?_
            refine lv_topi (fun x_146 ex_146 => ?_)
            have h_147 : rg x_146 3 2218 := rg_of_eq ex_146 (rg_add h_130 (rg_k (3 : Int32) 3 rfl) (by decide))
            have uh_147 := h_147.1
            have vh_147 := h_147.2
            have tx_146 : (x_146).toInt = (x_22).toInt + 3 := by rw [ex_146]; exact i_add_rg (a2 := (x_22).toInt) (b2 := 3) rfl rfl h_130 (rg_k (3 : Int32) 3 rfl) (by decide)
            refine pl_i hx hb hK hP hL_w_9 hK_w_9 hN_w_9 (rg_in h_147 (by decide)) dX12_levelAt_143 ?_
            refine lv_topi (fun x_148 ex_148 => ?_)
            refine lv_iadd hx hb dX12_levelAt_144 ?_
            refine lv_topi (fun x_149 ex_149 => ?_)
            refine lv_iconst (v := 2) hx hb dX12_levelAt_145 (by decide) ?_
            refine lv_idiv hx hb dX12_levelAt_146 (by decide) ?_
            refine lv_topi (fun x_150 ex_150 => ?_)
            subst hQ
            exact W.iret (v := x_150) hx hb hr (fun t1 ht hW => ⟨⟨x_150, (σ, I, J, ri, rj, rq), rfl, rfl, by rw [ht]; exact hP, va_K.moved hW.alike hK, hD⟩, hS.F ht⟩) hS.2.2 dX12_levelAt_147
          have K_151 : ∀  (H : Heap) (locs : List Loc) (ls : Array Slot), GM [] tg σ I ri I ri rq → va_P D vwCl (pq_P t σ (I, J, ri, rj, rq)) H → va_D A (pq_P t σ (I, J, ri, rj, rq)) → va_S A s.heap H locs → lv_has ls 9 [(0, .ref this), (1, .int a0), (3, .int a2), (5, .int x_16), (6, .int x_22), (7, .int 1)] → W p l e ({ frames := 1, cells := 0, slots := 0, locals := 26 } : Room) s m (List.toArray ([.ref this, .int a0, .int a1, .int a2] : List Value)) below meth c H locs 0 0 Q (F0 m 114 ls [.int 0]) := by
            intro H locs ls hG hP hD hS hl
            refine lv_istore (lv' := [(8, .int 0), (0, .ref this), (1, .int a0), (3, .int a2), (5, .int x_16), (6, .int x_22), (7, .int 1)]) hx hb dX12_levelAt_114 hl (by decide) rfl (fun ls hl => ?_)
            refine lv_iload hx hb dX12_levelAt_116 (lv_at hl 6 rfl) ?_
            have K_158 : ∀  (H : Heap) (locs : List Loc) (ls : Array Slot), GM [] tg σ I ri I ri rq → va_P D vwCl (pq_P t σ (I, J, ri, rj, rq)) H → va_D A (pq_P t σ (I, J, ri, rj, rq)) → va_S A s.heap H locs → lv_has ls 9 [(0, .ref this), (1, .int a0), (3, .int a2), (5, .int x_16), (6, .int x_22), (7, .int 1), (8, .int 0)] → W p l e ({ frames := 1, cells := 0, slots := 0, locals := 26 } : Room) s m (List.toArray ([.ref this, .int a0, .int a1, .int a2] : List Value)) below meth c H locs 0 0 Q (F0 m 148 ls []) := by
              intro H locs ls hG hP hD hS hl
              refine lv_iload hx hb dX12_levelAt_148 (lv_at hl 5 rfl) ?_
              refine lv_if_eq (tgt := 165) hx hb dX12_levelAt_150 (by decide) (fun c_159 => absurd c_159 (by decide)) (fun c_159 => ?_)
              refine lv_aload_n hx hb dX12_levelAt_153 rfl (lv_at hl 0 rfl) ?_
              refine pg_f (v := .ref w_9) (C := RX12) (T := TX12) (N := 31) hx hb hts (tw_i inlX12) hown hK hP hL_this hK_this (by decide) rfl 0 (by decide) (hts _ (tw_c tw_176)) (pq_hv rfl hR_w_9) dX12_levelAt_154 ?_
              refine lv_iload hx hb dX12_levelAt_157 (lv_at hl 3 rfl) ?_
              refine lv_iconst (v := 3) hx hb dX12_levelAt_159 (by decide) ?_
              refine lv_iadd hx hb dX12_levelAt_160 ?_
              refine lv_topi (fun x_160 ex_160 => ?_)
              have h_161 : rg x_160 3 2218 := rg_of_eq ex_160 (rg_add h_98 (rg_k (3 : Int32) 3 rfl) (by decide))
              have uh_161 := h_161.1
              have vh_161 := h_161.2
              have tx_160 : (x_160).toInt = (x_16).toInt + 3 := by rw [ex_160]; exact i_add_rg (a2 := (x_16).toInt) (b2 := 3) rfl rfl h_98 (rg_k (3 : Int32) 3 rfl) (by decide)
              refine pl_i hx hb hK hP hL_w_9 hK_w_9 hN_w_9 (rg_in h_161 (by decide)) dX12_levelAt_161 ?_
              refine lv_topi (fun x_162 ex_162 => ?_)
              refine lv_goto (tgt := 188) hx hb dX12_levelAt_162 (by decide) ?_
              subst hQ
              exact W.iret (v := x_162) hx hb hr (fun t1 ht hW => ⟨⟨x_162, (σ, I, J, ri, rj, rq), rfl, rfl, by rw [ht]; exact hP, va_K.moved hW.alike hK, hD⟩, hS.F ht⟩) hS.2.2 dX12_levelAt_188
            refine lv_if_eq (tgt := 148) hx hb dX12_levelAt_118 (by decide) (fun c_163 => absurd c_163 (by decide)) (fun c_163 => ?_)
            refine lv_iload hx hb dX12_levelAt_121 (lv_at hl 0 rfl) ?_
            refine lv_if_eq (tgt := 148) hx hb dX12_levelAt_123 (by decide) (fun c_164 => ?_) (fun c_164 => absurd c_164 (by decide))
            exact K_158 _ _ _ hG hP hD hS (lv_sub hl [1, 2, 3, 4, 5, 6, 0] rfl)
          have K_165 : ∀  (H : Heap) (locs : List Loc) (ls : Array Slot), GM [] tg σ I ri I ri rq → va_P D vwCl (pq_P t σ (I, J, ri, rj, rq)) H → va_D A (pq_P t σ (I, J, ri, rj, rq)) → va_S A s.heap H locs → lv_has ls 9 [(0, .ref this), (1, .int a0), (3, .int a2), (5, .int x_16), (6, .int x_22), (7, .int 1)] → W p l e ({ frames := 1, cells := 0, slots := 0, locals := 26 } : Room) s m (List.toArray ([.ref this, .int a0, .int a1, .int a2] : List Value)) below meth c H locs 0 0 Q (F0 m 113 ls []) := by
            intro H locs ls hG hP hD hS hl
            refine lv_iconst (v := 0) hx hb dX12_levelAt_113 (by decide) ?_
            exact K_151 _ _ _ hG hP hD hS (lv_sub hl [0, 1, 2, 3, 4, 5] rfl)
          refine lv_if_lt (tgt := 113) hx hb dX12_levelAt_93 (by decide) (fun c_166 => ?_) (fun c_166 => ?_)
          · have tc_167 : (x_22).toInt < 0 := Int32.lt_iff_toInt_lt.mp c_166
            have h_168 : rg x_22 (-1) (-1) := rg_lt1 c_166 hr_26 (rg_k (0 : Int32) 0 rfl) (by decide)
            have uh_168 := h_168.1
            have vh_168 := h_168.2
            exact K_165 _ _ _ hG hP hD hS (lv_sub hl [1, 2, 3, 4, 5, 0] rfl)
          · have tc_169 : 0 ≤ (x_22).toInt := Int32.le_iff_toInt_le.mp (nlt c_166)
            have h_170 : rg x_22 0 2215 := rg_le2 (nlt c_166) (rg_k (0 : Int32) 0 rfl) hr_26 (by decide)
            have uh_170 := h_170.1
            have vh_170 := h_170.2
            refine lv_aload_n hx hb dX12_levelAt_96 rfl (lv_at hl 1 rfl) ?_
            refine pg_f (v := .ref w_9) (C := RX12) (T := TX12) (N := 31) hx hb hts (tw_i inlX12) hown hK hP hL_this hK_this (by decide) rfl 0 (by decide) (hts _ (tw_c tw_176)) (pq_hv rfl hR_w_9) dX12_levelAt_97 ?_
            refine lv_iload hx hb dX12_levelAt_100 (lv_at hl 5 rfl) ?_
            refine lv_iconst (v := 2) hx hb dX12_levelAt_102 (by decide) ?_
            refine lv_iadd hx hb dX12_levelAt_103 ?_
            refine lv_topi (fun x_171 ex_171 => ?_)
            have h_172 : rg x_171 2 2217 := rg_of_eq ex_171 (rg_add h_170 (rg_k (2 : Int32) 2 rfl) (by decide))
            have uh_172 := h_172.1
            have vh_172 := h_172.2
            have tx_171 : (x_171).toInt = (x_22).toInt + 2 := by rw [ex_171]; exact i_add_rg (a2 := (x_22).toInt) (b2 := 2) rfl rfl h_170 (rg_k (2 : Int32) 2 rfl) (by decide)
            refine pl_i hx hb hK hP hL_w_9 hK_w_9 hN_w_9 (rg_in h_172 (by decide)) dX12_levelAt_104 ?_
            refine lv_topi (fun x_173 ex_173 => ?_)
            refine lv_iconst (v := 1) hx hb dX12_levelAt_105 (by decide) ?_
            refine lv_icmp_ne (tgt := 113) hx hb dX12_levelAt_106 (by decide) (fun c_174 => ?_) (fun c_174 => ?_)
            · have tc_175 : (x_173).toInt ≠ 1 := fun q => c_174 (Int32.toInt_inj.mp q)
              exact K_165 _ _ _ hG hP hD hS (lv_sub hl [1, 2, 3, 4, 5, 0] rfl)
            · have tc_176 : (x_173).toInt = 1 := congrArg Int32.toInt c_174
              have h_177 : rg x_173 1 1 := rg_and (rg_full _) (rg_of_eq c_174 (rg_k (1 : Int32) 1 rfl)) (by decide)
              have uh_177 := h_177.1
              have vh_177 := h_177.2
              refine lv_iconst (v := 1) hx hb dX12_levelAt_109 (by decide) ?_
              refine lv_goto (tgt := 114) hx hb dX12_levelAt_110 (by decide) ?_
              exact K_128 _ _ _ (rg_w h_170 (by decide)) hG hP hD hS (lv_sub hl [1, 2, 3, 4, 5, 0] rfl)
        have K_178 : ∀  (H : Heap) (locs : List Loc) (ls : Array Slot), GM [] tg σ I ri I ri rq → va_P D vwCl (pq_P t σ (I, J, ri, rj, rq)) H → va_D A (pq_P t σ (I, J, ri, rj, rq)) → va_S A s.heap H locs → lv_has ls 9 [(0, .ref this), (1, .int a0), (3, .int a2), (5, .int x_16), (6, .int x_22)] → W p l e ({ frames := 1, cells := 0, slots := 0, locals := 26 } : Room) s m (List.toArray ([.ref this, .int a0, .int a1, .int a2] : List Value)) below meth c H locs 0 0 Q (F0 m 89 ls [.int 0]) := by
          intro H locs ls hG hP hD hS hl
          refine lv_istore (lv' := [(7, .int 0), (0, .ref this), (1, .int a0), (3, .int a2), (5, .int x_16), (6, .int x_22)]) hx hb dX12_levelAt_89 hl (by decide) rfl (fun ls hl => ?_)
          refine lv_iload hx hb dX12_levelAt_91 (lv_at hl 5 rfl) ?_
          have K_206 : ∀  (H : Heap) (locs : List Loc) (ls : Array Slot), rg (x_22) 0 2215 → GM [] tg σ I ri I ri rq → va_P D vwCl (pq_P t σ (I, J, ri, rj, rq)) H → va_D A (pq_P t σ (I, J, ri, rj, rq)) → va_S A s.heap H locs → lv_has ls 9 [(0, .ref this), (1, .int a0), (3, .int a2), (5, .int x_16), (6, .int x_22), (7, .int 0)] → W p l e ({ frames := 1, cells := 0, slots := 0, locals := 26 } : Room) s m (List.toArray ([.ref this, .int a0, .int a1, .int a2] : List Value)) below meth c H locs 0 0 Q (F0 m 114 ls [.int 1]) := by
            intro H locs ls h_208 hG hP hD hS hl
            have uh_208 := h_208.1
            have vh_208 := h_208.2
            refine lv_istore (lv' := [(8, .int 1), (0, .ref this), (1, .int a0), (3, .int a2), (5, .int x_16), (6, .int x_22), (7, .int 0)]) hx hb dX12_levelAt_114 hl (by decide) rfl (fun ls hl => ?_)
            refine lv_iload hx hb dX12_levelAt_116 (lv_at hl 6 rfl) ?_
            have K_215 : ∀  (H : Heap) (locs : List Loc) (ls : Array Slot), GM [] tg σ I ri I ri rq → va_P D vwCl (pq_P t σ (I, J, ri, rj, rq)) H → va_D A (pq_P t σ (I, J, ri, rj, rq)) → va_S A s.heap H locs → lv_has ls 9 [(0, .ref this), (1, .int a0), (3, .int a2), (5, .int x_16), (6, .int x_22), (7, .int 0), (8, .int 1)] → W p l e ({ frames := 1, cells := 0, slots := 0, locals := 26 } : Room) s m (List.toArray ([.ref this, .int a0, .int a1, .int a2] : List Value)) below meth c H locs 0 0 Q (F0 m 148 ls []) := by
              intro H locs ls hG hP hD hS hl
              refine lv_iload hx hb dX12_levelAt_148 (lv_at hl 5 rfl) ?_
              refine lv_if_eq (tgt := 165) hx hb dX12_levelAt_150 (by decide) (fun c_216 => ?_) (fun c_216 => absurd c_216 (by decide))
              refine lv_iload hx hb dX12_levelAt_165 (lv_at hl 6 rfl) ?_
              refine lv_if_eq (tgt := 182) hx hb dX12_levelAt_167 (by decide) (fun c_217 => absurd c_217 (by decide)) (fun c_217 => ?_)
              refine lv_aload_n hx hb dX12_levelAt_170 rfl (lv_at hl 0 rfl) ?_
              refine pg_f (v := .ref w_9) (C := RX12) (T := TX12) (N := 31) hx hb hts (tw_i inlX12) hown hK hP hL_this hK_this (by decide) rfl 0 (by decide) (hts _ (tw_c tw_176)) (pq_hv rfl hR_w_9) dX12_levelAt_171 ?_
              refine lv_iload hx hb dX12_levelAt_174 (lv_at hl 4 rfl) ?_
              refine lv_iconst (v := 3) hx hb dX12_levelAt_176 (by decide) ?_
              refine lv_iadd hx hb dX12_levelAt_177 ?_
              refine lv_topi (fun x_218 ex_218 => ?_)
              have h_219 : rg x_218 3 2218 := rg_of_eq ex_218 (rg_add h_208 (rg_k (3 : Int32) 3 rfl) (by decide))
              have uh_219 := h_219.1
              have vh_219 := h_219.2
              have tx_218 : (x_218).toInt = (x_22).toInt + 3 := by rw [ex_218]; exact i_add_rg (a2 := (x_22).toInt) (b2 := 3) rfl rfl h_208 (rg_k (3 : Int32) 3 rfl) (by decide)
              refine pl_i hx hb hK hP hL_w_9 hK_w_9 hN_w_9 (rg_in h_219 (by decide)) dX12_levelAt_178 ?_
              refine lv_topi (fun x_220 ex_220 => ?_)
              refine lv_goto (tgt := 188) hx hb dX12_levelAt_179 (by decide) ?_
              subst hQ
              exact W.iret (v := x_220) hx hb hr (fun t1 ht hW => ⟨⟨x_220, (σ, I, J, ri, rj, rq), rfl, rfl, by rw [ht]; exact hP, va_K.moved hW.alike hK, hD⟩, hS.F ht⟩) hS.2.2 dX12_levelAt_188
            refine lv_if_eq (tgt := 148) hx hb dX12_levelAt_118 (by decide) (fun c_221 => ?_) (fun c_221 => absurd c_221 (by decide))
            exact K_215 _ _ _ hG hP hD hS (lv_sub hl [1, 2, 3, 4, 5, 6, 0] rfl)
          have K_222 : ∀  (H : Heap) (locs : List Loc) (ls : Array Slot), GM [] tg σ I ri I ri rq → va_P D vwCl (pq_P t σ (I, J, ri, rj, rq)) H → va_D A (pq_P t σ (I, J, ri, rj, rq)) → va_S A s.heap H locs → lv_has ls 9 [(0, .ref this), (1, .int a0), (3, .int a2), (5, .int x_16), (6, .int x_22), (7, .int 0)] → W p l e ({ frames := 1, cells := 0, slots := 0, locals := 26 } : Room) s m (List.toArray ([.ref this, .int a0, .int a1, .int a2] : List Value)) below meth c H locs 0 0 Q (F0 m 114 ls [.int 0]) := by
            intro H locs ls hG hP hD hS hl
            refine lv_istore (lv' := [(8, .int 0), (0, .ref this), (1, .int a0), (3, .int a2), (5, .int x_16), (6, .int x_22), (7, .int 0)]) hx hb dX12_levelAt_114 hl (by decide) rfl (fun ls hl => ?_)
            refine lv_iload hx hb dX12_levelAt_116 (lv_at hl 6 rfl) ?_
            have K_231 : ∀  (H : Heap) (locs : List Loc) (ls : Array Slot), GM [] tg σ I ri I ri rq → va_P D vwCl (pq_P t σ (I, J, ri, rj, rq)) H → va_D A (pq_P t σ (I, J, ri, rj, rq)) → va_S A s.heap H locs → lv_has ls 9 [(0, .ref this), (1, .int a0), (3, .int a2), (5, .int x_16), (6, .int x_22), (7, .int 0), (8, .int 0)] → W p l e ({ frames := 1, cells := 0, slots := 0, locals := 26 } : Room) s m (List.toArray ([.ref this, .int a0, .int a1, .int a2] : List Value)) below meth c H locs 0 0 Q (F0 m 148 ls []) := by
              intro H locs ls hG hP hD hS hl
              refine lv_iload hx hb dX12_levelAt_148 (lv_at hl 5 rfl) ?_
              refine lv_if_eq (tgt := 165) hx hb dX12_levelAt_150 (by decide) (fun c_232 => ?_) (fun c_232 => absurd c_232 (by decide))
              refine lv_iload hx hb dX12_levelAt_165 (lv_at hl 6 rfl) ?_
              refine lv_if_eq (tgt := 182) hx hb dX12_levelAt_167 (by decide) (fun c_233 => ?_) (fun c_233 => absurd c_233 (by decide))
              refine lv_aload_n hx hb dX12_levelAt_182 rfl (lv_at hl 0 rfl) ?_
              refine lv_iload_n hx hb dX12_levelAt_183 rfl (lv_at hl 1 rfl) ?_
              refine lv_iload_n hx hb dX12_levelAt_184 rfl (lv_at hl 2 rfl) ?_
              refine pk_i (va_runV (As := [.int a0, .int a2]) (rest := []) ⟨hx, hb, hml, hown, hts⟩ (s_X12_worst l D t σ I J ri rj rq H.size tg hSH hG.1 this a0 a2 hL_this hK_this) (cwV 2 hts (tw_V tw_297 tw_298 tw_299 tw_5 tw_300) rfl rfl rfl cv_yX12_worst_2 ⟨Nat.le_of_ble_eq_true rfl, Nat.le_of_ble_eq_true rfl⟩) ⟨pq_blind, pq_recv hK hP hL_this hK_this (by decide) rfl, pq_pre hK hN hP hD⟩ rfl rfl hl.1 rfl (lv_room (Nat.le_of_ble_eq_true rfl)) dX12_levelAt_185 ⟨Nat.le_of_ble_eq_true rfl, Nat.le_of_ble_eq_true rfl⟩) hD hS hA (fun x_234 σ1 μ1 H locs hw_235 hP hD hS => ?_)
              have hu_236 := hw_235
              obtain ⟨hu_236a, hu_236b⟩ := Prod.mk.inj hu_236
              rw [hu_236a, hu_236b] at hP hD
              subst hQ
              exact W.iret (v := x_234) hx hb hr (fun t1 ht hW => ⟨⟨x_234, (σ, I, J, ri, rj, rq), rfl, rfl, by rw [ht]; exact hP, va_K.moved hW.alike hK, hD⟩, hS.F ht⟩) hS.2.2 dX12_levelAt_188
            refine lv_if_eq (tgt := 148) hx hb dX12_levelAt_118 (by decide) (fun c_239 => ?_) (fun c_239 => absurd c_239 (by decide))
            exact K_231 _ _ _ hG hP hD hS (lv_sub hl [1, 2, 3, 4, 5, 6, 0] rfl)
          have K_240 : ∀  (H : Heap) (locs : List Loc) (ls : Array Slot), GM [] tg σ I ri I ri rq → va_P D vwCl (pq_P t σ (I, J, ri, rj, rq)) H → va_D A (pq_P t σ (I, J, ri, rj, rq)) → va_S A s.heap H locs → lv_has ls 9 [(0, .ref this), (1, .int a0), (3, .int a2), (5, .int x_16), (6, .int x_22), (7, .int 0)] → W p l e ({ frames := 1, cells := 0, slots := 0, locals := 26 } : Room) s m (List.toArray ([.ref this, .int a0, .int a1, .int a2] : List Value)) below meth c H locs 0 0 Q (F0 m 113 ls []) := by
            intro H locs ls hG hP hD hS hl
            refine lv_iconst (v := 0) hx hb dX12_levelAt_113 (by decide) ?_
            exact K_222 _ _ _ hG hP hD hS (lv_sub hl [0, 1, 2, 3, 4, 5] rfl)
          refine lv_if_lt (tgt := 113) hx hb dX12_levelAt_93 (by decide) (fun c_241 => ?_) (fun c_241 => ?_)
          · have tc_242 : (x_22).toInt < 0 := Int32.lt_iff_toInt_lt.mp c_241
            have h_243 : rg x_22 (-1) (-1) := rg_lt1 c_241 hr_26 (rg_k (0 : Int32) 0 rfl) (by decide)
            have uh_243 := h_243.1
            have vh_243 := h_243.2
            exact K_240 _ _ _ hG hP hD hS (lv_sub hl [1, 2, 3, 4, 5, 0] rfl)
          · have tc_244 : 0 ≤ (x_22).toInt := Int32.le_iff_toInt_le.mp (nlt c_241)
            have h_245 : rg x_22 0 2215 := rg_le2 (nlt c_241) (rg_k (0 : Int32) 0 rfl) hr_26 (by decide)
            have uh_245 := h_245.1
            have vh_245 := h_245.2
            refine lv_aload_n hx hb dX12_levelAt_96 rfl (lv_at hl 1 rfl) ?_
            refine pg_f (v := .ref w_9) (C := RX12) (T := TX12) (N := 31) hx hb hts (tw_i inlX12) hown hK hP hL_this hK_this (by decide) rfl 0 (by decide) (hts _ (tw_c tw_176)) (pq_hv rfl hR_w_9) dX12_levelAt_97 ?_
            refine lv_iload hx hb dX12_levelAt_100 (lv_at hl 5 rfl) ?_
            refine lv_iconst (v := 2) hx hb dX12_levelAt_102 (by decide) ?_
            refine lv_iadd hx hb dX12_levelAt_103 ?_
            refine lv_topi (fun x_246 ex_246 => ?_)
            have h_247 : rg x_246 2 2217 := rg_of_eq ex_246 (rg_add h_245 (rg_k (2 : Int32) 2 rfl) (by decide))
            have uh_247 := h_247.1
            have vh_247 := h_247.2
            have tx_246 : (x_246).toInt = (x_22).toInt + 2 := by rw [ex_246]; exact i_add_rg (a2 := (x_22).toInt) (b2 := 2) rfl rfl h_245 (rg_k (2 : Int32) 2 rfl) (by decide)
            refine pl_i hx hb hK hP hL_w_9 hK_w_9 hN_w_9 (rg_in h_247 (by decide)) dX12_levelAt_104 ?_
            refine lv_topi (fun x_248 ex_248 => ?_)
            refine lv_iconst (v := 1) hx hb dX12_levelAt_105 (by decide) ?_
            refine lv_icmp_ne (tgt := 113) hx hb dX12_levelAt_106 (by decide) (fun c_249 => ?_) (fun c_249 => ?_)
            · have tc_250 : (x_248).toInt ≠ 1 := fun q => c_249 (Int32.toInt_inj.mp q)
              exact K_240 _ _ _ hG hP hD hS (lv_sub hl [1, 2, 3, 4, 5, 0] rfl)
            · have tc_251 : (x_248).toInt = 1 := congrArg Int32.toInt c_249
              have h_252 : rg x_248 1 1 := rg_and (rg_full _) (rg_of_eq c_249 (rg_k (1 : Int32) 1 rfl)) (by decide)
              have uh_252 := h_252.1
              have vh_252 := h_252.2
              refine lv_iconst (v := 1) hx hb dX12_levelAt_109 (by decide) ?_
              refine lv_goto (tgt := 114) hx hb dX12_levelAt_110 (by decide) ?_
              exact K_206 _ _ _ (rg_w h_245 (by decide)) hG hP hD hS (lv_sub hl [1, 2, 3, 4, 5, 0] rfl)
        have K_253 : ∀  (H : Heap) (locs : List Loc) (ls : Array Slot), GM [] tg σ I ri I ri rq → va_P D vwCl (pq_P t σ (I, J, ri, rj, rq)) H → va_D A (pq_P t σ (I, J, ri, rj, rq)) → va_S A s.heap H locs → lv_has ls 9 [(0, .ref this), (1, .int a0), (3, .int a2), (5, .int x_16), (6, .int x_22)] → W p l e ({ frames := 1, cells := 0, slots := 0, locals := 26 } : Room) s m (List.toArray ([.ref this, .int a0, .int a1, .int a2] : List Value)) below meth c H locs 0 0 Q (F0 m 88 ls []) := by
          intro H locs ls hG hP hD hS hl
          refine lv_iconst (v := 0) hx hb dX12_levelAt_88 (by decide) ?_
          exact K_178 _ _ _ hG hP hD hS (lv_sub hl [0, 1, 2, 3, 4] rfl)
        refine lv_if_lt (tgt := 88) hx hb dX12_levelAt_68 (by decide) (fun c_254 => ?_) (fun c_254 => ?_)
        · have tc_255 : (x_16).toInt < 0 := Int32.lt_iff_toInt_lt.mp c_254
          have h_256 : rg x_16 (-1) (-1) := rg_lt1 c_254 hr_20 (rg_k (0 : Int32) 0 rfl) (by decide)
          have uh_256 := h_256.1
          have vh_256 := h_256.2
          exact K_253 _ _ _ hG hP hD hS (lv_sub hl [3, 4, 6, 1, 0] rfl)
        · have tc_257 : 0 ≤ (x_16).toInt := Int32.le_iff_toInt_le.mp (nlt c_254)
          have h_258 : rg x_16 0 2215 := rg_le2 (nlt c_254) (rg_k (0 : Int32) 0 rfl) hr_20 (by decide)
          have uh_258 := h_258.1
          have vh_258 := h_258.2
          refine lv_aload_n hx hb dX12_levelAt_71 rfl (lv_at hl 3 rfl) ?_
          refine pg_f (v := .ref w_9) (C := RX12) (T := TX12) (N := 31) hx hb hts (tw_i inlX12) hown hK hP hL_this hK_this (by decide) rfl 0 (by decide) (hts _ (tw_c tw_176)) (pq_hv rfl hR_w_9) dX12_levelAt_72 ?_
          refine lv_iload hx hb dX12_levelAt_75 (lv_at hl 1 rfl) ?_
          refine lv_iconst (v := 2) hx hb dX12_levelAt_77 (by decide) ?_
          refine lv_iadd hx hb dX12_levelAt_78 ?_
          refine lv_topi (fun x_259 ex_259 => ?_)
          have h_260 : rg x_259 2 2217 := rg_of_eq ex_259 (rg_add h_258 (rg_k (2 : Int32) 2 rfl) (by decide))
          have uh_260 := h_260.1
          have vh_260 := h_260.2
          have tx_259 : (x_259).toInt = (x_16).toInt + 2 := by rw [ex_259]; exact i_add_rg (a2 := (x_16).toInt) (b2 := 2) rfl rfl h_258 (rg_k (2 : Int32) 2 rfl) (by decide)
          refine pl_i hx hb hK hP hL_w_9 hK_w_9 hN_w_9 (rg_in h_260 (by decide)) dX12_levelAt_79 ?_
          refine lv_topi (fun x_261 ex_261 => ?_)
          refine lv_iconst (v := 1) hx hb dX12_levelAt_80 (by decide) ?_
          refine lv_icmp_ne (tgt := 88) hx hb dX12_levelAt_81 (by decide) (fun c_262 => ?_) (fun c_262 => ?_)
          · have tc_263 : (x_261).toInt ≠ 1 := fun q => c_262 (Int32.toInt_inj.mp q)
            exact K_253 _ _ _ hG hP hD hS (lv_sub hl [3, 4, 6, 1, 0] rfl)
          · have tc_264 : (x_261).toInt = 1 := congrArg Int32.toInt c_262
            have h_265 : rg x_261 1 1 := rg_and (rg_full _) (rg_of_eq c_262 (rg_k (1 : Int32) 1 rfl)) (by decide)
            have uh_265 := h_265.1
            have vh_265 := h_265.2
            refine lv_iconst (v := 1) hx hb dX12_levelAt_84 (by decide) ?_
            refine lv_goto (tgt := 89) hx hb dX12_levelAt_85 (by decide) ?_
            exact K_96 _ _ _ (rg_w h_258 (by decide)) hG hP hD hS (lv_sub hl [3, 4, 6, 1, 0] rfl)
      · have tc_266 : (x_12).toInt = 1 := congrArg Int32.toInt c_13
        have h_267 : rg x_12 1 1 := rg_and (rg_full _) (rg_of_eq c_13 (rg_k (1 : Int32) 1 rfl)) (by decide)
        have uh_267 := h_267.1
        have vh_267 := h_267.2
        refine lv_aload_n hx hb dX12_levelAt_34 rfl (lv_at hl 1 rfl) ?_
        refine pg_f (v := .ref w_9) (C := RX12) (T := TX12) (N := 31) hx hb hts (tw_i inlX12) hown hK hP hL_this hK_this (by decide) rfl 0 (by decide) (hts _ (tw_c tw_176)) (pq_hv rfl hR_w_9) dX12_levelAt_35 ?_
        refine lv_iload hx hb dX12_levelAt_38 (lv_at hl 0 rfl) ?_
        refine lv_iconst (v := 3) hx hb dX12_levelAt_40 (by decide) ?_
        refine lv_iadd hx hb dX12_levelAt_41 ?_
        refine lv_topi (fun x_268 ex_268 => ?_)
        have h_269 : rg x_268 3 2218 := rg_of_eq ex_268 (rg_add h_8 (rg_k (3 : Int32) 3 rfl) (by decide))
        have uh_269 := h_269.1
        have vh_269 := h_269.2
        have tx_268 : (x_268).toInt = (x_1).toInt + 3 := by rw [ex_268]; exact i_add_rg (a2 := (x_1).toInt) (b2 := 3) rfl rfl h_8 (rg_k (3 : Int32) 3 rfl) (by decide)
        refine pl_i hx hb hK hP hL_w_9 hK_w_9 hN_w_9 (rg_in h_269 (by decide)) dX12_levelAt_42 ?_
        refine lv_topi (fun x_270 ex_270 => ?_)
        subst hQ
        exact W.iret (v := x_270) hx hb hr (fun t1 ht hW => ⟨⟨x_270, (σ, I, J, ri, rj, rq), rfl, rfl, by rw [ht]; exact hP, va_K.moved hW.alike hK, hD⟩, hS.F ht⟩) hS.2.2 dX12_levelAt_43
    · have tc_271 : (x_1).toInt < 0 := Int32.lt_iff_toInt_lt.mp (nle c_6)
      have h_272 : rg x_1 (-1) (-1) := rg_lt1 (nle c_6) hr_5 (rg_k (0 : Int32) 0 rfl) (by decide)
      have uh_272 := h_272.1
      have vh_272 := h_272.2
      refine lv_aload_n hx hb dX12_levelAt_14 rfl (lv_at hl 1 rfl) ?_
      refine lv_iload_n hx hb dX12_levelAt_15 rfl (lv_at hl 2 rfl) ?_
      refine lv_iload_n hx hb dX12_levelAt_16 rfl (lv_at hl 4 rfl) ?_
      refine pk_i (va_runV (As := [.int a0, .int a2]) (rest := []) ⟨hx, hb, hml, hown, hts⟩ (s_X12_worst l D t σ I J ri rj rq H.size tg hSH hG.1 this a0 a2 hL_this hK_this) (cwV 2 hts (tw_V tw_297 tw_298 tw_299 tw_5 tw_300) rfl rfl rfl cv_yX12_worst_2 ⟨Nat.le_of_ble_eq_true rfl, Nat.le_of_ble_eq_true rfl⟩) ⟨pq_blind, pq_recv hK hP hL_this hK_this (by decide) rfl, pq_pre hK hN hP hD⟩ rfl rfl hl.1 rfl (lv_room (Nat.le_of_ble_eq_true rfl)) dX12_levelAt_17 ⟨Nat.le_of_ble_eq_true rfl, Nat.le_of_ble_eq_true rfl⟩) hD hS hA (fun x_273 σ1 μ1 H locs hw_274 hP hD hS => ?_)
      have hu_275 := hw_274
      obtain ⟨hu_275a, hu_275b⟩ := Prod.mk.inj hu_275
      rw [hu_275a, hu_275b] at hP hD
      subst hQ
      exact W.iret (v := x_273) hx hb hr (fun t1 ht hW => ⟨⟨x_273, (σ, I, J, ri, rj, rq), rfl, rfl, by rw [ht]; exact hP, va_K.moved hW.alike hK, hD⟩, hS.F ht⟩) hS.2.2 dX12_levelAt_20
  exact go _ _ _ hP hD hS hl

set_option maxHeartbeats 4000000 in
set_option maxRecDepth 100000 in
theorem s_X12_levelOf (l : Launch) (D : va_G) (t : pq_T) (σ : pq_S) (I : Nat → Nat → Int32) (J : Nat → Nat → Int64) (ri : Nat → Nat → Int32) (rj : Nat → Nat → Int64) (rq : Nat → Nat → Option Nat) (sz : Nat) (tg : Nat → Nat) (hSH : SH σ tg) (hG0 : GT tg I ri) (this : Nat) (a0 : Int32) (a1 : Int32) (a2 : Int32) (hL_this : this ∈ σ.1) (hK_this : σ.2.1 this = 12) : MetI l yX12_levelOf (wa yX12_levelOf cX12_levelOf 4 (some .int)) ({ frames := 2, cells := 0, slots := 0, locals := 54 }) [.ref this, .int a0, .int a1, .int a2] D t σ (I, J, ri, rj, rq) sz 0 0 (fun (r : Int32) (u : pq_S × pq_M) => u = (σ, I, J, ri, rj, rq)) := by
  refine Met.ofW (cc := cX12_levelOf) (maxL := 4) (ret := (some .int)) (by decide) rfl ?_
  intro p e s m args below meth c s₁ B hml hv
  obtain ⟨rfl, hsz, hP, hK, hD0, hN⟩ := hv
  have hx := B.exec
  have hb := B.bytes
  have hr := B.returns
  have hts := atoms_spec (ws := (wa yX12_levelOf cX12_levelOf 4 (some .int))) B.pre
  have hown : s.vm.findClass RX12 = some m.cls := findClass_of_methodNamed B.named
  have hlocks := B.notSynchronized
  subst hsz
  have hD : va_D (pq_B t σ (I, J, ri, rj, rq) s.heap.size) (pq_P t σ (I, J, ri, rj, rq)) := hD0.self
  generalize hAe : pq_B t σ (I, J, ri, rj, rq) s.heap.size = A at hD ⊢
  have hA : ∀ q : Nat, s.heap.size ≤ q → A q := fun q h => by rw [← hAe]; exact Or.inr h
  have hS : va_S A s.heap s.heap [] := va_S.rf
  have hG : GM [] tg σ I ri I ri rq := ⟨hG0, fun _ _ _ => rfl, fun _ _ _ _ _ => rfl, fun _ _ _ _ _ _ => rfl⟩
  have hl := lv_entry ([.ref this, .int a0, .int a1, .int a2]) (n := 4) (Nat.le_of_ble_eq_true rfl)
  rw [lg_entry_eq]
  generalize (lg_sl ([.ref this, .int a0, .int a1, .int a2]) ++ List.replicate (4 - (lg_sl ([.ref this, .int a0, .int a1, .int a2])).length) Slot.unset).toArray = ls at hl ⊢
  have hl : lv_has ls 4 [(0, .ref this), (1, .int a0), (2, .int a1), (3, .int a2)] := hl
  refine q_gen (fun Q hQ => ?_)
  have go : ∀ (H : Heap) (locs : List Loc) (ls : Array Slot), va_P D vwCl (pq_P t σ (I, J, ri, rj, rq)) H → va_D A (pq_P t σ (I, J, ri, rj, rq)) → va_S A s.heap H locs → lv_has ls 4 [(0, .ref this), (1, .int a0), (2, .int a1), (3, .int a2)] → W p l e ({ frames := 2, cells := 0, slots := 0, locals := 54 } : Room) s m (List.toArray ([.ref this, .int a0, .int a1, .int a2] : List Value)) below meth c H locs 0 0 Q (F0 m 0 ls []) := by
    intro H locs ls hP hD hS hl
    refine lv_iload_n hx hb dX12_levelOf_0 rfl (lv_at hl 1 rfl) ?_
    refine pk_i (va_runS (As := [.int a0]) (rest := []) ⟨hx, hb, hml, hown, hts⟩ (s_X12_isRise l D t σ I J ri rj rq H.size tg hSH hG.1 a0) (va_cwS 1 hts (tw_S tw_259 tw_260 tw_5 tw_261) rfl rfl rfl cd_yX12_isRise_1 ⟨Nat.le_of_ble_eq_true rfl, Nat.le_of_ble_eq_true rfl⟩) ⟨pq_blind, pq_pre hK hN hP hD⟩ rfl rfl hl.1 rfl (lv_room (Nat.le_of_ble_eq_true rfl)) dX12_levelOf_1 ⟨Nat.le_of_ble_eq_true rfl, Nat.le_of_ble_eq_true rfl⟩) hD hS hA (fun x_1 σ1 μ1 H locs hw_2 hP hD hS => ?_)
    obtain ⟨hu_3, hr_5⟩ := hw_2
    obtain ⟨hu_3a, hu_3b⟩ := Prod.mk.inj hu_3
    rw [hu_3a, hu_3b] at hP hD
    have h_6 : rg x_1 0 1 := by rcases hr_5 with ⟨q, -⟩ | ⟨q, -⟩ <;> rw [q] <;> exact ⟨by decide, by decide⟩
    have uh_6 := h_6.1
    have vh_6 := h_6.2
    have K_50 : ∀  (H : Heap) (locs : List Loc) (ls : Array Slot), GM [] tg σ I ri I ri rq → va_P D vwCl (pq_P t σ (I, J, ri, rj, rq)) H → va_D A (pq_P t σ (I, J, ri, rj, rq)) → va_S A s.heap H locs → lv_has ls 4 [] → W p l e ({ frames := 2, cells := 0, slots := 0, locals := 54 } : Room) s m (List.toArray ([.ref this, .int a0, .int a1, .int a2] : List Value)) below meth c H locs 0 0 Q (F0 m 35 ls []) := by
      intro H locs ls hG hP hD hS hl
      refine lv_ldc hx hb hown (hts _ (tw_c tw_288)) dX12_levelOf_35 ?_
      subst hQ
      exact W.iret (v := (-1000000)) hx hb hr (fun t1 ht hW => ⟨⟨(-1000000), (σ, I, J, ri, rj, rq), rfl, rfl, by rw [ht]; exact hP, va_K.moved hW.alike hK, hD⟩, hS.F ht⟩) hS.2.2 dX12_levelOf_37
    refine lv_if_eq (tgt := 35) hx hb dX12_levelOf_4 (by decide) (fun c_51 => ?_) (fun c_51 => ?_)
    · have f_52 := (hr_5.resolve_left (fun q => absurd (q.1.symm.trans c_51) (by decide))).2
      have tc_53 : (x_1).toInt = 0 := congrArg Int32.toInt c_51
      have h_54 : rg x_1 0 0 := rg_and h_6 (rg_of_eq c_51 (rg_k (0 : Int32) 0 rfl)) (by decide)
      have uh_54 := h_54.1
      have vh_54 := h_54.2
      exact K_50 _ _ _ hG hP hD hS (lv_sub hl [] rfl)
    · have f_55 := (hr_5.resolve_right (fun q => c_51 q.1)).2
      have uf_55 := f_55.1
      have vf_55 := f_55.2
      have tc_56 : (x_1).toInt ≠ 0 := fun q => c_51 (Int32.toInt_inj.mp q)
      have h_57 : rg x_1 1 1 := rg_ne c_51 h_6 0 rfl (by decide)
      have uh_57 := h_57.1
      have vh_57 := h_57.2
      refine lv_iload_n hx hb dX12_levelOf_7 rfl (lv_at hl 2 rfl) ?_
      refine pk_i (va_runS (As := [.int a1]) (rest := []) ⟨hx, hb, hml, hown, hts⟩ (s_X12_isMonth l D t σ I J ri rj rq H.size tg hSH hG.1 a1) (va_cwS 1 hts (tw_S tw_262 tw_263 tw_5 tw_264) rfl rfl rfl cd_yX12_isMonth_1 ⟨Nat.le_of_ble_eq_true rfl, Nat.le_of_ble_eq_true rfl⟩) ⟨pq_blind, pq_pre hK hN hP hD⟩ rfl rfl hl.1 rfl (lv_room (Nat.le_of_ble_eq_true rfl)) dX12_levelOf_8 ⟨Nat.le_of_ble_eq_true rfl, Nat.le_of_ble_eq_true rfl⟩) hD hS hA (fun x_58 σ1 μ1 H locs hw_59 hP hD hS => ?_)
      obtain ⟨hu_60, hr_62⟩ := hw_59
      obtain ⟨hu_60a, hu_60b⟩ := Prod.mk.inj hu_60
      rw [hu_60a, hu_60b] at hP hD
      have h_63 : rg x_58 0 1 := by rcases hr_62 with ⟨q, -⟩ | ⟨q, -⟩ <;> rw [q] <;> exact ⟨by decide, by decide⟩
      have uh_63 := h_63.1
      have vh_63 := h_63.2
      refine lv_if_eq (tgt := 35) hx hb dX12_levelOf_11 (by decide) (fun c_64 => ?_) (fun c_64 => ?_)
      · have f_65 := (hr_62.resolve_left (fun q => absurd (q.1.symm.trans c_64) (by decide))).2
        have tc_66 : (x_58).toInt = 0 := congrArg Int32.toInt c_64
        have h_67 : rg x_58 0 0 := rg_and h_63 (rg_of_eq c_64 (rg_k (0 : Int32) 0 rfl)) (by decide)
        have uh_67 := h_67.1
        have vh_67 := h_67.2
        exact K_50 _ _ _ hG hP hD hS (lv_sub hl [] rfl)
      · have f_68 := (hr_62.resolve_right (fun q => c_64 q.1)).2
        have uf_68 := f_68.1
        have vf_68 := f_68.2
        have tc_69 : (x_58).toInt ≠ 0 := fun q => c_64 (Int32.toInt_inj.mp q)
        have h_70 : rg x_58 1 1 := rg_ne c_64 h_63 0 rfl (by decide)
        have uh_70 := h_70.1
        have vh_70 := h_70.2
        refine lv_iload_n hx hb dX12_levelOf_14 rfl (lv_at hl 3 rfl) ?_
        refine lv_iconst (v := 0) hx hb dX12_levelOf_15 (by decide) ?_
        refine lv_sipush (v := 600) hx hb dX12_levelOf_16 (by decide) ?_
        refine pk_i (va_runS (As := [.int a2, .int 0, .int 600]) (rest := []) ⟨hx, hb, hml, hown, hts⟩ (s_X12_isIn l D t σ I J ri rj rq H.size tg hSH hG.1 a2 (0 : Int32) (600 : Int32)) (va_cwS 3 hts (tw_S tw_235 tw_236 tw_5 tw_237) rfl rfl rfl cd_yX12_isIn_3 ⟨Nat.le_of_ble_eq_true rfl, Nat.le_of_ble_eq_true rfl⟩) ⟨pq_blind, pq_pre hK hN hP hD⟩ rfl rfl hl.1 rfl (lv_room (Nat.le_of_ble_eq_true rfl)) dX12_levelOf_19 ⟨Nat.le_of_ble_eq_true rfl, Nat.le_of_ble_eq_true rfl⟩) hD hS hA (fun x_71 σ1 μ1 H locs hw_72 hP hD hS => ?_)
        obtain ⟨hu_73, hr_75⟩ := hw_72
        obtain ⟨hu_73a, hu_73b⟩ := Prod.mk.inj hu_73
        rw [hu_73a, hu_73b] at hP hD
        have h_76 : rg x_71 0 1 := by rcases hr_75 with ⟨q, -⟩ | ⟨q, -⟩ <;> rw [q] <;> exact ⟨by decide, by decide⟩
        have uh_76 := h_76.1
        have vh_76 := h_76.2
        refine lv_if_eq (tgt := 35) hx hb dX12_levelOf_22 (by decide) (fun c_77 => ?_) (fun c_77 => ?_)
        · have f_78 := (hr_75.resolve_left (fun q => absurd (q.1.symm.trans c_77) (by decide))).2
          have tc_79 : (x_71).toInt = 0 := congrArg Int32.toInt c_77
          have h_80 : rg x_71 0 0 := rg_and h_76 (rg_of_eq c_77 (rg_k (0 : Int32) 0 rfl)) (by decide)
          have uh_80 := h_80.1
          have vh_80 := h_80.2
          exact K_50 _ _ _ hG hP hD hS (lv_sub hl [] rfl)
        · obtain ⟨f_81, f_82⟩ := (hr_75.resolve_right (fun q => c_77 q.1)).2
          have tc_83 : 0 ≤ (a2).toInt := Int32.le_iff_toInt_le.mp f_81
          have h_84 : rg a2 0 2147483647 := rg_le2 f_81 (rg_k (0 : Int32) 0 rfl) (rg_full _) (by decide)
          have uh_84 := h_84.1
          have vh_84 := h_84.2
          have tc_85 : (a2).toInt ≤ 600 := Int32.le_iff_toInt_le.mp f_82
          have h_86 : rg a2 0 600 := rg_le1 f_82 h_84 (rg_k (600 : Int32) 600 rfl) (by decide)
          have uh_86 := h_86.1
          have vh_86 := h_86.2
          have tc_87 : (x_71).toInt ≠ 0 := fun q => c_77 (Int32.toInt_inj.mp q)
          have h_88 : rg x_71 1 1 := rg_ne c_77 h_76 0 rfl (by decide)
          have uh_88 := h_88.1
          have vh_88 := h_88.2
          refine lv_aload_n hx hb dX12_levelOf_25 rfl (lv_at hl 0 rfl) ?_
          refine lv_iload_n hx hb dX12_levelOf_26 rfl (lv_at hl 1 rfl) ?_
          refine lv_iload_n hx hb dX12_levelOf_27 rfl (lv_at hl 2 rfl) ?_
          refine lv_iload_n hx hb dX12_levelOf_28 rfl (lv_at hl 3 rfl) ?_
          refine pk_i (va_runV (As := [.int a0, .int a1, .int a2]) (rest := []) ⟨hx, hb, hml, hown, hts⟩ (s_X12_levelAt l D t σ I J ri rj rq H.size tg hSH hG.1 this a0 a1 a2 hL_this hK_this) (cwV 3 hts (tw_V tw_289 tw_290 tw_291 tw_5 tw_292) rfl rfl rfl cv_yX12_levelAt_3 ⟨Nat.le_of_ble_eq_true rfl, Nat.le_of_ble_eq_true rfl⟩) ⟨pq_blind, pq_recv hK hP hL_this hK_this (by decide) rfl, pq_pre hK hN hP hD⟩ rfl rfl hl.1 rfl (lv_room (Nat.le_of_ble_eq_true rfl)) dX12_levelOf_29 ⟨Nat.le_of_ble_eq_true rfl, Nat.le_of_ble_eq_true rfl⟩) hD hS hA (fun x_89 σ1 μ1 H locs hw_90 hP hD hS => ?_)
          have hu_91 := hw_90
          obtain ⟨hu_91a, hu_91b⟩ := Prod.mk.inj hu_91
          rw [hu_91a, hu_91b] at hP hD
          refine lv_goto (tgt := 37) hx hb dX12_levelOf_32 (by decide) ?_
          subst hQ
          exact W.iret (v := x_89) hx hb hr (fun t1 ht hW => ⟨⟨x_89, (σ, I, J, ri, rj, rq), rfl, rfl, by rw [ht]; exact hP, va_K.moved hW.alike hK, hD⟩, hS.F ht⟩) hS.2.2 dX12_levelOf_37
  exact go _ _ _ hP hD hS hl

set_option maxHeartbeats 4000000 in
set_option maxRecDepth 100000 in
theorem s_X12_table (l : Launch) (D : va_G) (t : pq_T) (σ : pq_S) (I : Nat → Nat → Int32) (J : Nat → Nat → Int64) (ri : Nat → Nat → Int32) (rj : Nat → Nat → Int64) (rq : Nat → Nat → Option Nat) (sz : Nat) (tg : Nat → Nat) (hSH : SH σ tg) (hG0 : GT tg I ri) (this : Nat) (a0 : Int32) (a1 : Int32) (a2 : Int32) (a3 : Int32) (a4 : Int32) (a5 : Int32) (hL_this : this ∈ σ.1) (hK_this : σ.2.1 this = 12) : MetI l yX12_table (wa yX12_table cX12_table 8 (some .boolean)) ({ frames := 1, cells := 0, slots := 0, locals := 22 }) [.ref this, .int a0, .int a1, .int a2, .int a3, .int a4, .int a5] D t σ (I, J, ri, rj, rq) sz 0 0 (fun (r : Int32) (u : pq_S × pq_M) => ∃ ri' : Nat → Nat → Int32, u = (σ, I, J, ri', rj, rq) ∧ GM [1100, 1101, 1102, 1103, 1104] tg σ I ri I ri' rq ∧ ((r = 1 ∧ rg a0 0 11 ∧ rg a1 0 2000 ∧ rg a2 0 2000 ∧ rg a3 0 40 ∧ rg a4 0 50 ∧ rg a5 0 100) ∨ (r = 0 ∧ True))) := by
  refine Met.ofW (cc := cX12_table) (maxL := 8) (ret := (some .boolean)) (by decide) rfl ?_
  intro p e s m args below meth c s₁ B hml hv
  obtain ⟨rfl, hsz, hP, hK, hD0, hN⟩ := hv
  have hx := B.exec
  have hb := B.bytes
  have hr := B.returns
  have hts := atoms_spec (ws := (wa yX12_table cX12_table 8 (some .boolean))) B.pre
  have hown : s.vm.findClass RX12 = some m.cls := findClass_of_methodNamed B.named
  have hlocks := B.notSynchronized
  subst hsz
  have hD : va_D (pq_B t σ (I, J, ri, rj, rq) s.heap.size) (pq_P t σ (I, J, ri, rj, rq)) := hD0.self
  generalize hAe : pq_B t σ (I, J, ri, rj, rq) s.heap.size = A at hD ⊢
  have hA : ∀ q : Nat, s.heap.size ≤ q → A q := fun q h => by rw [← hAe]; exact Or.inr h
  have hS : va_S A s.heap s.heap [] := va_S.rf
  have hG : GM [1100, 1101, 1102, 1103, 1104] tg σ I ri I ri rq := ⟨hG0, fun _ _ _ => rfl, fun _ _ _ _ _ => rfl, fun _ _ _ _ _ _ => rfl⟩
  have hl := lv_entry ([.ref this, .int a0, .int a1, .int a2, .int a3, .int a4, .int a5]) (n := 8) (Nat.le_of_ble_eq_true rfl)
  rw [lg_entry_eq]
  generalize (lg_sl ([.ref this, .int a0, .int a1, .int a2, .int a3, .int a4, .int a5]) ++ List.replicate (8 - (lg_sl ([.ref this, .int a0, .int a1, .int a2, .int a3, .int a4, .int a5])).length) Slot.unset).toArray = ls at hl ⊢
  have hl : lv_has ls 8 [(0, .ref this), (1, .int a0), (2, .int a1), (3, .int a2), (4, .int a3), (5, .int a4), (6, .int a5)] := hl
  refine q_gen (fun Q hQ => ?_)
  have go : ∀ (H : Heap) (locs : List Loc) (ls : Array Slot), va_P D vwCl (pq_P t σ (I, J, ri, rj, rq)) H → va_D A (pq_P t σ (I, J, ri, rj, rq)) → va_S A s.heap H locs → lv_has ls 8 [(0, .ref this), (1, .int a0), (2, .int a1), (3, .int a2), (4, .int a3), (5, .int a4), (6, .int a5)] → W p l e ({ frames := 1, cells := 0, slots := 0, locals := 22 } : Room) s m (List.toArray ([.ref this, .int a0, .int a1, .int a2, .int a3, .int a4, .int a5] : List Value)) below meth c H locs 0 0 Q (F0 m 0 ls []) := by
    intro H locs ls hP hD hS hl
    refine lv_iload_n hx hb dX12_table_0 rfl (lv_at hl 1 rfl) ?_
    refine lv_iconst (v := 0) hx hb dX12_table_1 (by decide) ?_
    refine lv_bipush (v := 11) hx hb dX12_table_2 (by decide) ?_
    refine pk_i (va_runS (As := [.int a0, .int 0, .int 11]) (rest := []) ⟨hx, hb, hml, hown, hts⟩ (s_X12_isIn l D t σ I J ri rj rq H.size tg hSH hG.1 a0 (0 : Int32) (11 : Int32)) (va_cwS 3 hts (tw_S tw_235 tw_236 tw_5 tw_237) rfl rfl rfl cd_yX12_isIn_3 ⟨Nat.le_of_ble_eq_true rfl, Nat.le_of_ble_eq_true rfl⟩) ⟨pq_blind, pq_pre hK hN hP hD⟩ rfl rfl hl.1 rfl (lv_room (Nat.le_of_ble_eq_true rfl)) dX12_table_4 ⟨Nat.le_of_ble_eq_true rfl, Nat.le_of_ble_eq_true rfl⟩) hD hS hA (fun x_1 σ1 μ1 H locs hw_2 hP hD hS => ?_)
    obtain ⟨hu_3, hr_5⟩ := hw_2
    obtain ⟨hu_3a, hu_3b⟩ := Prod.mk.inj hu_3
    rw [hu_3a, hu_3b] at hP hD
    have h_6 : rg x_1 0 1 := by rcases hr_5 with ⟨q, -⟩ | ⟨q, -⟩ <;> rw [q] <;> exact ⟨by decide, by decide⟩
    have uh_6 := h_6.1
    have vh_6 := h_6.2
    have K_129 : ∀  (H : Heap) (locs : List Loc) (ls : Array Slot), GM [1100, 1101, 1102, 1103, 1104] tg σ I ri I ri rq → va_P D vwCl (pq_P t σ (I, J, ri, rj, rq)) H → va_D A (pq_P t σ (I, J, ri, rj, rq)) → va_S A s.heap H locs → lv_has ls 8 [] → W p l e ({ frames := 1, cells := 0, slots := 0, locals := 22 } : Room) s m (List.toArray ([.ref this, .int a0, .int a1, .int a2, .int a3, .int a4, .int a5] : List Value)) below meth c H locs 0 0 Q (F0 m 65 ls []) := by
      intro H locs ls hG hP hD hS hl
      refine lv_iconst (v := 0) hx hb dX12_table_65 (by decide) ?_
      subst hQ
      exact W.zret (v := 0) hx hb hr (by decide) (fun t1 ht hW => ⟨⟨0, (σ, I, J, ri, rj, rq), rfl, ⟨ri, rfl, hG, (Or.inr ⟨rfl, trivial⟩)⟩, by rw [ht]; exact hP, va_K.moved hW.alike hK, hD⟩, hS.F ht⟩) hS.2.2 dX12_table_66
    refine lv_if_eq (tgt := 65) hx hb dX12_table_7 (by decide) (fun c_130 => ?_) (fun c_130 => ?_)
    · have f_131 := (hr_5.resolve_left (fun q => absurd (q.1.symm.trans c_130) (by decide))).2
      have tc_132 : (x_1).toInt = 0 := congrArg Int32.toInt c_130
      have h_133 : rg x_1 0 0 := rg_and h_6 (rg_of_eq c_130 (rg_k (0 : Int32) 0 rfl)) (by decide)
      have uh_133 := h_133.1
      have vh_133 := h_133.2
      exact K_129 _ _ _ hG hP hD hS (lv_sub hl [] rfl)
    · obtain ⟨f_134, f_135⟩ := (hr_5.resolve_right (fun q => c_130 q.1)).2
      have tc_136 : 0 ≤ (a0).toInt := Int32.le_iff_toInt_le.mp f_134
      have h_137 : rg a0 0 2147483647 := rg_le2 f_134 (rg_k (0 : Int32) 0 rfl) (rg_full _) (by decide)
      have uh_137 := h_137.1
      have vh_137 := h_137.2
      have tc_138 : (a0).toInt ≤ 11 := Int32.le_iff_toInt_le.mp f_135
      have h_139 : rg a0 0 11 := rg_le1 f_135 h_137 (rg_k (11 : Int32) 11 rfl) (by decide)
      have uh_139 := h_139.1
      have vh_139 := h_139.2
      have tc_140 : (x_1).toInt ≠ 0 := fun q => c_130 (Int32.toInt_inj.mp q)
      have h_141 : rg x_1 1 1 := rg_ne c_130 h_6 0 rfl (by decide)
      have uh_141 := h_141.1
      have vh_141 := h_141.2
      refine lv_iload_n hx hb dX12_table_10 rfl (lv_at hl 2 rfl) ?_
      refine lv_iconst (v := 0) hx hb dX12_table_11 (by decide) ?_
      refine lv_sipush (v := 2000) hx hb dX12_table_12 (by decide) ?_
      refine pk_i (va_runS (As := [.int a1, .int 0, .int 2000]) (rest := []) ⟨hx, hb, hml, hown, hts⟩ (s_X12_isIn l D t σ I J ri rj rq H.size tg hSH hG.1 a1 (0 : Int32) (2000 : Int32)) (va_cwS 3 hts (tw_S tw_235 tw_236 tw_5 tw_237) rfl rfl rfl cd_yX12_isIn_3 ⟨Nat.le_of_ble_eq_true rfl, Nat.le_of_ble_eq_true rfl⟩) ⟨pq_blind, pq_pre hK hN hP hD⟩ rfl rfl hl.1 rfl (lv_room (Nat.le_of_ble_eq_true rfl)) dX12_table_15 ⟨Nat.le_of_ble_eq_true rfl, Nat.le_of_ble_eq_true rfl⟩) hD hS hA (fun x_142 σ1 μ1 H locs hw_143 hP hD hS => ?_)
      obtain ⟨hu_144, hr_146⟩ := hw_143
      obtain ⟨hu_144a, hu_144b⟩ := Prod.mk.inj hu_144
      rw [hu_144a, hu_144b] at hP hD
      have h_147 : rg x_142 0 1 := by rcases hr_146 with ⟨q, -⟩ | ⟨q, -⟩ <;> rw [q] <;> exact ⟨by decide, by decide⟩
      have uh_147 := h_147.1
      have vh_147 := h_147.2
      refine lv_if_eq (tgt := 65) hx hb dX12_table_18 (by decide) (fun c_148 => ?_) (fun c_148 => ?_)
      · have f_149 := (hr_146.resolve_left (fun q => absurd (q.1.symm.trans c_148) (by decide))).2
        have tc_150 : (x_142).toInt = 0 := congrArg Int32.toInt c_148
        have h_151 : rg x_142 0 0 := rg_and h_147 (rg_of_eq c_148 (rg_k (0 : Int32) 0 rfl)) (by decide)
        have uh_151 := h_151.1
        have vh_151 := h_151.2
        exact K_129 _ _ _ hG hP hD hS (lv_sub hl [] rfl)
      · obtain ⟨f_152, f_153⟩ := (hr_146.resolve_right (fun q => c_148 q.1)).2
        have tc_154 : 0 ≤ (a1).toInt := Int32.le_iff_toInt_le.mp f_152
        have h_155 : rg a1 0 2147483647 := rg_le2 f_152 (rg_k (0 : Int32) 0 rfl) (rg_full _) (by decide)
        have uh_155 := h_155.1
        have vh_155 := h_155.2
        have tc_156 : (a1).toInt ≤ 2000 := Int32.le_iff_toInt_le.mp f_153
        have h_157 : rg a1 0 2000 := rg_le1 f_153 h_155 (rg_k (2000 : Int32) 2000 rfl) (by decide)
        have uh_157 := h_157.1
        have vh_157 := h_157.2
        have tc_158 : (x_142).toInt ≠ 0 := fun q => c_148 (Int32.toInt_inj.mp q)
        have h_159 : rg x_142 1 1 := rg_ne c_148 h_147 0 rfl (by decide)
        have uh_159 := h_159.1
        have vh_159 := h_159.2
        refine lv_iload_n hx hb dX12_table_21 rfl (lv_at hl 3 rfl) ?_
        refine lv_iload_n hx hb dX12_table_22 rfl (lv_at hl 2 rfl) ?_
        refine lv_sipush (v := 2000) hx hb dX12_table_23 (by decide) ?_
        refine pk_i (va_runS (As := [.int a2, .int a1, .int 2000]) (rest := []) ⟨hx, hb, hml, hown, hts⟩ (s_X12_isIn l D t σ I J ri rj rq H.size tg hSH hG.1 a2 a1 (2000 : Int32)) (va_cwS 3 hts (tw_S tw_235 tw_236 tw_5 tw_237) rfl rfl rfl cd_yX12_isIn_3 ⟨Nat.le_of_ble_eq_true rfl, Nat.le_of_ble_eq_true rfl⟩) ⟨pq_blind, pq_pre hK hN hP hD⟩ rfl rfl hl.1 rfl (lv_room (Nat.le_of_ble_eq_true rfl)) dX12_table_26 ⟨Nat.le_of_ble_eq_true rfl, Nat.le_of_ble_eq_true rfl⟩) hD hS hA (fun x_160 σ1 μ1 H locs hw_161 hP hD hS => ?_)
        obtain ⟨hu_162, hr_164⟩ := hw_161
        obtain ⟨hu_162a, hu_162b⟩ := Prod.mk.inj hu_162
        rw [hu_162a, hu_162b] at hP hD
        have h_165 : rg x_160 0 1 := by rcases hr_164 with ⟨q, -⟩ | ⟨q, -⟩ <;> rw [q] <;> exact ⟨by decide, by decide⟩
        have uh_165 := h_165.1
        have vh_165 := h_165.2
        refine lv_if_eq (tgt := 65) hx hb dX12_table_29 (by decide) (fun c_166 => ?_) (fun c_166 => ?_)
        · have f_167 := (hr_164.resolve_left (fun q => absurd (q.1.symm.trans c_166) (by decide))).2
          have tc_168 : (x_160).toInt = 0 := congrArg Int32.toInt c_166
          have h_169 : rg x_160 0 0 := rg_and h_165 (rg_of_eq c_166 (rg_k (0 : Int32) 0 rfl)) (by decide)
          have uh_169 := h_169.1
          have vh_169 := h_169.2
          exact K_129 _ _ _ hG hP hD hS (lv_sub hl [] rfl)
        · obtain ⟨f_170, f_171⟩ := (hr_164.resolve_right (fun q => c_166 q.1)).2
          have tc_172 : (a1).toInt ≤ (a2).toInt := Int32.le_iff_toInt_le.mp f_170
          have h_173 : rg a2 0 2147483647 := rg_le2 f_170 h_157 (rg_full _) (by decide)
          have uh_173 := h_173.1
          have vh_173 := h_173.2
          have tc_174 : (a2).toInt ≤ 2000 := Int32.le_iff_toInt_le.mp f_171
          have h_175 : rg a2 0 2000 := rg_le1 f_171 h_173 (rg_k (2000 : Int32) 2000 rfl) (by decide)
          have uh_175 := h_175.1
          have vh_175 := h_175.2
          have tc_176 : (x_160).toInt ≠ 0 := fun q => c_166 (Int32.toInt_inj.mp q)
          have h_177 : rg x_160 1 1 := rg_ne c_166 h_165 0 rfl (by decide)
          have uh_177 := h_177.1
          have vh_177 := h_177.2
          refine lv_iload hx hb dX12_table_32 (lv_at hl 4 rfl) ?_
          refine lv_iconst (v := 0) hx hb dX12_table_34 (by decide) ?_
          refine lv_bipush (v := 40) hx hb dX12_table_35 (by decide) ?_
          refine pk_i (va_runS (As := [.int a3, .int 0, .int 40]) (rest := []) ⟨hx, hb, hml, hown, hts⟩ (s_X12_isIn l D t σ I J ri rj rq H.size tg hSH hG.1 a3 (0 : Int32) (40 : Int32)) (va_cwS 3 hts (tw_S tw_235 tw_236 tw_5 tw_237) rfl rfl rfl cd_yX12_isIn_3 ⟨Nat.le_of_ble_eq_true rfl, Nat.le_of_ble_eq_true rfl⟩) ⟨pq_blind, pq_pre hK hN hP hD⟩ rfl rfl hl.1 rfl (lv_room (Nat.le_of_ble_eq_true rfl)) dX12_table_37 ⟨Nat.le_of_ble_eq_true rfl, Nat.le_of_ble_eq_true rfl⟩) hD hS hA (fun x_178 σ1 μ1 H locs hw_179 hP hD hS => ?_)
          obtain ⟨hu_180, hr_182⟩ := hw_179
          obtain ⟨hu_180a, hu_180b⟩ := Prod.mk.inj hu_180
          rw [hu_180a, hu_180b] at hP hD
          have h_183 : rg x_178 0 1 := by rcases hr_182 with ⟨q, -⟩ | ⟨q, -⟩ <;> rw [q] <;> exact ⟨by decide, by decide⟩
          have uh_183 := h_183.1
          have vh_183 := h_183.2
          refine lv_if_eq (tgt := 65) hx hb dX12_table_40 (by decide) (fun c_184 => ?_) (fun c_184 => ?_)
          · have f_185 := (hr_182.resolve_left (fun q => absurd (q.1.symm.trans c_184) (by decide))).2
            have tc_186 : (x_178).toInt = 0 := congrArg Int32.toInt c_184
            have h_187 : rg x_178 0 0 := rg_and h_183 (rg_of_eq c_184 (rg_k (0 : Int32) 0 rfl)) (by decide)
            have uh_187 := h_187.1
            have vh_187 := h_187.2
            exact K_129 _ _ _ hG hP hD hS (lv_sub hl [] rfl)
          · obtain ⟨f_188, f_189⟩ := (hr_182.resolve_right (fun q => c_184 q.1)).2
            have tc_190 : 0 ≤ (a3).toInt := Int32.le_iff_toInt_le.mp f_188
            have h_191 : rg a3 0 2147483647 := rg_le2 f_188 (rg_k (0 : Int32) 0 rfl) (rg_full _) (by decide)
            have uh_191 := h_191.1
            have vh_191 := h_191.2
            have tc_192 : (a3).toInt ≤ 40 := Int32.le_iff_toInt_le.mp f_189
            have h_193 : rg a3 0 40 := rg_le1 f_189 h_191 (rg_k (40 : Int32) 40 rfl) (by decide)
            have uh_193 := h_193.1
            have vh_193 := h_193.2
            have tc_194 : (x_178).toInt ≠ 0 := fun q => c_184 (Int32.toInt_inj.mp q)
            have h_195 : rg x_178 1 1 := rg_ne c_184 h_183 0 rfl (by decide)
            have uh_195 := h_195.1
            have vh_195 := h_195.2
            refine lv_iload hx hb dX12_table_43 (lv_at hl 5 rfl) ?_
            refine lv_iconst (v := 0) hx hb dX12_table_45 (by decide) ?_
            refine lv_bipush (v := 50) hx hb dX12_table_46 (by decide) ?_
            refine pk_i (va_runS (As := [.int a4, .int 0, .int 50]) (rest := []) ⟨hx, hb, hml, hown, hts⟩ (s_X12_isIn l D t σ I J ri rj rq H.size tg hSH hG.1 a4 (0 : Int32) (50 : Int32)) (va_cwS 3 hts (tw_S tw_235 tw_236 tw_5 tw_237) rfl rfl rfl cd_yX12_isIn_3 ⟨Nat.le_of_ble_eq_true rfl, Nat.le_of_ble_eq_true rfl⟩) ⟨pq_blind, pq_pre hK hN hP hD⟩ rfl rfl hl.1 rfl (lv_room (Nat.le_of_ble_eq_true rfl)) dX12_table_48 ⟨Nat.le_of_ble_eq_true rfl, Nat.le_of_ble_eq_true rfl⟩) hD hS hA (fun x_196 σ1 μ1 H locs hw_197 hP hD hS => ?_)
            obtain ⟨hu_198, hr_200⟩ := hw_197
            obtain ⟨hu_198a, hu_198b⟩ := Prod.mk.inj hu_198
            rw [hu_198a, hu_198b] at hP hD
            have h_201 : rg x_196 0 1 := by rcases hr_200 with ⟨q, -⟩ | ⟨q, -⟩ <;> rw [q] <;> exact ⟨by decide, by decide⟩
            have uh_201 := h_201.1
            have vh_201 := h_201.2
            refine lv_if_eq (tgt := 65) hx hb dX12_table_51 (by decide) (fun c_202 => ?_) (fun c_202 => ?_)
            · have f_203 := (hr_200.resolve_left (fun q => absurd (q.1.symm.trans c_202) (by decide))).2
              have tc_204 : (x_196).toInt = 0 := congrArg Int32.toInt c_202
              have h_205 : rg x_196 0 0 := rg_and h_201 (rg_of_eq c_202 (rg_k (0 : Int32) 0 rfl)) (by decide)
              have uh_205 := h_205.1
              have vh_205 := h_205.2
              exact K_129 _ _ _ hG hP hD hS (lv_sub hl [] rfl)
            · obtain ⟨f_206, f_207⟩ := (hr_200.resolve_right (fun q => c_202 q.1)).2
              have tc_208 : 0 ≤ (a4).toInt := Int32.le_iff_toInt_le.mp f_206
              have h_209 : rg a4 0 2147483647 := rg_le2 f_206 (rg_k (0 : Int32) 0 rfl) (rg_full _) (by decide)
              have uh_209 := h_209.1
              have vh_209 := h_209.2
              have tc_210 : (a4).toInt ≤ 50 := Int32.le_iff_toInt_le.mp f_207
              have h_211 : rg a4 0 50 := rg_le1 f_207 h_209 (rg_k (50 : Int32) 50 rfl) (by decide)
              have uh_211 := h_211.1
              have vh_211 := h_211.2
              have tc_212 : (x_196).toInt ≠ 0 := fun q => c_202 (Int32.toInt_inj.mp q)
              have h_213 : rg x_196 1 1 := rg_ne c_202 h_201 0 rfl (by decide)
              have uh_213 := h_213.1
              have vh_213 := h_213.2
              refine lv_iload hx hb dX12_table_54 (lv_at hl 6 rfl) ?_
              refine lv_iconst (v := 0) hx hb dX12_table_56 (by decide) ?_
              refine lv_bipush (v := 100) hx hb dX12_table_57 (by decide) ?_
              refine pk_i (va_runS (As := [.int a5, .int 0, .int 100]) (rest := []) ⟨hx, hb, hml, hown, hts⟩ (s_X12_isIn l D t σ I J ri rj rq H.size tg hSH hG.1 a5 (0 : Int32) (100 : Int32)) (va_cwS 3 hts (tw_S tw_235 tw_236 tw_5 tw_237) rfl rfl rfl cd_yX12_isIn_3 ⟨Nat.le_of_ble_eq_true rfl, Nat.le_of_ble_eq_true rfl⟩) ⟨pq_blind, pq_pre hK hN hP hD⟩ rfl rfl hl.1 rfl (lv_room (Nat.le_of_ble_eq_true rfl)) dX12_table_59 ⟨Nat.le_of_ble_eq_true rfl, Nat.le_of_ble_eq_true rfl⟩) hD hS hA (fun x_214 σ1 μ1 H locs hw_215 hP hD hS => ?_)
              obtain ⟨hu_216, hr_218⟩ := hw_215
              obtain ⟨hu_216a, hu_216b⟩ := Prod.mk.inj hu_216
              rw [hu_216a, hu_216b] at hP hD
              have h_219 : rg x_214 0 1 := by rcases hr_218 with ⟨q, -⟩ | ⟨q, -⟩ <;> rw [q] <;> exact ⟨by decide, by decide⟩
              have uh_219 := h_219.1
              have vh_219 := h_219.2
              refine lv_if_ne (tgt := 67) hx hb dX12_table_62 (by decide) (fun c_220 => ?_) (fun c_220 => ?_)
              · obtain ⟨f_221, f_222⟩ := (hr_218.resolve_right (fun q => c_220 q.1)).2
                have tc_223 : 0 ≤ (a5).toInt := Int32.le_iff_toInt_le.mp f_221
                have h_224 : rg a5 0 2147483647 := rg_le2 f_221 (rg_k (0 : Int32) 0 rfl) (rg_full _) (by decide)
                have uh_224 := h_224.1
                have vh_224 := h_224.2
                have tc_225 : (a5).toInt ≤ 100 := Int32.le_iff_toInt_le.mp f_222
                have h_226 : rg a5 0 100 := rg_le1 f_222 h_224 (rg_k (100 : Int32) 100 rfl) (by decide)
                have uh_226 := h_226.1
                have vh_226 := h_226.2
                have tc_227 : (x_214).toInt ≠ 0 := fun q => c_220 (Int32.toInt_inj.mp q)
                have h_228 : rg x_214 1 1 := rg_ne c_220 h_219 0 rfl (by decide)
                have uh_228 := h_228.1
                have vh_228 := h_228.2
                refine lv_bipush (v := 20) hx hb dX12_table_67 (by decide) ?_
                refine lv_iconst (v := 5) hx hb dX12_table_69 (by decide) ?_
                refine lv_iload_n hx hb dX12_table_70 rfl (lv_at hl 1 rfl) ?_
                refine lv_imul hx hb dX12_table_71 ?_
                refine lv_topi (fun x_229 ex_229 => ?_)
                have h_230 : rg x_229 0 55 := rg_of_eq ex_229 (rg_mul (rg_k (5 : Int32) 5 rfl) h_139 (by decide))
                have uh_230 := h_230.1
                have vh_230 := h_230.2
                have tx_229 : (x_229).toInt = 5 * (a0).toInt := by rw [ex_229]; exact i_mul_rg (a2 := 5) (b2 := (a0).toInt) rfl rfl (rg_k (5 : Int32) 5 rfl) h_139 (by decide)
                refine lv_iadd hx hb dX12_table_72 ?_
                refine lv_topi (fun x_231 ex_231 => ?_)
                have h_232 : rg x_231 20 75 := rg_of_eq ex_231 (rg_add (rg_k (20 : Int32) 20 rfl) h_230 (by decide))
                have uh_232 := h_232.1
                have vh_232 := h_232.2
                have tx_231 : (x_231).toInt = 20 + (x_229).toInt := by rw [ex_231]; exact i_add_rg (a2 := 20) (b2 := (x_229).toInt) rfl rfl (rg_k (20 : Int32) 20 rfl) h_230 (by decide)
                refine lv_istore (lv' := [(7, .int x_231), (0, .ref this), (1, .int a0), (2, .int a1), (3, .int a2), (4, .int a3), (5, .int a4), (6, .int a5)]) hx hb dX12_table_73 hl (by decide) rfl (fun ls hl => ?_)
                refine lv_aload_n hx hb dX12_table_75 rfl (lv_at hl 1 rfl) ?_
                obtain ⟨w_233, hR_w_233, hL_w_233, hK_w_233, hN_w_233, hT_w_233⟩ := sh_a hSH 384 (ci := 12) (kd := 13) (len := 12720) rfl (by decide) hL_this hK_this
                refine pg_f (v := .ref w_233) (C := RX12) (T := TX12) (N := 31) hx hb hts (tw_i inlX12) hown hK hP hL_this hK_this (by decide) rfl 0 (by decide) (hts _ (tw_c tw_176)) (pq_hv rfl hR_w_233) dX12_table_76 ?_
                refine lv_iload hx hb dX12_table_79 (lv_at hl 0 rfl) ?_
                refine lv_iconst (v := 0) hx hb dX12_table_81 (by decide) ?_
                refine lv_iadd hx hb dX12_table_82 ?_
                refine lv_topi (fun x_234 ex_234 => ?_)
                have h_235 : rg x_234 20 75 := rg_of_eq ex_234 (rg_add h_232 (rg_k (0 : Int32) 0 rfl) (by decide))
                have uh_235 := h_235.1
                have vh_235 := h_235.2
                have tx_234 : (x_234).toInt = (x_231).toInt + 0 := by rw [ex_234]; exact i_add_rg (a2 := (x_231).toInt) (b2 := 0) rfl rfl h_232 (rg_k (0 : Int32) 0 rfl) (by decide)
                refine lv_iload_n hx hb dX12_table_83 rfl (lv_at hl 3 rfl) ?_
                refine pt_i hx hb hK hP hD hS hL_w_233 hK_w_233 hN_w_233 (rg_in h_235 (by decide)) dX12_table_84 (fun r_236 H locs er_236 hP hD hS => ?_)
                have hG := GM.wz hG hT_w_233 (by decide) er_236 (zn_TABLE (c := a0.toNatClampNeg) (k := 0) (by have z_i := clampE x_234; have z_0 := clampE a0; omega) (rg_cl1 h_139 (by decide)) (by decide)) rfl (rg_w h_157 (by decide)) (by decide)
                refine lv_aload_n hx hb dX12_table_85 rfl (lv_at hl 1 rfl) ?_
                refine pg_f (v := .ref w_233) (C := RX12) (T := TX12) (N := 31) hx hb hts (tw_i inlX12) hown hK hP hL_this hK_this (by decide) rfl 0 (by decide) (hts _ (tw_c tw_176)) (pq_hv rfl hR_w_233) dX12_table_86 ?_
                refine lv_iload hx hb dX12_table_89 (lv_at hl 0 rfl) ?_
                refine lv_iconst (v := 1) hx hb dX12_table_91 (by decide) ?_
                refine lv_iadd hx hb dX12_table_92 ?_
                refine lv_topi (fun x_237 ex_237 => ?_)
                have h_238 : rg x_237 21 76 := rg_of_eq ex_237 (rg_add h_232 (rg_k (1 : Int32) 1 rfl) (by decide))
                have uh_238 := h_238.1
                have vh_238 := h_238.2
                have tx_237 : (x_237).toInt = (x_231).toInt + 1 := by rw [ex_237]; exact i_add_rg (a2 := (x_231).toInt) (b2 := 1) rfl rfl h_232 (rg_k (1 : Int32) 1 rfl) (by decide)
                refine lv_iload_n hx hb dX12_table_93 rfl (lv_at hl 4 rfl) ?_
                refine pt_i hx hb hK hP hD hS hL_w_233 hK_w_233 hN_w_233 (rg_in h_238 (by decide)) dX12_table_94 (fun r_239 H locs er_239 hP hD hS => ?_)
                have hG := GM.wz hG hT_w_233 (by decide) er_239 (zn_TABLE (c := a0.toNatClampNeg) (k := 1) (by have z_i := clampE x_237; have z_0 := clampE a0; omega) (rg_cl1 h_139 (by decide)) (by decide)) rfl (rg_w h_175 (by decide)) (by decide)
                refine lv_aload_n hx hb dX12_table_95 rfl (lv_at hl 1 rfl) ?_
                refine pg_f (v := .ref w_233) (C := RX12) (T := TX12) (N := 31) hx hb hts (tw_i inlX12) hown hK hP hL_this hK_this (by decide) rfl 0 (by decide) (hts _ (tw_c tw_176)) (pq_hv rfl hR_w_233) dX12_table_96 ?_
                refine lv_iload hx hb dX12_table_99 (lv_at hl 0 rfl) ?_
                refine lv_iconst (v := 2) hx hb dX12_table_101 (by decide) ?_
                refine lv_iadd hx hb dX12_table_102 ?_
                refine lv_topi (fun x_240 ex_240 => ?_)
                have h_241 : rg x_240 22 77 := rg_of_eq ex_240 (rg_add h_232 (rg_k (2 : Int32) 2 rfl) (by decide))
                have uh_241 := h_241.1
                have vh_241 := h_241.2
                have tx_240 : (x_240).toInt = (x_231).toInt + 2 := by rw [ex_240]; exact i_add_rg (a2 := (x_231).toInt) (b2 := 2) rfl rfl h_232 (rg_k (2 : Int32) 2 rfl) (by decide)
                refine lv_iload hx hb dX12_table_103 (lv_at hl 5 rfl) ?_
                refine pt_i hx hb hK hP hD hS hL_w_233 hK_w_233 hN_w_233 (rg_in h_241 (by decide)) dX12_table_105 (fun r_242 H locs er_242 hP hD hS => ?_)
                have hG := GM.wz hG hT_w_233 (by decide) er_242 (zn_TABLE (c := a0.toNatClampNeg) (k := 2) (by have z_i := clampE x_240; have z_0 := clampE a0; omega) (rg_cl1 h_139 (by decide)) (by decide)) rfl (rg_w h_193 (by decide)) (by decide)
                refine lv_aload_n hx hb dX12_table_106 rfl (lv_at hl 1 rfl) ?_
                refine pg_f (v := .ref w_233) (C := RX12) (T := TX12) (N := 31) hx hb hts (tw_i inlX12) hown hK hP hL_this hK_this (by decide) rfl 0 (by decide) (hts _ (tw_c tw_176)) (pq_hv rfl hR_w_233) dX12_table_107 ?_
                refine lv_iload hx hb dX12_table_110 (lv_at hl 0 rfl) ?_
                refine lv_iconst (v := 3) hx hb dX12_table_112 (by decide) ?_
                refine lv_iadd hx hb dX12_table_113 ?_
                refine lv_topi (fun x_243 ex_243 => ?_)
                have h_244 : rg x_243 23 78 := rg_of_eq ex_243 (rg_add h_232 (rg_k (3 : Int32) 3 rfl) (by decide))
                have uh_244 := h_244.1
                have vh_244 := h_244.2
                have tx_243 : (x_243).toInt = (x_231).toInt + 3 := by rw [ex_243]; exact i_add_rg (a2 := (x_231).toInt) (b2 := 3) rfl rfl h_232 (rg_k (3 : Int32) 3 rfl) (by decide)
                refine lv_iload hx hb dX12_table_114 (lv_at hl 6 rfl) ?_
                refine pt_i hx hb hK hP hD hS hL_w_233 hK_w_233 hN_w_233 (rg_in h_244 (by decide)) dX12_table_116 (fun r_245 H locs er_245 hP hD hS => ?_)
                have hG := GM.wz hG hT_w_233 (by decide) er_245 (zn_TABLE (c := a0.toNatClampNeg) (k := 3) (by have z_i := clampE x_243; have z_0 := clampE a0; omega) (rg_cl1 h_139 (by decide)) (by decide)) rfl (rg_w h_211 (by decide)) (by decide)
                refine lv_aload_n hx hb dX12_table_117 rfl (lv_at hl 1 rfl) ?_
                refine pg_f (v := .ref w_233) (C := RX12) (T := TX12) (N := 31) hx hb hts (tw_i inlX12) hown hK hP hL_this hK_this (by decide) rfl 0 (by decide) (hts _ (tw_c tw_176)) (pq_hv rfl hR_w_233) dX12_table_118 ?_
                refine lv_iload hx hb dX12_table_121 (lv_at hl 0 rfl) ?_
                refine lv_iconst (v := 4) hx hb dX12_table_123 (by decide) ?_
                refine lv_iadd hx hb dX12_table_124 ?_
                refine lv_topi (fun x_246 ex_246 => ?_)
                have h_247 : rg x_246 24 79 := rg_of_eq ex_246 (rg_add h_232 (rg_k (4 : Int32) 4 rfl) (by decide))
                have uh_247 := h_247.1
                have vh_247 := h_247.2
                have tx_246 : (x_246).toInt = (x_231).toInt + 4 := by rw [ex_246]; exact i_add_rg (a2 := (x_231).toInt) (b2 := 4) rfl rfl h_232 (rg_k (4 : Int32) 4 rfl) (by decide)
                refine lv_iload hx hb dX12_table_125 (lv_at hl 7 rfl) ?_
                refine pt_i hx hb hK hP hD hS hL_w_233 hK_w_233 hN_w_233 (rg_in h_247 (by decide)) dX12_table_127 (fun r_248 H locs er_248 hP hD hS => ?_)
                have hG := GM.wz hG hT_w_233 (by decide) er_248 (zn_TABLE (c := a0.toNatClampNeg) (k := 4) (by have z_i := clampE x_246; have z_0 := clampE a0; omega) (rg_cl1 h_139 (by decide)) (by decide)) rfl (rg_w h_226 (by decide)) (by decide)
                refine lv_iconst (v := 1) hx hb dX12_table_128 (by decide) ?_
                subst hQ
                exact W.zret (v := 1) hx hb hr (by decide) (fun t1 ht hW => ⟨⟨1, (σ, I, J, r_248, rj, rq), rfl, ⟨r_248, rfl, hG, (Or.inl ⟨rfl, (rg_w h_139 (by decide)), (rg_w h_157 (by decide)), (rg_w h_175 (by decide)), (rg_w h_193 (by decide)), (rg_w h_211 (by decide)), (rg_w h_226 (by decide))⟩)⟩, by rw [ht]; exact hP, va_K.moved hW.alike hK, hD⟩, hS.F ht⟩) hS.2.2 dX12_table_129
              · have f_249 := (hr_218.resolve_left (fun q => absurd (q.1.symm.trans c_220) (by decide))).2
                have tc_250 : (x_214).toInt = 0 := congrArg Int32.toInt c_220
                have h_251 : rg x_214 0 0 := rg_and h_219 (rg_of_eq c_220 (rg_k (0 : Int32) 0 rfl)) (by decide)
                have uh_251 := h_251.1
                have vh_251 := h_251.2
                exact K_129 _ _ _ hG hP hD hS (lv_sub hl [] rfl)
  exact go _ _ _ hP hD hS hl

set_option maxHeartbeats 4000000 in
set_option maxRecDepth 100000 in
theorem s_X12_rules (l : Launch) (D : va_G) (t : pq_T) (σ : pq_S) (I : Nat → Nat → Int32) (J : Nat → Nat → Int64) (ri : Nat → Nat → Int32) (rj : Nat → Nat → Int64) (rq : Nat → Nat → Option Nat) (sz : Nat) (tg : Nat → Nat) (hSH : SH σ tg) (hG0 : GT tg I ri) (this : Nat) (a0 : Int32) (a1 : Int32) (a2 : Int32) (a3 : Int32) (a4 : Int32) (hL_this : this ∈ σ.1) (hK_this : σ.2.1 this = 12) : MetI l yX12_rules (wa yX12_rules cX12_rules 6 (some .boolean)) ({ frames := 1, cells := 0, slots := 0, locals := 22 }) [.ref this, .int a0, .int a1, .int a2, .int a3, .int a4] D t σ (I, J, ri, rj, rq) sz 0 0 (fun (r : Int32) (u : pq_S × pq_M) => ∃ ri' : Nat → Nat → Int32, u = (σ, I, J, ri', rj, rq) ∧ GM [1013, 1014, 1015] tg σ I ri I ri' rq ∧ ((r = 1 ∧ rg a0 0 40 ∧ rg a1 0 5 ∧ rg a2 0 50 ∧ rg a3 1 20 ∧ rg a4 0 100) ∨ (r = 0 ∧ True))) := by
  refine Met.ofW (cc := cX12_rules) (maxL := 6) (ret := (some .boolean)) (by decide) rfl ?_
  intro p e s m args below meth c s₁ B hml hv
  obtain ⟨rfl, hsz, hP, hK, hD0, hN⟩ := hv
  have hx := B.exec
  have hb := B.bytes
  have hr := B.returns
  have hts := atoms_spec (ws := (wa yX12_rules cX12_rules 6 (some .boolean))) B.pre
  have hown : s.vm.findClass RX12 = some m.cls := findClass_of_methodNamed B.named
  have hlocks := B.notSynchronized
  subst hsz
  have hD : va_D (pq_B t σ (I, J, ri, rj, rq) s.heap.size) (pq_P t σ (I, J, ri, rj, rq)) := hD0.self
  generalize hAe : pq_B t σ (I, J, ri, rj, rq) s.heap.size = A at hD ⊢
  have hA : ∀ q : Nat, s.heap.size ≤ q → A q := fun q h => by rw [← hAe]; exact Or.inr h
  have hS : va_S A s.heap s.heap [] := va_S.rf
  have hG : GM [1013, 1014, 1015] tg σ I ri I ri rq := ⟨hG0, fun _ _ _ => rfl, fun _ _ _ _ _ => rfl, fun _ _ _ _ _ _ => rfl⟩
  have hl := lv_entry ([.ref this, .int a0, .int a1, .int a2, .int a3, .int a4]) (n := 6) (Nat.le_of_ble_eq_true rfl)
  rw [lg_entry_eq]
  generalize (lg_sl ([.ref this, .int a0, .int a1, .int a2, .int a3, .int a4]) ++ List.replicate (6 - (lg_sl ([.ref this, .int a0, .int a1, .int a2, .int a3, .int a4])).length) Slot.unset).toArray = ls at hl ⊢
  have hl : lv_has ls 6 [(0, .ref this), (1, .int a0), (2, .int a1), (3, .int a2), (4, .int a3), (5, .int a4)] := hl
  refine q_gen (fun Q hQ => ?_)
  have go : ∀ (H : Heap) (locs : List Loc) (ls : Array Slot), va_P D vwCl (pq_P t σ (I, J, ri, rj, rq)) H → va_D A (pq_P t σ (I, J, ri, rj, rq)) → va_S A s.heap H locs → lv_has ls 6 [(0, .ref this), (1, .int a0), (2, .int a1), (3, .int a2), (4, .int a3), (5, .int a4)] → W p l e ({ frames := 1, cells := 0, slots := 0, locals := 22 } : Room) s m (List.toArray ([.ref this, .int a0, .int a1, .int a2, .int a3, .int a4] : List Value)) below meth c H locs 0 0 Q (F0 m 0 ls []) := by
    intro H locs ls hP hD hS hl
    refine lv_iload_n hx hb dX12_rules_0 rfl (lv_at hl 1 rfl) ?_
    refine lv_iconst (v := 0) hx hb dX12_rules_1 (by decide) ?_
    refine lv_bipush (v := 40) hx hb dX12_rules_2 (by decide) ?_
    refine pk_i (va_runS (As := [.int a0, .int 0, .int 40]) (rest := []) ⟨hx, hb, hml, hown, hts⟩ (s_X12_isIn l D t σ I J ri rj rq H.size tg hSH hG.1 a0 (0 : Int32) (40 : Int32)) (va_cwS 3 hts (tw_S tw_235 tw_236 tw_5 tw_237) rfl rfl rfl cd_yX12_isIn_3 ⟨Nat.le_of_ble_eq_true rfl, Nat.le_of_ble_eq_true rfl⟩) ⟨pq_blind, pq_pre hK hN hP hD⟩ rfl rfl hl.1 rfl (lv_room (Nat.le_of_ble_eq_true rfl)) dX12_rules_4 ⟨Nat.le_of_ble_eq_true rfl, Nat.le_of_ble_eq_true rfl⟩) hD hS hA (fun x_1 σ1 μ1 H locs hw_2 hP hD hS => ?_)
    obtain ⟨hu_3, hr_5⟩ := hw_2
    obtain ⟨hu_3a, hu_3b⟩ := Prod.mk.inj hu_3
    rw [hu_3a, hu_3b] at hP hD
    have h_6 : rg x_1 0 1 := by rcases hr_5 with ⟨q, -⟩ | ⟨q, -⟩ <;> rw [q] <;> exact ⟨by decide, by decide⟩
    have uh_6 := h_6.1
    have vh_6 := h_6.2
    have K_97 : ∀  (H : Heap) (locs : List Loc) (ls : Array Slot), GM [1013, 1014, 1015] tg σ I ri I ri rq → va_P D vwCl (pq_P t σ (I, J, ri, rj, rq)) H → va_D A (pq_P t σ (I, J, ri, rj, rq)) → va_S A s.heap H locs → lv_has ls 6 [] → W p l e ({ frames := 1, cells := 0, slots := 0, locals := 22 } : Room) s m (List.toArray ([.ref this, .int a0, .int a1, .int a2, .int a3, .int a4] : List Value)) below meth c H locs 0 0 Q (F0 m 51 ls []) := by
      intro H locs ls hG hP hD hS hl
      refine lv_iconst (v := 0) hx hb dX12_rules_51 (by decide) ?_
      subst hQ
      exact W.zret (v := 0) hx hb hr (by decide) (fun t1 ht hW => ⟨⟨0, (σ, I, J, ri, rj, rq), rfl, ⟨ri, rfl, hG, (Or.inr ⟨rfl, trivial⟩)⟩, by rw [ht]; exact hP, va_K.moved hW.alike hK, hD⟩, hS.F ht⟩) hS.2.2 dX12_rules_52
    refine lv_if_eq (tgt := 51) hx hb dX12_rules_7 (by decide) (fun c_98 => ?_) (fun c_98 => ?_)
    · have f_99 := (hr_5.resolve_left (fun q => absurd (q.1.symm.trans c_98) (by decide))).2
      have tc_100 : (x_1).toInt = 0 := congrArg Int32.toInt c_98
      have h_101 : rg x_1 0 0 := rg_and h_6 (rg_of_eq c_98 (rg_k (0 : Int32) 0 rfl)) (by decide)
      have uh_101 := h_101.1
      have vh_101 := h_101.2
      exact K_97 _ _ _ hG hP hD hS (lv_sub hl [] rfl)
    · obtain ⟨f_102, f_103⟩ := (hr_5.resolve_right (fun q => c_98 q.1)).2
      have tc_104 : 0 ≤ (a0).toInt := Int32.le_iff_toInt_le.mp f_102
      have h_105 : rg a0 0 2147483647 := rg_le2 f_102 (rg_k (0 : Int32) 0 rfl) (rg_full _) (by decide)
      have uh_105 := h_105.1
      have vh_105 := h_105.2
      have tc_106 : (a0).toInt ≤ 40 := Int32.le_iff_toInt_le.mp f_103
      have h_107 : rg a0 0 40 := rg_le1 f_103 h_105 (rg_k (40 : Int32) 40 rfl) (by decide)
      have uh_107 := h_107.1
      have vh_107 := h_107.2
      have tc_108 : (x_1).toInt ≠ 0 := fun q => c_98 (Int32.toInt_inj.mp q)
      have h_109 : rg x_1 1 1 := rg_ne c_98 h_6 0 rfl (by decide)
      have uh_109 := h_109.1
      have vh_109 := h_109.2
      refine lv_iload_n hx hb dX12_rules_10 rfl (lv_at hl 2 rfl) ?_
      refine lv_iconst (v := 0) hx hb dX12_rules_11 (by decide) ?_
      refine lv_iconst (v := 5) hx hb dX12_rules_12 (by decide) ?_
      refine pk_i (va_runS (As := [.int a1, .int 0, .int 5]) (rest := []) ⟨hx, hb, hml, hown, hts⟩ (s_X12_isIn l D t σ I J ri rj rq H.size tg hSH hG.1 a1 (0 : Int32) (5 : Int32)) (va_cwS 3 hts (tw_S tw_235 tw_236 tw_5 tw_237) rfl rfl rfl cd_yX12_isIn_3 ⟨Nat.le_of_ble_eq_true rfl, Nat.le_of_ble_eq_true rfl⟩) ⟨pq_blind, pq_pre hK hN hP hD⟩ rfl rfl hl.1 rfl (lv_room (Nat.le_of_ble_eq_true rfl)) dX12_rules_13 ⟨Nat.le_of_ble_eq_true rfl, Nat.le_of_ble_eq_true rfl⟩) hD hS hA (fun x_110 σ1 μ1 H locs hw_111 hP hD hS => ?_)
      obtain ⟨hu_112, hr_114⟩ := hw_111
      obtain ⟨hu_112a, hu_112b⟩ := Prod.mk.inj hu_112
      rw [hu_112a, hu_112b] at hP hD
      have h_115 : rg x_110 0 1 := by rcases hr_114 with ⟨q, -⟩ | ⟨q, -⟩ <;> rw [q] <;> exact ⟨by decide, by decide⟩
      have uh_115 := h_115.1
      have vh_115 := h_115.2
      refine lv_if_eq (tgt := 51) hx hb dX12_rules_16 (by decide) (fun c_116 => ?_) (fun c_116 => ?_)
      · have f_117 := (hr_114.resolve_left (fun q => absurd (q.1.symm.trans c_116) (by decide))).2
        have tc_118 : (x_110).toInt = 0 := congrArg Int32.toInt c_116
        have h_119 : rg x_110 0 0 := rg_and h_115 (rg_of_eq c_116 (rg_k (0 : Int32) 0 rfl)) (by decide)
        have uh_119 := h_119.1
        have vh_119 := h_119.2
        exact K_97 _ _ _ hG hP hD hS (lv_sub hl [] rfl)
      · obtain ⟨f_120, f_121⟩ := (hr_114.resolve_right (fun q => c_116 q.1)).2
        have tc_122 : 0 ≤ (a1).toInt := Int32.le_iff_toInt_le.mp f_120
        have h_123 : rg a1 0 2147483647 := rg_le2 f_120 (rg_k (0 : Int32) 0 rfl) (rg_full _) (by decide)
        have uh_123 := h_123.1
        have vh_123 := h_123.2
        have tc_124 : (a1).toInt ≤ 5 := Int32.le_iff_toInt_le.mp f_121
        have h_125 : rg a1 0 5 := rg_le1 f_121 h_123 (rg_k (5 : Int32) 5 rfl) (by decide)
        have uh_125 := h_125.1
        have vh_125 := h_125.2
        have tc_126 : (x_110).toInt ≠ 0 := fun q => c_116 (Int32.toInt_inj.mp q)
        have h_127 : rg x_110 1 1 := rg_ne c_116 h_115 0 rfl (by decide)
        have uh_127 := h_127.1
        have vh_127 := h_127.2
        refine lv_iload_n hx hb dX12_rules_19 rfl (lv_at hl 3 rfl) ?_
        refine lv_iconst (v := 0) hx hb dX12_rules_20 (by decide) ?_
        refine lv_bipush (v := 50) hx hb dX12_rules_21 (by decide) ?_
        refine pk_i (va_runS (As := [.int a2, .int 0, .int 50]) (rest := []) ⟨hx, hb, hml, hown, hts⟩ (s_X12_isIn l D t σ I J ri rj rq H.size tg hSH hG.1 a2 (0 : Int32) (50 : Int32)) (va_cwS 3 hts (tw_S tw_235 tw_236 tw_5 tw_237) rfl rfl rfl cd_yX12_isIn_3 ⟨Nat.le_of_ble_eq_true rfl, Nat.le_of_ble_eq_true rfl⟩) ⟨pq_blind, pq_pre hK hN hP hD⟩ rfl rfl hl.1 rfl (lv_room (Nat.le_of_ble_eq_true rfl)) dX12_rules_23 ⟨Nat.le_of_ble_eq_true rfl, Nat.le_of_ble_eq_true rfl⟩) hD hS hA (fun x_128 σ1 μ1 H locs hw_129 hP hD hS => ?_)
        obtain ⟨hu_130, hr_132⟩ := hw_129
        obtain ⟨hu_130a, hu_130b⟩ := Prod.mk.inj hu_130
        rw [hu_130a, hu_130b] at hP hD
        have h_133 : rg x_128 0 1 := by rcases hr_132 with ⟨q, -⟩ | ⟨q, -⟩ <;> rw [q] <;> exact ⟨by decide, by decide⟩
        have uh_133 := h_133.1
        have vh_133 := h_133.2
        refine lv_if_eq (tgt := 51) hx hb dX12_rules_26 (by decide) (fun c_134 => ?_) (fun c_134 => ?_)
        · have f_135 := (hr_132.resolve_left (fun q => absurd (q.1.symm.trans c_134) (by decide))).2
          have tc_136 : (x_128).toInt = 0 := congrArg Int32.toInt c_134
          have h_137 : rg x_128 0 0 := rg_and h_133 (rg_of_eq c_134 (rg_k (0 : Int32) 0 rfl)) (by decide)
          have uh_137 := h_137.1
          have vh_137 := h_137.2
          exact K_97 _ _ _ hG hP hD hS (lv_sub hl [] rfl)
        · obtain ⟨f_138, f_139⟩ := (hr_132.resolve_right (fun q => c_134 q.1)).2
          have tc_140 : 0 ≤ (a2).toInt := Int32.le_iff_toInt_le.mp f_138
          have h_141 : rg a2 0 2147483647 := rg_le2 f_138 (rg_k (0 : Int32) 0 rfl) (rg_full _) (by decide)
          have uh_141 := h_141.1
          have vh_141 := h_141.2
          have tc_142 : (a2).toInt ≤ 50 := Int32.le_iff_toInt_le.mp f_139
          have h_143 : rg a2 0 50 := rg_le1 f_139 h_141 (rg_k (50 : Int32) 50 rfl) (by decide)
          have uh_143 := h_143.1
          have vh_143 := h_143.2
          have tc_144 : (x_128).toInt ≠ 0 := fun q => c_134 (Int32.toInt_inj.mp q)
          have h_145 : rg x_128 1 1 := rg_ne c_134 h_133 0 rfl (by decide)
          have uh_145 := h_145.1
          have vh_145 := h_145.2
          refine lv_iload hx hb dX12_rules_29 (lv_at hl 4 rfl) ?_
          refine lv_iconst (v := 1) hx hb dX12_rules_31 (by decide) ?_
          refine lv_bipush (v := 20) hx hb dX12_rules_32 (by decide) ?_
          refine pk_i (va_runS (As := [.int a3, .int 1, .int 20]) (rest := []) ⟨hx, hb, hml, hown, hts⟩ (s_X12_isIn l D t σ I J ri rj rq H.size tg hSH hG.1 a3 (1 : Int32) (20 : Int32)) (va_cwS 3 hts (tw_S tw_235 tw_236 tw_5 tw_237) rfl rfl rfl cd_yX12_isIn_3 ⟨Nat.le_of_ble_eq_true rfl, Nat.le_of_ble_eq_true rfl⟩) ⟨pq_blind, pq_pre hK hN hP hD⟩ rfl rfl hl.1 rfl (lv_room (Nat.le_of_ble_eq_true rfl)) dX12_rules_34 ⟨Nat.le_of_ble_eq_true rfl, Nat.le_of_ble_eq_true rfl⟩) hD hS hA (fun x_146 σ1 μ1 H locs hw_147 hP hD hS => ?_)
          obtain ⟨hu_148, hr_150⟩ := hw_147
          obtain ⟨hu_148a, hu_148b⟩ := Prod.mk.inj hu_148
          rw [hu_148a, hu_148b] at hP hD
          have h_151 : rg x_146 0 1 := by rcases hr_150 with ⟨q, -⟩ | ⟨q, -⟩ <;> rw [q] <;> exact ⟨by decide, by decide⟩
          have uh_151 := h_151.1
          have vh_151 := h_151.2
          refine lv_if_eq (tgt := 51) hx hb dX12_rules_37 (by decide) (fun c_152 => ?_) (fun c_152 => ?_)
          · have f_153 := (hr_150.resolve_left (fun q => absurd (q.1.symm.trans c_152) (by decide))).2
            have tc_154 : (x_146).toInt = 0 := congrArg Int32.toInt c_152
            have h_155 : rg x_146 0 0 := rg_and h_151 (rg_of_eq c_152 (rg_k (0 : Int32) 0 rfl)) (by decide)
            have uh_155 := h_155.1
            have vh_155 := h_155.2
            exact K_97 _ _ _ hG hP hD hS (lv_sub hl [] rfl)
          · obtain ⟨f_156, f_157⟩ := (hr_150.resolve_right (fun q => c_152 q.1)).2
            have tc_158 : 1 ≤ (a3).toInt := Int32.le_iff_toInt_le.mp f_156
            have h_159 : rg a3 1 2147483647 := rg_le2 f_156 (rg_k (1 : Int32) 1 rfl) (rg_full _) (by decide)
            have uh_159 := h_159.1
            have vh_159 := h_159.2
            have tc_160 : (a3).toInt ≤ 20 := Int32.le_iff_toInt_le.mp f_157
            have h_161 : rg a3 1 20 := rg_le1 f_157 h_159 (rg_k (20 : Int32) 20 rfl) (by decide)
            have uh_161 := h_161.1
            have vh_161 := h_161.2
            have tc_162 : (x_146).toInt ≠ 0 := fun q => c_152 (Int32.toInt_inj.mp q)
            have h_163 : rg x_146 1 1 := rg_ne c_152 h_151 0 rfl (by decide)
            have uh_163 := h_163.1
            have vh_163 := h_163.2
            refine lv_iload hx hb dX12_rules_40 (lv_at hl 5 rfl) ?_
            refine lv_iconst (v := 0) hx hb dX12_rules_42 (by decide) ?_
            refine lv_bipush (v := 100) hx hb dX12_rules_43 (by decide) ?_
            refine pk_i (va_runS (As := [.int a4, .int 0, .int 100]) (rest := []) ⟨hx, hb, hml, hown, hts⟩ (s_X12_isIn l D t σ I J ri rj rq H.size tg hSH hG.1 a4 (0 : Int32) (100 : Int32)) (va_cwS 3 hts (tw_S tw_235 tw_236 tw_5 tw_237) rfl rfl rfl cd_yX12_isIn_3 ⟨Nat.le_of_ble_eq_true rfl, Nat.le_of_ble_eq_true rfl⟩) ⟨pq_blind, pq_pre hK hN hP hD⟩ rfl rfl hl.1 rfl (lv_room (Nat.le_of_ble_eq_true rfl)) dX12_rules_45 ⟨Nat.le_of_ble_eq_true rfl, Nat.le_of_ble_eq_true rfl⟩) hD hS hA (fun x_164 σ1 μ1 H locs hw_165 hP hD hS => ?_)
            obtain ⟨hu_166, hr_168⟩ := hw_165
            obtain ⟨hu_166a, hu_166b⟩ := Prod.mk.inj hu_166
            rw [hu_166a, hu_166b] at hP hD
            have h_169 : rg x_164 0 1 := by rcases hr_168 with ⟨q, -⟩ | ⟨q, -⟩ <;> rw [q] <;> exact ⟨by decide, by decide⟩
            have uh_169 := h_169.1
            have vh_169 := h_169.2
            refine lv_if_ne (tgt := 53) hx hb dX12_rules_48 (by decide) (fun c_170 => ?_) (fun c_170 => ?_)
            · obtain ⟨f_171, f_172⟩ := (hr_168.resolve_right (fun q => c_170 q.1)).2
              have tc_173 : 0 ≤ (a4).toInt := Int32.le_iff_toInt_le.mp f_171
              have h_174 : rg a4 0 2147483647 := rg_le2 f_171 (rg_k (0 : Int32) 0 rfl) (rg_full _) (by decide)
              have uh_174 := h_174.1
              have vh_174 := h_174.2
              have tc_175 : (a4).toInt ≤ 100 := Int32.le_iff_toInt_le.mp f_172
              have h_176 : rg a4 0 100 := rg_le1 f_172 h_174 (rg_k (100 : Int32) 100 rfl) (by decide)
              have uh_176 := h_176.1
              have vh_176 := h_176.2
              have tc_177 : (x_164).toInt ≠ 0 := fun q => c_170 (Int32.toInt_inj.mp q)
              have h_178 : rg x_164 1 1 := rg_ne c_170 h_169 0 rfl (by decide)
              have uh_178 := h_178.1
              have vh_178 := h_178.2
              refine lv_aload_n hx hb dX12_rules_53 rfl (lv_at hl 0 rfl) ?_
              obtain ⟨w_179, hR_w_179, hL_w_179, hK_w_179, hN_w_179, hT_w_179⟩ := sh_a hSH 384 (ci := 12) (kd := 13) (len := 12720) rfl (by decide) hL_this hK_this
              refine pg_f (v := .ref w_179) (C := RX12) (T := TX12) (N := 31) hx hb hts (tw_i inlX12) hown hK hP hL_this hK_this (by decide) rfl 0 (by decide) (hts _ (tw_c tw_176)) (pq_hv rfl hR_w_179) dX12_rules_54 ?_
              refine lv_bipush (v := 13) hx hb dX12_rules_57 (by decide) ?_
              refine lv_iload_n hx hb dX12_rules_59 rfl (lv_at hl 1 rfl) ?_
              refine pt_i hx hb hK hP hD hS hL_w_179 hK_w_179 hN_w_179 (vp_in_iff.mpr (by decide)) dX12_rules_60 (fun r_180 H locs er_180 hP hD hS => ?_)
              have hG := GM.wz hG hT_w_179 (by decide) er_180 (show zn ((13 : Int32)).toNatClampNeg = 13 from by decide) rfl (rg_w h_107 (by decide)) (by decide)
              refine lv_aload_n hx hb dX12_rules_61 rfl (lv_at hl 0 rfl) ?_
              refine pg_f (v := .ref w_179) (C := RX12) (T := TX12) (N := 31) hx hb hts (tw_i inlX12) hown hK hP hL_this hK_this (by decide) rfl 0 (by decide) (hts _ (tw_c tw_176)) (pq_hv rfl hR_w_179) dX12_rules_62 ?_
              refine lv_bipush (v := 14) hx hb dX12_rules_65 (by decide) ?_
              refine lv_iload_n hx hb dX12_rules_67 rfl (lv_at hl 2 rfl) ?_
              refine pt_i hx hb hK hP hD hS hL_w_179 hK_w_179 hN_w_179 (vp_in_iff.mpr (by decide)) dX12_rules_68 (fun r_181 H locs er_181 hP hD hS => ?_)
              have hG := GM.wz hG hT_w_179 (by decide) er_181 (show zn ((14 : Int32)).toNatClampNeg = 14 from by decide) rfl (rg_w h_125 (by decide)) (by decide)
              refine lv_aload_n hx hb dX12_rules_69 rfl (lv_at hl 0 rfl) ?_
              refine pg_f (v := .ref w_179) (C := RX12) (T := TX12) (N := 31) hx hb hts (tw_i inlX12) hown hK hP hL_this hK_this (by decide) rfl 0 (by decide) (hts _ (tw_c tw_176)) (pq_hv rfl hR_w_179) dX12_rules_70 ?_
              refine lv_bipush (v := 15) hx hb dX12_rules_73 (by decide) ?_
              refine lv_iload_n hx hb dX12_rules_75 rfl (lv_at hl 3 rfl) ?_
              refine pt_i hx hb hK hP hD hS hL_w_179 hK_w_179 hN_w_179 (vp_in_iff.mpr (by decide)) dX12_rules_76 (fun r_182 H locs er_182 hP hD hS => ?_)
              have hG := GM.wz hG hT_w_179 (by decide) er_182 (show zn ((15 : Int32)).toNatClampNeg = 15 from by decide) rfl (rg_w h_143 (by decide)) (by decide)
              refine lv_aload_n hx hb dX12_rules_77 rfl (lv_at hl 0 rfl) ?_
              refine pg_f (v := .ref w_179) (C := RX12) (T := TX12) (N := 31) hx hb hts (tw_i inlX12) hown hK hP hL_this hK_this (by decide) rfl 0 (by decide) (hts _ (tw_c tw_176)) (pq_hv rfl hR_w_179) dX12_rules_78 ?_
              refine lv_bipush (v := 16) hx hb dX12_rules_81 (by decide) ?_
              refine lv_iload hx hb dX12_rules_83 (lv_at hl 4 rfl) ?_
              refine pt_i hx hb hK hP hD hS hL_w_179 hK_w_179 hN_w_179 (vp_in_iff.mpr (by decide)) dX12_rules_85 (fun r_183 H locs er_183 hP hD hS => ?_)
              have hG := GM.wz hG hT_w_179 (by decide) er_183 (show zn ((16 : Int32)).toNatClampNeg = 16 from by decide) rfl (rg_w h_161 (by decide)) (by decide)
              refine lv_aload_n hx hb dX12_rules_86 rfl (lv_at hl 0 rfl) ?_
              refine pg_f (v := .ref w_179) (C := RX12) (T := TX12) (N := 31) hx hb hts (tw_i inlX12) hown hK hP hL_this hK_this (by decide) rfl 0 (by decide) (hts _ (tw_c tw_176)) (pq_hv rfl hR_w_179) dX12_rules_87 ?_
              refine lv_bipush (v := 17) hx hb dX12_rules_90 (by decide) ?_
              refine lv_iload hx hb dX12_rules_92 (lv_at hl 5 rfl) ?_
              refine pt_i hx hb hK hP hD hS hL_w_179 hK_w_179 hN_w_179 (vp_in_iff.mpr (by decide)) dX12_rules_94 (fun r_184 H locs er_184 hP hD hS => ?_)
              have hG := GM.wz hG hT_w_179 (by decide) er_184 (show zn ((17 : Int32)).toNatClampNeg = 17 from by decide) rfl (rg_w h_176 (by decide)) (by decide)
              refine lv_iconst (v := 1) hx hb dX12_rules_95 (by decide) ?_
              subst hQ
              exact W.zret (v := 1) hx hb hr (by decide) (fun t1 ht hW => ⟨⟨1, (σ, I, J, r_184, rj, rq), rfl, ⟨r_184, rfl, hG, (Or.inl ⟨rfl, (rg_w h_107 (by decide)), (rg_w h_125 (by decide)), (rg_w h_143 (by decide)), (rg_w h_161 (by decide)), (rg_w h_176 (by decide))⟩)⟩, by rw [ht]; exact hP, va_K.moved hW.alike hK, hD⟩, hS.F ht⟩) hS.2.2 dX12_rules_96
            · have f_185 := (hr_168.resolve_left (fun q => absurd (q.1.symm.trans c_170) (by decide))).2
              have tc_186 : (x_164).toInt = 0 := congrArg Int32.toInt c_170
              have h_187 : rg x_164 0 0 := rg_and h_169 (rg_of_eq c_170 (rg_k (0 : Int32) 0 rfl)) (by decide)
              have uh_187 := h_187.1
              have vh_187 := h_187.2
              exact K_97 _ _ _ hG hP hD hS (lv_sub hl [] rfl)
  exact go _ _ _ hP hD hS hl

set_option maxHeartbeats 4000000 in
set_option maxRecDepth 100000 in
theorem s_X12_cellAt_c8 (l : Launch) (D : va_G) (t : pq_T) (σ : pq_S) (I : Nat → Nat → Int32) (J : Nat → Nat → Int64) (ri : Nat → Nat → Int32) (rj : Nat → Nat → Int64) (rq : Nat → Nat → Option Nat) (sz : Nat) (tg : Nat → Nat) (hSH : SH σ tg) (hG0 : GT tg I ri) (this : Nat) (a0 : Int32) (hL_this : this ∈ σ.1) (hK_this : σ.2.1 this = 12) (h_a0 : rg a0 0 39) : MetI l yX12_cellAt (wa yX12_cellAt cX12_cellAt 3 (some .int)) ({ frames := 0, cells := 0, slots := 0, locals := 0 }) [.ref this, .int a0, .int 8] D t σ (I, J, ri, rj, rq) sz 0 0 (fun (r : Int32) (u : pq_S × pq_M) => u = (σ, I, J, ri, rj, rq)) := by
  refine Met.ofW (cc := cX12_cellAt) (maxL := 3) (ret := (some .int)) (by decide) rfl ?_
  intro p e s m args below meth c s₁ B hml hv
  obtain ⟨rfl, hsz, hP, hK, hD0, hN⟩ := hv
  have hx := B.exec
  have hb := B.bytes
  have hr := B.returns
  have hts := atoms_spec (ws := (wa yX12_cellAt cX12_cellAt 3 (some .int))) B.pre
  have hown : s.vm.findClass RX12 = some m.cls := findClass_of_methodNamed B.named
  have hlocks := B.notSynchronized
  subst hsz
  have hD : va_D (pq_B t σ (I, J, ri, rj, rq) s.heap.size) (pq_P t σ (I, J, ri, rj, rq)) := hD0.self
  generalize hAe : pq_B t σ (I, J, ri, rj, rq) s.heap.size = A at hD ⊢
  have hA : ∀ q : Nat, s.heap.size ≤ q → A q := fun q h => by rw [← hAe]; exact Or.inr h
  have hS : va_S A s.heap s.heap [] := va_S.rf
  have hG : GM [] tg σ I ri I ri rq := ⟨hG0, fun _ _ _ => rfl, fun _ _ _ _ _ => rfl, fun _ _ _ _ _ _ => rfl⟩
  have hl := lv_entry ([.ref this, .int a0, .int 8]) (n := 3) (Nat.le_of_ble_eq_true rfl)
  rw [lg_entry_eq]
  generalize (lg_sl ([.ref this, .int a0, .int 8]) ++ List.replicate (3 - (lg_sl ([.ref this, .int a0, .int 8])).length) Slot.unset).toArray = ls at hl ⊢
  have hl : lv_has ls 3 [(0, .ref this), (1, .int a0), (2, .int 8)] := hl
  refine q_gen (fun Q hQ => ?_)
  have go : ∀ (H : Heap) (locs : List Loc) (ls : Array Slot), va_P D vwCl (pq_P t σ (I, J, ri, rj, rq)) H → va_D A (pq_P t σ (I, J, ri, rj, rq)) → va_S A s.heap H locs → lv_has ls 3 [(0, .ref this), (1, .int a0), (2, .int 8)] → W p l e ({ frames := 0, cells := 0, slots := 0, locals := 0 } : Room) s m (List.toArray ([.ref this, .int a0, .int 8] : List Value)) below meth c H locs 0 0 Q (F0 m 0 ls []) := by
    intro H locs ls hP hD hS hl
    refine lv_aload_n hx hb dX12_cellAt_0 rfl (lv_at hl 0 rfl) ?_
    obtain ⟨w_1, hR_w_1, hL_w_1, hK_w_1, hN_w_1, hT_w_1⟩ := sh_a hSH 384 (ci := 12) (kd := 13) (len := 12720) rfl (by decide) hL_this hK_this
    refine pg_f (v := .ref w_1) (C := RX12) (T := TX12) (N := 31) hx hb hts (tw_i inlX12) hown hK hP hL_this hK_this (by decide) rfl 0 (by decide) (hts _ (tw_c tw_176)) (pq_hv rfl hR_w_1) dX12_cellAt_1 ?_
    refine lv_bipush (v := 100) hx hb dX12_cellAt_4 (by decide) ?_
    refine lv_bipush (v := 16) hx hb dX12_cellAt_6 (by decide) ?_
    refine lv_iload_n hx hb dX12_cellAt_8 rfl (lv_at hl 1 rfl) ?_
    refine lv_imul hx hb dX12_cellAt_9 ?_
    refine lv_topi (fun x_2 ex_2 => ?_)
    have h_3 : rg x_2 0 624 := rg_of_eq ex_2 (rg_mul (rg_k (16 : Int32) 16 rfl) h_a0 (by decide))
    have uh_3 := h_3.1
    have vh_3 := h_3.2
    have tx_2 : (x_2).toInt = 16 * (a0).toInt := by rw [ex_2]; exact i_mul_rg (a2 := 16) (b2 := (a0).toInt) rfl rfl (rg_k (16 : Int32) 16 rfl) h_a0 (by decide)
    refine lv_iadd hx hb dX12_cellAt_10 ?_
    refine lv_topi (fun x_4 ex_4 => ?_)
    have h_5 : rg x_4 100 724 := rg_of_eq ex_4 (rg_add (rg_k (100 : Int32) 100 rfl) h_3 (by decide))
    have uh_5 := h_5.1
    have vh_5 := h_5.2
    have tx_4 : (x_4).toInt = 100 + (x_2).toInt := by rw [ex_4]; exact i_add_rg (a2 := 100) (b2 := (x_2).toInt) rfl rfl (rg_k (100 : Int32) 100 rfl) h_3 (by decide)
    refine lv_iload_n hx hb dX12_cellAt_11 rfl (lv_at hl 2 rfl) ?_
    refine lv_iadd hx hb dX12_cellAt_12 ?_
    refine lv_topi (fun x_6 ex_6 => ?_)
    have h_7 : rg x_6 108 732 := rg_of_eq ex_6 (rg_add h_5 (rg_k (8 : Int32) 8 rfl) (by decide))
    have uh_7 := h_7.1
    have vh_7 := h_7.2
    have tx_6 : (x_6).toInt = (x_4).toInt + 8 := by rw [ex_6]; exact i_add_rg (a2 := (x_4).toInt) (b2 := 8) rfl rfl h_5 (rg_k (8 : Int32) 8 rfl) (by decide)
    refine pl_i hx hb hK hP hL_w_1 hK_w_1 hN_w_1 (rg_in h_7 (by decide)) dX12_cellAt_13 ?_
    refine lv_topi (fun x_8 ex_8 => ?_)
    subst hQ
    exact W.iret (v := x_8) hx hb hr (fun t1 ht hW => ⟨⟨x_8, (σ, I, J, ri, rj, rq), rfl, rfl, by rw [ht]; exact hP, va_K.moved hW.alike hK, hD⟩, hS.F ht⟩) hS.2.2 dX12_cellAt_14
  exact go _ _ _ hP hD hS hl

set_option maxHeartbeats 4000000 in
set_option maxRecDepth 100000 in
theorem s_X12_cellAt_c7 (l : Launch) (D : va_G) (t : pq_T) (σ : pq_S) (I : Nat → Nat → Int32) (J : Nat → Nat → Int64) (ri : Nat → Nat → Int32) (rj : Nat → Nat → Int64) (rq : Nat → Nat → Option Nat) (sz : Nat) (tg : Nat → Nat) (hSH : SH σ tg) (hG0 : GT tg I ri) (this : Nat) (a0 : Int32) (hL_this : this ∈ σ.1) (hK_this : σ.2.1 this = 12) (h_a0 : rg a0 0 39) : MetI l yX12_cellAt (wa yX12_cellAt cX12_cellAt 3 (some .int)) ({ frames := 0, cells := 0, slots := 0, locals := 0 }) [.ref this, .int a0, .int 7] D t σ (I, J, ri, rj, rq) sz 0 0 (fun (r : Int32) (u : pq_S × pq_M) => u = (σ, I, J, ri, rj, rq)) := by
  refine Met.ofW (cc := cX12_cellAt) (maxL := 3) (ret := (some .int)) (by decide) rfl ?_
  intro p e s m args below meth c s₁ B hml hv
  obtain ⟨rfl, hsz, hP, hK, hD0, hN⟩ := hv
  have hx := B.exec
  have hb := B.bytes
  have hr := B.returns
  have hts := atoms_spec (ws := (wa yX12_cellAt cX12_cellAt 3 (some .int))) B.pre
  have hown : s.vm.findClass RX12 = some m.cls := findClass_of_methodNamed B.named
  have hlocks := B.notSynchronized
  subst hsz
  have hD : va_D (pq_B t σ (I, J, ri, rj, rq) s.heap.size) (pq_P t σ (I, J, ri, rj, rq)) := hD0.self
  generalize hAe : pq_B t σ (I, J, ri, rj, rq) s.heap.size = A at hD ⊢
  have hA : ∀ q : Nat, s.heap.size ≤ q → A q := fun q h => by rw [← hAe]; exact Or.inr h
  have hS : va_S A s.heap s.heap [] := va_S.rf
  have hG : GM [] tg σ I ri I ri rq := ⟨hG0, fun _ _ _ => rfl, fun _ _ _ _ _ => rfl, fun _ _ _ _ _ _ => rfl⟩
  have hl := lv_entry ([.ref this, .int a0, .int 7]) (n := 3) (Nat.le_of_ble_eq_true rfl)
  rw [lg_entry_eq]
  generalize (lg_sl ([.ref this, .int a0, .int 7]) ++ List.replicate (3 - (lg_sl ([.ref this, .int a0, .int 7])).length) Slot.unset).toArray = ls at hl ⊢
  have hl : lv_has ls 3 [(0, .ref this), (1, .int a0), (2, .int 7)] := hl
  refine q_gen (fun Q hQ => ?_)
  have go : ∀ (H : Heap) (locs : List Loc) (ls : Array Slot), va_P D vwCl (pq_P t σ (I, J, ri, rj, rq)) H → va_D A (pq_P t σ (I, J, ri, rj, rq)) → va_S A s.heap H locs → lv_has ls 3 [(0, .ref this), (1, .int a0), (2, .int 7)] → W p l e ({ frames := 0, cells := 0, slots := 0, locals := 0 } : Room) s m (List.toArray ([.ref this, .int a0, .int 7] : List Value)) below meth c H locs 0 0 Q (F0 m 0 ls []) := by
    intro H locs ls hP hD hS hl
    refine lv_aload_n hx hb dX12_cellAt_0 rfl (lv_at hl 0 rfl) ?_
    obtain ⟨w_1, hR_w_1, hL_w_1, hK_w_1, hN_w_1, hT_w_1⟩ := sh_a hSH 384 (ci := 12) (kd := 13) (len := 12720) rfl (by decide) hL_this hK_this
    refine pg_f (v := .ref w_1) (C := RX12) (T := TX12) (N := 31) hx hb hts (tw_i inlX12) hown hK hP hL_this hK_this (by decide) rfl 0 (by decide) (hts _ (tw_c tw_176)) (pq_hv rfl hR_w_1) dX12_cellAt_1 ?_
    refine lv_bipush (v := 100) hx hb dX12_cellAt_4 (by decide) ?_
    refine lv_bipush (v := 16) hx hb dX12_cellAt_6 (by decide) ?_
    refine lv_iload_n hx hb dX12_cellAt_8 rfl (lv_at hl 1 rfl) ?_
    refine lv_imul hx hb dX12_cellAt_9 ?_
    refine lv_topi (fun x_2 ex_2 => ?_)
    have h_3 : rg x_2 0 624 := rg_of_eq ex_2 (rg_mul (rg_k (16 : Int32) 16 rfl) h_a0 (by decide))
    have uh_3 := h_3.1
    have vh_3 := h_3.2
    have tx_2 : (x_2).toInt = 16 * (a0).toInt := by rw [ex_2]; exact i_mul_rg (a2 := 16) (b2 := (a0).toInt) rfl rfl (rg_k (16 : Int32) 16 rfl) h_a0 (by decide)
    refine lv_iadd hx hb dX12_cellAt_10 ?_
    refine lv_topi (fun x_4 ex_4 => ?_)
    have h_5 : rg x_4 100 724 := rg_of_eq ex_4 (rg_add (rg_k (100 : Int32) 100 rfl) h_3 (by decide))
    have uh_5 := h_5.1
    have vh_5 := h_5.2
    have tx_4 : (x_4).toInt = 100 + (x_2).toInt := by rw [ex_4]; exact i_add_rg (a2 := 100) (b2 := (x_2).toInt) rfl rfl (rg_k (100 : Int32) 100 rfl) h_3 (by decide)
    refine lv_iload_n hx hb dX12_cellAt_11 rfl (lv_at hl 2 rfl) ?_
    refine lv_iadd hx hb dX12_cellAt_12 ?_
    refine lv_topi (fun x_6 ex_6 => ?_)
    have h_7 : rg x_6 107 731 := rg_of_eq ex_6 (rg_add h_5 (rg_k (7 : Int32) 7 rfl) (by decide))
    have uh_7 := h_7.1
    have vh_7 := h_7.2
    have tx_6 : (x_6).toInt = (x_4).toInt + 7 := by rw [ex_6]; exact i_add_rg (a2 := (x_4).toInt) (b2 := 7) rfl rfl h_5 (rg_k (7 : Int32) 7 rfl) (by decide)
    refine pl_i hx hb hK hP hL_w_1 hK_w_1 hN_w_1 (rg_in h_7 (by decide)) dX12_cellAt_13 ?_
    refine lv_topi (fun x_8 ex_8 => ?_)
    subst hQ
    exact W.iret (v := x_8) hx hb hr (fun t1 ht hW => ⟨⟨x_8, (σ, I, J, ri, rj, rq), rfl, rfl, by rw [ht]; exact hP, va_K.moved hW.alike hK, hD⟩, hS.F ht⟩) hS.2.2 dX12_cellAt_14
  exact go _ _ _ hP hD hS hl
