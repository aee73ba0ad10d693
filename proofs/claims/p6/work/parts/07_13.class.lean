theorem dX8_work_0 : decode cX8_work 0 = .ok (.iconst (-1), 1) := oc_2 (by decide +kernel)
theorem dX8_work_1 : decode cX8_work 1 = .ok (.istore 4, 2) := oc_54 (by decide +kernel)
theorem dX8_work_3 : decode cX8_work 3 = .ok (.aload_n 0, 1) := oc_42 (by decide +kernel)
theorem dX8_work_4 : decode cX8_work 4 = .ok (.getfield 15, 3) := oc_180 (a := 0) (b := 15) (by decide +kernel)
theorem dX8_work_7 : decode cX8_work 7 = .ok (.iload_n 1, 1) := oc_27 (by decide +kernel)
theorem dX8_work_8 : decode cX8_work 8 = .ok (.iaload, 1) := oc_46 (by decide +kernel)
theorem dX8_work_9 : decode cX8_work 9 = .ok (.istore 5, 2) := oc_54 (by decide +kernel)
theorem dX8_work_11 : decode cX8_work 11 = .ok (.iload 5, 2) := oc_21 (by decide +kernel)
theorem dX8_work_13 : decode cX8_work 13 = .ok (.aload_n 0, 1) := oc_42 (by decide +kernel)
theorem dX8_work_14 : decode cX8_work 14 = .ok (.getfield 15, 3) := oc_180 (a := 0) (b := 15) (by decide +kernel)
theorem dX8_work_17 : decode cX8_work 17 = .ok (.iload_n 1, 1) := oc_27 (by decide +kernel)
theorem dX8_work_18 : decode cX8_work 18 = .ok (.iconst 1, 1) := oc_4 (by decide +kernel)
theorem dX8_work_19 : decode cX8_work 19 = .ok (.iadd, 1) := oc_96 (by decide +kernel)
theorem dX8_work_20 : decode cX8_work 20 = .ok (.iaload, 1) := oc_46 (by decide +kernel)
theorem dX8_work_21 : decode cX8_work 21 = .ok (.if_icmp .ge 157, 3) := oc_162 (a := 0) (b := 157) (by decide +kernel)
theorem dX8_work_178 : decode cX8_work 178 = .ok (.iload 4, 2) := oc_21 (by decide +kernel)
theorem dX8_work_180 : decode cX8_work 180 = .ok (.ifCond .ne 10, 3) := oc_154 (a := 0) (b := 10) (by decide +kernel)
theorem dX8_work_190 : decode cX8_work 190 = .ok (.iconst 0, 1) := oc_3 (by decide +kernel)
theorem dX8_work_191 : decode cX8_work 191 = .ok (.ireturn, 1) := oc_172 (by decide +kernel)
theorem dX8_work_183 : decode cX8_work 183 = .ok (.aload_n 3, 1) := oc_45 (by decide +kernel)
theorem dX8_work_184 : decode cX8_work 184 = .ok (.iload 4, 2) := oc_21 (by decide +kernel)
theorem dX8_work_186 : decode cX8_work 186 = .ok (.iaload, 1) := oc_46 (by decide +kernel)
theorem dX8_work_187 : decode cX8_work 187 = .ok (.goto 4, 3) := oc_167 (a := 0) (b := 4) (by decide +kernel)
theorem dX8_work_24 : decode cX8_work 24 = .ok (.aload_n 0, 1) := oc_42 (by decide +kernel)
theorem dX8_work_25 : decode cX8_work 25 = .ok (.getfield 18, 3) := oc_180 (a := 0) (b := 18) (by decide +kernel)
theorem dX8_work_28 : decode cX8_work 28 = .ok (.iload 5, 2) := oc_21 (by decide +kernel)
theorem dX8_work_30 : decode cX8_work 30 = .ok (.iaload, 1) := oc_46 (by decide +kernel)
theorem dX8_work_31 : decode cX8_work 31 = .ok (.ineg, 1) := oc_116 (by decide +kernel)
theorem dX8_work_32 : decode cX8_work 32 = .ok (.istore 6, 2) := oc_54 (by decide +kernel)
theorem dX8_work_34 : decode cX8_work 34 = .ok (.iload 6, 2) := oc_21 (by decide +kernel)
theorem dX8_work_172 : decode cX8_work 172 = .ok (.iinc 5 1, 3) := oc_132 (b := 1) (by decide +kernel)
theorem dX8_work_175 : decode cX8_work 175 = .ok (.goto (-164), 3) := oc_167 (a := 255) (b := 92) (by decide +kernel)
theorem dX8_work_36 : decode cX8_work 36 = .ok (.ifCond .le 17, 3) := oc_158 (a := 0) (b := 17) (by decide +kernel)
theorem dX8_work_53 : decode cX8_work 53 = .ok (.iinc 4 1, 3) := oc_132 (b := 1) (by decide +kernel)
theorem dX8_work_56 : decode cX8_work 56 = .ok (.iload 4, 2) := oc_21 (by decide +kernel)
theorem dX8_work_58 : decode cX8_work 58 = .ok (.aload_n 3, 1) := oc_45 (by decide +kernel)
theorem dX8_work_59 : decode cX8_work 59 = .ok (.arraylength, 1) := oc_190 (by decide +kernel)
theorem dX8_work_60 : decode cX8_work 60 = .ok (.if_icmp .lt 5, 3) := oc_161 (a := 0) (b := 5) (by decide +kernel)
theorem dX8_work_65 : decode cX8_work 65 = .ok (.aload_n 3, 1) := oc_45 (by decide +kernel)
theorem dX8_work_66 : decode cX8_work 66 = .ok (.iload 4, 2) := oc_21 (by decide +kernel)
theorem dX8_work_68 : decode cX8_work 68 = .ok (.iload 6, 2) := oc_21 (by decide +kernel)
theorem dX8_work_90 : decode cX8_work 90 = .ok (.iastore, 1) := oc_79 (by decide +kernel)
theorem dX8_work_91 : decode cX8_work 91 = .ok (.goto 81, 3) := oc_167 (a := 0) (b := 81) (by decide +kernel)
theorem dX8_work_70 : decode cX8_work 70 = .ok (.ifCond .gt 13, 3) := oc_157 (a := 0) (b := 13) (by decide +kernel)
theorem dX8_work_73 : decode cX8_work 73 = .ok (.aload_n 0, 1) := oc_42 (by decide +kernel)
theorem dX8_work_74 : decode cX8_work 74 = .ok (.getfield 18, 3) := oc_180 (a := 0) (b := 18) (by decide +kernel)
theorem dX8_work_77 : decode cX8_work 77 = .ok (.iload 5, 2) := oc_21 (by decide +kernel)
theorem dX8_work_79 : decode cX8_work 79 = .ok (.iaload, 1) := oc_46 (by decide +kernel)
theorem dX8_work_80 : decode cX8_work 80 = .ok (.goto 10, 3) := oc_167 (a := 0) (b := 10) (by decide +kernel)
theorem dX8_work_63 : decode cX8_work 63 = .ok (.iconst 0, 1) := oc_3 (by decide +kernel)
theorem dX8_work_64 : decode cX8_work 64 = .ok (.ireturn, 1) := oc_172 (by decide +kernel)
theorem dX8_work_39 : decode cX8_work 39 = .ok (.iload 6, 2) := oc_21 (by decide +kernel)
theorem dX8_work_41 : decode cX8_work 41 = .ok (.bipush 12, 2) := oc_16 (a := 12) (by decide +kernel)
theorem dX8_work_94 : decode cX8_work 94 = .ok (.iload 6, 2) := oc_21 (by decide +kernel)
theorem dX8_work_96 : decode cX8_work 96 = .ok (.bipush 11, 2) := oc_16 (a := 11) (by decide +kernel)
theorem dX8_work_108 : decode cX8_work 108 = .ok (.iload 4, 2) := oc_21 (by decide +kernel)
theorem dX8_work_110 : decode cX8_work 110 = .ok (.ifCond .ge 5, 3) := oc_156 (a := 0) (b := 5) (by decide +kernel)
theorem dX8_work_115 : decode cX8_work 115 = .ok (.aload_n 3, 1) := oc_45 (by decide +kernel)
theorem dX8_work_116 : decode cX8_work 116 = .ok (.iload 4, 2) := oc_21 (by decide +kernel)
theorem dX8_work_118 : decode cX8_work 118 = .ok (.iload 6, 2) := oc_21 (by decide +kernel)
theorem dX8_work_120 : decode cX8_work 120 = .ok (.bipush 11, 2) := oc_16 (a := 11) (by decide +kernel)
theorem dX8_work_139 : decode cX8_work 139 = .ok (.iastore, 1) := oc_79 (by decide +kernel)
theorem dX8_work_140 : decode cX8_work 140 = .ok (.goto 32, 3) := oc_167 (a := 0) (b := 32) (by decide +kernel)
theorem dX8_work_122 : decode cX8_work 122 = .ok (.if_icmp .ne 12, 3) := oc_160 (a := 0) (b := 12) (by decide +kernel)
theorem dX8_work_134 : decode cX8_work 134 = .ok (.aload_n 3, 1) := oc_45 (by decide +kernel)
theorem dX8_work_135 : decode cX8_work 135 = .ok (.iload 4, 2) := oc_21 (by decide +kernel)
theorem dX8_work_137 : decode cX8_work 137 = .ok (.iaload, 1) := oc_46 (by decide +kernel)
theorem dX8_work_138 : decode cX8_work 138 = .ok (.ineg, 1) := oc_116 (by decide +kernel)
theorem dX8_work_125 : decode cX8_work 125 = .ok (.iconst 1, 1) := oc_4 (by decide +kernel)
theorem dX8_work_126 : decode cX8_work 126 = .ok (.aload_n 3, 1) := oc_45 (by decide +kernel)
theorem dX8_work_127 : decode cX8_work 127 = .ok (.iload 4, 2) := oc_21 (by decide +kernel)
theorem dX8_work_129 : decode cX8_work 129 = .ok (.iaload, 1) := oc_46 (by decide +kernel)
theorem dX8_work_130 : decode cX8_work 130 = .ok (.isub, 1) := oc_100 (by decide +kernel)
theorem dX8_work_131 : decode cX8_work 131 = .ok (.goto 8, 3) := oc_167 (a := 0) (b := 8) (by decide +kernel)
theorem dX8_work_113 : decode cX8_work 113 = .ok (.iconst 0, 1) := oc_3 (by decide +kernel)
theorem dX8_work_114 : decode cX8_work 114 = .ok (.ireturn, 1) := oc_172 (by decide +kernel)
theorem dX8_work_98 : decode cX8_work 98 = .ok (.if_icmp .eq 10, 3) := oc_159 (a := 0) (b := 10) (by decide +kernel)
theorem dX8_work_101 : decode cX8_work 101 = .ok (.iload 6, 2) := oc_21 (by decide +kernel)
theorem dX8_work_103 : decode cX8_work 103 = .ok (.bipush 35, 2) := oc_16 (a := 35) (by decide +kernel)
theorem dX8_work_105 : decode cX8_work 105 = .ok (.if_icmp .ne 38, 3) := oc_160 (a := 0) (b := 38) (by decide +kernel)
theorem dX8_work_143 : decode cX8_work 143 = .ok (.iinc 4 (-1), 3) := oc_132 (b := 255) (by decide +kernel)
theorem dX8_work_146 : decode cX8_work 146 = .ok (.iload 4, 2) := oc_21 (by decide +kernel)
theorem dX8_work_148 : decode cX8_work 148 = .ok (.ifCond .ge 5, 3) := oc_156 (a := 0) (b := 5) (by decide +kernel)
theorem dX8_work_153 : decode cX8_work 153 = .ok (.aload_n 3, 1) := oc_45 (by decide +kernel)
theorem dX8_work_154 : decode cX8_work 154 = .ok (.iload 4, 2) := oc_21 (by decide +kernel)
theorem dX8_work_156 : decode cX8_work 156 = .ok (.iload 6, 2) := oc_21 (by decide +kernel)
theorem dX8_work_158 : decode cX8_work 158 = .ok (.aload_n 3, 1) := oc_45 (by decide +kernel)
theorem dX8_work_159 : decode cX8_work 159 = .ok (.iload 4, 2) := oc_21 (by decide +kernel)
theorem dX8_work_161 : decode cX8_work 161 = .ok (.iaload, 1) := oc_46 (by decide +kernel)
theorem dX8_work_162 : decode cX8_work 162 = .ok (.aload_n 3, 1) := oc_45 (by decide +kernel)
theorem dX8_work_163 : decode cX8_work 163 = .ok (.iload 4, 2) := oc_21 (by decide +kernel)
theorem dX8_work_165 : decode cX8_work 165 = .ok (.iconst 1, 1) := oc_4 (by decide +kernel)
theorem dX8_work_166 : decode cX8_work 166 = .ok (.iadd, 1) := oc_96 (by decide +kernel)
theorem dX8_work_167 : decode cX8_work 167 = .ok (.iaload, 1) := oc_46 (by decide +kernel)
theorem tw_578 : Cond.methodLink RX8 50 yX8_join ∈ wsL_law := sg_25 _ (List.mem_of_getElem? (i := 2) rfl)
theorem tw_579 : Cond.static yX8_join ∈ wsL_law := sg_25 _ (List.mem_of_getElem? (i := 3) rfl)
theorem tw_580 : Cond.code yX8_join cX8_join 5 (some .int) ∈ wsL_law := sg_25 _ (List.mem_of_getElem? (i := 4) rfl)
theorem dX8_work_168 : decode cX8_work 168 = .ok (.invokestatic 50, 3) := oc_184 (a := 0) (b := 50) (by decide +kernel)
theorem dX8_work_171 : decode cX8_work 171 = .ok (.iastore, 1) := oc_79 (by decide +kernel)
theorem dX8_work_151 : decode cX8_work 151 = .ok (.iconst 0, 1) := oc_3 (by decide +kernel)
theorem dX8_work_152 : decode cX8_work 152 = .ok (.ireturn, 1) := oc_172 (by decide +kernel)
theorem dX8_work_43 : decode cX8_work 43 = .ok (.if_icmp .lt 51, 3) := oc_161 (a := 0) (b := 51) (by decide +kernel)
theorem dX8_work_46 : decode cX8_work 46 = .ok (.iload 6, 2) := oc_21 (by decide +kernel)
theorem dX8_work_48 : decode cX8_work 48 = .ok (.bipush 17, 2) := oc_16 (a := 17) (by decide +kernel)
theorem dX8_work_50 : decode cX8_work 50 = .ok (.if_icmp .gt 44, 3) := oc_163 (a := 0) (b := 44) (by decide +kernel)
theorem dX8_work_83 : decode cX8_work 83 = .ok (.aload_n 2, 1) := oc_44 (by decide +kernel)
theorem dX8_work_84 : decode cX8_work 84 = .ok (.iload 6, 2) := oc_21 (by decide +kernel)
theorem dX8_work_86 : decode cX8_work 86 = .ok (.bipush 12, 2) := oc_16 (a := 12) (by decide +kernel)
theorem dX8_work_88 : decode cX8_work 88 = .ok (.isub, 1) := oc_100 (by decide +kernel)
theorem dX8_work_89 : decode cX8_work 89 = .ok (.iaload, 1) := oc_46 (by decide +kernel)
theorem dX8_firstSo_0 : decode cX8_firstSo 0 = .ok (.iconst 0, 1) := oc_3 (by decide +kernel)
theorem dX8_firstSo_1 : decode cX8_firstSo 1 = .ok (.istore 4, 2) := oc_54 (by decide +kernel)
theorem dX8_firstSo_3 : decode cX8_firstSo 3 = .ok (.iload 4, 2) := oc_21 (by decide +kernel)
theorem dX8_firstSo_5 : decode cX8_firstSo 5 = .ok (.aload_n 0, 1) := oc_42 (by decide +kernel)
theorem dX8_firstSo_6 : decode cX8_firstSo 6 = .ok (.getfield 21, 3) := oc_180 (a := 0) (b := 21) (by decide +kernel)
theorem dX8_firstSo_9 : decode cX8_firstSo 9 = .ok (.if_icmp .ge 34, 3) := oc_162 (a := 0) (b := 34) (by decide +kernel)
theorem dX8_firstSo_43 : decode cX8_firstSo 43 = .ok (.iconst (-1), 1) := oc_2 (by decide +kernel)
theorem dX8_firstSo_44 : decode cX8_firstSo 44 = .ok (.ireturn, 1) := oc_172 (by decide +kernel)
theorem dX8_firstSo_12 : decode cX8_firstSo 12 = .ok (.aload_n 0, 1) := oc_42 (by decide +kernel)
theorem dX8_firstSo_13 : decode cX8_firstSo 13 = .ok (.getfield 9, 3) := oc_180 (a := 0) (b := 9) (by decide +kernel)
theorem dX8_firstSo_16 : decode cX8_firstSo 16 = .ok (.iload 4, 2) := oc_21 (by decide +kernel)
theorem dX8_firstSo_18 : decode cX8_firstSo 18 = .ok (.iaload, 1) := oc_46 (by decide +kernel)
theorem dX8_firstSo_19 : decode cX8_firstSo 19 = .ok (.iload_n 1, 1) := oc_27 (by decide +kernel)
theorem dX8_firstSo_37 : decode cX8_firstSo 37 = .ok (.iinc 4 1, 3) := oc_132 (b := 1) (by decide +kernel)
theorem dX8_firstSo_40 : decode cX8_firstSo 40 = .ok (.goto (-37), 3) := oc_167 (a := 255) (b := 219) (by decide +kernel)
theorem dX8_firstSo_20 : decode cX8_firstSo 20 = .ok (.if_icmp .ne 17, 3) := oc_160 (a := 0) (b := 17) (by decide +kernel)
theorem dX8_firstSo_23 : decode cX8_firstSo 23 = .ok (.aload_n 0, 1) := oc_42 (by decide +kernel)
theorem dX8_firstSo_24 : decode cX8_firstSo 24 = .ok (.iload 4, 2) := oc_21 (by decide +kernel)
theorem dX8_firstSo_26 : decode cX8_firstSo 26 = .ok (.aload_n 2, 1) := oc_44 (by decide +kernel)
theorem dX8_firstSo_27 : decode cX8_firstSo 27 = .ok (.aload_n 3, 1) := oc_45 (by decide +kernel)
theorem tw_574 : Cond.methodLink RX8 29 yX8_work ∈ wsL_law := sg_24 _ (List.mem_of_getElem? (i := 22) rfl)
theorem tw_575 : Cond.instanceMethod yX8_work ∈ wsL_law := sg_24 _ (List.mem_of_getElem? (i := 23) rfl)
theorem tw_576 : Cond.selects RX8 yX8_work yX8_work ∈ wsL_law := sg_25 _ (List.mem_of_getElem? (i := 0) rfl)
theorem tw_577 : Cond.code yX8_work cX8_work 7 (some .int) ∈ wsL_law := sg_25 _ (List.mem_of_getElem? (i := 1) rfl)
theorem dX8_firstSo_28 : decode cX8_firstSo 28 = .ok (.invokevirtual 29, 3) := oc_182 (a := 0) (b := 29) (by decide +kernel)
theorem dX8_firstSo_31 : decode cX8_firstSo 31 = .ok (.ifCond .eq 6, 3) := oc_153 (a := 0) (b := 6) (by decide +kernel)
theorem dX8_firstSo_34 : decode cX8_firstSo 34 = .ok (.iload 4, 2) := oc_21 (by decide +kernel)
theorem dX8_firstSo_36 : decode cX8_firstSo 36 = .ok (.ireturn, 1) := oc_172 (by decide +kernel)
theorem dX3_whoIsSo_0 : decode cX3_whoIsSo 0 = .ok (.aload_n 0, 1) := oc_42 (by decide +kernel)
theorem dX3_whoIsSo_1 : decode cX3_whoIsSo 1 = .ok (.iload_n 1, 1) := oc_27 (by decide +kernel)
theorem dX3_whoIsSo_2 : decode cX3_whoIsSo 2 = .ok (.iload_n 2, 1) := oc_28 (by decide +kernel)
theorem dX3_whoIsSo_3 : decode cX3_whoIsSo 3 = .ok (.invokevirtual 52, 3) := oc_182 (a := 0) (b := 52) (by decide +kernel)
theorem dX3_whoIsSo_6 : decode cX3_whoIsSo 6 = .ok (.astore 6, 2) := oc_58 (by decide +kernel)
theorem dX3_whoIsSo_8 : decode cX3_whoIsSo 8 = .ok (.aload 6, 2) := oc_25 (by decide +kernel)
theorem dX3_whoIsSo_10 : decode cX3_whoIsSo 10 = .ok (.ifnonnull 6, 3) := oc_199 (a := 0) (b := 6) (by decide +kernel)
theorem dX3_whoIsSo_13 : decode cX3_whoIsSo 13 = .ok (.lload 4, 2) := oc_22 (by decide +kernel)
theorem dX3_whoIsSo_15 : decode cX3_whoIsSo 15 = .ok (.lreturn, 1) := oc_173 (by decide +kernel)
theorem dX3_whoIsSo_16 : decode cX3_whoIsSo 16 = .ok (.lconst 0, 1) := oc_9 (by decide +kernel)
theorem dX3_whoIsSo_17 : decode cX3_whoIsSo 17 = .ok (.lstore 7, 2) := oc_55 (by decide +kernel)
theorem dX3_whoIsSo_19 : decode cX3_whoIsSo 19 = .ok (.iconst 0, 1) := oc_3 (by decide +kernel)
theorem dX3_whoIsSo_20 : decode cX3_whoIsSo 20 = .ok (.istore 9, 2) := oc_54 (by decide +kernel)
theorem dX3_whoIsSo_22 : decode cX3_whoIsSo 22 = .ok (.iload 9, 2) := oc_21 (by decide +kernel)
theorem dX3_whoIsSo_24 : decode cX3_whoIsSo 24 = .ok (.aload_n 3, 1) := oc_45 (by decide +kernel)
theorem tw_465 : Cond.fieldLink RX3 60 "RingsUnder$Folk" "persons" "I" ∈ wsL_law := sg_20 _ (List.mem_of_getElem? (i := 9) rfl)
theorem dX3_whoIsSo_25 : decode cX3_whoIsSo 25 = .ok (.getfield 60, 3) := oc_180 (a := 0) (b := 60) (by decide +kernel)
theorem dX3_whoIsSo_28 : decode cX3_whoIsSo 28 = .ok (.if_icmp .ge 55, 3) := oc_162 (a := 0) (b := 55) (by decide +kernel)
theorem dX3_whoIsSo_83 : decode cX3_whoIsSo 83 = .ok (.lload 7, 2) := oc_22 (by decide +kernel)
theorem dX3_whoIsSo_85 : decode cX3_whoIsSo 85 = .ok (.lreturn, 1) := oc_173 (by decide +kernel)
theorem dX3_whoIsSo_31 : decode cX3_whoIsSo 31 = .ok (.lload 4, 2) := oc_22 (by decide +kernel)
theorem dX3_whoIsSo_33 : decode cX3_whoIsSo 33 = .ok (.iload 9, 2) := oc_21 (by decide +kernel)
theorem dX3_whoIsSo_35 : decode cX3_whoIsSo 35 = .ok (.invokestatic 65, 3) := oc_184 (a := 0) (b := 65) (by decide +kernel)
theorem dX3_whoIsSo_77 : decode cX3_whoIsSo 77 = .ok (.iinc 9 1, 3) := oc_132 (b := 1) (by decide +kernel)
theorem dX3_whoIsSo_80 : decode cX3_whoIsSo 80 = .ok (.goto (-58), 3) := oc_167 (a := 255) (b := 198) (by decide +kernel)
theorem dX3_whoIsSo_38 : decode cX3_whoIsSo 38 = .ok (.ifCond .eq 39, 3) := oc_153 (a := 0) (b := 39) (by decide +kernel)
theorem dX3_whoIsSo_41 : decode cX3_whoIsSo 41 = .ok (.aload_n 0, 1) := oc_42 (by decide +kernel)
theorem dX3_whoIsSo_42 : decode cX3_whoIsSo 42 = .ok (.aload_n 3, 1) := oc_45 (by decide +kernel)
theorem dX3_whoIsSo_43 : decode cX3_whoIsSo 43 = .ok (.iload 9, 2) := oc_21 (by decide +kernel)
theorem dX3_whoIsSo_45 : decode cX3_whoIsSo 45 = .ok (.iload_n 2, 1) := oc_28 (by decide +kernel)
theorem dX3_whoIsSo_46 : decode cX3_whoIsSo 46 = .ok (.iconst 0, 1) := oc_3 (by decide +kernel)
theorem tw_565 : Cond.methodLink RX3 69 yX3_nameAll ∈ wsL_law := sg_24 _ (List.mem_of_getElem? (i := 13) rfl)
theorem tw_566 : Cond.instanceMethod yX3_nameAll ∈ wsL_law := sg_24 _ (List.mem_of_getElem? (i := 14) rfl)
theorem tw_567 : Cond.selects RX3 yX3_nameAll yX3_nameAll ∈ wsL_law := sg_24 _ (List.mem_of_getElem? (i := 15) rfl)
theorem tw_568 : Cond.code yX3_nameAll cX3_nameAll 6 none ∈ wsL_law := sg_24 _ (List.mem_of_getElem? (i := 16) rfl)
theorem dX3_whoIsSo_47 : decode cX3_whoIsSo 47 = .ok (.invokevirtual 69, 3) := oc_182 (a := 0) (b := 69) (by decide +kernel)
theorem dX3_whoIsSo_50 : decode cX3_whoIsSo 50 = .ok (.aload 6, 2) := oc_25 (by decide +kernel)
theorem dX3_whoIsSo_52 : decode cX3_whoIsSo 52 = .ok (.iload_n 1, 1) := oc_27 (by decide +kernel)
theorem dX3_whoIsSo_53 : decode cX3_whoIsSo 53 = .ok (.aload_n 0, 1) := oc_42 (by decide +kernel)
theorem dX3_whoIsSo_54 : decode cX3_whoIsSo 54 = .ok (.getfield 27, 3) := oc_180 (a := 0) (b := 27) (by decide +kernel)
theorem dX3_whoIsSo_57 : decode cX3_whoIsSo 57 = .ok (.aload_n 0, 1) := oc_42 (by decide +kernel)
theorem tw_133 : Cond.fieldLink RX3 30 "RingsUnder$Law" "stack" "[I" ∈ wsL_law := sg_6 _ (List.mem_of_getElem? (i := 13) rfl)
theorem dX3_whoIsSo_58 : decode cX3_whoIsSo 58 = .ok (.getfield 30, 3) := oc_180 (a := 0) (b := 30) (by decide +kernel)
theorem tw_570 : Cond.methodLink RX3 73 yX8_firstSo ∈ wsL_law := sg_24 _ (List.mem_of_getElem? (i := 18) rfl)
theorem tw_571 : Cond.instanceMethod yX8_firstSo ∈ wsL_law := sg_24 _ (List.mem_of_getElem? (i := 19) rfl)
theorem tw_572 : Cond.selects RX8 yX8_firstSo yX8_firstSo ∈ wsL_law := sg_24 _ (List.mem_of_getElem? (i := 20) rfl)
theorem tw_573 : Cond.code yX8_firstSo cX8_firstSo 5 (some .int) ∈ wsL_law := sg_24 _ (List.mem_of_getElem? (i := 21) rfl)
theorem dX3_whoIsSo_61 : decode cX3_whoIsSo 61 = .ok (.invokevirtual 73, 3) := oc_182 (a := 0) (b := 73) (by decide +kernel)
theorem dX3_whoIsSo_64 : decode cX3_whoIsSo 64 = .ok (.iconst (-1), 1) := oc_2 (by decide +kernel)
theorem dX3_whoIsSo_65 : decode cX3_whoIsSo 65 = .ok (.if_icmp .eq 12, 3) := oc_159 (a := 0) (b := 12) (by decide +kernel)
theorem dX3_whoIsSo_68 : decode cX3_whoIsSo 68 = .ok (.lload 7, 2) := oc_22 (by decide +kernel)
theorem dX3_whoIsSo_70 : decode cX3_whoIsSo 70 = .ok (.lconst 1, 1) := oc_10 (by decide +kernel)
theorem dX3_whoIsSo_71 : decode cX3_whoIsSo 71 = .ok (.iload 9, 2) := oc_21 (by decide +kernel)
theorem dX3_whoIsSo_73 : decode cX3_whoIsSo 73 = .ok (.lshl, 1) := oc_121 (by decide +kernel)
theorem dX3_whoIsSo_74 : decode cX3_whoIsSo 74 = .ok (.lor, 1) := oc_129 (by decide +kernel)
theorem dX3_whoIsSo_75 : decode cX3_whoIsSo 75 = .ok (.lstore 7, 2) := oc_55 (by decide +kernel)
theorem dX3_clauseBy_0 : decode cX3_clauseBy 0 = .ok (.aload_n 0, 1) := oc_42 (by decide +kernel)
theorem dX3_clauseBy_1 : decode cX3_clauseBy 1 = .ok (.iload_n 1, 1) := oc_27 (by decide +kernel)
theorem dX3_clauseBy_2 : decode cX3_clauseBy 2 = .ok (.iload_n 2, 1) := oc_28 (by decide +kernel)
theorem dX3_clauseBy_3 : decode cX3_clauseBy 3 = .ok (.invokevirtual 52, 3) := oc_182 (a := 0) (b := 52) (by decide +kernel)
theorem dX3_clauseBy_6 : decode cX3_clauseBy 6 = .ok (.astore 5, 2) := oc_58 (by decide +kernel)
theorem dX3_clauseBy_8 : decode cX3_clauseBy 8 = .ok (.aload 5, 2) := oc_25 (by decide +kernel)
theorem dX3_clauseBy_10 : decode cX3_clauseBy 10 = .ok (.ifnonnull 5, 3) := oc_199 (a := 0) (b := 5) (by decide +kernel)
theorem dX3_clauseBy_13 : decode cX3_clauseBy 13 = .ok (.iconst (-1), 1) := oc_2 (by decide +kernel)
theorem dX3_clauseBy_14 : decode cX3_clauseBy 14 = .ok (.ireturn, 1) := oc_172 (by decide +kernel)
theorem dX3_clauseBy_15 : decode cX3_clauseBy 15 = .ok (.aload_n 0, 1) := oc_42 (by decide +kernel)
theorem dX3_clauseBy_16 : decode cX3_clauseBy 16 = .ok (.aload_n 3, 1) := oc_45 (by decide +kernel)
theorem dX3_clauseBy_17 : decode cX3_clauseBy 17 = .ok (.iload 4, 2) := oc_21 (by decide +kernel)
theorem dX3_clauseBy_19 : decode cX3_clauseBy 19 = .ok (.iload_n 2, 1) := oc_28 (by decide +kernel)
theorem dX3_clauseBy_20 : decode cX3_clauseBy 20 = .ok (.iconst 0, 1) := oc_3 (by decide +kernel)
theorem dX3_clauseBy_21 : decode cX3_clauseBy 21 = .ok (.invokevirtual 69, 3) := oc_182 (a := 0) (b := 69) (by decide +kernel)
theorem dX3_clauseBy_24 : decode cX3_clauseBy 24 = .ok (.aload 5, 2) := oc_25 (by decide +kernel)
theorem dX3_clauseBy_26 : decode cX3_clauseBy 26 = .ok (.iload_n 1, 1) := oc_27 (by decide +kernel)
theorem dX3_clauseBy_27 : decode cX3_clauseBy 27 = .ok (.aload_n 0, 1) := oc_42 (by decide +kernel)
theorem dX3_clauseBy_28 : decode cX3_clauseBy 28 = .ok (.getfield 27, 3) := oc_180 (a := 0) (b := 27) (by decide +kernel)
theorem dX3_clauseBy_31 : decode cX3_clauseBy 31 = .ok (.aload_n 0, 1) := oc_42 (by decide +kernel)
theorem dX3_clauseBy_32 : decode cX3_clauseBy 32 = .ok (.getfield 30, 3) := oc_180 (a := 0) (b := 30) (by decide +kernel)
theorem dX3_clauseBy_35 : decode cX3_clauseBy 35 = .ok (.invokevirtual 73, 3) := oc_182 (a := 0) (b := 73) (by decide +kernel)
theorem dX3_clauseBy_38 : decode cX3_clauseBy 38 = .ok (.ireturn, 1) := oc_172 (by decide +kernel)
theorem dX3_lastsFor_0 : decode cX3_lastsFor 0 = .ok (.aload_n 0, 1) := oc_42 (by decide +kernel)
theorem dX3_lastsFor_1 : decode cX3_lastsFor 1 = .ok (.iconst 0, 1) := oc_3 (by decide +kernel)
theorem dX3_lastsFor_2 : decode cX3_lastsFor 2 = .ok (.iload_n 1, 1) := oc_27 (by decide +kernel)
theorem dX3_lastsFor_3 : decode cX3_lastsFor 3 = .ok (.invokevirtual 52, 3) := oc_182 (a := 0) (b := 52) (by decide +kernel)
theorem dX3_lastsFor_6 : decode cX3_lastsFor 6 = .ok (.astore 5, 2) := oc_58 (by decide +kernel)
theorem dX3_lastsFor_8 : decode cX3_lastsFor 8 = .ok (.aload 5, 2) := oc_25 (by decide +kernel)
theorem dX3_lastsFor_10 : decode cX3_lastsFor 10 = .ok (.ifnonnull 5, 3) := oc_199 (a := 0) (b := 5) (by decide +kernel)
theorem dX3_lastsFor_13 : decode cX3_lastsFor 13 = .ok (.iconst 0, 1) := oc_3 (by decide +kernel)
theorem dX3_lastsFor_14 : decode cX3_lastsFor 14 = .ok (.ireturn, 1) := oc_172 (by decide +kernel)
theorem dX3_lastsFor_15 : decode cX3_lastsFor 15 = .ok (.aload_n 0, 1) := oc_42 (by decide +kernel)
theorem dX3_lastsFor_16 : decode cX3_lastsFor 16 = .ok (.aload_n 2, 1) := oc_44 (by decide +kernel)
theorem dX3_lastsFor_17 : decode cX3_lastsFor 17 = .ok (.iload_n 3, 1) := oc_29 (by decide +kernel)
theorem dX3_lastsFor_18 : decode cX3_lastsFor 18 = .ok (.iload_n 1, 1) := oc_27 (by decide +kernel)
theorem dX3_lastsFor_19 : decode cX3_lastsFor 19 = .ok (.iload 4, 2) := oc_21 (by decide +kernel)
theorem dX3_lastsFor_21 : decode cX3_lastsFor 21 = .ok (.invokevirtual 69, 3) := oc_182 (a := 0) (b := 69) (by decide +kernel)
theorem dX3_lastsFor_24 : decode cX3_lastsFor 24 = .ok (.aload 5, 2) := oc_25 (by decide +kernel)
theorem dX3_lastsFor_26 : decode cX3_lastsFor 26 = .ok (.iconst 0, 1) := oc_3 (by decide +kernel)
theorem dX3_lastsFor_27 : decode cX3_lastsFor 27 = .ok (.aload_n 0, 1) := oc_42 (by decide +kernel)
theorem dX3_lastsFor_28 : decode cX3_lastsFor 28 = .ok (.getfield 27, 3) := oc_180 (a := 0) (b := 27) (by decide +kernel)
theorem dX3_lastsFor_31 : decode cX3_lastsFor 31 = .ok (.aload_n 0, 1) := oc_42 (by decide +kernel)
theorem dX3_lastsFor_32 : decode cX3_lastsFor 32 = .ok (.getfield 30, 3) := oc_180 (a := 0) (b := 30) (by decide +kernel)
theorem dX3_lastsFor_35 : decode cX3_lastsFor 35 = .ok (.invokevirtual 73, 3) := oc_182 (a := 0) (b := 73) (by decide +kernel)
theorem dX3_lastsFor_38 : decode cX3_lastsFor 38 = .ok (.iconst (-1), 1) := oc_2 (by decide +kernel)
theorem dX3_lastsFor_39 : decode cX3_lastsFor 39 = .ok (.if_icmp .eq 7, 3) := oc_159 (a := 0) (b := 7) (by decide +kernel)
theorem dX3_lastsFor_46 : decode cX3_lastsFor 46 = .ok (.iconst 0, 1) := oc_3 (by decide +kernel)
theorem dX3_lastsFor_47 : decode cX3_lastsFor 47 = .ok (.ireturn, 1) := oc_172 (by decide +kernel)
theorem dX3_lastsFor_42 : decode cX3_lastsFor 42 = .ok (.iconst 1, 1) := oc_4 (by decide +kernel)
theorem dX3_lastsFor_43 : decode cX3_lastsFor 43 = .ok (.goto 4, 3) := oc_167 (a := 0) (b := 4) (by decide +kernel)
theorem dX7_isNumber_0 : decode cX7_isNumber 0 = .ok (.iload_n 0, 1) := oc_26 (by decide +kernel)
theorem dX7_isNumber_1 : decode cX7_isNumber 1 = .ok (.sipush (-5000), 3) := oc_17 (a := 236) (b := 120) (by decide +kernel)
theorem dX7_isNumber_4 : decode cX7_isNumber 4 = .ok (.if_icmp .le 7, 3) := oc_164 (a := 0) (b := 7) (by decide +kernel)
theorem dX7_isNumber_11 : decode cX7_isNumber 11 = .ok (.iconst 0, 1) := oc_3 (by decide +kernel)
theorem dX7_isNumber_12 : decode cX7_isNumber 12 = .ok (.ireturn, 1) := oc_172 (by decide +kernel)
theorem dX7_isNumber_7 : decode cX7_isNumber 7 = .ok (.iconst 1, 1) := oc_4 (by decide +kernel)
theorem dX7_isNumber_8 : decode cX7_isNumber 8 = .ok (.goto 4, 3) := oc_167 (a := 0) (b := 4) (by decide +kernel)
theorem dX7_meanOfNumbers_0 : decode cX7_meanOfNumbers 0 = .ok (.iload_n 0, 1) := oc_26 (by decide +kernel)
theorem tw_278 : Cond.methodLink RX7 72 yX7_isNumber ∈ wsL_law := sg_12 _ (List.mem_of_getElem? (i := 14) rfl)
theorem tw_279 : Cond.static yX7_isNumber ∈ wsL_law := sg_12 _ (List.mem_of_getElem? (i := 15) rfl)
theorem tw_37 : Cond.initialized RX7 ∈ wsL_law := sg_2 _ (List.mem_of_getElem? (i := 13) rfl)
theorem tw_280 : Cond.code yX7_isNumber cX7_isNumber 1 (some .boolean) ∈ wsL_law := sg_12 _ (List.mem_of_getElem? (i := 16) rfl)
theorem dX7_meanOfNumbers_1 : decode cX7_meanOfNumbers 1 = .ok (.invokestatic 72, 3) := oc_184 (a := 0) (b := 72) (by decide +kernel)
theorem dX7_meanOfNumbers_4 : decode cX7_meanOfNumbers 4 = .ok (.ifCond .ne 5, 3) := oc_154 (a := 0) (b := 5) (by decide +kernel)
theorem dX7_meanOfNumbers_9 : decode cX7_meanOfNumbers 9 = .ok (.iload_n 1, 1) := oc_27 (by decide +kernel)
theorem dX7_meanOfNumbers_10 : decode cX7_meanOfNumbers 10 = .ok (.invokestatic 72, 3) := oc_184 (a := 0) (b := 72) (by decide +kernel)
theorem dX7_meanOfNumbers_13 : decode cX7_meanOfNumbers 13 = .ok (.ifCond .eq 11, 3) := oc_153 (a := 0) (b := 11) (by decide +kernel)
theorem dX7_meanOfNumbers_24 : decode cX7_meanOfNumbers 24 = .ok (.iload_n 0, 1) := oc_26 (by decide +kernel)
theorem dX7_meanOfNumbers_25 : decode cX7_meanOfNumbers 25 = .ok (.ireturn, 1) := oc_172 (by decide +kernel)
theorem dX7_meanOfNumbers_16 : decode cX7_meanOfNumbers 16 = .ok (.iload_n 0, 1) := oc_26 (by decide +kernel)
theorem dX7_meanOfNumbers_17 : decode cX7_meanOfNumbers 17 = .ok (.iload_n 1, 1) := oc_27 (by decide +kernel)
theorem dX7_meanOfNumbers_18 : decode cX7_meanOfNumbers 18 = .ok (.iadd, 1) := oc_96 (by decide +kernel)
theorem dX7_meanOfNumbers_19 : decode cX7_meanOfNumbers 19 = .ok (.iconst 2, 1) := oc_5 (by decide +kernel)
theorem dX7_meanOfNumbers_20 : decode cX7_meanOfNumbers 20 = .ok (.idiv, 1) := oc_108 (by decide +kernel)
theorem dX7_meanOfNumbers_21 : decode cX7_meanOfNumbers 21 = .ok (.goto 4, 3) := oc_167 (a := 0) (b := 4) (by decide +kernel)
theorem dX7_meanOfNumbers_7 : decode cX7_meanOfNumbers 7 = .ok (.iload_n 1, 1) := oc_27 (by decide +kernel)
theorem dX7_meanOfNumbers_8 : decode cX7_meanOfNumbers 8 = .ok (.ireturn, 1) := oc_172 (by decide +kernel)
theorem dX7_known_0 : decode cX7_known 0 = .ok (.sipush (-6000), 3) := oc_17 (a := 232) (b := 144) (by decide +kernel)
theorem dX7_known_3 : decode cX7_known 3 = .ok (.istore 4, 2) := oc_54 (by decide +kernel)
theorem dX7_known_5 : decode cX7_known 5 = .ok (.sipush (-6000), 3) := oc_17 (a := 232) (b := 144) (by decide +kernel)
theorem dX7_known_8 : decode cX7_known 8 = .ok (.istore 5, 2) := oc_54 (by decide +kernel)
theorem dX7_known_10 : decode cX7_known 10 = .ok (.sipush (-6000), 3) := oc_17 (a := 232) (b := 144) (by decide +kernel)
theorem dX7_known_13 : decode cX7_known 13 = .ok (.istore 6, 2) := oc_54 (by decide +kernel)
theorem dX7_known_15 : decode cX7_known 15 = .ok (.sipush (-6000), 3) := oc_17 (a := 232) (b := 144) (by decide +kernel)
theorem dX7_known_18 : decode cX7_known 18 = .ok (.istore 7, 2) := oc_54 (by decide +kernel)
theorem dX7_known_20 : decode cX7_known 20 = .ok (.iconst 0, 1) := oc_3 (by decide +kernel)
theorem dX7_known_21 : decode cX7_known 21 = .ok (.istore 8, 2) := oc_54 (by decide +kernel)
theorem dX7_known_23 : decode cX7_known 23 = .ok (.iload 8, 2) := oc_21 (by decide +kernel)
theorem dX7_known_25 : decode cX7_known 25 = .ok (.aload_n 0, 1) := oc_42 (by decide +kernel)
theorem tw_254 : Cond.fieldLink RX7 59 "RingsUnder$Seas" "levels" "I" ∈ wsL_law := sg_11 _ (List.mem_of_getElem? (i := 14) rfl)
theorem dX7_known_26 : decode cX7_known 26 = .ok (.getfield 59, 3) := oc_180 (a := 0) (b := 59) (by decide +kernel)
theorem dX7_known_29 : decode cX7_known 29 = .ok (.if_icmp .ge 115, 3) := oc_162 (a := 0) (b := 115) (by decide +kernel)
theorem dX7_known_144 : decode cX7_known 144 = .ok (.iload 4, 2) := oc_21 (by decide +kernel)
theorem dX7_known_146 : decode cX7_known 146 = .ok (.invokestatic 72, 3) := oc_184 (a := 0) (b := 72) (by decide +kernel)
theorem dX7_known_149 : decode cX7_known 149 = .ok (.ifCond .eq 6, 3) := oc_153 (a := 0) (b := 6) (by decide +kernel)
theorem dX7_known_155 : decode cX7_known 155 = .ok (.iload 4, 2) := oc_21 (by decide +kernel)
theorem dX7_known_157 : decode cX7_known 157 = .ok (.sipush (-5000), 3) := oc_17 (a := 236) (b := 120) (by decide +kernel)
theorem dX7_known_187 : decode cX7_known 187 = .ok (.iload 7, 2) := oc_21 (by decide +kernel)
theorem dX7_known_189 : decode cX7_known 189 = .ok (.invokestatic 72, 3) := oc_184 (a := 0) (b := 72) (by decide +kernel)
theorem dX7_known_192 : decode cX7_known 192 = .ok (.ifCond .eq 8, 3) := oc_153 (a := 0) (b := 8) (by decide +kernel)
theorem dX7_known_200 : decode cX7_known 200 = .ok (.iconst 0, 1) := oc_3 (by decide +kernel)
theorem dX7_known_201 : decode cX7_known 201 = .ok (.ireturn, 1) := oc_172 (by decide +kernel)
theorem dX7_known_195 : decode cX7_known 195 = .ok (.iload 7, 2) := oc_21 (by decide +kernel)
theorem dX7_known_197 : decode cX7_known 197 = .ok (.goto 4, 3) := oc_167 (a := 0) (b := 4) (by decide +kernel)
theorem dX7_known_160 : decode cX7_known 160 = .ok (.if_icmp .ne 27, 3) := oc_160 (a := 0) (b := 27) (by decide +kernel)
theorem dX7_known_163 : decode cX7_known 163 = .ok (.iload 5, 2) := oc_21 (by decide +kernel)
theorem dX7_known_165 : decode cX7_known 165 = .ok (.invokestatic 72, 3) := oc_184 (a := 0) (b := 72) (by decide +kernel)
theorem dX7_known_179 : decode cX7_known 179 = .ok (.iload 5, 2) := oc_21 (by decide +kernel)
theorem dX7_known_181 : decode cX7_known 181 = .ok (.iload 6, 2) := oc_21 (by decide +kernel)
theorem tw_281 : Cond.methodLink RX7 76 yX7_meanOfNumbers ∈ wsL_law := sg_12 _ (List.mem_of_getElem? (i := 17) rfl)
theorem tw_282 : Cond.static yX7_meanOfNumbers ∈ wsL_law := sg_12 _ (List.mem_of_getElem? (i := 18) rfl)
theorem tw_283 : Cond.code yX7_meanOfNumbers cX7_meanOfNumbers 2 (some .int) ∈ wsL_law := sg_12 _ (List.mem_of_getElem? (i := 19) rfl)
theorem dX7_known_183 : decode cX7_known 183 = .ok (.invokestatic 76, 3) := oc_184 (a := 0) (b := 76) (by decide +kernel)
theorem dX7_known_186 : decode cX7_known 186 = .ok (.ireturn, 1) := oc_172 (by decide +kernel)
theorem dX7_known_168 : decode cX7_known 168 = .ok (.ifCond .ne 11, 3) := oc_154 (a := 0) (b := 11) (by decide +kernel)
theorem dX7_known_171 : decode cX7_known 171 = .ok (.iload 6, 2) := oc_21 (by decide +kernel)
theorem dX7_known_173 : decode cX7_known 173 = .ok (.invokestatic 72, 3) := oc_184 (a := 0) (b := 72) (by decide +kernel)
theorem dX7_known_176 : decode cX7_known 176 = .ok (.ifCond .eq 11, 3) := oc_153 (a := 0) (b := 11) (by decide +kernel)
theorem dX7_known_152 : decode cX7_known 152 = .ok (.iload 4, 2) := oc_21 (by decide +kernel)
theorem dX7_known_154 : decode cX7_known 154 = .ok (.ireturn, 1) := oc_172 (by decide +kernel)
theorem dX7_known_32 : decode cX7_known 32 = .ok (.aload_n 0, 1) := oc_42 (by decide +kernel)
theorem tw_61 : Cond.fieldLink RX7 9 "RingsUnder$Seas" "rise" "[I" ∈ wsL_law := sg_3 _ (List.mem_of_getElem? (i := 13) rfl)
theorem dX7_known_33 : decode cX7_known 33 = .ok (.getfield 9, 3) := oc_180 (a := 0) (b := 9) (by decide +kernel)
theorem dX7_known_36 : decode cX7_known 36 = .ok (.iload 8, 2) := oc_21 (by decide +kernel)
theorem dX7_known_38 : decode cX7_known 38 = .ok (.iaload, 1) := oc_46 (by decide +kernel)
theorem dX7_known_39 : decode cX7_known 39 = .ok (.iload_n 1, 1) := oc_27 (by decide +kernel)
theorem dX7_known_138 : decode cX7_known 138 = .ok (.iinc 8 1, 3) := oc_132 (b := 1) (by decide +kernel)
theorem dX7_known_141 : decode cX7_known 141 = .ok (.goto (-118), 3) := oc_167 (a := 255) (b := 138) (by decide +kernel)
theorem dX7_known_40 : decode cX7_known 40 = .ok (.if_icmp .ne 98, 3) := oc_160 (a := 0) (b := 98) (by decide +kernel)
theorem dX7_known_43 : decode cX7_known 43 = .ok (.aload_n 0, 1) := oc_42 (by decide +kernel)
theorem tw_64 : Cond.fieldLink RX7 21 "RingsUnder$Seas" "told" "[I" ∈ wsL_law := sg_3 _ (List.mem_of_getElem? (i := 16) rfl)
theorem dX7_known_44 : decode cX7_known 44 = .ok (.getfield 21, 3) := oc_180 (a := 0) (b := 21) (by decide +kernel)
theorem dX7_known_47 : decode cX7_known 47 = .ok (.iload 8, 2) := oc_21 (by decide +kernel)
theorem dX7_known_49 : decode cX7_known 49 = .ok (.iaload, 1) := oc_46 (by decide +kernel)
theorem dX7_known_50 : decode cX7_known 50 = .ok (.iload_n 3, 1) := oc_29 (by decide +kernel)
theorem dX7_known_51 : decode cX7_known 51 = .ok (.if_icmp .gt 87, 3) := oc_163 (a := 0) (b := 87) (by decide +kernel)
theorem dX7_known_54 : decode cX7_known 54 = .ok (.iload 7, 2) := oc_21 (by decide +kernel)
theorem dX7_known_56 : decode cX7_known 56 = .ok (.aload_n 0, 1) := oc_42 (by decide +kernel)
theorem tw_63 : Cond.fieldLink RX7 18 "RingsUnder$Seas" "value" "[I" ∈ wsL_law := sg_3 _ (List.mem_of_getElem? (i := 15) rfl)
theorem dX7_known_57 : decode cX7_known 57 = .ok (.getfield 18, 3) := oc_180 (a := 0) (b := 18) (by decide +kernel)
theorem dX7_known_60 : decode cX7_known 60 = .ok (.iload 8, 2) := oc_21 (by decide +kernel)
theorem dX7_known_62 : decode cX7_known 62 = .ok (.iaload, 1) := oc_46 (by decide +kernel)
theorem tw_274 : Cond.methodLink RX7 66 Lib.Math.max.name ∈ wsL_law := sg_12 _ (List.mem_of_getElem? (i := 10) rfl)
theorem dX7_known_63 : decode cX7_known 63 = .ok (.invokestatic 66, 3) := oc_184 (a := 0) (b := 66) (by decide +kernel)
theorem dX7_known_66 : decode cX7_known 66 = .ok (.istore 7, 2) := oc_54 (by decide +kernel)
theorem dX7_known_68 : decode cX7_known 68 = .ok (.aload_n 0, 1) := oc_42 (by decide +kernel)
theorem tw_62 : Cond.fieldLink RX7 15 "RingsUnder$Seas" "month" "[I" ∈ wsL_law := sg_3 _ (List.mem_of_getElem? (i := 14) rfl)
theorem dX7_known_69 : decode cX7_known 69 = .ok (.getfield 15, 3) := oc_180 (a := 0) (b := 15) (by decide +kernel)
theorem dX7_known_72 : decode cX7_known 72 = .ok (.iload 8, 2) := oc_21 (by decide +kernel)
theorem dX7_known_74 : decode cX7_known 74 = .ok (.iaload, 1) := oc_46 (by decide +kernel)
theorem dX7_known_75 : decode cX7_known 75 = .ok (.iload_n 2, 1) := oc_28 (by decide +kernel)
theorem dX7_known_76 : decode cX7_known 76 = .ok (.if_icmp .ne 15, 3) := oc_160 (a := 0) (b := 15) (by decide +kernel)
theorem dX7_known_91 : decode cX7_known 91 = .ok (.aload_n 0, 1) := oc_42 (by decide +kernel)
theorem dX7_known_92 : decode cX7_known 92 = .ok (.getfield 15, 3) := oc_180 (a := 0) (b := 15) (by decide +kernel)
theorem dX7_known_95 : decode cX7_known 95 = .ok (.iload 8, 2) := oc_21 (by decide +kernel)
theorem dX7_known_97 : decode cX7_known 97 = .ok (.iaload, 1) := oc_46 (by decide +kernel)
theorem dX7_known_98 : decode cX7_known 98 = .ok (.iload_n 2, 1) := oc_28 (by decide +kernel)
theorem dX7_known_99 : decode cX7_known 99 = .ok (.iconst 1, 1) := oc_4 (by decide +kernel)
theorem dX7_known_100 : decode cX7_known 100 = .ok (.isub, 1) := oc_100 (by decide +kernel)
theorem dX7_known_101 : decode cX7_known 101 = .ok (.if_icmp .ne 15, 3) := oc_160 (a := 0) (b := 15) (by decide +kernel)
theorem dX7_known_116 : decode cX7_known 116 = .ok (.aload_n 0, 1) := oc_42 (by decide +kernel)
theorem dX7_known_117 : decode cX7_known 117 = .ok (.getfield 15, 3) := oc_180 (a := 0) (b := 15) (by decide +kernel)
theorem dX7_known_120 : decode cX7_known 120 = .ok (.iload 8, 2) := oc_21 (by decide +kernel)
theorem dX7_known_122 : decode cX7_known 122 = .ok (.iaload, 1) := oc_46 (by decide +kernel)
theorem dX7_known_123 : decode cX7_known 123 = .ok (.iload_n 2, 1) := oc_28 (by decide +kernel)
theorem dX7_known_124 : decode cX7_known 124 = .ok (.iconst 1, 1) := oc_4 (by decide +kernel)
theorem dX7_known_125 : decode cX7_known 125 = .ok (.iadd, 1) := oc_96 (by decide +kernel)
theorem dX7_known_126 : decode cX7_known 126 = .ok (.if_icmp .ne 12, 3) := oc_160 (a := 0) (b := 12) (by decide +kernel)
theorem dX7_known_129 : decode cX7_known 129 = .ok (.aload_n 0, 1) := oc_42 (by decide +kernel)
theorem dX7_known_130 : decode cX7_known 130 = .ok (.getfield 18, 3) := oc_180 (a := 0) (b := 18) (by decide +kernel)
theorem dX7_known_133 : decode cX7_known 133 = .ok (.iload 8, 2) := oc_21 (by decide +kernel)
theorem dX7_known_135 : decode cX7_known 135 = .ok (.iaload, 1) := oc_46 (by decide +kernel)
theorem dX7_known_136 : decode cX7_known 136 = .ok (.istore 6, 2) := oc_54 (by decide +kernel)
theorem dX7_known_104 : decode cX7_known 104 = .ok (.aload_n 0, 1) := oc_42 (by decide +kernel)
theorem dX7_known_105 : decode cX7_known 105 = .ok (.getfield 18, 3) := oc_180 (a := 0) (b := 18) (by decide +kernel)
theorem dX7_known_108 : decode cX7_known 108 = .ok (.iload 8, 2) := oc_21 (by decide +kernel)
theorem dX7_known_110 : decode cX7_known 110 = .ok (.iaload, 1) := oc_46 (by decide +kernel)
theorem dX7_known_111 : decode cX7_known 111 = .ok (.istore 5, 2) := oc_54 (by decide +kernel)
theorem dX7_known_113 : decode cX7_known 113 = .ok (.goto 25, 3) := oc_167 (a := 0) (b := 25) (by decide +kernel)
theorem dX7_known_79 : decode cX7_known 79 = .ok (.aload_n 0, 1) := oc_42 (by decide +kernel)
theorem dX7_known_80 : decode cX7_known 80 = .ok (.getfield 18, 3) := oc_180 (a := 0) (b := 18) (by decide +kernel)
theorem dX7_known_83 : decode cX7_known 83 = .ok (.iload 8, 2) := oc_21 (by decide +kernel)
theorem dX7_known_85 : decode cX7_known 85 = .ok (.iaload, 1) := oc_46 (by decide +kernel)
theorem dX7_known_86 : decode cX7_known 86 = .ok (.istore 4, 2) := oc_54 (by decide +kernel)
theorem dX7_known_88 : decode cX7_known 88 = .ok (.goto 50, 3) := oc_167 (a := 0) (b := 50) (by decide +kernel)
set_option maxRecDepth 100000 in
def g_X8_work_102_103_K172 (x_904 : Int32) (k_g_X8_work_102_103_L11 : (Int32) → (Int32) → (Nat → Nat → Int32) → Int32 × vM) (x_1072 : Int32) (ri_1073 : Nat → Nat → Int32) : Int32 × vM := (ap1 (x_904 + Int32.ofInt 1) fun (x_1080 : Int32) => (k_g_X8_work_102_103_L11 x_1072 x_1080 ri_1073))
set_option maxRecDepth 100000 in
theorem g_X8_work_102_103_K172_e {x_904 : Int32} {k_g_X8_work_102_103_L11 : (Int32) → (Int32) → (Nat → Nat → Int32) → Int32 × vM} {x_1072 : Int32} {ri_1073 : Nat → Nat → Int32} : g_X8_work_102_103_K172 x_904 k_g_X8_work_102_103_L11 x_1072 ri_1073 = (ap1 (x_904 + Int32.ofInt 1) fun (x_1080 : Int32) => (k_g_X8_work_102_103_L11 x_1072 x_1080 ri_1073)) := rfl
set_option maxRecDepth 100000 in
def g_X8_work_102_103_K90 (x_904 : Int32) (ri_905 : Nat → Nat → Int32) (k_g_X8_work_102_103_L11 : (Int32) → (Int32) → (Nat → Nat → Int32) → Int32 × vM) (x_1009 : Int32) (x_1086 : Int32) : Int32 × vM := (ap1 (va_up ri_905 103 (upd (ri_905 103) (x_1086).toNatClampNeg x_1009)) fun (r_1095 : Nat → Nat → Int32) => (g_X8_work_102_103_K172 x_904 k_g_X8_work_102_103_L11 x_1086 r_1095))
set_option maxRecDepth 100000 in
theorem g_X8_work_102_103_K90_e {x_904 : Int32} {ri_905 : Nat → Nat → Int32} {k_g_X8_work_102_103_L11 : (Int32) → (Int32) → (Nat → Nat → Int32) → Int32 × vM} {x_1009 : Int32} {x_1086 : Int32} : g_X8_work_102_103_K90 x_904 ri_905 k_g_X8_work_102_103_L11 x_1009 x_1086  = (ap1 (va_up ri_905 103 (upd (ri_905 103) (x_1086).toNatClampNeg x_1009)) fun (r_1095 : Nat → Nat → Int32) => (g_X8_work_102_103_K172 x_904 k_g_X8_work_102_103_L11 x_1086 r_1095)) := rfl
set_option maxRecDepth 100000 in
def g_X8_work_102_103_K139 (x_903 : Int32) (x_904 : Int32) (ri_905 : Nat → Nat → Int32) (k_g_X8_work_102_103_L11 : (Int32) → (Int32) → (Nat → Nat → Int32) → Int32 × vM) (x_1199 : Int32) : Int32 × vM := (ap1 (va_up ri_905 103 (upd (ri_905 103) (x_903).toNatClampNeg x_1199)) fun (r_1202 : Nat → Nat → Int32) => (g_X8_work_102_103_K172 x_904 k_g_X8_work_102_103_L11 x_903 r_1202))
set_option maxRecDepth 100000 in
theorem g_X8_work_102_103_K139_e {x_903 : Int32} {x_904 : Int32} {ri_905 : Nat → Nat → Int32} {k_g_X8_work_102_103_L11 : (Int32) → (Int32) → (Nat → Nat → Int32) → Int32 × vM} {x_1199 : Int32} : g_X8_work_102_103_K139 x_903 x_904 ri_905 k_g_X8_work_102_103_L11 x_1199 = (ap1 (va_up ri_905 103 (upd (ri_905 103) (x_903).toNatClampNeg x_1199)) fun (r_1202 : Nat → Nat → Int32) => (g_X8_work_102_103_K172 x_904 k_g_X8_work_102_103_L11 x_903 r_1202)) := rfl
set_option maxRecDepth 100000 in
def g_X8_work_102_103_K108 (I : Nat → Int32) (J : Nat → Int64) (rj : Nat → Nat → Int64) (rq : Nat → Nat → Option Nat) (x_903 : Int32) (x_904 : Int32) (ri_905 : Nat → Nat → Int32) (k_g_X8_work_102_103_L11 : (Int32) → (Int32) → (Nat → Nat → Int32) → Int32 × vM) (x_1010 : Int32) : Int32 × vM := (if (0 : Int32) ≤ x_903 then (if x_1010 = (11 : Int32) then (ap1 (ri_905 103 (x_903).toNatClampNeg) fun (x_1210 : Int32) => (ap1 ((1 : Int32) - x_1210) fun (x_1211 : Int32) => (g_X8_work_102_103_K139 x_903 x_904 ri_905 k_g_X8_work_102_103_L11 x_1211))) else (ap1 (ri_905 103 (x_903).toNatClampNeg) fun (x_1207 : Int32) => (ap1 (-x_1207) fun (x_1208 : Int32) => (g_X8_work_102_103_K139 x_903 x_904 ri_905 k_g_X8_work_102_103_L11 x_1208)))) else ((0 : Int32), I, J, ri_905, rj, rq))
set_option maxRecDepth 100000 in
theorem g_X8_work_102_103_K108_e {I : Nat → Int32} {J : Nat → Int64} {rj : Nat → Nat → Int64} {rq : Nat → Nat → Option Nat} {x_903 : Int32} {x_904 : Int32} {ri_905 : Nat → Nat → Int32} {k_g_X8_work_102_103_L11 : (Int32) → (Int32) → (Nat → Nat → Int32) → Int32 × vM} {x_1010 : Int32} : g_X8_work_102_103_K108 I J rj rq x_903 x_904 ri_905 k_g_X8_work_102_103_L11 x_1010  = (if (0 : Int32) ≤ x_903 then (if x_1010 = (11 : Int32) then (ap1 (ri_905 103 (x_903).toNatClampNeg) fun (x_1210 : Int32) => (ap1 ((1 : Int32) - x_1210) fun (x_1211 : Int32) => (g_X8_work_102_103_K139 x_903 x_904 ri_905 k_g_X8_work_102_103_L11 x_1211))) else (ap1 (ri_905 103 (x_903).toNatClampNeg) fun (x_1207 : Int32) => (ap1 (-x_1207) fun (x_1208 : Int32) => (g_X8_work_102_103_K139 x_903 x_904 ri_905 k_g_X8_work_102_103_L11 x_1208)))) else ((0 : Int32), I, J, ri_905, rj, rq)) := rfl
set_option maxRecDepth 100000 in
def g_X8_work_102_103_K94 (I : Nat → Int32) (J : Nat → Int64) (rj : Nat → Nat → Int64) (rq : Nat → Nat → Option Nat) (x_903 : Int32) (x_904 : Int32) (ri_905 : Nat → Nat → Int32) (k_g_X8_work_102_103_L11 : (Int32) → (Int32) → (Nat → Nat → Int32) → Int32 × vM) (x_1010 : Int32) : Int32 × vM := (if x_1010 = (11 : Int32) then (g_X8_work_102_103_K108 I J rj rq x_903 x_904 ri_905 k_g_X8_work_102_103_L11 x_1010 ) else (if x_1010 = (35 : Int32) then (g_X8_work_102_103_K108 I J rj rq x_903 x_904 ri_905 k_g_X8_work_102_103_L11 x_1010 ) else (ap1 (x_903 + Int32.ofInt (-1)) fun (x_1218 : Int32) => (if (0 : Int32) ≤ x_1218 then (ap1 (ri_905 103 (x_1218).toNatClampNeg) fun (x_1224 : Int32) => (ap1 (x_1218 + (1 : Int32)) fun (x_1225 : Int32) => (ap1 (ri_905 103 (x_1225).toNatClampNeg) fun (x_1227 : Int32) => (ap1 (g_X8_join x_1010 x_1224 x_1227) fun (x_1228 : Int32) => (ap1 (va_up ri_905 103 (upd (ri_905 103) (x_1218).toNatClampNeg x_1228)) fun (r_1235 : Nat → Nat → Int32) => (g_X8_work_102_103_K172 x_904 k_g_X8_work_102_103_L11 x_1218 r_1235)))))) else ((0 : Int32), I, J, ri_905, rj, rq)))))
set_option maxRecDepth 100000 in
theorem g_X8_work_102_103_K94_e {I : Nat → Int32} {J : Nat → Int64} {rj : Nat → Nat → Int64} {rq : Nat → Nat → Option Nat} {x_903 : Int32} {x_904 : Int32} {ri_905 : Nat → Nat → Int32} {k_g_X8_work_102_103_L11 : (Int32) → (Int32) → (Nat → Nat → Int32) → Int32 × vM} {x_1010 : Int32} : g_X8_work_102_103_K94 I J rj rq x_903 x_904 ri_905 k_g_X8_work_102_103_L11 x_1010  = (if x_1010 = (11 : Int32) then (g_X8_work_102_103_K108 I J rj rq x_903 x_904 ri_905 k_g_X8_work_102_103_L11 x_1010 ) else (if x_1010 = (35 : Int32) then (g_X8_work_102_103_K108 I J rj rq x_903 x_904 ri_905 k_g_X8_work_102_103_L11 x_1010 ) else (ap1 (x_903 + Int32.ofInt (-1)) fun (x_1218 : Int32) => (if (0 : Int32) ≤ x_1218 then (ap1 (ri_905 103 (x_1218).toNatClampNeg) fun (x_1224 : Int32) => (ap1 (x_1218 + (1 : Int32)) fun (x_1225 : Int32) => (ap1 (ri_905 103 (x_1225).toNatClampNeg) fun (x_1227 : Int32) => (ap1 (g_X8_join x_1010 x_1224 x_1227) fun (x_1228 : Int32) => (ap1 (va_up ri_905 103 (upd (ri_905 103) (x_1218).toNatClampNeg x_1228)) fun (r_1235 : Nat → Nat → Int32) => (g_X8_work_102_103_K172 x_904 k_g_X8_work_102_103_L11 x_1218 r_1235)))))) else ((0 : Int32), I, J, ri_905, rj, rq))))) := rfl
set_option maxRecDepth 100000 in
def g_X8_work_102_103_K90_2 (x_904 : Int32) (ri_905 : Nat → Nat → Int32) (k_g_X8_work_102_103_L11 : (Int32) → (Int32) → (Nat → Nat → Int32) → Int32 × vM) (x_1248 : Int32) (x_1258 : Int32) : Int32 × vM := (ap1 (va_up ri_905 103 (upd (ri_905 103) (x_1248).toNatClampNeg x_1258)) fun (r_1261 : Nat → Nat → Int32) => (g_X8_work_102_103_K172 x_904 k_g_X8_work_102_103_L11 x_1248 r_1261))
set_option maxRecDepth 100000 in
theorem g_X8_work_102_103_K90_2_e {x_904 : Int32} {ri_905 : Nat → Nat → Int32} {k_g_X8_work_102_103_L11 : (Int32) → (Int32) → (Nat → Nat → Int32) → Int32 × vM} {x_1248 : Int32} {x_1258 : Int32} : g_X8_work_102_103_K90_2 x_904 ri_905 k_g_X8_work_102_103_L11 x_1248 x_1258 = (ap1 (va_up ri_905 103 (upd (ri_905 103) (x_1248).toNatClampNeg x_1258)) fun (r_1261 : Nat → Nat → Int32) => (g_X8_work_102_103_K172 x_904 k_g_X8_work_102_103_L11 x_1248 r_1261)) := rfl
set_option maxRecDepth 100000 in
def g_X8_work_102_103_L11 (this : Nat) (a0 : Int32) (I : Nat → Int32) (J : Nat → Int64) (rj : Nat → Nat → Int64) (rq : Nat → Nat → Option Nat) (tR : Nat → Nat → Nat → Int32) : Nat → (Int32) → (Int32) → (Nat → Nat → Int32) → Int32 × vM
  | 0, x_903, x_904, ri_905 => ((0 : Int32), I, J, ri_905, rj, rq)
  | n_988 + 1, x_903, x_904, ri_905 => (ap1 (a0 + (1 : Int32)) fun (x_995 : Int32) => (ap1 (tR 258 this (x_995).toNatClampNeg) fun (x_997 : Int32) => (if x_997 ≤ x_904 then (if x_903 = (0 : Int32) then (ap1 (ri_905 103 (x_903).toNatClampNeg) fun (x_1005 : Int32) => (x_1005, I, J, ri_905, rj, rq)) else ((0 : Int32), I, J, ri_905, rj, rq)) else (ap1 (tR 259 this (x_904).toNatClampNeg) fun (x_1009 : Int32) => (ap1 (-x_1009) fun (x_1010 : Int32) => (if x_1010 ≤ (0 : Int32) then (ap1 (x_903 + Int32.ofInt 1) fun (x_1086 : Int32) => (if x_1086 < (40 : Int32) then (g_X8_work_102_103_K90 x_904 ri_905 (g_X8_work_102_103_L11 this a0 I J rj rq tR n_988) x_1009 x_1086 ) else ((0 : Int32), I, J, ri_905, rj, rq))) else (if x_1010 < (12 : Int32) then (g_X8_work_102_103_K94 I J rj rq x_903 x_904 ri_905 (g_X8_work_102_103_L11 this a0 I J rj rq tR n_988) x_1010 ) else (if (17 : Int32) < x_1010 then (g_X8_work_102_103_K94 I J rj rq x_903 x_904 ri_905 (g_X8_work_102_103_L11 this a0 I J rj rq tR n_988) x_1010 ) else (ap1 (x_903 + Int32.ofInt 1) fun (x_1248 : Int32) => (if x_1248 < (40 : Int32) then (ap1 (x_1010 - (12 : Int32)) fun (x_1263 : Int32) => (ap1 (ri_905 102 (x_1263).toNatClampNeg) fun (x_1265 : Int32) => (g_X8_work_102_103_K90_2 x_904 ri_905 (g_X8_work_102_103_L11 this a0 I J rj rq tR n_988) x_1248 x_1265))) else ((0 : Int32), I, J, ri_905, rj, rq)))))))))))
set_option maxRecDepth 100000 in
theorem g_X8_work_102_103_L11_e {this : Nat} {a0 : Int32} {I : Nat → Int32} {J : Nat → Int64} {rj : Nat → Nat → Int64} {rq : Nat → Nat → Option Nat} {tR : Nat → Nat → Nat → Int32} {n_988 : Nat} {x_903 : Int32} {x_904 : Int32} {ri_905 : Nat → Nat → Int32} : g_X8_work_102_103_L11 this a0 I J rj rq tR (n_988 + 1) x_903 x_904 ri_905 = (ap1 (a0 + (1 : Int32)) fun (x_995 : Int32) => (ap1 (tR 258 this (x_995).toNatClampNeg) fun (x_997 : Int32) => (if x_997 ≤ x_904 then (if x_903 = (0 : Int32) then (ap1 (ri_905 103 (x_903).toNatClampNeg) fun (x_1005 : Int32) => (x_1005, I, J, ri_905, rj, rq)) else ((0 : Int32), I, J, ri_905, rj, rq)) else (ap1 (tR 259 this (x_904).toNatClampNeg) fun (x_1009 : Int32) => (ap1 (-x_1009) fun (x_1010 : Int32) => (if x_1010 ≤ (0 : Int32) then (ap1 (x_903 + Int32.ofInt 1) fun (x_1086 : Int32) => (if x_1086 < (40 : Int32) then (g_X8_work_102_103_K90 x_904 ri_905 (g_X8_work_102_103_L11 this a0 I J rj rq tR n_988) x_1009 x_1086 ) else ((0 : Int32), I, J, ri_905, rj, rq))) else (if x_1010 < (12 : Int32) then (g_X8_work_102_103_K94 I J rj rq x_903 x_904 ri_905 (g_X8_work_102_103_L11 this a0 I J rj rq tR n_988) x_1010 ) else (if (17 : Int32) < x_1010 then (g_X8_work_102_103_K94 I J rj rq x_903 x_904 ri_905 (g_X8_work_102_103_L11 this a0 I J rj rq tR n_988) x_1010 ) else (ap1 (x_903 + Int32.ofInt 1) fun (x_1248 : Int32) => (if x_1248 < (40 : Int32) then (ap1 (x_1010 - (12 : Int32)) fun (x_1263 : Int32) => (ap1 (ri_905 102 (x_1263).toNatClampNeg) fun (x_1265 : Int32) => (g_X8_work_102_103_K90_2 x_904 ri_905 (g_X8_work_102_103_L11 this a0 I J rj rq tR n_988) x_1248 x_1265))) else ((0 : Int32), I, J, ri_905, rj, rq))))))))))) := rfl
set_option maxRecDepth 100000 in
def g_X8_work_102_103 (tR : Nat → Nat → Nat → Int32) (this : Nat) (a0 : Int32) (I : Nat → Int32) (J : Nat → Int64) (ri : Nat → Nat → Int32) (rj : Nat → Nat → Int64) (rq : Nat → Nat → Option Nat) : Int32 × vM := (ap1 (tR 258 this (a0).toNatClampNeg) fun (x_2 : Int32) => (g_X8_work_102_103_L11 this a0 I J rj rq tR ((300 - (x_2).toInt).toNat + 1) (-1 : Int32) x_2 ri))
set_option maxRecDepth 100000 in
theorem g_X8_work_102_103_e {tR : Nat → Nat → Nat → Int32} {this : Nat} {a0 : Int32} {I : Nat → Int32} {J : Nat → Int64} {ri : Nat → Nat → Int32} {rj : Nat → Nat → Int64} {rq : Nat → Nat → Option Nat} : g_X8_work_102_103 tR this a0 I J ri rj rq = (ap1 (tR 258 this (a0).toNatClampNeg) fun (x_2 : Int32) => (g_X8_work_102_103_L11 this a0 I J rj rq tR ((300 - (x_2).toInt).toNat + 1) (-1 : Int32) x_2 ri)) := rfl
set_option maxHeartbeats 4000000 in
set_option maxRecDepth 100000 in
theorem s_X8_work_102_103 (l : Launch) (D : va_G) (t : pq_T) (σ : pq_S) (I : Nat → Nat → Int32) (J : Nat → Nat → Int64) (ri : Nat → Nat → Int32) (rj : Nat → Nat → Int64) (rq : Nat → Nat → Option Nat) (sz : Nat) (tg : Nat → Nat) (hSH : SH σ tg) (hG0 : GS tg σ I ri rq) (this : Nat) (a0 : Int32) (a1 : Nat) (a2 : Nat) (hL_this : this ∈ σ.1) (hK_this : σ.2.1 this = 8) (h_a0 : rg a0 0 19) (hL_a1 : a1 ∈ σ.1) (hK_a1 : σ.2.1 a1 = 13) (hN_a1 : σ.2.2.2 a1 = 6) (hT_a1 : tg a1 = 102) (hL_a2 : a2 ∈ σ.1) (hK_a2 : σ.2.1 a2 = 13) (hN_a2 : σ.2.2.2 a2 = 40) (hT_a2 : tg a2 = 103) (M : Nat) (hL_M : M ∈ σ.1) (hK_M : σ.2.1 M = 10) (hO_a1 : a1 = vrow σ 102 M) (hO_a2 : a2 = vrow σ 103 M) : MetI l yX8_work (wa yX8_work cX8_work 7 (some .int)) ({ frames := 2, cells := 0, slots := 0, locals := 64 }) [.ref this, .int a0, .ref a1, .ref a2] D t σ (I, J, ri, rj, rq) sz 0 0 (fun (r : Int32) (u : pq_S × pq_M) => ∃ ri' : Nat → Nat → Int32, u = (σ, I, J, ri', rj, rq) ∧ GX [] tg σ I ri rj I ri' rj rq ∧ g_X8_work_102_103 (tR σ ri) this a0 (vI 10 σ M I) (vJ 10 σ M J) (vR 10 σ M ri) (vL 10 σ M rj) (vQ 10 σ M rq) = (r, (vI 10 σ M I), (vJ 10 σ M J), (vR 10 σ M ri'), (vL 10 σ M rj), (vQ 10 σ M rq)) ∧ FR 10 tg σ M (I, J, ri, rj, rq) (I, J, ri', rj, rq)) := by
  refine Met.ofW (cc := cX8_work) (maxL := 7) (ret := (some .int)) (by decide +kernel) rfl ?_
  intro p e s m args below meth c s₁ B hml hv
  obtain ⟨rfl, hsz, hP, hK, hD0, hN⟩ := hv
  have hx := B.exec
  have hb := B.bytes
  have hr := B.returns
  have hts := atoms_spec (ws := (wa yX8_work cX8_work 7 (some .int))) B.pre
  have hown : s.vm.findClass RX8 = some m.cls := findClass_of_methodNamed B.named
  have hlocks := B.notSynchronized
  subst hsz
  have hD : va_D (pq_B t σ (I, J, ri, rj, rq) s.heap.size) (pq_P t σ (I, J, ri, rj, rq)) := hD0.self
  generalize hAe : pq_B t σ (I, J, ri, rj, rq) s.heap.size = A at hD ⊢
  have hA : ∀ q : Nat, s.heap.size ≤ q → A q := fun q h => by rw [← hAe]; exact Or.inr h
  have hS : va_S A s.heap s.heap [] := va_S.rf
  have hG : GX [] tg σ I ri rj I ri rj rq := ⟨hG0, fun _ _ _ => rfl, fun _ _ _ _ _ => rfl, fun _ _ _ _ _ => rfl⟩
  have hl := lv_entry ([.ref this, .int a0, .ref a1, .ref a2]) (n := 7) (Nat.le_of_ble_eq_true rfl)
  rw [lg_entry_eq]
  generalize (lg_sl ([.ref this, .int a0, .ref a1, .ref a2]) ++ List.replicate (7 - (lg_sl ([.ref this, .int a0, .ref a1, .ref a2])).length) Slot.unset).toArray = ls at hl ⊢
  have hl : lv_has ls 7 [(0, .ref this), (1, .int a0), (2, .ref a1), (3, .ref a2)] := hl
  refine q_gen (fun Q hQ => ?_)
  have go : ∀ (H : Heap) (locs : List Loc) (ls : Array Slot), va_P D vwCl (pq_P t σ (I, J, ri, rj, rq)) H → va_D A (pq_P t σ (I, J, ri, rj, rq)) → va_S A s.heap H locs → lv_has ls 7 [(0, .ref this), (1, .int a0), (2, .ref a1), (3, .ref a2)] → W p l e ({ frames := 2, cells := 0, slots := 0, locals := 64 } : Room) s m (List.toArray ([.ref this, .int a0, .ref a1, .ref a2] : List Value)) below meth c H locs 0 0 Q (F0 m 0 ls []) := by
    intro H locs ls hP hD hS hl
    have hVT : VT 10 σ tg M := vt_10 hSH hL_M hK_M
    have hFr : FR 10 tg σ M (I, J, ri, rj, rq) (I, J, ri, rj, rq) := fr_rf
    obtain ⟨F, hF0⟩ : ∃ F, F = g_X8_work_102_103 (tR σ ri) this a0 (vI 10 σ M I) (vJ 10 σ M J) (vR 10 σ M ri) (vL 10 σ M rj) (vQ 10 σ M rq) := ⟨_, rfl⟩
    have hF := hF0.trans g_X8_work_102_103_e
    refine lv_iconst (v := (-1)) hx hb dX8_work_0 (by decide +kernel) ?_
    refine lv_istore (lv' := [(4, .int (-1)), (0, .ref this), (1, .int a0), (2, .ref a1), (3, .ref a2)]) hx hb dX8_work_1 hl (by decide +kernel) rfl (fun ls hl => ?_)
    refine lv_aload_n hx hb dX8_work_3 rfl (lv_at hl 1 rfl) ?_
    obtain ⟨w_1, hR_w_1, hL_w_1, hK_w_1, hN_w_1, hT_w_1⟩ := sh_a hSH 258 (ci := 8) (kd := 13) (len := 21) rfl (by decide +kernel) hL_this hK_this
    refine pg_f (v := .ref w_1) (C := RX8) (T := TX8) (N := 4) hx hb hts (tw_i inlX8) hown hK hP hL_this hK_this (by decide +kernel) rfl 2 (by decide +kernel) (hts _ (tw_c tw_170)) (pq_hv rfl hR_w_1) dX8_work_4 ?_
    refine lv_iload_n hx hb dX8_work_7 rfl (lv_at hl 2 rfl) ?_
    refine pl_i hx hb hK hP hL_w_1 hK_w_1 hN_w_1 (rg_in h_a0 (by decide +kernel)) dX8_work_8 ?_
    refine lv_topi (fun x_2 ex_2 => ?_)
    replace hF := hF.trans (ap_n (tR_r hFr hVT hL_this hK_this hR_w_1 hT_w_1 (by decide +kernel) ex_2))
    have h_3 : rg x_2 0 300 := rg_of_eq ex_2 (GX.rR hG hT_w_1 rfl)
    refine lv_istore (lv' := [(5, .int x_2), (4, .int (-1)), (0, .ref this), (1, .int a0), (2, .ref a1), (3, .ref a2)]) hx hb dX8_work_9 hl (by decide +kernel) rfl (fun ls hl => ?_)
    have L_989 : ∀ (n_988 : Nat) (x_903 : Int32) (x_904 : Int32) (ri_905 : Nat → Nat → Int32) (H : Heap) (locs : List Loc) (ls : Array Slot), rg x_903 (-1) 39 → rg x_904 0 300 → (300 - (x_904).toInt).toNat < n_988 → F = g_X8_work_102_103_L11 this a0 (vI 10 σ M I) (vJ 10 σ M J) (vL 10 σ M rj) (vQ 10 σ M rq) (tR σ ri) n_988 x_903 x_904 (vR 10 σ M ri_905) → FR 10 tg σ M (I, J, ri, rj, rq) (I, J, ri_905, rj, rq) → GX [] tg σ I ri rj I ri_905 rj rq → va_P D vwCl (pq_P t σ (I, J, ri_905, rj, rq)) H → va_D A (pq_P t σ (I, J, ri_905, rj, rq)) → va_S A s.heap H locs → lv_has ls 7 [(0, .ref this), (1, .int a0), (2, .ref a1), (3, .ref a2), (4, .int x_903), (5, .int x_904)] → W p l e ({ frames := 2, cells := 0, slots := 0, locals := 64 } : Room) s m (List.toArray ([.ref this, .int a0, .ref a1, .ref a2] : List Value)) below meth c H locs 0 0 Q (F0 m 11 ls []) := by
      intro n_988
      induction n_988 with
      | zero => intro x_903 x_904 ri_905 H locs ls h_993 h_994 hm_987 hF hFr hG hP hD hS hl; exact absurd hm_987 (Nat.not_lt_zero _)
      | succ n_988 ih_990 =>
        intro x_903 x_904 ri_905 H locs ls h_993 h_994 hm_987 hF hFr hG hP hD hS hl
        replace hF := hF.trans g_X8_work_102_103_L11_e
        refine lv_iload hx hb dX8_work_11 (lv_at hl 5 rfl) ?_
        refine lv_aload_n hx hb dX8_work_13 rfl (lv_at hl 0 rfl) ?_
        refine pg_f (v := .ref w_1) (C := RX8) (T := TX8) (N := 4) hx hb hts (tw_i inlX8) hown hK hP hL_this hK_this (by decide +kernel) rfl 2 (by decide +kernel) (hts _ (tw_c tw_170)) (pq_hv rfl hR_w_1) dX8_work_14 ?_
        refine lv_iload_n hx hb dX8_work_17 rfl (lv_at hl 1 rfl) ?_
        refine lv_iconst (v := 1) hx hb dX8_work_18 (by decide +kernel) ?_
        refine lv_iadd hx hb dX8_work_19 ?_
        refine lv_topi (fun x_995 ex_995 => ?_)
        replace hF := hF.trans (ap_n ex_995)
        have h_996 : rg x_995 1 20 := rg_of_eq ex_995 (rg_add h_a0 (rg_k (1 : Int32) 1 rfl) (by decide +kernel))
        refine pl_i hx hb hK hP hL_w_1 hK_w_1 hN_w_1 (rg_in h_996 (by decide +kernel)) dX8_work_20 ?_
        refine lv_topi (fun x_997 ex_997 => ?_)
        replace hF := hF.trans (ap_n (tR_r hFr hVT hL_this hK_this hR_w_1 hT_w_1 (by decide +kernel) ex_997))
        have h_998 : rg x_997 0 300 := rg_of_eq ex_997 (GX.rR hG hT_w_1 rfl)
        refine lv_icmp_ge (tgt := 178) hx hb dX8_work_21 (by decide +kernel) (fun c_999 => ?_) (fun c_999 => ?_)
        · replace hF := hF.trans (if_pos c_999)
          refine lv_iload hx hb dX8_work_178 (lv_at hl 4 rfl) ?_
          refine lv_if_ne (tgt := 190) hx hb dX8_work_180 (by decide +kernel) (fun c_1002 => ?_) (fun c_1002 => ?_)
          · replace hF := hF.trans (if_neg c_1002)
            refine lv_iconst (v := 0) hx hb dX8_work_190 (by decide +kernel) ?_
            subst hQ
            exact W.iret (v := 0) hx hb hr (fun t1 ht hW => ⟨⟨0, (σ, I, J, ri_905, rj, rq), rfl, ⟨ri_905, rfl, hG, (hF0.symm.trans hF), hFr⟩, by rw [ht]; exact hP, va_K.moved hW.alike hK, hD⟩, hS.F ht⟩) hS.2.2 dX8_work_191
          · replace hF := hF.trans (if_pos c_1002)
            have h_1004 : rg x_903 0 0 := rg_and h_993 (rg_of_eq c_1002 (rg_k (0 : Int32) 0 rfl)) (by decide +kernel)
            refine lv_aload_n hx hb dX8_work_183 rfl (lv_at hl 3 rfl) ?_
            refine lv_iload hx hb dX8_work_184 (lv_at hl 4 rfl) ?_
            refine pl_i hx hb hK hP hL_a2 hK_a2 hN_a2 (rg_in h_1004 (by decide +kernel)) dX8_work_186 ?_
            refine lv_topi (fun x_1005 ex_1005 => ?_)
            replace hF := hF.trans (ap_n (vR_r hO_a2 (by decide +kernel) ex_1005))
            refine lv_goto (tgt := 191) hx hb dX8_work_187 (by decide +kernel) ?_
            subst hQ
            exact W.iret (v := x_1005) hx hb hr (fun t1 ht hW => ⟨⟨x_1005, (σ, I, J, ri_905, rj, rq), rfl, ⟨ri_905, rfl, hG, (hF0.symm.trans hF), hFr⟩, by rw [ht]; exact hP, va_K.moved hW.alike hK, hD⟩, hS.F ht⟩) hS.2.2 dX8_work_191
        · replace hF := hF.trans (if_neg c_999)
          have h_1006 : rg x_904 0 299 := rg_lt1 (nle c_999) h_994 h_998 (by decide +kernel)
          have h_1007 : rg x_997 1 300 := rg_lt2 (nle c_999) h_994 h_998 (by decide +kernel)
          refine lv_aload_n hx hb dX8_work_24 rfl (lv_at hl 0 rfl) ?_
          obtain ⟨w_1008, hR_w_1008, hL_w_1008, hK_w_1008, hN_w_1008, hT_w_1008⟩ := sh_a hSH 259 (ci := 8) (kd := 13) (len := 300) rfl (by decide +kernel) hL_this hK_this
          refine pg_f (v := .ref w_1008) (C := RX8) (T := TX8) (N := 4) hx hb hts (tw_i inlX8) hown hK hP hL_this hK_this (by decide +kernel) rfl 3 (by decide +kernel) (hts _ (tw_c tw_171)) (pq_hv rfl hR_w_1008) dX8_work_25 ?_
          refine lv_iload hx hb dX8_work_28 (lv_at hl 5 rfl) ?_
          refine pl_i hx hb hK hP hL_w_1008 hK_w_1008 hN_w_1008 (rg_in h_1006 (by decide +kernel)) dX8_work_30 ?_
          refine lv_topi (fun x_1009 ex_1009 => ?_)
          replace hF := hF.trans (ap_n (tR_r hFr hVT hL_this hK_this hR_w_1008 hT_w_1008 (by decide +kernel) ex_1009))
          refine lv_ineg hx hb dX8_work_31 ?_
          refine lv_topi (fun x_1010 ex_1010 => ?_)
          replace hF := hF.trans (ap_n ex_1010)
          refine lv_istore (lv' := [(6, .int x_1010), (0, .ref this), (1, .int a0), (2, .ref a1), (3, .ref a2), (4, .int x_903), (5, .int x_904)]) hx hb dX8_work_32 hl (by decide +kernel) rfl (fun ls hl => ?_)
          refine lv_iload hx hb dX8_work_34 (lv_at hl 0 rfl) ?_
          have K_1077 : ∀  (x_1072 : Int32) (ri_1073 : Nat → Nat → Int32) (H : Heap) (locs : List Loc) (ls : Array Slot), rg x_1072 0 39 → F = g_X8_work_102_103_K172 x_904 (g_X8_work_102_103_L11 this a0 (vI 10 σ M I) (vJ 10 σ M J) (vL 10 σ M rj) (vQ 10 σ M rq) (tR σ ri) n_988) x_1072 (vR 10 σ M ri_1073) → FR 10 tg σ M (I, J, ri, rj, rq) (I, J, ri_1073, rj, rq) → GX [] tg σ I ri rj I ri_1073 rj rq → va_P D vwCl (pq_P t σ (I, J, ri_1073, rj, rq)) H → va_D A (pq_P t σ (I, J, ri_1073, rj, rq)) → va_S A s.heap H locs → lv_has ls 7 [(0, .ref this), (1, .int a0), (2, .ref a1), (3, .ref a2), (4, .int x_1072), (5, .int x_904)] → W p l e ({ frames := 2, cells := 0, slots := 0, locals := 64 } : Room) s m (List.toArray ([.ref this, .int a0, .ref a1, .ref a2] : List Value)) below meth c H locs 0 0 Q (F0 m 172 ls []) := by
            intro x_1072 ri_1073 H locs ls h_1079 hF hFr hG hP hD hS hl
            replace hF := hF.trans g_X8_work_102_103_K172_e
            obtain ⟨x_1080, ex_1080⟩ : ∃ y : Int32, y = x_904 + Int32.ofInt 1 := ⟨_, rfl⟩
            replace hF := hF.trans (ap_n ex_1080)
            have h_1081 : rg x_1080 1 300 := rg_of_eq ex_1080 (rg_add h_1006 (rg_k (Int32.ofInt 1) 1 rfl) (by decide +kernel))
            refine lv_iinc (v := x_1080) (lv' := [(5, .int x_1080), (0, .ref this), (1, .int a0), (2, .ref a1), (3, .ref a2), (4, .int x_1072)]) hx hb dX8_work_172 hl (k := 5) rfl ex_1080.symm (by decide +kernel) rfl (fun ls hl => ?_)
            refine lv_goto (tgt := 11) hx hb dX8_work_175 (by decide +kernel) ?_
            exact ih_990 x_1072 x_1080 ri_1073 _ _ _ (rg_w h_1079 (by decide +kernel)) (rg_w h_1081 (by decide +kernel)) (ms_up 1 hm_987 ex_1080 rfl (by decide +kernel) h_1006 (by decide +kernel) (by decide +kernel)) hF hFr hG hP hD hS (lv_sub hl [1, 2, 3, 4, 5, 0] rfl)
          refine lv_if_le (tgt := 53) hx hb dX8_work_36 (by decide +kernel) (fun c_1082 => ?_) (fun c_1082 => ?_)
          · replace hF := hF.trans (if_pos c_1082)
            have h_1085 : rg x_1010 (-2147483648) 0 := rg_le1 c_1082 (rg_full _) (rg_k (0 : Int32) 0 rfl) (by decide +kernel)
            obtain ⟨x_1086, ex_1086⟩ : ∃ y : Int32, y = x_903 + Int32.ofInt 1 := ⟨_, rfl⟩
            replace hF := hF.trans (ap_n ex_1086)
            have h_1087 : rg x_1086 0 40 := rg_of_eq ex_1086 (rg_add h_993 (rg_k (Int32.ofInt 1) 1 rfl) (by decide +kernel))
            refine lv_iinc (v := x_1086) (lv' := [(4, .int x_1086), (6, .int x_1010), (0, .ref this), (1, .int a0), (2, .ref a1), (3, .ref a2), (5, .int x_904)]) hx hb dX8_work_53 hl (k := 5) rfl ex_1086.symm (by decide +kernel) rfl (fun ls hl => ?_)
            refine lv_iload hx hb dX8_work_56 (lv_at hl 0 rfl) ?_
            refine lv_aload_n hx hb dX8_work_58 rfl (lv_at hl 5 rfl) ?_
            refine pn_i (v := 40) hx hb hK hP hL_a2 hK_a2 hN_a2 (by decide +kernel) dX8_work_59 ?_
            refine lv_icmp_lt (tgt := 65) hx hb dX8_work_60 (by decide +kernel) (fun c_1088 => ?_) (fun c_1088 => ?_)
            · replace hF := hF.trans (if_pos c_1088)
              have h_1091 : rg x_1086 0 39 := rg_lt1 c_1088 h_1087 (rg_k (40 : Int32) 40 rfl) (by decide +kernel)
              refine lv_aload_n hx hb dX8_work_65 rfl (lv_at hl 5 rfl) ?_
              refine lv_iload hx hb dX8_work_66 (lv_at hl 0 rfl) ?_
              refine lv_iload hx hb dX8_work_68 (lv_at hl 1 rfl) ?_
              have K_1094 : ∀  (H : Heap) (locs : List Loc) (ls : Array Slot), F = g_X8_work_102_103_K90 x_904 (vR 10 σ M ri_905) (g_X8_work_102_103_L11 this a0 (vI 10 σ M I) (vJ 10 σ M J) (vL 10 σ M rj) (vQ 10 σ M rq) (tR σ ri) n_988) x_1009 x_1086  → FR 10 tg σ M (I, J, ri, rj, rq) (I, J, ri_905, rj, rq) → GX [] tg σ I ri rj I ri_905 rj rq → va_P D vwCl (pq_P t σ (I, J, ri_905, rj, rq)) H → va_D A (pq_P t σ (I, J, ri_905, rj, rq)) → va_S A s.heap H locs → lv_has ls 7 [(0, .ref this), (1, .int a0), (2, .ref a1), (3, .ref a2), (4, .int x_1086), (5, .int x_904)] → W p l e ({ frames := 2, cells := 0, slots := 0, locals := 64 } : Room) s m (List.toArray ([.ref this, .int a0, .ref a1, .ref a2] : List Value)) below meth c H locs 0 0 Q (F0 m 90 ls [.int x_1009, .int x_1086, .ref a2]) := by
                intro H locs ls hF hFr hG hP hD hS hl
                replace hF := hF.trans g_X8_work_102_103_K90_e
                refine pt_i hx hb hK hP hD hS hL_a2 hK_a2 hN_a2 (rg_in h_1091 (by decide +kernel)) dX8_work_90 (fun r_1095 H locs er_1095 hP hD hS => ?_)
                replace hFr := fr_R hFr hO_a2 (by decide +kernel) er_1095
                replace hF := hF.trans (ap_n (vR_st hVT hO_a2 (by decide +kernel) er_1095))
                have hG := GX.wR hG hSH hT_a2 rfl er_1095 (rg_w (rg_full _) (by decide +kernel)) (by decide +kernel)
                refine lv_goto (tgt := 172) hx hb dX8_work_91 (by decide +kernel) ?_
                exact K_1077 x_1086 r_1095 _ _ _ (rg_w h_1091 (by decide +kernel)) hF hFr hG hP hD hS (lv_sub hl [0, 1, 2, 3, 4, 5] rfl)
              refine lv_if_gt (tgt := 83) hx hb dX8_work_70 (by decide +kernel) (fun c_1096 => ?_) (fun c_1096 => ?_)
              · exact (rg_empty (rg_lt2 c_1096 (rg_k (0 : Int32) 0 rfl) h_1085 (lo := 1) (hi := 0) (by decide +kernel)) (by decide +kernel)).elim
              · refine lv_aload_n hx hb dX8_work_73 rfl (lv_at hl 2 rfl) ?_
                refine pg_f (v := .ref w_1008) (C := RX8) (T := TX8) (N := 4) hx hb hts (tw_i inlX8) hown hK hP hL_this hK_this (by decide +kernel) rfl 3 (by decide +kernel) (hts _ (tw_c tw_171)) (pq_hv rfl hR_w_1008) dX8_work_74 ?_
                refine lv_iload hx hb dX8_work_77 (lv_at hl 6 rfl) ?_
                refine pl_i hx hb hK hP hL_w_1008 hK_w_1008 hN_w_1008 (rg_in h_1006 (by decide +kernel)) dX8_work_79 ?_
                refine lv_tov x_1009 ex_1009.symm ?_
                refine lv_goto (tgt := 90) hx hb dX8_work_80 (by decide +kernel) ?_
                exact K_1094 _ _ _ hF hFr hG hP hD hS (lv_sub hl [2, 3, 4, 5, 0, 6] rfl)
            · replace hF := hF.trans (if_neg c_1088)
              have h_1097 : rg x_1086 40 40 := rg_le2 (nlt c_1088) (rg_k (40 : Int32) 40 rfl) h_1087 (by decide +kernel)
              refine lv_iconst (v := 0) hx hb dX8_work_63 (by decide +kernel) ?_
              subst hQ
              exact W.iret (v := 0) hx hb hr (fun t1 ht hW => ⟨⟨0, (σ, I, J, ri_905, rj, rq), rfl, ⟨ri_905, rfl, hG, (hF0.symm.trans hF), hFr⟩, by rw [ht]; exact hP, va_K.moved hW.alike hK, hD⟩, hS.F ht⟩) hS.2.2 dX8_work_64
          · replace hF := hF.trans (if_neg c_1082)
            have h_1098 : rg x_1010 1 2147483647 := rg_lt2 (nle c_1082) (rg_k (0 : Int32) 0 rfl) (rg_full _) (by decide +kernel)
            refine lv_iload hx hb dX8_work_39 (lv_at hl 0 rfl) ?_
            refine lv_bipush (v := 12) hx hb dX8_work_41 (by decide +kernel) ?_
            have K_1150 : ∀  (H : Heap) (locs : List Loc) (ls : Array Slot), F = g_X8_work_102_103_K94 (vI 10 σ M I) (vJ 10 σ M J) (vL 10 σ M rj) (vQ 10 σ M rq) x_903 x_904 (vR 10 σ M ri_905) (g_X8_work_102_103_L11 this a0 (vI 10 σ M I) (vJ 10 σ M J) (vL 10 σ M rj) (vQ 10 σ M rq) (tR σ ri) n_988) x_1010  → FR 10 tg σ M (I, J, ri, rj, rq) (I, J, ri_905, rj, rq) → GX [] tg σ I ri rj I ri_905 rj rq → va_P D vwCl (pq_P t σ (I, J, ri_905, rj, rq)) H → va_D A (pq_P t σ (I, J, ri_905, rj, rq)) → va_S A s.heap H locs → lv_has ls 7 [(0, .ref this), (1, .int a0), (2, .ref a1), (3, .ref a2), (4, .int x_903), (5, .int x_904), (6, .int x_1010)] → W p l e ({ frames := 2, cells := 0, slots := 0, locals := 64 } : Room) s m (List.toArray ([.ref this, .int a0, .ref a1, .ref a2] : List Value)) below meth c H locs 0 0 Q (F0 m 94 ls []) := by
              intro H locs ls hF hFr hG hP hD hS hl
              replace hF := hF.trans g_X8_work_102_103_K94_e
              refine lv_iload hx hb dX8_work_94 (lv_at hl 6 rfl) ?_
              refine lv_bipush (v := 11) hx hb dX8_work_96 (by decide +kernel) ?_
              have K_1185 : ∀  (H : Heap) (locs : List Loc) (ls : Array Slot), rg (x_1010) 11 35 → F = g_X8_work_102_103_K108 (vI 10 σ M I) (vJ 10 σ M J) (vL 10 σ M rj) (vQ 10 σ M rq) x_903 x_904 (vR 10 σ M ri_905) (g_X8_work_102_103_L11 this a0 (vI 10 σ M I) (vJ 10 σ M J) (vL 10 σ M rj) (vQ 10 σ M rq) (tR σ ri) n_988) x_1010  → FR 10 tg σ M (I, J, ri, rj, rq) (I, J, ri_905, rj, rq) → GX [] tg σ I ri rj I ri_905 rj rq → va_P D vwCl (pq_P t σ (I, J, ri_905, rj, rq)) H → va_D A (pq_P t σ (I, J, ri_905, rj, rq)) → va_S A s.heap H locs → lv_has ls 7 [(0, .ref this), (1, .int a0), (2, .ref a1), (3, .ref a2), (4, .int x_903), (5, .int x_904), (6, .int x_1010)] → W p l e ({ frames := 2, cells := 0, slots := 0, locals := 64 } : Room) s m (List.toArray ([.ref this, .int a0, .ref a1, .ref a2] : List Value)) below meth c H locs 0 0 Q (F0 m 108 ls []) := by
                intro H locs ls h_1187 hF hFr hG hP hD hS hl
                replace hF := hF.trans g_X8_work_102_103_K108_e
                refine lv_iload hx hb dX8_work_108 (lv_at hl 4 rfl) ?_
                refine lv_if_ge (tgt := 115) hx hb dX8_work_110 (by decide +kernel) (fun c_1188 => ?_) (fun c_1188 => ?_)
                · replace hF := hF.trans (if_pos c_1188)
                  have h_1191 : rg x_903 0 39 := rg_le2 c_1188 (rg_k (0 : Int32) 0 rfl) h_993 (by decide +kernel)
                  refine lv_aload_n hx hb dX8_work_115 rfl (lv_at hl 3 rfl) ?_
                  refine lv_iload hx hb dX8_work_116 (lv_at hl 4 rfl) ?_
                  refine lv_iload hx hb dX8_work_118 (lv_at hl 6 rfl) ?_
                  refine lv_bipush (v := 11) hx hb dX8_work_120 (by decide +kernel) ?_
                  have K_1201 : ∀  (x_1199 : Int32) (H : Heap) (locs : List Loc) (ls : Array Slot), F = g_X8_work_102_103_K139 x_903 x_904 (vR 10 σ M ri_905) (g_X8_work_102_103_L11 this a0 (vI 10 σ M I) (vJ 10 σ M J) (vL 10 σ M rj) (vQ 10 σ M rq) (tR σ ri) n_988) x_1199 → FR 10 tg σ M (I, J, ri, rj, rq) (I, J, ri_905, rj, rq) → GX [] tg σ I ri rj I ri_905 rj rq → va_P D vwCl (pq_P t σ (I, J, ri_905, rj, rq)) H → va_D A (pq_P t σ (I, J, ri_905, rj, rq)) → va_S A s.heap H locs → lv_has ls 7 [(0, .ref this), (1, .int a0), (2, .ref a1), (3, .ref a2), (4, .int x_903), (5, .int x_904)] → W p l e ({ frames := 2, cells := 0, slots := 0, locals := 64 } : Room) s m (List.toArray ([.ref this, .int a0, .ref a1, .ref a2] : List Value)) below meth c H locs 0 0 Q (F0 m 139 ls [.int x_1199, .int x_903, .ref a2]) := by
                    intro x_1199 H locs ls hF hFr hG hP hD hS hl
                    replace hF := hF.trans g_X8_work_102_103_K139_e
                    refine pt_i hx hb hK hP hD hS hL_a2 hK_a2 hN_a2 (rg_in h_1191 (by decide +kernel)) dX8_work_139 (fun r_1202 H locs er_1202 hP hD hS => ?_)
                    replace hFr := fr_R hFr hO_a2 (by decide +kernel) er_1202
                    replace hF := hF.trans (ap_n (vR_st hVT hO_a2 (by decide +kernel) er_1202))
                    have hG := GX.wR hG hSH hT_a2 rfl er_1202 (rg_w (rg_full _) (by decide +kernel)) (by decide +kernel)
                    refine lv_goto (tgt := 172) hx hb dX8_work_140 (by decide +kernel) ?_
                    exact K_1077 x_903 r_1202 _ _ _ (rg_w h_1191 (by decide +kernel)) hF hFr hG hP hD hS (lv_sub hl [0, 1, 2, 3, 4, 5] rfl)
                  refine lv_icmp_ne (tgt := 134) hx hb dX8_work_122 (by decide +kernel) (fun c_1203 => ?_) (fun c_1203 => ?_)
                  · replace hF := hF.trans (if_neg c_1203)
                    have h_1206 : rg x_1010 12 35 := rg_ne c_1203 h_1187 11 rfl (by decide +kernel)
                    refine lv_aload_n hx hb dX8_work_134 rfl (lv_at hl 3 rfl) ?_
                    refine lv_iload hx hb dX8_work_135 (lv_at hl 4 rfl) ?_
                    refine pl_i hx hb hK hP hL_a2 hK_a2 hN_a2 (rg_in h_1191 (by decide +kernel)) dX8_work_137 ?_
                    refine lv_topi (fun x_1207 ex_1207 => ?_)
                    replace hF := hF.trans (ap_n (vR_r hO_a2 (by decide +kernel) ex_1207))
                    refine lv_ineg hx hb dX8_work_138 ?_
                    refine lv_topi (fun x_1208 ex_1208 => ?_)
                    replace hF := hF.trans (ap_n ex_1208)
                    exact K_1201 x_1208 _ _ _ hF hFr hG hP hD hS (lv_sub hl [0, 1, 2, 3, 4, 5] rfl)
                  · replace hF := hF.trans (if_pos c_1203)
                    have h_1209 : rg x_1010 11 11 := rg_and h_1187 (rg_of_eq c_1203 (rg_k (11 : Int32) 11 rfl)) (by decide +kernel)
                    refine lv_iconst (v := 1) hx hb dX8_work_125 (by decide +kernel) ?_
                    refine lv_aload_n hx hb dX8_work_126 rfl (lv_at hl 3 rfl) ?_
                    refine lv_iload hx hb dX8_work_127 (lv_at hl 4 rfl) ?_
                    refine pl_i hx hb hK hP hL_a2 hK_a2 hN_a2 (rg_in h_1191 (by decide +kernel)) dX8_work_129 ?_
                    refine lv_topi (fun x_1210 ex_1210 => ?_)
                    replace hF := hF.trans (ap_n (vR_r hO_a2 (by decide +kernel) ex_1210))
                    refine lv_isub hx hb dX8_work_130 ?_
                    refine lv_topi (fun x_1211 ex_1211 => ?_)
                    replace hF := hF.trans (ap_n ex_1211)
                    refine lv_goto (tgt := 139) hx hb dX8_work_131 (by decide +kernel) ?_
                    exact K_1201 x_1211 _ _ _ hF hFr hG hP hD hS (lv_sub hl [0, 1, 2, 3, 4, 5] rfl)
                · replace hF := hF.trans (if_neg c_1188)
                  have h_1212 : rg x_903 (-1) (-1) := rg_lt1 (nle c_1188) h_993 (rg_k (0 : Int32) 0 rfl) (by decide +kernel)
                  refine lv_iconst (v := 0) hx hb dX8_work_113 (by decide +kernel) ?_
                  subst hQ
                  exact W.iret (v := 0) hx hb hr (fun t1 ht hW => ⟨⟨0, (σ, I, J, ri_905, rj, rq), rfl, ⟨ri_905, rfl, hG, (hF0.symm.trans hF), hFr⟩, by rw [ht]; exact hP, va_K.moved hW.alike hK, hD⟩, hS.F ht⟩) hS.2.2 dX8_work_114
              refine lv_icmp_eq (tgt := 108) hx hb dX8_work_98 (by decide +kernel) (fun c_1213 => ?_) (fun c_1213 => ?_)
              · replace hF := hF.trans (if_pos c_1213)
                have h_1215 : rg x_1010 11 11 := rg_and h_1098 (rg_of_eq c_1213 (rg_k (11 : Int32) 11 rfl)) (by decide +kernel)
                exact K_1185 _ _ _ (rg_w h_1215 (by decide +kernel)) hF hFr hG hP hD hS (lv_sub hl [0, 1, 2, 3, 4, 5, 6] rfl)
              · replace hF := hF.trans (if_neg c_1213)
                refine lv_iload hx hb dX8_work_101 (lv_at hl 6 rfl) ?_
                refine lv_bipush (v := 35) hx hb dX8_work_103 (by decide +kernel) ?_
                refine lv_icmp_ne (tgt := 143) hx hb dX8_work_105 (by decide +kernel) (fun c_1216 => ?_) (fun c_1216 => ?_)
                · replace hF := hF.trans (if_neg c_1216)
                  obtain ⟨x_1218, ex_1218⟩ : ∃ y : Int32, y = x_903 + Int32.ofInt (-1) := ⟨_, rfl⟩
                  replace hF := hF.trans (ap_n ex_1218)
                  have h_1219 : rg x_1218 (-2) 38 := rg_of_eq ex_1218 (rg_add h_993 (rg_k (Int32.ofInt (-1)) (-1) rfl) (by decide +kernel))
                  refine lv_iinc (v := x_1218) (lv' := [(4, .int x_1218), (0, .ref this), (1, .int a0), (2, .ref a1), (3, .ref a2), (5, .int x_904), (6, .int x_1010)]) hx hb dX8_work_143 hl (k := 4) rfl ex_1218.symm (by decide +kernel) rfl (fun ls hl => ?_)
                  refine lv_iload hx hb dX8_work_146 (lv_at hl 0 rfl) ?_
                  refine lv_if_ge (tgt := 153) hx hb dX8_work_148 (by decide +kernel) (fun c_1220 => ?_) (fun c_1220 => ?_)
                  · replace hF := hF.trans (if_pos c_1220)
                    have h_1223 : rg x_1218 0 38 := rg_le2 c_1220 (rg_k (0 : Int32) 0 rfl) h_1219 (by decide +kernel)
                    refine lv_aload_n hx hb dX8_work_153 rfl (lv_at hl 4 rfl) ?_
                    refine lv_iload hx hb dX8_work_154 (lv_at hl 0 rfl) ?_
                    refine lv_iload hx hb dX8_work_156 (lv_at hl 6 rfl) ?_
                    refine lv_aload_n hx hb dX8_work_158 rfl (lv_at hl 4 rfl) ?_
                    refine lv_iload hx hb dX8_work_159 (lv_at hl 0 rfl) ?_
                    refine pl_i hx hb hK hP hL_a2 hK_a2 hN_a2 (rg_in h_1223 (by decide +kernel)) dX8_work_161 ?_
                    refine lv_topi (fun x_1224 ex_1224 => ?_)
                    replace hF := hF.trans (ap_n (vR_r hO_a2 (by decide +kernel) ex_1224))
                    refine lv_aload_n hx hb dX8_work_162 rfl (lv_at hl 4 rfl) ?_
                    refine lv_iload hx hb dX8_work_163 (lv_at hl 0 rfl) ?_
                    refine lv_iconst (v := 1) hx hb dX8_work_165 (by decide +kernel) ?_
                    refine lv_iadd hx hb dX8_work_166 ?_
                    refine lv_topi (fun x_1225 ex_1225 => ?_)
                    replace hF := hF.trans (ap_n ex_1225)
                    have h_1226 : rg x_1225 1 39 := rg_of_eq ex_1225 (rg_add h_1223 (rg_k (1 : Int32) 1 rfl) (by decide +kernel))
                    refine pl_i hx hb hK hP hL_a2 hK_a2 hN_a2 (rg_in h_1226 (by decide +kernel)) dX8_work_167 ?_
                    refine lv_topi (fun x_1227 ex_1227 => ?_)
                    replace hF := hF.trans (ap_n (vR_r hO_a2 (by decide +kernel) ex_1227))
                    refine pk_i (va_runS (As := [.int x_1010, .int x_1224, .int x_1227]) (rest := [.int x_1218, .ref a2]) ⟨hx, hb, hml, hown, hts⟩ (s_X8_join l D t σ I J ri_905 rj rq H.size tg hSH hG.1 x_1010 x_1224 x_1227) (va_cwS 3 hts (tw_S tw_578 tw_579 tw_159 tw_580) rfl rfl rfl cd_yX8_join_3 ⟨Nat.le_of_ble_eq_true rfl, Nat.le_of_ble_eq_true rfl⟩) ⟨pq_blind, pq_pre hK hN hP hD⟩ rfl rfl hl.1 rfl (lv_room (Nat.le_of_ble_eq_true rfl)) dX8_work_168 ⟨Nat.le_of_ble_eq_true rfl, Nat.le_of_ble_eq_true rfl⟩) hD hS hA (fun x_1228 σ1 μ1 H locs hw_1229 hP hD hS => ?_)
                    obtain ⟨hu_1230, hfn_1233⟩ := hw_1229
                    obtain ⟨hu_1230a, hu_1230b⟩ := Prod.mk.inj hu_1230
                    rw [hu_1230a, hu_1230b] at hP hD
                    replace hF := hF.trans (ap_n hfn_1233.symm)
                    refine pt_i hx hb hK hP hD hS hL_a2 hK_a2 hN_a2 (rg_in h_1223 (by decide +kernel)) dX8_work_171 (fun r_1235 H locs er_1235 hP hD hS => ?_)
                    replace hFr := fr_R hFr hO_a2 (by decide +kernel) er_1235
                    replace hF := hF.trans (ap_n (vR_st hVT hO_a2 (by decide +kernel) er_1235))
                    have hG := GX.wR hG hSH hT_a2 rfl er_1235 (rg_w (rg_full _) (by decide +kernel)) (by decide +kernel)
                    exact K_1077 x_1218 r_1235 _ _ _ (rg_w h_1223 (by decide +kernel)) hF hFr hG hP hD hS (lv_sub hl [1, 2, 3, 4, 0, 5] rfl)
                  · replace hF := hF.trans (if_neg c_1220)
                    have h_1236 : rg x_1218 (-2) (-1) := rg_lt1 (nle c_1220) h_1219 (rg_k (0 : Int32) 0 rfl) (by decide +kernel)
                    refine lv_iconst (v := 0) hx hb dX8_work_151 (by decide +kernel) ?_
                    subst hQ
                    exact W.iret (v := 0) hx hb hr (fun t1 ht hW => ⟨⟨0, (σ, I, J, ri_905, rj, rq), rfl, ⟨ri_905, rfl, hG, (hF0.symm.trans hF), hFr⟩, by rw [ht]; exact hP, va_K.moved hW.alike hK, hD⟩, hS.F ht⟩) hS.2.2 dX8_work_152
                · replace hF := hF.trans (if_pos c_1216)
                  have h_1237 : rg x_1010 35 35 := rg_and h_1098 (rg_of_eq c_1216 (rg_k (35 : Int32) 35 rfl)) (by decide +kernel)
                  exact K_1185 _ _ _ (rg_w h_1237 (by decide +kernel)) hF hFr hG hP hD hS (lv_sub hl [0, 1, 2, 3, 4, 5, 6] rfl)
            refine lv_icmp_lt (tgt := 94) hx hb dX8_work_43 (by decide +kernel) (fun c_1238 => ?_) (fun c_1238 => ?_)
            · replace hF := hF.trans (if_pos c_1238)
              have h_1241 : rg x_1010 1 11 := rg_lt1 c_1238 h_1098 (rg_k (12 : Int32) 12 rfl) (by decide +kernel)
              exact K_1150 _ _ _ hF hFr hG hP hD hS (lv_sub hl [1, 2, 3, 4, 5, 6, 0] rfl)
            · replace hF := hF.trans (if_neg c_1238)
              have h_1242 : rg x_1010 12 2147483647 := rg_le2 (nlt c_1238) (rg_k (12 : Int32) 12 rfl) h_1098 (by decide +kernel)
              refine lv_iload hx hb dX8_work_46 (lv_at hl 0 rfl) ?_
              refine lv_bipush (v := 17) hx hb dX8_work_48 (by decide +kernel) ?_
              refine lv_icmp_gt (tgt := 94) hx hb dX8_work_50 (by decide +kernel) (fun c_1243 => ?_) (fun c_1243 => ?_)
              · replace hF := hF.trans (if_pos c_1243)
                have h_1246 : rg x_1010 18 2147483647 := rg_lt2 c_1243 (rg_k (17 : Int32) 17 rfl) h_1242 (by decide +kernel)
                exact K_1150 _ _ _ hF hFr hG hP hD hS (lv_sub hl [1, 2, 3, 4, 5, 6, 0] rfl)
              · replace hF := hF.trans (if_neg c_1243)
                have h_1247 : rg x_1010 12 17 := rg_le1 (nlt c_1243) h_1242 (rg_k (17 : Int32) 17 rfl) (by decide +kernel)
                obtain ⟨x_1248, ex_1248⟩ : ∃ y : Int32, y = x_903 + Int32.ofInt 1 := ⟨_, rfl⟩
                replace hF := hF.trans (ap_n ex_1248)
                have h_1249 : rg x_1248 0 40 := rg_of_eq ex_1248 (rg_add h_993 (rg_k (Int32.ofInt 1) 1 rfl) (by decide +kernel))
                refine lv_iinc (v := x_1248) (lv' := [(4, .int x_1248), (6, .int x_1010), (0, .ref this), (1, .int a0), (2, .ref a1), (3, .ref a2), (5, .int x_904)]) hx hb dX8_work_53 hl (k := 5) rfl ex_1248.symm (by decide +kernel) rfl (fun ls hl => ?_)
                refine lv_iload hx hb dX8_work_56 (lv_at hl 0 rfl) ?_
                refine lv_aload_n hx hb dX8_work_58 rfl (lv_at hl 5 rfl) ?_
                refine pn_i (v := 40) hx hb hK hP hL_a2 hK_a2 hN_a2 (by decide +kernel) dX8_work_59 ?_
                refine lv_icmp_lt (tgt := 65) hx hb dX8_work_60 (by decide +kernel) (fun c_1250 => ?_) (fun c_1250 => ?_)
                · replace hF := hF.trans (if_pos c_1250)
                  have h_1253 : rg x_1248 0 39 := rg_lt1 c_1250 h_1249 (rg_k (40 : Int32) 40 rfl) (by decide +kernel)
                  refine lv_aload_n hx hb dX8_work_65 rfl (lv_at hl 5 rfl) ?_
                  refine lv_iload hx hb dX8_work_66 (lv_at hl 0 rfl) ?_
                  refine lv_iload hx hb dX8_work_68 (lv_at hl 1 rfl) ?_
                  have K_1260 : ∀  (x_1258 : Int32) (H : Heap) (locs : List Loc) (ls : Array Slot), F = g_X8_work_102_103_K90_2 x_904 (vR 10 σ M ri_905) (g_X8_work_102_103_L11 this a0 (vI 10 σ M I) (vJ 10 σ M J) (vL 10 σ M rj) (vQ 10 σ M rq) (tR σ ri) n_988) x_1248 x_1258 → FR 10 tg σ M (I, J, ri, rj, rq) (I, J, ri_905, rj, rq) → GX [] tg σ I ri rj I ri_905 rj rq → va_P D vwCl (pq_P t σ (I, J, ri_905, rj, rq)) H → va_D A (pq_P t σ (I, J, ri_905, rj, rq)) → va_S A s.heap H locs → lv_has ls 7 [(0, .ref this), (1, .int a0), (2, .ref a1), (3, .ref a2), (4, .int x_1248), (5, .int x_904)] → W p l e ({ frames := 2, cells := 0, slots := 0, locals := 64 } : Room) s m (List.toArray ([.ref this, .int a0, .ref a1, .ref a2] : List Value)) below meth c H locs 0 0 Q (F0 m 90 ls [.int x_1258, .int x_1248, .ref a2]) := by
                    intro x_1258 H locs ls hF hFr hG hP hD hS hl
                    replace hF := hF.trans g_X8_work_102_103_K90_2_e
                    refine pt_i hx hb hK hP hD hS hL_a2 hK_a2 hN_a2 (rg_in h_1253 (by decide +kernel)) dX8_work_90 (fun r_1261 H locs er_1261 hP hD hS => ?_)
                    replace hFr := fr_R hFr hO_a2 (by decide +kernel) er_1261
                    replace hF := hF.trans (ap_n (vR_st hVT hO_a2 (by decide +kernel) er_1261))
                    have hG := GX.wR hG hSH hT_a2 rfl er_1261 (rg_w (rg_full _) (by decide +kernel)) (by decide +kernel)
                    refine lv_goto (tgt := 172) hx hb dX8_work_91 (by decide +kernel) ?_
                    exact K_1077 x_1248 r_1261 _ _ _ (rg_w h_1253 (by decide +kernel)) hF hFr hG hP hD hS (lv_sub hl [0, 1, 2, 3, 4, 5] rfl)
                  refine lv_if_gt (tgt := 83) hx hb dX8_work_70 (by decide +kernel) (fun c_1262 => ?_) (fun c_1262 => ?_)
                  · refine lv_aload_n hx hb dX8_work_83 rfl (lv_at hl 4 rfl) ?_
                    refine lv_iload hx hb dX8_work_84 (lv_at hl 1 rfl) ?_
                    refine lv_bipush (v := 12) hx hb dX8_work_86 (by decide +kernel) ?_
                    refine lv_isub hx hb dX8_work_88 ?_
                    refine lv_topi (fun x_1263 ex_1263 => ?_)
                    replace hF := hF.trans (ap_n ex_1263)
                    have h_1264 : rg x_1263 0 5 := rg_of_eq ex_1263 (rg_sub h_1247 (rg_k (12 : Int32) 12 rfl) (by decide +kernel))
                    refine pl_i hx hb hK hP hL_a1 hK_a1 hN_a1 (rg_in h_1264 (by decide +kernel)) dX8_work_89 ?_
                    refine lv_topi (fun x_1265 ex_1265 => ?_)
                    replace hF := hF.trans (ap_n (vR_r hO_a1 (by decide +kernel) ex_1265))
                    exact K_1260 x_1265 _ _ _ hF hFr hG hP hD hS (lv_sub hl [2, 3, 4, 5, 0, 6] rfl)
                  · exact (rg_empty (rg_le1 (nlt c_1262) h_1247 (rg_k (0 : Int32) 0 rfl) (lo := 12) (hi := 0) (by decide +kernel)) (by decide +kernel)).elim
                · replace hF := hF.trans (if_neg c_1250)
                  have h_1266 : rg x_1248 40 40 := rg_le2 (nlt c_1250) (rg_k (40 : Int32) 40 rfl) h_1249 (by decide +kernel)
                  refine lv_iconst (v := 0) hx hb dX8_work_63 (by decide +kernel) ?_
                  subst hQ
                  exact W.iret (v := 0) hx hb hr (fun t1 ht hW => ⟨⟨0, (σ, I, J, ri_905, rj, rq), rfl, ⟨ri_905, rfl, hG, (hF0.symm.trans hF), hFr⟩, by rw [ht]; exact hP, va_K.moved hW.alike hK, hD⟩, hS.F ht⟩) hS.2.2 dX8_work_64
    exact L_989 _ (-1 : Int32) x_2 ri _ _ _ (rg_w (rg_k (-1 : Int32) (-1) rfl) (by decide +kernel)) (rg_w h_3 (by decide +kernel)) (Nat.lt_succ_self _) hF hFr hG hP hD hS (lv_sub hl [2, 3, 4, 5, 1, 0] rfl)
  exact go _ _ _ hP hD hS hl

set_option maxRecDepth 100000 in
def g_X8_firstSo_102_103_K37 (x_190 : Int32) (k_g_X8_firstSo_102_103_L3 : (Int32) → (Nat → Nat → Int32) → Int32 × vM) (ri_240 : Nat → Nat → Int32) : Int32 × vM := (ap1 (x_190 + Int32.ofInt 1) fun (x_244 : Int32) => (k_g_X8_firstSo_102_103_L3 x_244 ri_240))
set_option maxRecDepth 100000 in
theorem g_X8_firstSo_102_103_K37_e {x_190 : Int32} {k_g_X8_firstSo_102_103_L3 : (Int32) → (Nat → Nat → Int32) → Int32 × vM} {ri_240 : Nat → Nat → Int32} : g_X8_firstSo_102_103_K37 x_190 k_g_X8_firstSo_102_103_L3 ri_240 = (ap1 (x_190 + Int32.ofInt 1) fun (x_244 : Int32) => (k_g_X8_firstSo_102_103_L3 x_244 ri_240)) := rfl
set_option maxRecDepth 100000 in
def g_X8_firstSo_102_103_L3 (this : Nat) (a0 : Int32) (I : Nat → Int32) (J : Nat → Int64) (rj : Nat → Nat → Int64) (rq : Nat → Nat → Option Nat) (tI : Nat → Nat → Int32) (tR : Nat → Nat → Nat → Int32) : Nat → (Int32) → (Nat → Nat → Int32) → Int32 × vM
  | 0, x_190, ri_191 => ((0 : Int32), I, J, ri_191, rj, rq)
  | n_215 + 1, x_190, ri_191 => (ap1 (tI 256 this) fun (y_221 : Int32) => (if (y_221) ≤ x_190 then ((-1 : Int32), I, J, ri_191, rj, rq) else (ap1 (tR 257 this (x_190).toNatClampNeg) fun (x_228 : Int32) => (if x_228 = a0 then (bnI (g_X8_work_102_103 tR this x_190 I J ri_191 rj rq) fun (x_247 : Int32) (_ : Nat → Int32) (_ : Nat → Int64) (ri_249 : Nat → Nat → Int32) (_ : Nat → Nat → Int64) (_ : Nat → Nat → Option Nat) => (if x_247 = (0 : Int32) then (g_X8_firstSo_102_103_K37 x_190 (g_X8_firstSo_102_103_L3 this a0 I J rj rq tI tR n_215) ri_249) else (x_190, I, J, ri_249, rj, rq))) else (g_X8_firstSo_102_103_K37 x_190 (g_X8_firstSo_102_103_L3 this a0 I J rj rq tI tR n_215) ri_191)))))
set_option maxRecDepth 100000 in
theorem g_X8_firstSo_102_103_L3_e {this : Nat} {a0 : Int32} {I : Nat → Int32} {J : Nat → Int64} {rj : Nat → Nat → Int64} {rq : Nat → Nat → Option Nat} {tI : Nat → Nat → Int32} {tR : Nat → Nat → Nat → Int32} {n_215 : Nat} {x_190 : Int32} {ri_191 : Nat → Nat → Int32} : g_X8_firstSo_102_103_L3 this a0 I J rj rq tI tR (n_215 + 1) x_190 ri_191 = (ap1 (tI 256 this) fun (y_221 : Int32) => (if (y_221) ≤ x_190 then ((-1 : Int32), I, J, ri_191, rj, rq) else (ap1 (tR 257 this (x_190).toNatClampNeg) fun (x_228 : Int32) => (if x_228 = a0 then (bnI (g_X8_work_102_103 tR this x_190 I J ri_191 rj rq) fun (x_247 : Int32) (_ : Nat → Int32) (_ : Nat → Int64) (ri_249 : Nat → Nat → Int32) (_ : Nat → Nat → Int64) (_ : Nat → Nat → Option Nat) => (if x_247 = (0 : Int32) then (g_X8_firstSo_102_103_K37 x_190 (g_X8_firstSo_102_103_L3 this a0 I J rj rq tI tR n_215) ri_249) else (x_190, I, J, ri_249, rj, rq))) else (g_X8_firstSo_102_103_K37 x_190 (g_X8_firstSo_102_103_L3 this a0 I J rj rq tI tR n_215) ri_191))))) := rfl
set_option maxRecDepth 100000 in
def g_X8_firstSo_102_103 (tI : Nat → Nat → Int32) (tR : Nat → Nat → Nat → Int32) (this : Nat) (a0 : Int32) (I : Nat → Int32) (J : Nat → Int64) (ri : Nat → Nat → Int32) (rj : Nat → Nat → Int64) (rq : Nat → Nat → Option Nat) : Int32 × vM := (g_X8_firstSo_102_103_L3 this a0 I J rj rq tI tR ((20 - ((0 : Int32)).toInt).toNat + 1) (0 : Int32) ri)
set_option maxRecDepth 100000 in
theorem g_X8_firstSo_102_103_e {tI : Nat → Nat → Int32} {tR : Nat → Nat → Nat → Int32} {this : Nat} {a0 : Int32} {I : Nat → Int32} {J : Nat → Int64} {ri : Nat → Nat → Int32} {rj : Nat → Nat → Int64} {rq : Nat → Nat → Option Nat} : g_X8_firstSo_102_103 tI tR this a0 I J ri rj rq = (g_X8_firstSo_102_103_L3 this a0 I J rj rq tI tR ((20 - ((0 : Int32)).toInt).toNat + 1) (0 : Int32) ri) := rfl
set_option maxHeartbeats 4000000 in
set_option maxRecDepth 100000 in
theorem s_X8_firstSo_102_103 (l : Launch) (D : va_G) (t : pq_T) (σ : pq_S) (I : Nat → Nat → Int32) (J : Nat → Nat → Int64) (ri : Nat → Nat → Int32) (rj : Nat → Nat → Int64) (rq : Nat → Nat → Option Nat) (sz : Nat) (tg : Nat → Nat) (hSH : SH σ tg) (hG0 : GS tg σ I ri rq) (this : Nat) (a0 : Int32) (a1 : Nat) (a2 : Nat) (hL_this : this ∈ σ.1) (hK_this : σ.2.1 this = 8) (hL_a1 : a1 ∈ σ.1) (hK_a1 : σ.2.1 a1 = 13) (hN_a1 : σ.2.2.2 a1 = 6) (hT_a1 : tg a1 = 102) (hL_a2 : a2 ∈ σ.1) (hK_a2 : σ.2.1 a2 = 13) (hN_a2 : σ.2.2.2 a2 = 40) (hT_a2 : tg a2 = 103) (M : Nat) (hL_M : M ∈ σ.1) (hK_M : σ.2.1 M = 10) (hO_a1 : a1 = vrow σ 102 M) (hO_a2 : a2 = vrow σ 103 M) : MetI l yX8_firstSo (wa yX8_firstSo cX8_firstSo 5 (some .int)) ({ frames := 3, cells := 0, slots := 0, locals := 90 }) [.ref this, .int a0, .ref a1, .ref a2] D t σ (I, J, ri, rj, rq) sz 0 0 (fun (r : Int32) (u : pq_S × pq_M) => ∃ ri' : Nat → Nat → Int32, u = (σ, I, J, ri', rj, rq) ∧ GX [] tg σ I ri rj I ri' rj rq ∧ g_X8_firstSo_102_103 (tI σ I) (tR σ ri) this a0 (vI 10 σ M I) (vJ 10 σ M J) (vR 10 σ M ri) (vL 10 σ M rj) (vQ 10 σ M rq) = (r, (vI 10 σ M I), (vJ 10 σ M J), (vR 10 σ M ri'), (vL 10 σ M rj), (vQ 10 σ M rq)) ∧ FR 10 tg σ M (I, J, ri, rj, rq) (I, J, ri', rj, rq) ∧ rg r (-1) 19) := by
  refine Met.ofW (cc := cX8_firstSo) (maxL := 5) (ret := (some .int)) (by decide +kernel) rfl ?_
  intro p e s m args below meth c s₁ B hml hv
  obtain ⟨rfl, hsz, hP, hK, hD0, hN⟩ := hv
  have hx := B.exec
  have hb := B.bytes
  have hr := B.returns
  have hts := atoms_spec (ws := (wa yX8_firstSo cX8_firstSo 5 (some .int))) B.pre
  have hown : s.vm.findClass RX8 = some m.cls := findClass_of_methodNamed B.named
  have hlocks := B.notSynchronized
  subst hsz
  have hD : va_D (pq_B t σ (I, J, ri, rj, rq) s.heap.size) (pq_P t σ (I, J, ri, rj, rq)) := hD0.self
  generalize hAe : pq_B t σ (I, J, ri, rj, rq) s.heap.size = A at hD ⊢
  have hA : ∀ q : Nat, s.heap.size ≤ q → A q := fun q h => by rw [← hAe]; exact Or.inr h
  have hS : va_S A s.heap s.heap [] := va_S.rf
  have hG : GX [] tg σ I ri rj I ri rj rq := ⟨hG0, fun _ _ _ => rfl, fun _ _ _ _ _ => rfl, fun _ _ _ _ _ => rfl⟩
  have hl := lv_entry ([.ref this, .int a0, .ref a1, .ref a2]) (n := 5) (Nat.le_of_ble_eq_true rfl)
  rw [lg_entry_eq]
  generalize (lg_sl ([.ref this, .int a0, .ref a1, .ref a2]) ++ List.replicate (5 - (lg_sl ([.ref this, .int a0, .ref a1, .ref a2])).length) Slot.unset).toArray = ls at hl ⊢
  have hl : lv_has ls 5 [(0, .ref this), (1, .int a0), (2, .ref a1), (3, .ref a2)] := hl
  refine q_gen (fun Q hQ => ?_)
  have go : ∀ (H : Heap) (locs : List Loc) (ls : Array Slot), va_P D vwCl (pq_P t σ (I, J, ri, rj, rq)) H → va_D A (pq_P t σ (I, J, ri, rj, rq)) → va_S A s.heap H locs → lv_has ls 5 [(0, .ref this), (1, .int a0), (2, .ref a1), (3, .ref a2)] → W p l e ({ frames := 3, cells := 0, slots := 0, locals := 90 } : Room) s m (List.toArray ([.ref this, .int a0, .ref a1, .ref a2] : List Value)) below meth c H locs 0 0 Q (F0 m 0 ls []) := by
    intro H locs ls hP hD hS hl
    have hVT : VT 10 σ tg M := vt_10 hSH hL_M hK_M
    have hFr : FR 10 tg σ M (I, J, ri, rj, rq) (I, J, ri, rj, rq) := fr_rf
    obtain ⟨F, hF0⟩ : ∃ F, F = g_X8_firstSo_102_103 (tI σ I) (tR σ ri) this a0 (vI 10 σ M I) (vJ 10 σ M J) (vR 10 σ M ri) (vL 10 σ M rj) (vQ 10 σ M rq) := ⟨_, rfl⟩
    have hF := hF0.trans g_X8_firstSo_102_103_e
    refine lv_iconst (v := 0) hx hb dX8_firstSo_0 (by decide +kernel) ?_
    refine lv_istore (lv' := [(4, .int 0), (0, .ref this), (1, .int a0), (2, .ref a1), (3, .ref a2)]) hx hb dX8_firstSo_1 hl (by decide +kernel) rfl (fun ls hl => ?_)
    have L_216 : ∀ (n_215 : Nat) (x_190 : Int32) (ri_191 : Nat → Nat → Int32) (H : Heap) (locs : List Loc) (ls : Array Slot), rg x_190 0 20 → (20 - (x_190).toInt).toNat < n_215 → F = g_X8_firstSo_102_103_L3 this a0 (vI 10 σ M I) (vJ 10 σ M J) (vL 10 σ M rj) (vQ 10 σ M rq) (tI σ I) (tR σ ri) n_215 x_190 (vR 10 σ M ri_191) → FR 10 tg σ M (I, J, ri, rj, rq) (I, J, ri_191, rj, rq) → GX [] tg σ I ri rj I ri_191 rj rq → va_P D vwCl (pq_P t σ (I, J, ri_191, rj, rq)) H → va_D A (pq_P t σ (I, J, ri_191, rj, rq)) → va_S A s.heap H locs → lv_has ls 5 [(0, .ref this), (1, .int a0), (2, .ref a1), (3, .ref a2), (4, .int x_190)] → W p l e ({ frames := 3, cells := 0, slots := 0, locals := 90 } : Room) s m (List.toArray ([.ref this, .int a0, .ref a1, .ref a2] : List Value)) below meth c H locs 0 0 Q (F0 m 3 ls []) := by
      intro n_215
      induction n_215 with
      | zero => intro x_190 ri_191 H locs ls h_219 hm_214 hF hFr hG hP hD hS hl; exact absurd hm_214 (Nat.not_lt_zero _)
      | succ n_215 ih_217 =>
        intro x_190 ri_191 H locs ls h_219 hm_214 hF hFr hG hP hD hS hl
        replace hF := hF.trans g_X8_firstSo_102_103_L3_e
        refine lv_iload hx hb dX8_firstSo_3 (lv_at hl 4 rfl) ?_
        refine lv_aload_n hx hb dX8_firstSo_5 rfl (lv_at hl 0 rfl) ?_
        refine pg_f (v := .int (I 256 this)) (C := RX8) (T := TX8) (N := 4) hx hb hts (tw_i inlX8) hown hK hP hL_this hK_this (by decide +kernel) rfl 0 (by decide +kernel) (hts _ (tw_c tw_478)) rfl dX8_firstSo_6 ?_
        have h_220 : rg (I 256 this) 0 20 := GX.rI hG 256 rfl
        replace hF := hF.trans (ap_n (tI_e (f := 256) hFr hL_this hK_this (by decide +kernel)))
        refine lv_icmp_ge (tgt := 43) hx hb dX8_firstSo_9 (by decide +kernel) (fun c_222 => ?_) (fun c_222 => ?_)
        · replace hF := hF.trans (if_pos c_222)
          refine lv_iconst (v := (-1)) hx hb dX8_firstSo_43 (by decide +kernel) ?_
          subst hQ
          exact W.iret (v := (-1)) hx hb hr (fun t1 ht hW => ⟨⟨(-1), (σ, I, J, ri_191, rj, rq), rfl, ⟨ri_191, rfl, hG, (hF0.symm.trans hF), hFr, (rg_w (rg_k (-1 : Int32) (-1) rfl) (by decide +kernel))⟩, by rw [ht]; exact hP, va_K.moved hW.alike hK, hD⟩, hS.F ht⟩) hS.2.2 dX8_firstSo_44
        · replace hF := hF.trans (if_neg c_222)
          have h_225 : rg x_190 0 19 := rg_lt1 (nle c_222) h_219 h_220 (by decide +kernel)
          have h_226 : rg (I 256 this) 1 20 := rg_lt2 (nle c_222) h_219 h_220 (by decide +kernel)
          refine lv_aload_n hx hb dX8_firstSo_12 rfl (lv_at hl 0 rfl) ?_
          obtain ⟨w_227, hR_w_227, hL_w_227, hK_w_227, hN_w_227, hT_w_227⟩ := sh_a hSH 257 (ci := 8) (kd := 13) (len := 20) rfl (by decide +kernel) hL_this hK_this
          refine pg_f (v := .ref w_227) (C := RX8) (T := TX8) (N := 4) hx hb hts (tw_i inlX8) hown hK hP hL_this hK_this (by decide +kernel) rfl 1 (by decide +kernel) (hts _ (tw_c tw_169)) (pq_hv rfl hR_w_227) dX8_firstSo_13 ?_
          refine lv_iload hx hb dX8_firstSo_16 (lv_at hl 4 rfl) ?_
          refine pl_i hx hb hK hP hL_w_227 hK_w_227 hN_w_227 (rg_in h_225 (by decide +kernel)) dX8_firstSo_18 ?_
          refine lv_topi (fun x_228 ex_228 => ?_)
          replace hF := hF.trans (ap_n (tR_r hFr hVT hL_this hK_this hR_w_227 hT_w_227 (by decide +kernel) ex_228))
          refine lv_iload_n hx hb dX8_firstSo_19 rfl (lv_at hl 1 rfl) ?_
          have K_243 : ∀  (ri_240 : Nat → Nat → Int32) (H : Heap) (locs : List Loc) (ls : Array Slot), F = g_X8_firstSo_102_103_K37 x_190 (g_X8_firstSo_102_103_L3 this a0 (vI 10 σ M I) (vJ 10 σ M J) (vL 10 σ M rj) (vQ 10 σ M rq) (tI σ I) (tR σ ri) n_215) (vR 10 σ M ri_240) → FR 10 tg σ M (I, J, ri, rj, rq) (I, J, ri_240, rj, rq) → GX [] tg σ I ri rj I ri_240 rj rq → va_P D vwCl (pq_P t σ (I, J, ri_240, rj, rq)) H → va_D A (pq_P t σ (I, J, ri_240, rj, rq)) → va_S A s.heap H locs → lv_has ls 5 [(0, .ref this), (1, .int a0), (2, .ref a1), (3, .ref a2), (4, .int x_190)] → W p l e ({ frames := 3, cells := 0, slots := 0, locals := 90 } : Room) s m (List.toArray ([.ref this, .int a0, .ref a1, .ref a2] : List Value)) below meth c H locs 0 0 Q (F0 m 37 ls []) := by
            intro ri_240 H locs ls hF hFr hG hP hD hS hl
            replace hF := hF.trans g_X8_firstSo_102_103_K37_e
            obtain ⟨x_244, ex_244⟩ : ∃ y : Int32, y = x_190 + Int32.ofInt 1 := ⟨_, rfl⟩
            replace hF := hF.trans (ap_n ex_244)
            have h_245 : rg x_244 1 20 := rg_of_eq ex_244 (rg_add h_225 (rg_k (Int32.ofInt 1) 1 rfl) (by decide +kernel))
            refine lv_iinc (v := x_244) (lv' := [(4, .int x_244), (0, .ref this), (1, .int a0), (2, .ref a1), (3, .ref a2)]) hx hb dX8_firstSo_37 hl (k := 4) rfl ex_244.symm (by decide +kernel) rfl (fun ls hl => ?_)
            refine lv_goto (tgt := 3) hx hb dX8_firstSo_40 (by decide +kernel) ?_
            exact ih_217 x_244 ri_240 _ _ _ (rg_w h_245 (by decide +kernel)) (ms_up 1 hm_214 ex_244 rfl (by decide +kernel) h_225 (by decide +kernel) (by decide +kernel)) hF hFr hG hP hD hS (lv_sub hl [1, 2, 3, 4, 0] rfl)
          refine lv_icmp_ne (tgt := 37) hx hb dX8_firstSo_20 (by decide +kernel) (fun c_246 => ?_) (fun c_246 => ?_)
          · replace hF := hF.trans (if_neg c_246)
            exact K_243 ri_191 _ _ _ hF hFr hG hP hD hS (lv_sub hl [0, 1, 2, 3, 4] rfl)
          · replace hF := hF.trans (if_pos c_246)
            refine lv_aload_n hx hb dX8_firstSo_23 rfl (lv_at hl 0 rfl) ?_
            refine lv_iload hx hb dX8_firstSo_24 (lv_at hl 4 rfl) ?_
            refine lv_aload_n hx hb dX8_firstSo_26 rfl (lv_at hl 2 rfl) ?_
            refine lv_aload_n hx hb dX8_firstSo_27 rfl (lv_at hl 3 rfl) ?_
            refine pk_i (va_runV (As := [.int x_190, .ref a1, .ref a2]) (rest := []) ⟨hx, hb, hml, hown, hts⟩ (s_X8_work_102_103 l D t σ I J ri_191 rj rq H.size tg hSH hG.1 this x_190 a1 a2 hL_this hK_this (rg_w h_225 (by decide +kernel)) hL_a1 hK_a1 hN_a1 hT_a1 hL_a2 hK_a2 hN_a2 hT_a2 M hL_M hK_M hO_a1 hO_a2) (cwV 3 hts (tw_V tw_574 tw_575 tw_576 tw_159 tw_577) rfl rfl rfl cv_yX8_work_3 ⟨Nat.le_of_ble_eq_true rfl, Nat.le_of_ble_eq_true rfl⟩) ⟨pq_blind, pq_recv hK hP hL_this hK_this (by decide +kernel) rfl, pq_pre hK hN hP hD⟩ rfl rfl hl.1 rfl (lv_room (Nat.le_of_ble_eq_true rfl)) dX8_firstSo_28 ⟨Nat.le_of_ble_eq_true rfl, Nat.le_of_ble_eq_true rfl⟩) hD hS hA (fun x_247 σ1 μ1 H locs hw_248 hP hD hS => ?_)
            obtain ⟨ri_249, hu_250, hg_251, hfn_253, hfr_254⟩ := hw_248
            obtain ⟨hu_250a, hu_250b⟩ := Prod.mk.inj hu_250
            rw [hu_250a, hu_250b] at hP hD
            rw [fr_tR hFr hVT] at hfn_253
            replace hF := hF.trans (bn_n hfn_253)
            replace hFr := fr_tr hFr hfr_254
            have hG := GX.tr hG hg_251 (by decide +kernel)
            refine lv_if_eq (tgt := 37) hx hb dX8_firstSo_31 (by decide +kernel) (fun c_255 => ?_) (fun c_255 => ?_)
            · replace hF := hF.trans (if_pos c_255)
              have h_257 : rg x_247 0 0 := rg_and (rg_full _) (rg_of_eq c_255 (rg_k (0 : Int32) 0 rfl)) (by decide +kernel)
              exact K_243 ri_249 _ _ _ hF hFr hG hP hD hS (lv_sub hl [0, 1, 2, 3, 4] rfl)
            · replace hF := hF.trans (if_neg c_255)
              refine lv_iload hx hb dX8_firstSo_34 (lv_at hl 4 rfl) ?_
              subst hQ
              exact W.iret (v := x_190) hx hb hr (fun t1 ht hW => ⟨⟨x_190, (σ, I, J, ri_249, rj, rq), rfl, ⟨ri_249, rfl, hG, (hF0.symm.trans hF), hFr, (rg_w h_225 (by decide +kernel))⟩, by rw [ht]; exact hP, va_K.moved hW.alike hK, hD⟩, hS.F ht⟩) hS.2.2 dX8_firstSo_36
    exact L_216 _ (0 : Int32) ri _ _ _ (rg_w (rg_k (0 : Int32) 0 rfl) (by decide +kernel)) (Nat.lt_succ_self _) hF hFr hG hP hD hS (lv_sub hl [1, 2, 3, 4, 0] rfl)
  exact go _ _ _ hP hD hS hl

set_option maxRecDepth 100000 in
def g_X3_whoIsSo_K77 (x_569 : Int32) (k_g_X3_whoIsSo_L22 : (Int64) → (Int32) → (Nat → Nat → Int32) → Int64 × vM) (x_662 : Int64) (ri_663 : Nat → Nat → Int32) : Int64 × vM := (ap1 (x_569 + Int32.ofInt 1) fun (x_667 : Int32) => (k_g_X3_whoIsSo_L22 x_662 x_667 ri_663))
set_option maxRecDepth 100000 in
theorem g_X3_whoIsSo_K77_e {x_569 : Int32} {k_g_X3_whoIsSo_L22 : (Int64) → (Int32) → (Nat → Nat → Int32) → Int64 × vM} {x_662 : Int64} {ri_663 : Nat → Nat → Int32} : g_X3_whoIsSo_K77 x_569 k_g_X3_whoIsSo_L22 x_662 ri_663 = (ap1 (x_569 + Int32.ofInt 1) fun (x_667 : Int32) => (k_g_X3_whoIsSo_L22 x_662 x_667 ri_663)) := rfl
set_option maxRecDepth 100000 in
def g_X3_whoIsSo_L22 (a0 : Int32) (a1 : Int32) (a3 : Int64) (I : Nat → Int32) (J : Nat → Int64) (rj : Nat → Nat → Int64) (rq : Nat → Nat → Option Nat) (tI : Nat → Nat → Int32) (tR : Nat → Nat → Nat → Int32) (w_x_1 : Nat) : Nat → (Int64) → (Int32) → (Nat → Nat → Int32) → Int64 × vM
  | 0, x_568, x_569, ri_570 => ((0 : Int64), I, J, ri_570, rj, rq)
  | n_616 + 1, x_568, x_569, ri_570 => (ap1 (I 0) fun (y_622 : Int32) => (if (y_622) ≤ x_569 then (x_568, I, J, ri_570, rj, rq) else (ap1 (g_X11_hasBit a3 x_569) fun (x_628 : Int32) => (if x_628 = (0 : Int32) then (g_X3_whoIsSo_K77 x_569 (g_X3_whoIsSo_L22 a0 a1 a3 I J rj rq tI tR w_x_1 n_616) x_568 ri_570) else (bnV (g_X3_nameAll x_569 a1 (0 : Int32) I J ri_570 rj rq) fun (_ : Nat → Int32) (_ : Nat → Int64) (ri_676 : Nat → Nat → Int32) (_ : Nat → Nat → Int64) (_ : Nat → Nat → Option Nat) => (bnI (g_X8_firstSo_102_103 tI tR w_x_1 a0 I J ri_676 rj rq) fun (x_684 : Int32) (_ : Nat → Int32) (_ : Nat → Int64) (ri_686 : Nat → Nat → Int32) (_ : Nat → Nat → Int64) (_ : Nat → Nat → Option Nat) => (if x_684 = (-1 : Int32) then (g_X3_whoIsSo_K77 x_569 (g_X3_whoIsSo_L22 a0 a1 a3 I J rj rq tI tR w_x_1 n_616) x_568 ri_686) else (ap1 ((1 : Int64) <<< (x_569.toInt64 &&& 63)) fun (x_697 : Int64) => (ap1 (x_568 ||| x_697) fun (x_698 : Int64) => (g_X3_whoIsSo_K77 x_569 (g_X3_whoIsSo_L22 a0 a1 a3 I J rj rq tI tR w_x_1 n_616) x_698 ri_686))))))))))
set_option maxRecDepth 100000 in
theorem g_X3_whoIsSo_L22_e {a0 : Int32} {a1 : Int32} {a3 : Int64} {I : Nat → Int32} {J : Nat → Int64} {rj : Nat → Nat → Int64} {rq : Nat → Nat → Option Nat} {tI : Nat → Nat → Int32} {tR : Nat → Nat → Nat → Int32} {w_x_1 : Nat} {n_616 : Nat} {x_568 : Int64} {x_569 : Int32} {ri_570 : Nat → Nat → Int32} : g_X3_whoIsSo_L22 a0 a1 a3 I J rj rq tI tR w_x_1 (n_616 + 1) x_568 x_569 ri_570 = (ap1 (I 0) fun (y_622 : Int32) => (if (y_622) ≤ x_569 then (x_568, I, J, ri_570, rj, rq) else (ap1 (g_X11_hasBit a3 x_569) fun (x_628 : Int32) => (if x_628 = (0 : Int32) then (g_X3_whoIsSo_K77 x_569 (g_X3_whoIsSo_L22 a0 a1 a3 I J rj rq tI tR w_x_1 n_616) x_568 ri_570) else (bnV (g_X3_nameAll x_569 a1 (0 : Int32) I J ri_570 rj rq) fun (_ : Nat → Int32) (_ : Nat → Int64) (ri_676 : Nat → Nat → Int32) (_ : Nat → Nat → Int64) (_ : Nat → Nat → Option Nat) => (bnI (g_X8_firstSo_102_103 tI tR w_x_1 a0 I J ri_676 rj rq) fun (x_684 : Int32) (_ : Nat → Int32) (_ : Nat → Int64) (ri_686 : Nat → Nat → Int32) (_ : Nat → Nat → Int64) (_ : Nat → Nat → Option Nat) => (if x_684 = (-1 : Int32) then (g_X3_whoIsSo_K77 x_569 (g_X3_whoIsSo_L22 a0 a1 a3 I J rj rq tI tR w_x_1 n_616) x_568 ri_686) else (ap1 ((1 : Int64) <<< (x_569.toInt64 &&& 63)) fun (x_697 : Int64) => (ap1 (x_568 ||| x_697) fun (x_698 : Int64) => (g_X3_whoIsSo_K77 x_569 (g_X3_whoIsSo_L22 a0 a1 a3 I J rj rq tI tR w_x_1 n_616) x_698 ri_686)))))))))) := rfl
set_option maxRecDepth 100000 in
def g_X3_whoIsSo (tI : Nat → Nat → Int32) (tR : Nat → Nat → Nat → Int32) (a0 : Int32) (a1 : Int32) (a3 : Int64) (I : Nat → Int32) (J : Nat → Int64) (ri : Nat → Nat → Int32) (rj : Nat → Nat → Int64) (rq : Nat → Nat → Option Nat) : Int64 × vM := (bnI (g_X3_textFor tI tR a0 a1 I J ri rj rq) fun (x_1 : Option Nat) (_ : Nat → Int32) (_ : Nat → Int64) (_ : Nat → Nat → Int32) (_ : Nat → Nat → Int64) (_ : Nat → Nat → Option Nat) => (opt1 (x_1) (a3, I, J, ri, rj, rq) fun (w_x_1 : Nat) => (g_X3_whoIsSo_L22 a0 a1 a3 I J rj rq tI tR w_x_1 ((40 - ((0 : Int32)).toInt).toNat + 1) (0 : Int64) (0 : Int32) ri)))
set_option maxRecDepth 100000 in
theorem g_X3_whoIsSo_e {tI : Nat → Nat → Int32} {tR : Nat → Nat → Nat → Int32} {a0 : Int32} {a1 : Int32} {a3 : Int64} {I : Nat → Int32} {J : Nat → Int64} {ri : Nat → Nat → Int32} {rj : Nat → Nat → Int64} {rq : Nat → Nat → Option Nat} : g_X3_whoIsSo tI tR a0 a1 a3 I J ri rj rq = (bnI (g_X3_textFor tI tR a0 a1 I J ri rj rq) fun (x_1 : Option Nat) (_ : Nat → Int32) (_ : Nat → Int64) (_ : Nat → Nat → Int32) (_ : Nat → Nat → Int64) (_ : Nat → Nat → Option Nat) => (opt1 (x_1) (a3, I, J, ri, rj, rq) fun (w_x_1 : Nat) => (g_X3_whoIsSo_L22 a0 a1 a3 I J rj rq tI tR w_x_1 ((40 - ((0 : Int32)).toInt).toNat + 1) (0 : Int64) (0 : Int32) ri))) := rfl
set_option maxHeartbeats 4000000 in
set_option maxRecDepth 100000 in
theorem s_X3_whoIsSo (l : Launch) (D : va_G) (t : pq_T) (σ : pq_S) (I : Nat → Nat → Int32) (J : Nat → Nat → Int64) (ri : Nat → Nat → Int32) (rj : Nat → Nat → Int64) (rq : Nat → Nat → Option Nat) (sz : Nat) (tg : Nat → Nat) (hSH : SH σ tg) (hG0 : GS tg σ I ri rq) (this : Nat) (a0 : Int32) (a1 : Int32) (a2 : Nat) (a3 : Int64) (hL_this : this ∈ σ.1) (hK_this : σ.2.1 this = 3) (hL_a2 : a2 ∈ σ.1) (hK_a2 : σ.2.1 a2 = 0) (M : Nat) (hL_M : M ∈ σ.1) (hK_M : σ.2.1 M = 10) (hO_this : this = vo σ 3 M) (hO_a2 : a2 = vo σ 0 M) : MetL l yX3_whoIsSo (wa yX3_whoIsSo cX3_whoIsSo 10 (some .long)) ({ frames := 4, cells := 0, slots := 0, locals := 114 }) [.ref this, .int a0, .int a1, .ref a2, .long a3] D t σ (I, J, ri, rj, rq) sz 0 0 (fun (r : Int64) (u : pq_S × pq_M) => ∃ ri' : Nat → Nat → Int32, u = (σ, I, J, ri', rj, rq) ∧ GX [] tg σ I ri rj I ri' rj rq ∧ g_X3_whoIsSo (tI σ I) (tR σ ri) a0 a1 a3 (vI 10 σ M I) (vJ 10 σ M J) (vR 10 σ M ri) (vL 10 σ M rj) (vQ 10 σ M rq) = (r, (vI 10 σ M I), (vJ 10 σ M J), (vR 10 σ M ri'), (vL 10 σ M rj), (vQ 10 σ M rq)) ∧ FR 10 tg σ M (I, J, ri, rj, rq) (I, J, ri', rj, rq)) := by
  refine Met.ofW (cc := cX3_whoIsSo) (maxL := 10) (ret := (some .long)) (by decide +kernel) rfl ?_
  intro p e s m args below meth c s₁ B hml hv
  obtain ⟨rfl, hsz, hP, hK, hD0, hN⟩ := hv
  have hx := B.exec
  have hb := B.bytes
  have hr := B.returns
  have hts := atoms_spec (ws := (wa yX3_whoIsSo cX3_whoIsSo 10 (some .long))) B.pre
  have hown : s.vm.findClass RX3 = some m.cls := findClass_of_methodNamed B.named
  have hlocks := B.notSynchronized
  subst hsz
  have hD : va_D (pq_B t σ (I, J, ri, rj, rq) s.heap.size) (pq_P t σ (I, J, ri, rj, rq)) := hD0.self
  generalize hAe : pq_B t σ (I, J, ri, rj, rq) s.heap.size = A at hD ⊢
  have hA : ∀ q : Nat, s.heap.size ≤ q → A q := fun q h => by rw [← hAe]; exact Or.inr h
  have hS : va_S A s.heap s.heap [] := va_S.rf
  have hG : GX [] tg σ I ri rj I ri rj rq := ⟨hG0, fun _ _ _ => rfl, fun _ _ _ _ _ => rfl, fun _ _ _ _ _ => rfl⟩
  have hl := lv_entry ([.ref this, .int a0, .int a1, .ref a2, .long a3]) (n := 10) (Nat.le_of_ble_eq_true rfl)
  rw [lg_entry_eq]
  generalize (lg_sl ([.ref this, .int a0, .int a1, .ref a2, .long a3]) ++ List.replicate (10 - (lg_sl ([.ref this, .int a0, .int a1, .ref a2, .long a3])).length) Slot.unset).toArray = ls at hl ⊢
  have hl : lv_has ls 10 [(0, .ref this), (1, .int a0), (2, .int a1), (3, .ref a2), (4, .long a3)] := hl
  refine q_gen (fun Q hQ => ?_)
  have go : ∀ (H : Heap) (locs : List Loc) (ls : Array Slot), va_P D vwCl (pq_P t σ (I, J, ri, rj, rq)) H → va_D A (pq_P t σ (I, J, ri, rj, rq)) → va_S A s.heap H locs → lv_has ls 10 [(0, .ref this), (1, .int a0), (2, .int a1), (3, .ref a2), (4, .long a3)] → W p l e ({ frames := 4, cells := 0, slots := 0, locals := 114 } : Room) s m (List.toArray ([.ref this, .int a0, .int a1, .ref a2, .long a3] : List Value)) below meth c H locs 0 0 Q (F0 m 0 ls []) := by
    intro H locs ls hP hD hS hl
    have hVT : VT 10 σ tg M := vt_10 hSH hL_M hK_M
    have hFr : FR 10 tg σ M (I, J, ri, rj, rq) (I, J, ri, rj, rq) := fr_rf
    obtain ⟨F, hF0⟩ : ∃ F, F = g_X3_whoIsSo (tI σ I) (tR σ ri) a0 a1 a3 (vI 10 σ M I) (vJ 10 σ M J) (vR 10 σ M ri) (vL 10 σ M rj) (vQ 10 σ M rq) := ⟨_, rfl⟩
    have hF := hF0.trans g_X3_whoIsSo_e
    refine lv_aload_n hx hb dX3_whoIsSo_0 rfl (lv_at hl 0 rfl) ?_
    refine lv_iload_n hx hb dX3_whoIsSo_1 rfl (lv_at hl 1 rfl) ?_
    refine lv_iload_n hx hb dX3_whoIsSo_2 rfl (lv_at hl 2 rfl) ?_
    refine pk_q (va_runV (As := [.int a0, .int a1]) (rest := []) ⟨hx, hb, hml, hown, hts⟩ (s_X3_textFor l D t σ I J ri rj rq H.size tg hSH hG.1 this a0 a1 hL_this hK_this M hL_M hK_M hO_this) (cwV 2 hts (tw_V tw_469 tw_470 tw_471 tw_49 tw_472) rfl rfl rfl cv_yX3_textFor_2 ⟨Nat.le_of_ble_eq_true rfl, Nat.le_of_ble_eq_true rfl⟩) ⟨pq_blind, pq_recv hK hP hL_this hK_this (by decide +kernel) rfl, pq_pre hK hN hP hD⟩ rfl rfl hl.1 rfl (lv_room (Nat.le_of_ble_eq_true rfl)) dX3_whoIsSo_3 ⟨Nat.le_of_ble_eq_true rfl, Nat.le_of_ble_eq_true rfl⟩) hD hS hA (fun x_1 σ1 μ1 H locs hw_2 hP hD hS => ?_)
    obtain ⟨hu_3, hfn_6, hr_5⟩ := hw_2
    obtain ⟨hu_3a, hu_3b⟩ := Prod.mk.inj hu_3
    rw [hu_3a, hu_3b] at hP hD
    replace hF := hF.trans (bn_n hfn_6)
    rcases hr_5 with rfl | ⟨w_x_1, rfl, hL_w_x_1, hK_w_x_1⟩
    · replace hF := hF.trans op_0
      refine lv_astoreN (lv' := [(6, .null), (0, .ref this), (1, .int a0), (2, .int a1), (3, .ref a2), (4, .long a3)]) hx hb dX3_whoIsSo_6 hl (by decide +kernel) rfl (fun ls hl => ?_)
      refine lv_aloadN hx hb dX3_whoIsSo_8 (lv_at hl 0 rfl) ?_
      refine lv_ifnonnullN hx hb dX3_whoIsSo_10 ?_
      refine lv_lload hx hb dX3_whoIsSo_13 (lv_at hl 5 rfl) ?_
      subst hQ
      exact W.lret (v := a3) hx hb hr (fun t1 ht hW => ⟨⟨a3, (σ, I, J, ri, rj, rq), rfl, ⟨ri, rfl, hG, (hF0.symm.trans hF), hFr⟩, by rw [ht]; exact hP, va_K.moved hW.alike hK, hD⟩, hS.F ht⟩) hS.2.2 dX3_whoIsSo_15
    · replace hF := hF.trans op_1
      refine lv_astore (lv' := [(6, .ref w_x_1), (0, .ref this), (1, .int a0), (2, .int a1), (3, .ref a2), (4, .long a3)]) hx hb dX3_whoIsSo_6 hl (by decide +kernel) rfl (fun ls hl => ?_)
      refine lv_aload hx hb dX3_whoIsSo_8 (lv_at hl 0 rfl) ?_
      refine lv_ifnonnull (tgt := 16) hx hb dX3_whoIsSo_10 (by decide +kernel) ?_
      refine lv_lconst (v := 0) hx hb dX3_whoIsSo_16 (by decide +kernel) ?_
      refine lv_lstore (lv' := [(7, .long 0), (6, .ref w_x_1), (0, .ref this), (1, .int a0), (2, .int a1), (3, .ref a2), (4, .long a3)]) hx hb dX3_whoIsSo_17 hl (by decide +kernel) rfl (fun ls hl => ?_)
      refine lv_iconst (v := 0) hx hb dX3_whoIsSo_19 (by decide +kernel) ?_
      refine lv_istore (lv' := [(9, .int 0), (7, .long 0), (6, .ref w_x_1), (0, .ref this), (1, .int a0), (2, .int a1), (3, .ref a2), (4, .long a3)]) hx hb dX3_whoIsSo_20 hl (by decide +kernel) rfl (fun ls hl => ?_)
      have L_617 : ∀ (n_616 : Nat) (x_568 : Int64) (x_569 : Int32) (ri_570 : Nat → Nat → Int32) (H : Heap) (locs : List Loc) (ls : Array Slot), rg x_569 0 40 → (40 - (x_569).toInt).toNat < n_616 → F = g_X3_whoIsSo_L22 a0 a1 a3 (vI 10 σ M I) (vJ 10 σ M J) (vL 10 σ M rj) (vQ 10 σ M rq) (tI σ I) (tR σ ri) w_x_1 n_616 x_568 x_569 (vR 10 σ M ri_570) → FR 10 tg σ M (I, J, ri, rj, rq) (I, J, ri_570, rj, rq) → GX [] tg σ I ri rj I ri_570 rj rq → va_P D vwCl (pq_P t σ (I, J, ri_570, rj, rq)) H → va_D A (pq_P t σ (I, J, ri_570, rj, rq)) → va_S A s.heap H locs → lv_has ls 10 [(0, .ref this), (1, .int a0), (2, .int a1), (3, .ref a2), (4, .long a3), (6, .ref w_x_1), (7, .long x_568), (9, .int x_569)] → W p l e ({ frames := 4, cells := 0, slots := 0, locals := 114 } : Room) s m (List.toArray ([.ref this, .int a0, .int a1, .ref a2, .long a3] : List Value)) below meth c H locs 0 0 Q (F0 m 22 ls []) := by
        intro n_616
        induction n_616 with
        | zero => intro x_568 x_569 ri_570 H locs ls h_620 hm_615 hF hFr hG hP hD hS hl; exact absurd hm_615 (Nat.not_lt_zero _)
        | succ n_616 ih_618 =>
          intro x_568 x_569 ri_570 H locs ls h_620 hm_615 hF hFr hG hP hD hS hl
          replace hF := hF.trans g_X3_whoIsSo_L22_e
          refine lv_iload hx hb dX3_whoIsSo_22 (lv_at hl 7 rfl) ?_
          refine lv_aload_n hx hb dX3_whoIsSo_24 rfl (lv_at hl 3 rfl) ?_
          refine pg_f (v := .int (I 0 a2)) (C := RX0) (T := TX0) (N := 16) hx hb hts (tw_i inlX0) hown hK hP hL_a2 hK_a2 (by decide +kernel) rfl 0 (by decide +kernel) (hts _ (tw_c tw_465)) rfl dX3_whoIsSo_25 ?_
          have h_621 : rg (I 0 a2) 0 40 := GX.rI hG 0 rfl
          replace hF := hF.trans (ap_n (vI_e (f := 0) hO_a2 (by decide +kernel)))
          refine lv_icmp_ge (tgt := 83) hx hb dX3_whoIsSo_28 (by decide +kernel) (fun c_623 => ?_) (fun c_623 => ?_)
          · replace hF := hF.trans (if_pos c_623)
            refine lv_lload hx hb dX3_whoIsSo_83 (lv_at hl 6 rfl) ?_
            subst hQ
            exact W.lret (v := x_568) hx hb hr (fun t1 ht hW => ⟨⟨x_568, (σ, I, J, ri_570, rj, rq), rfl, ⟨ri_570, rfl, hG, (hF0.symm.trans hF), hFr⟩, by rw [ht]; exact hP, va_K.moved hW.alike hK, hD⟩, hS.F ht⟩) hS.2.2 dX3_whoIsSo_85
          · replace hF := hF.trans (if_neg c_623)
            have h_626 : rg x_569 0 39 := rg_lt1 (nle c_623) h_620 h_621 (by decide +kernel)
            have h_627 : rg (I 0 a2) 1 40 := rg_lt2 (nle c_623) h_620 h_621 (by decide +kernel)
            refine lv_lload hx hb dX3_whoIsSo_31 (lv_at hl 4 rfl) ?_
            refine lv_iload hx hb dX3_whoIsSo_33 (lv_at hl 7 rfl) ?_
            refine pk_i (va_runSN (As := [.long a3, .int x_569]) (rest := []) ⟨hx, hb, hml, hown, hts⟩ (s_X11_hasBit l D t σ I J ri_570 rj rq H.size tg hSH hG.1 a3 x_569) ⟨va_cnB (host := "RingsUnder") 2 hts (tw_W tw_560) rfl rfl rfl (nl_12 hN) (hts _ (tw_c tw_2)) cd_yX11_hasBit_2 ⟨Nat.le_of_ble_eq_true rfl, Nat.le_of_ble_eq_true rfl⟩, hts (.static yX11_hasBit) (tw_c tq_static_yX11_hasBit), trivial⟩ ⟨pq_blind, pq_pre hK hN hP hD⟩ rfl rfl hl.1 rfl (lv_room (Nat.le_of_ble_eq_true rfl)) dX3_whoIsSo_35 ⟨Nat.le_of_ble_eq_true rfl, Nat.le_of_ble_eq_true rfl⟩) hD hS hA (fun x_628 σ1 μ1 H locs hw_629 hP hD hS => ?_)
            obtain ⟨hu_630, hfn_633, hr_632⟩ := hw_629
            obtain ⟨hu_630a, hu_630b⟩ := Prod.mk.inj hu_630
            rw [hu_630a, hu_630b] at hP hD
            replace hF := hF.trans (ap_n hfn_633.symm)
            have h_635 : rg x_628 0 1 := by rcases hr_632 with ⟨q, -⟩ | ⟨q, -⟩ <;> rw [q] <;> exact ⟨by decide +kernel, by decide +kernel⟩
            have K_666 : ∀  (x_662 : Int64) (ri_663 : Nat → Nat → Int32) (H : Heap) (locs : List Loc) (ls : Array Slot), F = g_X3_whoIsSo_K77 x_569 (g_X3_whoIsSo_L22 a0 a1 a3 (vI 10 σ M I) (vJ 10 σ M J) (vL 10 σ M rj) (vQ 10 σ M rq) (tI σ I) (tR σ ri) w_x_1 n_616) x_662 (vR 10 σ M ri_663) → FR 10 tg σ M (I, J, ri, rj, rq) (I, J, ri_663, rj, rq) → GX [] tg σ I ri rj I ri_663 rj rq → va_P D vwCl (pq_P t σ (I, J, ri_663, rj, rq)) H → va_D A (pq_P t σ (I, J, ri_663, rj, rq)) → va_S A s.heap H locs → lv_has ls 10 [(0, .ref this), (1, .int a0), (2, .int a1), (3, .ref a2), (4, .long a3), (6, .ref w_x_1), (7, .long x_662), (9, .int x_569)] → W p l e ({ frames := 4, cells := 0, slots := 0, locals := 114 } : Room) s m (List.toArray ([.ref this, .int a0, .int a1, .ref a2, .long a3] : List Value)) below meth c H locs 0 0 Q (F0 m 77 ls []) := by
              intro x_662 ri_663 H locs ls hF hFr hG hP hD hS hl
              replace hF := hF.trans g_X3_whoIsSo_K77_e
              obtain ⟨x_667, ex_667⟩ : ∃ y : Int32, y = x_569 + Int32.ofInt 1 := ⟨_, rfl⟩
              replace hF := hF.trans (ap_n ex_667)
              have h_668 : rg x_667 1 40 := rg_of_eq ex_667 (rg_add h_626 (rg_k (Int32.ofInt 1) 1 rfl) (by decide +kernel))
              refine lv_iinc (v := x_667) (lv' := [(9, .int x_667), (0, .ref this), (1, .int a0), (2, .int a1), (3, .ref a2), (4, .long a3), (6, .ref w_x_1), (7, .long x_662)]) hx hb dX3_whoIsSo_77 hl (k := 7) rfl ex_667.symm (by decide +kernel) rfl (fun ls hl => ?_)
              refine lv_goto (tgt := 22) hx hb dX3_whoIsSo_80 (by decide +kernel) ?_
              exact ih_618 x_662 x_667 ri_663 _ _ _ (rg_w h_668 (by decide +kernel)) (ms_up 1 hm_615 ex_667 rfl (by decide +kernel) h_626 (by decide +kernel) (by decide +kernel)) hF hFr hG hP hD hS (lv_sub hl [1, 2, 3, 4, 5, 6, 7, 0] rfl)
            refine lv_if_eq (tgt := 77) hx hb dX3_whoIsSo_38 (by decide +kernel) (fun c_669 => ?_) (fun c_669 => ?_)
            · replace hF := hF.trans (if_pos c_669)
              have h_672 : rg x_628 0 0 := rg_and h_635 (rg_of_eq c_669 (rg_k (0 : Int32) 0 rfl)) (by decide +kernel)
              exact K_666 x_568 ri_570 _ _ _ hF hFr hG hP hD hS (lv_sub hl [0, 1, 2, 3, 4, 5, 6, 7] rfl)
            · replace hF := hF.trans (if_neg c_669)
              have h_673 : rg x_628 1 1 := rg_ne c_669 h_635 0 rfl (by decide +kernel)
              refine lv_aload_n hx hb dX3_whoIsSo_41 rfl (lv_at hl 0 rfl) ?_
              refine lv_aload_n hx hb dX3_whoIsSo_42 rfl (lv_at hl 3 rfl) ?_
              refine lv_iload hx hb dX3_whoIsSo_43 (lv_at hl 7 rfl) ?_
              refine lv_iload_n hx hb dX3_whoIsSo_45 rfl (lv_at hl 2 rfl) ?_
              refine lv_iconst (v := 0) hx hb dX3_whoIsSo_46 (by decide +kernel) ?_
              refine pk_v (va_runV (As := [.ref a2, .int x_569, .int a1, .int 0]) (rest := []) ⟨hx, hb, hml, hown, hts⟩ (s_X3_nameAll l D t σ I J ri_570 rj rq H.size tg hSH hG.1 this a2 x_569 a1 (0 : Int32) hL_this hK_this hL_a2 hK_a2 (rg_w h_626 (by decide +kernel)) M hL_M hK_M hO_this hO_a2) (cwV 4 hts (tw_V tw_565 tw_566 tw_567 tw_49 tw_568) rfl rfl rfl cv_yX3_nameAll_4 ⟨Nat.le_of_ble_eq_true rfl, Nat.le_of_ble_eq_true rfl⟩) ⟨pq_blind, pq_recv hK hP hL_this hK_this (by decide +kernel) rfl, pq_pre hK hN hP hD⟩ rfl rfl hl.1 rfl (lv_room (Nat.le_of_ble_eq_true rfl)) dX3_whoIsSo_47 ⟨Nat.le_of_ble_eq_true rfl, Nat.le_of_ble_eq_true rfl⟩) hD hS hA (fun σ1 μ1 H locs hw_675 hP hD hS => ?_)
              obtain ⟨ri_676, hu_677, hg_678, hfn_680, hfr_681⟩ := hw_675
              obtain ⟨hu_677a, hu_677b⟩ := Prod.mk.inj hu_677
              rw [hu_677a, hu_677b] at hP hD
              replace hF := hF.trans (bv_n hfn_680)
              replace hFr := fr_tr hFr hfr_681
              have hG := GX.tr hG hg_678 (by decide +kernel)
              refine lv_aload hx hb dX3_whoIsSo_50 (lv_at hl 5 rfl) ?_
              refine lv_iload_n hx hb dX3_whoIsSo_52 rfl (lv_at hl 1 rfl) ?_
              refine lv_aload_n hx hb dX3_whoIsSo_53 rfl (lv_at hl 0 rfl) ?_
              obtain ⟨w_682, hR_w_682, hL_w_682, hK_w_682, hN_w_682, hT_w_682⟩ := sh_a hSH 102 (ci := 3) (kd := 13) (len := 6) rfl (by decide +kernel) hL_this hK_this
              have hO_w_682 : w_682 = vrow σ 102 M := vo_k (c := 3) hO_this hR_w_682
              refine pg_f (v := .ref w_682) (C := RX3) (T := TX3) (N := 8) hx hb hts (tw_i inlX3) hown hK hP hL_this hK_this (by decide +kernel) rfl 6 (by decide +kernel) (hts _ (tw_c tw_132)) (pq_hv rfl hR_w_682) dX3_whoIsSo_54 ?_
              refine lv_aload_n hx hb dX3_whoIsSo_57 rfl (lv_at hl 0 rfl) ?_
              obtain ⟨w_683, hR_w_683, hL_w_683, hK_w_683, hN_w_683, hT_w_683⟩ := sh_a hSH 103 (ci := 3) (kd := 13) (len := 40) rfl (by decide +kernel) hL_this hK_this
              have hO_w_683 : w_683 = vrow σ 103 M := vo_k (c := 3) hO_this hR_w_683
              refine pg_f (v := .ref w_683) (C := RX3) (T := TX3) (N := 8) hx hb hts (tw_i inlX3) hown hK hP hL_this hK_this (by decide +kernel) rfl 7 (by decide +kernel) (hts _ (tw_c tw_133)) (pq_hv rfl hR_w_683) dX3_whoIsSo_58 ?_
              refine pk_i (va_runV (As := [.int a0, .ref w_682, .ref w_683]) (rest := []) ⟨hx, hb, hml, hown, hts⟩ (s_X8_firstSo_102_103 l D t σ I J ri_676 rj rq H.size tg hSH hG.1 w_x_1 a0 w_682 w_683 hL_w_x_1 hK_w_x_1 hL_w_682 hK_w_682 hN_w_682 hT_w_682 hL_w_683 hK_w_683 hN_w_683 hT_w_683 M hL_M hK_M hO_w_682 hO_w_683) (cwV 3 hts (tw_V tw_570 tw_571 tw_572 tw_159 tw_573) rfl rfl rfl cv_yX8_firstSo_3 ⟨Nat.le_of_ble_eq_true rfl, Nat.le_of_ble_eq_true rfl⟩) ⟨pq_blind, pq_recv hK hP hL_w_x_1 hK_w_x_1 (by decide +kernel) rfl, pq_pre hK hN hP hD⟩ rfl rfl hl.1 rfl (lv_room (Nat.le_of_ble_eq_true rfl)) dX3_whoIsSo_61 ⟨Nat.le_of_ble_eq_true rfl, Nat.le_of_ble_eq_true rfl⟩) hD hS hA (fun x_684 σ1 μ1 H locs hw_685 hP hD hS => ?_)
              obtain ⟨ri_686, hu_687, hg_688, hfn_690, hfr_691, hr_689⟩ := hw_685
              obtain ⟨hu_687a, hu_687b⟩ := Prod.mk.inj hu_687
              rw [hu_687a, hu_687b] at hP hD
              rw [fr_tI hFr hVT, fr_tR hFr hVT] at hfn_690
              replace hF := hF.trans (bn_n hfn_690)
              replace hFr := fr_tr hFr hfr_691
              have hG := GX.tr hG hg_688 (by decide +kernel)
              refine lv_iconst (v := (-1)) hx hb dX3_whoIsSo_64 (by decide +kernel) ?_
              refine lv_icmp_eq (tgt := 77) hx hb dX3_whoIsSo_65 (by decide +kernel) (fun c_692 => ?_) (fun c_692 => ?_)
              · replace hF := hF.trans (if_pos c_692)
                have h_695 : rg x_684 (-1) (-1) := rg_and hr_689 (rg_of_eq c_692 (rg_k (-1 : Int32) (-1) rfl)) (by decide +kernel)
                exact K_666 x_568 ri_686 _ _ _ hF hFr hG hP hD hS (lv_sub hl [0, 1, 2, 3, 4, 5, 6, 7] rfl)
              · replace hF := hF.trans (if_neg c_692)
                have h_696 : rg x_684 0 19 := rg_ne c_692 hr_689 (-1) rfl (by decide +kernel)
                refine lv_lload hx hb dX3_whoIsSo_68 (lv_at hl 6 rfl) ?_
                refine lv_lconst (v := 1) hx hb dX3_whoIsSo_70 (by decide +kernel) ?_
                refine lv_iload hx hb dX3_whoIsSo_71 (lv_at hl 7 rfl) ?_
                refine lv_lshl hx hb dX3_whoIsSo_73 rfl ?_
                refine lv_topl (fun x_697 ex_697 => ?_)
                replace hF := hF.trans (ap_n ex_697)
                refine lv_lor hx hb dX3_whoIsSo_74 ?_
                refine lv_topl (fun x_698 ex_698 => ?_)
                replace hF := hF.trans (ap_n ex_698)
                refine lv_lstore (lv' := [(7, .long x_698), (0, .ref this), (1, .int a0), (2, .int a1), (3, .ref a2), (4, .long a3), (6, .ref w_x_1), (9, .int x_569)]) hx hb dX3_whoIsSo_75 hl (by decide +kernel) rfl (fun ls hl => ?_)
                exact K_666 x_698 ri_686 _ _ _ hF hFr hG hP hD hS (lv_sub hl [1, 2, 3, 4, 5, 6, 0, 7] rfl)
      exact L_617 _ (0 : Int64) (0 : Int32) ri _ _ _ (rg_w (rg_k (0 : Int32) 0 rfl) (by decide +kernel)) (Nat.lt_succ_self _) hF hFr hG hP hD hS (lv_sub hl [3, 4, 5, 6, 7, 2, 1, 0] rfl)
  exact go _ _ _ hP hD hS hl

set_option maxRecDepth 100000 in
def g_X3_clauseBy (tI : Nat → Nat → Int32) (tR : Nat → Nat → Nat → Int32) (a0 : Int32) (a1 : Int32) (a3 : Int32) (I : Nat → Int32) (J : Nat → Int64) (ri : Nat → Nat → Int32) (rj : Nat → Nat → Int64) (rq : Nat → Nat → Option Nat) : Int32 × vM := (bnI (g_X3_textFor tI tR a0 a1 I J ri rj rq) fun (x_1 : Option Nat) (_ : Nat → Int32) (_ : Nat → Int64) (_ : Nat → Nat → Int32) (_ : Nat → Nat → Int64) (_ : Nat → Nat → Option Nat) => (opt1 (x_1) ((-1 : Int32), I, J, ri, rj, rq) fun (w_x_1 : Nat) => (bnV (g_X3_nameAll a3 a1 (0 : Int32) I J ri rj rq) fun (_ : Nat → Int32) (_ : Nat → Int64) (ri_10 : Nat → Nat → Int32) (_ : Nat → Nat → Int64) (_ : Nat → Nat → Option Nat) => (bnI (g_X8_firstSo_102_103 tI tR w_x_1 a0 I J ri_10 rj rq) fun (x_18 : Int32) (_ : Nat → Int32) (_ : Nat → Int64) (ri_20 : Nat → Nat → Int32) (_ : Nat → Nat → Int64) (_ : Nat → Nat → Option Nat) => (x_18, I, J, ri_20, rj, rq)))))
set_option maxRecDepth 100000 in
theorem g_X3_clauseBy_e {tI : Nat → Nat → Int32} {tR : Nat → Nat → Nat → Int32} {a0 : Int32} {a1 : Int32} {a3 : Int32} {I : Nat → Int32} {J : Nat → Int64} {ri : Nat → Nat → Int32} {rj : Nat → Nat → Int64} {rq : Nat → Nat → Option Nat} : g_X3_clauseBy tI tR a0 a1 a3 I J ri rj rq = (bnI (g_X3_textFor tI tR a0 a1 I J ri rj rq) fun (x_1 : Option Nat) (_ : Nat → Int32) (_ : Nat → Int64) (_ : Nat → Nat → Int32) (_ : Nat → Nat → Int64) (_ : Nat → Nat → Option Nat) => (opt1 (x_1) ((-1 : Int32), I, J, ri, rj, rq) fun (w_x_1 : Nat) => (bnV (g_X3_nameAll a3 a1 (0 : Int32) I J ri rj rq) fun (_ : Nat → Int32) (_ : Nat → Int64) (ri_10 : Nat → Nat → Int32) (_ : Nat → Nat → Int64) (_ : Nat → Nat → Option Nat) => (bnI (g_X8_firstSo_102_103 tI tR w_x_1 a0 I J ri_10 rj rq) fun (x_18 : Int32) (_ : Nat → Int32) (_ : Nat → Int64) (ri_20 : Nat → Nat → Int32) (_ : Nat → Nat → Int64) (_ : Nat → Nat → Option Nat) => (x_18, I, J, ri_20, rj, rq))))) := rfl
set_option maxHeartbeats 4000000 in
set_option maxRecDepth 100000 in
theorem s_X3_clauseBy (l : Launch) (D : va_G) (t : pq_T) (σ : pq_S) (I : Nat → Nat → Int32) (J : Nat → Nat → Int64) (ri : Nat → Nat → Int32) (rj : Nat → Nat → Int64) (rq : Nat → Nat → Option Nat) (sz : Nat) (tg : Nat → Nat) (hSH : SH σ tg) (hG0 : GS tg σ I ri rq) (this : Nat) (a0 : Int32) (a1 : Int32) (a2 : Nat) (a3 : Int32) (hL_this : this ∈ σ.1) (hK_this : σ.2.1 this = 3) (hL_a2 : a2 ∈ σ.1) (hK_a2 : σ.2.1 a2 = 0) (h_a3 : rg a3 0 39) (M : Nat) (hL_M : M ∈ σ.1) (hK_M : σ.2.1 M = 10) (hO_this : this = vo σ 3 M) (hO_a2 : a2 = vo σ 0 M) : MetI l yX3_clauseBy (wa yX3_clauseBy cX3_clauseBy 6 (some .int)) ({ frames := 4, cells := 0, slots := 0, locals := 114 }) [.ref this, .int a0, .int a1, .ref a2, .int a3] D t σ (I, J, ri, rj, rq) sz 0 0 (fun (r : Int32) (u : pq_S × pq_M) => ∃ ri' : Nat → Nat → Int32, u = (σ, I, J, ri', rj, rq) ∧ GX [] tg σ I ri rj I ri' rj rq ∧ g_X3_clauseBy (tI σ I) (tR σ ri) a0 a1 a3 (vI 10 σ M I) (vJ 10 σ M J) (vR 10 σ M ri) (vL 10 σ M rj) (vQ 10 σ M rq) = (r, (vI 10 σ M I), (vJ 10 σ M J), (vR 10 σ M ri'), (vL 10 σ M rj), (vQ 10 σ M rq)) ∧ FR 10 tg σ M (I, J, ri, rj, rq) (I, J, ri', rj, rq) ∧ rg r (-1) 19) := by
  refine Met.ofW (cc := cX3_clauseBy) (maxL := 6) (ret := (some .int)) (by decide +kernel) rfl ?_
  intro p e s m args below meth c s₁ B hml hv
  obtain ⟨rfl, hsz, hP, hK, hD0, hN⟩ := hv
  have hx := B.exec
  have hb := B.bytes
  have hr := B.returns
  have hts := atoms_spec (ws := (wa yX3_clauseBy cX3_clauseBy 6 (some .int))) B.pre
  have hown : s.vm.findClass RX3 = some m.cls := findClass_of_methodNamed B.named
  have hlocks := B.notSynchronized
  subst hsz
  have hD : va_D (pq_B t σ (I, J, ri, rj, rq) s.heap.size) (pq_P t σ (I, J, ri, rj, rq)) := hD0.self
  generalize hAe : pq_B t σ (I, J, ri, rj, rq) s.heap.size = A at hD ⊢
  have hA : ∀ q : Nat, s.heap.size ≤ q → A q := fun q h => by rw [← hAe]; exact Or.inr h
  have hS : va_S A s.heap s.heap [] := va_S.rf
  have hG : GX [] tg σ I ri rj I ri rj rq := ⟨hG0, fun _ _ _ => rfl, fun _ _ _ _ _ => rfl, fun _ _ _ _ _ => rfl⟩
  have hl := lv_entry ([.ref this, .int a0, .int a1, .ref a2, .int a3]) (n := 6) (Nat.le_of_ble_eq_true rfl)
  rw [lg_entry_eq]
  generalize (lg_sl ([.ref this, .int a0, .int a1, .ref a2, .int a3]) ++ List.replicate (6 - (lg_sl ([.ref this, .int a0, .int a1, .ref a2, .int a3])).length) Slot.unset).toArray = ls at hl ⊢
  have hl : lv_has ls 6 [(0, .ref this), (1, .int a0), (2, .int a1), (3, .ref a2), (4, .int a3)] := hl
  refine q_gen (fun Q hQ => ?_)
  have go : ∀ (H : Heap) (locs : List Loc) (ls : Array Slot), va_P D vwCl (pq_P t σ (I, J, ri, rj, rq)) H → va_D A (pq_P t σ (I, J, ri, rj, rq)) → va_S A s.heap H locs → lv_has ls 6 [(0, .ref this), (1, .int a0), (2, .int a1), (3, .ref a2), (4, .int a3)] → W p l e ({ frames := 4, cells := 0, slots := 0, locals := 114 } : Room) s m (List.toArray ([.ref this, .int a0, .int a1, .ref a2, .int a3] : List Value)) below meth c H locs 0 0 Q (F0 m 0 ls []) := by
    intro H locs ls hP hD hS hl
    have hVT : VT 10 σ tg M := vt_10 hSH hL_M hK_M
    have hFr : FR 10 tg σ M (I, J, ri, rj, rq) (I, J, ri, rj, rq) := fr_rf
    obtain ⟨F, hF0⟩ : ∃ F, F = g_X3_clauseBy (tI σ I) (tR σ ri) a0 a1 a3 (vI 10 σ M I) (vJ 10 σ M J) (vR 10 σ M ri) (vL 10 σ M rj) (vQ 10 σ M rq) := ⟨_, rfl⟩
    have hF := hF0.trans g_X3_clauseBy_e
    refine lv_aload_n hx hb dX3_clauseBy_0 rfl (lv_at hl 0 rfl) ?_
    refine lv_iload_n hx hb dX3_clauseBy_1 rfl (lv_at hl 1 rfl) ?_
    refine lv_iload_n hx hb dX3_clauseBy_2 rfl (lv_at hl 2 rfl) ?_
    refine pk_q (va_runV (As := [.int a0, .int a1]) (rest := []) ⟨hx, hb, hml, hown, hts⟩ (s_X3_textFor l D t σ I J ri rj rq H.size tg hSH hG.1 this a0 a1 hL_this hK_this M hL_M hK_M hO_this) (cwV 2 hts (tw_V tw_469 tw_470 tw_471 tw_49 tw_472) rfl rfl rfl cv_yX3_textFor_2 ⟨Nat.le_of_ble_eq_true rfl, Nat.le_of_ble_eq_true rfl⟩) ⟨pq_blind, pq_recv hK hP hL_this hK_this (by decide +kernel) rfl, pq_pre hK hN hP hD⟩ rfl rfl hl.1 rfl (lv_room (Nat.le_of_ble_eq_true rfl)) dX3_clauseBy_3 ⟨Nat.le_of_ble_eq_true rfl, Nat.le_of_ble_eq_true rfl⟩) hD hS hA (fun x_1 σ1 μ1 H locs hw_2 hP hD hS => ?_)
    obtain ⟨hu_3, hfn_6, hr_5⟩ := hw_2
    obtain ⟨hu_3a, hu_3b⟩ := Prod.mk.inj hu_3
    rw [hu_3a, hu_3b] at hP hD
    replace hF := hF.trans (bn_n hfn_6)
    rcases hr_5 with rfl | ⟨w_x_1, rfl, hL_w_x_1, hK_w_x_1⟩
    · replace hF := hF.trans op_0
      refine lv_astoreN (lv' := [(5, .null), (0, .ref this), (1, .int a0), (2, .int a1), (3, .ref a2), (4, .int a3)]) hx hb dX3_clauseBy_6 hl (by decide +kernel) rfl (fun ls hl => ?_)
      refine lv_aloadN hx hb dX3_clauseBy_8 (lv_at hl 0 rfl) ?_
      refine lv_ifnonnullN hx hb dX3_clauseBy_10 ?_
      refine lv_iconst (v := (-1)) hx hb dX3_clauseBy_13 (by decide +kernel) ?_
      subst hQ
      exact W.iret (v := (-1)) hx hb hr (fun t1 ht hW => ⟨⟨(-1), (σ, I, J, ri, rj, rq), rfl, ⟨ri, rfl, hG, (hF0.symm.trans hF), hFr, (rg_w (rg_k (-1 : Int32) (-1) rfl) (by decide +kernel))⟩, by rw [ht]; exact hP, va_K.moved hW.alike hK, hD⟩, hS.F ht⟩) hS.2.2 dX3_clauseBy_14
    · replace hF := hF.trans op_1
      refine lv_astore (lv' := [(5, .ref w_x_1), (0, .ref this), (1, .int a0), (2, .int a1), (3, .ref a2), (4, .int a3)]) hx hb dX3_clauseBy_6 hl (by decide +kernel) rfl (fun ls hl => ?_)
      refine lv_aload hx hb dX3_clauseBy_8 (lv_at hl 0 rfl) ?_
      refine lv_ifnonnull (tgt := 15) hx hb dX3_clauseBy_10 (by decide +kernel) ?_
      refine lv_aload_n hx hb dX3_clauseBy_15 rfl (lv_at hl 1 rfl) ?_
      refine lv_aload_n hx hb dX3_clauseBy_16 rfl (lv_at hl 4 rfl) ?_
      refine lv_iload hx hb dX3_clauseBy_17 (lv_at hl 5 rfl) ?_
      refine lv_iload_n hx hb dX3_clauseBy_19 rfl (lv_at hl 3 rfl) ?_
      refine lv_iconst (v := 0) hx hb dX3_clauseBy_20 (by decide +kernel) ?_
      refine pk_v (va_runV (As := [.ref a2, .int a3, .int a1, .int 0]) (rest := []) ⟨hx, hb, hml, hown, hts⟩ (s_X3_nameAll l D t σ I J ri rj rq H.size tg hSH hG.1 this a2 a3 a1 (0 : Int32) hL_this hK_this hL_a2 hK_a2 (rg_w h_a3 (by decide +kernel)) M hL_M hK_M hO_this hO_a2) (cwV 4 hts (tw_V tw_565 tw_566 tw_567 tw_49 tw_568) rfl rfl rfl cv_yX3_nameAll_4 ⟨Nat.le_of_ble_eq_true rfl, Nat.le_of_ble_eq_true rfl⟩) ⟨pq_blind, pq_recv hK hP hL_this hK_this (by decide +kernel) rfl, pq_pre hK hN hP hD⟩ rfl rfl hl.1 rfl (lv_room (Nat.le_of_ble_eq_true rfl)) dX3_clauseBy_21 ⟨Nat.le_of_ble_eq_true rfl, Nat.le_of_ble_eq_true rfl⟩) hD hS hA (fun σ1 μ1 H locs hw_9 hP hD hS => ?_)
      obtain ⟨ri_10, hu_11, hg_12, hfn_14, hfr_15⟩ := hw_9
      obtain ⟨hu_11a, hu_11b⟩ := Prod.mk.inj hu_11
      rw [hu_11a, hu_11b] at hP hD
      replace hF := hF.trans (bv_n hfn_14)
      replace hFr := fr_tr hFr hfr_15
      have hG := GX.tr hG hg_12 (by decide +kernel)
      refine lv_aload hx hb dX3_clauseBy_24 (lv_at hl 0 rfl) ?_
      refine lv_iload_n hx hb dX3_clauseBy_26 rfl (lv_at hl 2 rfl) ?_
      refine lv_aload_n hx hb dX3_clauseBy_27 rfl (lv_at hl 1 rfl) ?_
      obtain ⟨w_16, hR_w_16, hL_w_16, hK_w_16, hN_w_16, hT_w_16⟩ := sh_a hSH 102 (ci := 3) (kd := 13) (len := 6) rfl (by decide +kernel) hL_this hK_this
      have hO_w_16 : w_16 = vrow σ 102 M := vo_k (c := 3) hO_this hR_w_16
      refine pg_f (v := .ref w_16) (C := RX3) (T := TX3) (N := 8) hx hb hts (tw_i inlX3) hown hK hP hL_this hK_this (by decide +kernel) rfl 6 (by decide +kernel) (hts _ (tw_c tw_132)) (pq_hv rfl hR_w_16) dX3_clauseBy_28 ?_
      refine lv_aload_n hx hb dX3_clauseBy_31 rfl (lv_at hl 1 rfl) ?_
      obtain ⟨w_17, hR_w_17, hL_w_17, hK_w_17, hN_w_17, hT_w_17⟩ := sh_a hSH 103 (ci := 3) (kd := 13) (len := 40) rfl (by decide +kernel) hL_this hK_this
      have hO_w_17 : w_17 = vrow σ 103 M := vo_k (c := 3) hO_this hR_w_17
      refine pg_f (v := .ref w_17) (C := RX3) (T := TX3) (N := 8) hx hb hts (tw_i inlX3) hown hK hP hL_this hK_this (by decide +kernel) rfl 7 (by decide +kernel) (hts _ (tw_c tw_133)) (pq_hv rfl hR_w_17) dX3_clauseBy_32 ?_
      refine pk_i (va_runV (As := [.int a0, .ref w_16, .ref w_17]) (rest := []) ⟨hx, hb, hml, hown, hts⟩ (s_X8_firstSo_102_103 l D t σ I J ri_10 rj rq H.size tg hSH hG.1 w_x_1 a0 w_16 w_17 hL_w_x_1 hK_w_x_1 hL_w_16 hK_w_16 hN_w_16 hT_w_16 hL_w_17 hK_w_17 hN_w_17 hT_w_17 M hL_M hK_M hO_w_16 hO_w_17) (cwV 3 hts (tw_V tw_570 tw_571 tw_572 tw_159 tw_573) rfl rfl rfl cv_yX8_firstSo_3 ⟨Nat.le_of_ble_eq_true rfl, Nat.le_of_ble_eq_true rfl⟩) ⟨pq_blind, pq_recv hK hP hL_w_x_1 hK_w_x_1 (by decide +kernel) rfl, pq_pre hK hN hP hD⟩ rfl rfl hl.1 rfl (lv_room (Nat.le_of_ble_eq_true rfl)) dX3_clauseBy_35 ⟨Nat.le_of_ble_eq_true rfl, Nat.le_of_ble_eq_true rfl⟩) hD hS hA (fun x_18 σ1 μ1 H locs hw_19 hP hD hS => ?_)
      obtain ⟨ri_20, hu_21, hg_22, hfn_24, hfr_25, hr_23⟩ := hw_19
      obtain ⟨hu_21a, hu_21b⟩ := Prod.mk.inj hu_21
      rw [hu_21a, hu_21b] at hP hD
      rw [fr_tI hFr hVT, fr_tR hFr hVT] at hfn_24
      replace hF := hF.trans (bn_n hfn_24)
      replace hFr := fr_tr hFr hfr_25
      have hG := GX.tr hG hg_22 (by decide +kernel)
      subst hQ
      exact W.iret (v := x_18) hx hb hr (fun t1 ht hW => ⟨⟨x_18, (σ, I, J, ri_20, rj, rq), rfl, ⟨ri_20, rfl, hG, (hF0.symm.trans hF), hFr, (rg_w hr_23 (by decide +kernel))⟩, by rw [ht]; exact hP, va_K.moved hW.alike hK, hD⟩, hS.F ht⟩) hS.2.2 dX3_clauseBy_38
  exact go _ _ _ hP hD hS hl

set_option maxRecDepth 100000 in
def g_X3_lastsFor (tI : Nat → Nat → Int32) (tR : Nat → Nat → Nat → Int32) (a0 : Int32) (a2 : Int32) (a3 : Int32) (I : Nat → Int32) (J : Nat → Int64) (ri : Nat → Nat → Int32) (rj : Nat → Nat → Int64) (rq : Nat → Nat → Option Nat) : Int32 × vM := (bnI (g_X3_textFor tI tR (0 : Int32) a0 I J ri rj rq) fun (x_1 : Option Nat) (_ : Nat → Int32) (_ : Nat → Int64) (_ : Nat → Nat → Int32) (_ : Nat → Nat → Int64) (_ : Nat → Nat → Option Nat) => (opt1 (x_1) ((0 : Int32), I, J, ri, rj, rq) fun (w_x_1 : Nat) => (bnV (g_X3_nameAll a2 a0 a3 I J ri rj rq) fun (_ : Nat → Int32) (_ : Nat → Int64) (ri_10 : Nat → Nat → Int32) (_ : Nat → Nat → Int64) (_ : Nat → Nat → Option Nat) => (bnI (g_X8_firstSo_102_103 tI tR w_x_1 (0 : Int32) I J ri_10 rj rq) fun (x_18 : Int32) (_ : Nat → Int32) (_ : Nat → Int64) (ri_20 : Nat → Nat → Int32) (_ : Nat → Nat → Int64) (_ : Nat → Nat → Option Nat) => (if x_18 = (-1 : Int32) then ((0 : Int32), I, J, ri_20, rj, rq) else ((1 : Int32), I, J, ri_20, rj, rq))))))
set_option maxRecDepth 100000 in
theorem g_X3_lastsFor_e {tI : Nat → Nat → Int32} {tR : Nat → Nat → Nat → Int32} {a0 : Int32} {a2 : Int32} {a3 : Int32} {I : Nat → Int32} {J : Nat → Int64} {ri : Nat → Nat → Int32} {rj : Nat → Nat → Int64} {rq : Nat → Nat → Option Nat} : g_X3_lastsFor tI tR a0 a2 a3 I J ri rj rq = (bnI (g_X3_textFor tI tR (0 : Int32) a0 I J ri rj rq) fun (x_1 : Option Nat) (_ : Nat → Int32) (_ : Nat → Int64) (_ : Nat → Nat → Int32) (_ : Nat → Nat → Int64) (_ : Nat → Nat → Option Nat) => (opt1 (x_1) ((0 : Int32), I, J, ri, rj, rq) fun (w_x_1 : Nat) => (bnV (g_X3_nameAll a2 a0 a3 I J ri rj rq) fun (_ : Nat → Int32) (_ : Nat → Int64) (ri_10 : Nat → Nat → Int32) (_ : Nat → Nat → Int64) (_ : Nat → Nat → Option Nat) => (bnI (g_X8_firstSo_102_103 tI tR w_x_1 (0 : Int32) I J ri_10 rj rq) fun (x_18 : Int32) (_ : Nat → Int32) (_ : Nat → Int64) (ri_20 : Nat → Nat → Int32) (_ : Nat → Nat → Int64) (_ : Nat → Nat → Option Nat) => (if x_18 = (-1 : Int32) then ((0 : Int32), I, J, ri_20, rj, rq) else ((1 : Int32), I, J, ri_20, rj, rq)))))) := rfl
set_option maxHeartbeats 4000000 in
set_option maxRecDepth 100000 in
theorem s_X3_lastsFor (l : Launch) (D : va_G) (t : pq_T) (σ : pq_S) (I : Nat → Nat → Int32) (J : Nat → Nat → Int64) (ri : Nat → Nat → Int32) (rj : Nat → Nat → Int64) (rq : Nat → Nat → Option Nat) (sz : Nat) (tg : Nat → Nat) (hSH : SH σ tg) (hG0 : GS tg σ I ri rq) (this : Nat) (a0 : Int32) (a1 : Nat) (a2 : Int32) (a3 : Int32) (hL_this : this ∈ σ.1) (hK_this : σ.2.1 this = 3) (hL_a1 : a1 ∈ σ.1) (hK_a1 : σ.2.1 a1 = 0) (h_a2 : rg a2 0 39) (M : Nat) (hL_M : M ∈ σ.1) (hK_M : σ.2.1 M = 10) (hO_this : this = vo σ 3 M) (hO_a1 : a1 = vo σ 0 M) : MetI l yX3_lastsFor (wa yX3_lastsFor cX3_lastsFor 6 (some .boolean)) ({ frames := 4, cells := 0, slots := 0, locals := 114 }) [.ref this, .int a0, .ref a1, .int a2, .int a3] D t σ (I, J, ri, rj, rq) sz 0 0 (fun (r : Int32) (u : pq_S × pq_M) => ∃ ri' : Nat → Nat → Int32, u = (σ, I, J, ri', rj, rq) ∧ GX [] tg σ I ri rj I ri' rj rq ∧ g_X3_lastsFor (tI σ I) (tR σ ri) a0 a2 a3 (vI 10 σ M I) (vJ 10 σ M J) (vR 10 σ M ri) (vL 10 σ M rj) (vQ 10 σ M rq) = (r, (vI 10 σ M I), (vJ 10 σ M J), (vR 10 σ M ri'), (vL 10 σ M rj), (vQ 10 σ M rq)) ∧ FR 10 tg σ M (I, J, ri, rj, rq) (I, J, ri', rj, rq) ∧ ((r = 1 ∧ True) ∨ (r = 0 ∧ True))) := by
  refine Met.ofW (cc := cX3_lastsFor) (maxL := 6) (ret := (some .boolean)) (by decide +kernel) rfl ?_
  intro p e s m args below meth c s₁ B hml hv
  obtain ⟨rfl, hsz, hP, hK, hD0, hN⟩ := hv
  have hx := B.exec
  have hb := B.bytes
  have hr := B.returns
  have hts := atoms_spec (ws := (wa yX3_lastsFor cX3_lastsFor 6 (some .boolean))) B.pre
  have hown : s.vm.findClass RX3 = some m.cls := findClass_of_methodNamed B.named
  have hlocks := B.notSynchronized
  subst hsz
  have hD : va_D (pq_B t σ (I, J, ri, rj, rq) s.heap.size) (pq_P t σ (I, J, ri, rj, rq)) := hD0.self
  generalize hAe : pq_B t σ (I, J, ri, rj, rq) s.heap.size = A at hD ⊢
  have hA : ∀ q : Nat, s.heap.size ≤ q → A q := fun q h => by rw [← hAe]; exact Or.inr h
  have hS : va_S A s.heap s.heap [] := va_S.rf
  have hG : GX [] tg σ I ri rj I ri rj rq := ⟨hG0, fun _ _ _ => rfl, fun _ _ _ _ _ => rfl, fun _ _ _ _ _ => rfl⟩
  have hl := lv_entry ([.ref this, .int a0, .ref a1, .int a2, .int a3]) (n := 6) (Nat.le_of_ble_eq_true rfl)
  rw [lg_entry_eq]
  generalize (lg_sl ([.ref this, .int a0, .ref a1, .int a2, .int a3]) ++ List.replicate (6 - (lg_sl ([.ref this, .int a0, .ref a1, .int a2, .int a3])).length) Slot.unset).toArray = ls at hl ⊢
  have hl : lv_has ls 6 [(0, .ref this), (1, .int a0), (2, .ref a1), (3, .int a2), (4, .int a3)] := hl
  refine q_gen (fun Q hQ => ?_)
  have go : ∀ (H : Heap) (locs : List Loc) (ls : Array Slot), va_P D vwCl (pq_P t σ (I, J, ri, rj, rq)) H → va_D A (pq_P t σ (I, J, ri, rj, rq)) → va_S A s.heap H locs → lv_has ls 6 [(0, .ref this), (1, .int a0), (2, .ref a1), (3, .int a2), (4, .int a3)] → W p l e ({ frames := 4, cells := 0, slots := 0, locals := 114 } : Room) s m (List.toArray ([.ref this, .int a0, .ref a1, .int a2, .int a3] : List Value)) below meth c H locs 0 0 Q (F0 m 0 ls []) := by
    intro H locs ls hP hD hS hl
    have hVT : VT 10 σ tg M := vt_10 hSH hL_M hK_M
    have hFr : FR 10 tg σ M (I, J, ri, rj, rq) (I, J, ri, rj, rq) := fr_rf
    obtain ⟨F, hF0⟩ : ∃ F, F = g_X3_lastsFor (tI σ I) (tR σ ri) a0 a2 a3 (vI 10 σ M I) (vJ 10 σ M J) (vR 10 σ M ri) (vL 10 σ M rj) (vQ 10 σ M rq) := ⟨_, rfl⟩
    have hF := hF0.trans g_X3_lastsFor_e
    refine lv_aload_n hx hb dX3_lastsFor_0 rfl (lv_at hl 0 rfl) ?_
    refine lv_iconst (v := 0) hx hb dX3_lastsFor_1 (by decide +kernel) ?_
    refine lv_iload_n hx hb dX3_lastsFor_2 rfl (lv_at hl 1 rfl) ?_
    refine pk_q (va_runV (As := [.int 0, .int a0]) (rest := []) ⟨hx, hb, hml, hown, hts⟩ (s_X3_textFor l D t σ I J ri rj rq H.size tg hSH hG.1 this (0 : Int32) a0 hL_this hK_this M hL_M hK_M hO_this) (cwV 2 hts (tw_V tw_469 tw_470 tw_471 tw_49 tw_472) rfl rfl rfl cv_yX3_textFor_2 ⟨Nat.le_of_ble_eq_true rfl, Nat.le_of_ble_eq_true rfl⟩) ⟨pq_blind, pq_recv hK hP hL_this hK_this (by decide +kernel) rfl, pq_pre hK hN hP hD⟩ rfl rfl hl.1 rfl (lv_room (Nat.le_of_ble_eq_true rfl)) dX3_lastsFor_3 ⟨Nat.le_of_ble_eq_true rfl, Nat.le_of_ble_eq_true rfl⟩) hD hS hA (fun x_1 σ1 μ1 H locs hw_2 hP hD hS => ?_)
    obtain ⟨hu_3, hfn_6, hr_5⟩ := hw_2
    obtain ⟨hu_3a, hu_3b⟩ := Prod.mk.inj hu_3
    rw [hu_3a, hu_3b] at hP hD
    replace hF := hF.trans (bn_n hfn_6)
    rcases hr_5 with rfl | ⟨w_x_1, rfl, hL_w_x_1, hK_w_x_1⟩
    · replace hF := hF.trans op_0
      refine lv_astoreN (lv' := [(5, .null), (0, .ref this), (1, .int a0), (2, .ref a1), (3, .int a2), (4, .int a3)]) hx hb dX3_lastsFor_6 hl (by decide +kernel) rfl (fun ls hl => ?_)
      refine lv_aloadN hx hb dX3_lastsFor_8 (lv_at hl 0 rfl) ?_
      refine lv_ifnonnullN hx hb dX3_lastsFor_10 ?_
      refine lv_iconst (v := 0) hx hb dX3_lastsFor_13 (by decide +kernel) ?_
      subst hQ
      exact W.zret (v := 0) hx hb hr (by decide +kernel) (fun t1 ht hW => ⟨⟨0, (σ, I, J, ri, rj, rq), rfl, ⟨ri, rfl, hG, (hF0.symm.trans hF), hFr, (Or.inr ⟨rfl, trivial⟩)⟩, by rw [ht]; exact hP, va_K.moved hW.alike hK, hD⟩, hS.F ht⟩) hS.2.2 dX3_lastsFor_14
    · replace hF := hF.trans op_1
      refine lv_astore (lv' := [(5, .ref w_x_1), (0, .ref this), (1, .int a0), (2, .ref a1), (3, .int a2), (4, .int a3)]) hx hb dX3_lastsFor_6 hl (by decide +kernel) rfl (fun ls hl => ?_)
      refine lv_aload hx hb dX3_lastsFor_8 (lv_at hl 0 rfl) ?_
      refine lv_ifnonnull (tgt := 15) hx hb dX3_lastsFor_10 (by decide +kernel) ?_
      refine lv_aload_n hx hb dX3_lastsFor_15 rfl (lv_at hl 1 rfl) ?_
      refine lv_aload_n hx hb dX3_lastsFor_16 rfl (lv_at hl 3 rfl) ?_
      refine lv_iload_n hx hb dX3_lastsFor_17 rfl (lv_at hl 4 rfl) ?_
      refine lv_iload_n hx hb dX3_lastsFor_18 rfl (lv_at hl 2 rfl) ?_
      refine lv_iload hx hb dX3_lastsFor_19 (lv_at hl 5 rfl) ?_
      refine pk_v (va_runV (As := [.ref a1, .int a2, .int a0, .int a3]) (rest := []) ⟨hx, hb, hml, hown, hts⟩ (s_X3_nameAll l D t σ I J ri rj rq H.size tg hSH hG.1 this a1 a2 a0 a3 hL_this hK_this hL_a1 hK_a1 (rg_w h_a2 (by decide +kernel)) M hL_M hK_M hO_this hO_a1) (cwV 4 hts (tw_V tw_565 tw_566 tw_567 tw_49 tw_568) rfl rfl rfl cv_yX3_nameAll_4 ⟨Nat.le_of_ble_eq_true rfl, Nat.le_of_ble_eq_true rfl⟩) ⟨pq_blind, pq_recv hK hP hL_this hK_this (by decide +kernel) rfl, pq_pre hK hN hP hD⟩ rfl rfl hl.1 rfl (lv_room (Nat.le_of_ble_eq_true rfl)) dX3_lastsFor_21 ⟨Nat.le_of_ble_eq_true rfl, Nat.le_of_ble_eq_true rfl⟩) hD hS hA (fun σ1 μ1 H locs hw_9 hP hD hS => ?_)
      obtain ⟨ri_10, hu_11, hg_12, hfn_14, hfr_15⟩ := hw_9
      obtain ⟨hu_11a, hu_11b⟩ := Prod.mk.inj hu_11
      rw [hu_11a, hu_11b] at hP hD
      replace hF := hF.trans (bv_n hfn_14)
      replace hFr := fr_tr hFr hfr_15
      have hG := GX.tr hG hg_12 (by decide +kernel)
      refine lv_aload hx hb dX3_lastsFor_24 (lv_at hl 0 rfl) ?_
      refine lv_iconst (v := 0) hx hb dX3_lastsFor_26 (by decide +kernel) ?_
      refine lv_aload_n hx hb dX3_lastsFor_27 rfl (lv_at hl 1 rfl) ?_
      obtain ⟨w_16, hR_w_16, hL_w_16, hK_w_16, hN_w_16, hT_w_16⟩ := sh_a hSH 102 (ci := 3) (kd := 13) (len := 6) rfl (by decide +kernel) hL_this hK_this
      have hO_w_16 : w_16 = vrow σ 102 M := vo_k (c := 3) hO_this hR_w_16
      refine pg_f (v := .ref w_16) (C := RX3) (T := TX3) (N := 8) hx hb hts (tw_i inlX3) hown hK hP hL_this hK_this (by decide +kernel) rfl 6 (by decide +kernel) (hts _ (tw_c tw_132)) (pq_hv rfl hR_w_16) dX3_lastsFor_28 ?_
      refine lv_aload_n hx hb dX3_lastsFor_31 rfl (lv_at hl 1 rfl) ?_
      obtain ⟨w_17, hR_w_17, hL_w_17, hK_w_17, hN_w_17, hT_w_17⟩ := sh_a hSH 103 (ci := 3) (kd := 13) (len := 40) rfl (by decide +kernel) hL_this hK_this
      have hO_w_17 : w_17 = vrow σ 103 M := vo_k (c := 3) hO_this hR_w_17
      refine pg_f (v := .ref w_17) (C := RX3) (T := TX3) (N := 8) hx hb hts (tw_i inlX3) hown hK hP hL_this hK_this (by decide +kernel) rfl 7 (by decide +kernel) (hts _ (tw_c tw_133)) (pq_hv rfl hR_w_17) dX3_lastsFor_32 ?_
      refine pk_i (va_runV (As := [.int 0, .ref w_16, .ref w_17]) (rest := []) ⟨hx, hb, hml, hown, hts⟩ (s_X8_firstSo_102_103 l D t σ I J ri_10 rj rq H.size tg hSH hG.1 w_x_1 (0 : Int32) w_16 w_17 hL_w_x_1 hK_w_x_1 hL_w_16 hK_w_16 hN_w_16 hT_w_16 hL_w_17 hK_w_17 hN_w_17 hT_w_17 M hL_M hK_M hO_w_16 hO_w_17) (cwV 3 hts (tw_V tw_570 tw_571 tw_572 tw_159 tw_573) rfl rfl rfl cv_yX8_firstSo_3 ⟨Nat.le_of_ble_eq_true rfl, Nat.le_of_ble_eq_true rfl⟩) ⟨pq_blind, pq_recv hK hP hL_w_x_1 hK_w_x_1 (by decide +kernel) rfl, pq_pre hK hN hP hD⟩ rfl rfl hl.1 rfl (lv_room (Nat.le_of_ble_eq_true rfl)) dX3_lastsFor_35 ⟨Nat.le_of_ble_eq_true rfl, Nat.le_of_ble_eq_true rfl⟩) hD hS hA (fun x_18 σ1 μ1 H locs hw_19 hP hD hS => ?_)
      obtain ⟨ri_20, hu_21, hg_22, hfn_24, hfr_25, hr_23⟩ := hw_19
      obtain ⟨hu_21a, hu_21b⟩ := Prod.mk.inj hu_21
      rw [hu_21a, hu_21b] at hP hD
      rw [fr_tI hFr hVT, fr_tR hFr hVT] at hfn_24
      replace hF := hF.trans (bn_n hfn_24)
      replace hFr := fr_tr hFr hfr_25
      have hG := GX.tr hG hg_22 (by decide +kernel)
      refine lv_iconst (v := (-1)) hx hb dX3_lastsFor_38 (by decide +kernel) ?_
      refine lv_icmp_eq (tgt := 46) hx hb dX3_lastsFor_39 (by decide +kernel) (fun c_26 => ?_) (fun c_26 => ?_)
      · replace hF := hF.trans (if_pos c_26)
        have h_29 : rg x_18 (-1) (-1) := rg_and hr_23 (rg_of_eq c_26 (rg_k (-1 : Int32) (-1) rfl)) (by decide +kernel)
        refine lv_iconst (v := 0) hx hb dX3_lastsFor_46 (by decide +kernel) ?_
        subst hQ
        exact W.zret (v := 0) hx hb hr (by decide +kernel) (fun t1 ht hW => ⟨⟨0, (σ, I, J, ri_20, rj, rq), rfl, ⟨ri_20, rfl, hG, (hF0.symm.trans hF), hFr, (Or.inr ⟨rfl, trivial⟩)⟩, by rw [ht]; exact hP, va_K.moved hW.alike hK, hD⟩, hS.F ht⟩) hS.2.2 dX3_lastsFor_47
      · replace hF := hF.trans (if_neg c_26)
        have h_30 : rg x_18 0 19 := rg_ne c_26 hr_23 (-1) rfl (by decide +kernel)
        refine lv_iconst (v := 1) hx hb dX3_lastsFor_42 (by decide +kernel) ?_
        refine lv_goto (tgt := 47) hx hb dX3_lastsFor_43 (by decide +kernel) ?_
        subst hQ
        exact W.zret (v := 1) hx hb hr (by decide +kernel) (fun t1 ht hW => ⟨⟨1, (σ, I, J, ri_20, rj, rq), rfl, ⟨ri_20, rfl, hG, (hF0.symm.trans hF), hFr, (Or.inl ⟨rfl, trivial⟩)⟩, by rw [ht]; exact hP, va_K.moved hW.alike hK, hD⟩, hS.F ht⟩) hS.2.2 dX3_lastsFor_47
  exact go _ _ _ hP hD hS hl

set_option maxRecDepth 100000 in
def g_X7_isNumber (a0 : Int32) : Int32 := (if a0 ≤ (-5000 : Int32) then (0 : Int32) else (1 : Int32))
set_option maxRecDepth 100000 in
theorem g_X7_isNumber_e {a0 : Int32} : g_X7_isNumber a0 = (if a0 ≤ (-5000 : Int32) then (0 : Int32) else (1 : Int32)) := rfl
set_option maxHeartbeats 4000000 in
set_option maxRecDepth 100000 in
theorem s_X7_isNumber (l : Launch) (D : va_G) (t : pq_T) (σ : pq_S) (I : Nat → Nat → Int32) (J : Nat → Nat → Int64) (ri : Nat → Nat → Int32) (rj : Nat → Nat → Int64) (rq : Nat → Nat → Option Nat) (sz : Nat) (tg : Nat → Nat) (hSH : SH σ tg) (hG0 : GS tg σ I ri rq) (a0 : Int32) : MetI l yX7_isNumber (wa yX7_isNumber cX7_isNumber 1 (some .boolean)) ({ frames := 0, cells := 0, slots := 0, locals := 0 }) [.int a0] D t σ (I, J, ri, rj, rq) sz 0 0 (fun (r : Int32) (u : pq_S × pq_M) => u = (σ, I, J, ri, rj, rq) ∧ g_X7_isNumber a0 = r ∧ ((r = 1 ∧ rg a0 (-4999) 2147483647) ∨ (r = 0 ∧ rg a0 (-2147483648) (-5000)))) := by
  refine Met.ofW (cc := cX7_isNumber) (maxL := 1) (ret := (some .boolean)) (by decide +kernel) rfl ?_
  intro p e s m args below meth c s₁ B hml hv
  obtain ⟨rfl, hsz, hP, hK, hD0, hN⟩ := hv
  have hx := B.exec
  have hb := B.bytes
  have hr := B.returns
  have hts := atoms_spec (ws := (wa yX7_isNumber cX7_isNumber 1 (some .boolean))) B.pre
  have hown : s.vm.findClass RX7 = some m.cls := findClass_of_methodNamed B.named
  have hlocks := B.notSynchronized
  subst hsz
  have hD : va_D (pq_B t σ (I, J, ri, rj, rq) s.heap.size) (pq_P t σ (I, J, ri, rj, rq)) := hD0.self
  generalize hAe : pq_B t σ (I, J, ri, rj, rq) s.heap.size = A at hD ⊢
  have hA : ∀ q : Nat, s.heap.size ≤ q → A q := fun q h => by rw [← hAe]; exact Or.inr h
  have hS : va_S A s.heap s.heap [] := va_S.rf
  have hG : GX [] tg σ I ri rj I ri rj rq := ⟨hG0, fun _ _ _ => rfl, fun _ _ _ _ _ => rfl, fun _ _ _ _ _ => rfl⟩
  have hl := lv_entry ([.int a0]) (n := 1) (Nat.le_of_ble_eq_true rfl)
  rw [lg_entry_eq]
  generalize (lg_sl ([.int a0]) ++ List.replicate (1 - (lg_sl ([.int a0])).length) Slot.unset).toArray = ls at hl ⊢
  have hl : lv_has ls 1 [(0, .int a0)] := hl
  refine q_gen (fun Q hQ => ?_)
  have go : ∀ (H : Heap) (locs : List Loc) (ls : Array Slot), va_P D vwCl (pq_P t σ (I, J, ri, rj, rq)) H → va_D A (pq_P t σ (I, J, ri, rj, rq)) → va_S A s.heap H locs → lv_has ls 1 [(0, .int a0)] → W p l e ({ frames := 0, cells := 0, slots := 0, locals := 0 } : Room) s m (List.toArray ([.int a0] : List Value)) below meth c H locs 0 0 Q (F0 m 0 ls []) := by
    intro H locs ls hP hD hS hl
    obtain ⟨F, hF0⟩ : ∃ F, F = g_X7_isNumber a0 := ⟨_, rfl⟩
    have hF := hF0.trans g_X7_isNumber_e
    refine lv_iload_n hx hb dX7_isNumber_0 rfl (lv_at hl 0 rfl) ?_
    refine lv_sipush (v := (-5000)) hx hb dX7_isNumber_1 (by decide +kernel) ?_
    refine lv_icmp_le (tgt := 11) hx hb dX7_isNumber_4 (by decide +kernel) (fun c_1 => ?_) (fun c_1 => ?_)
    · replace hF := hF.trans (if_pos c_1)
      have h_4 : rg a0 (-2147483648) (-5000) := rg_le1 c_1 (rg_full _) (rg_k (-5000 : Int32) (-5000) rfl) (by decide +kernel)
      refine lv_iconst (v := 0) hx hb dX7_isNumber_11 (by decide +kernel) ?_
      subst hQ
      exact W.zret (v := 0) hx hb hr (by decide +kernel) (fun t1 ht hW => ⟨⟨0, (σ, I, J, ri, rj, rq), rfl, ⟨rfl, (hF0.symm.trans hF), (Or.inr ⟨rfl, (rg_w h_4 (by decide +kernel))⟩)⟩, by rw [ht]; exact hP, va_K.moved hW.alike hK, hD⟩, hS.F ht⟩) hS.2.2 dX7_isNumber_12
    · replace hF := hF.trans (if_neg c_1)
      have h_5 : rg a0 (-4999) 2147483647 := rg_lt2 (nle c_1) (rg_k (-5000 : Int32) (-5000) rfl) (rg_full _) (by decide +kernel)
      refine lv_iconst (v := 1) hx hb dX7_isNumber_7 (by decide +kernel) ?_
      refine lv_goto (tgt := 12) hx hb dX7_isNumber_8 (by decide +kernel) ?_
      subst hQ
      exact W.zret (v := 1) hx hb hr (by decide +kernel) (fun t1 ht hW => ⟨⟨1, (σ, I, J, ri, rj, rq), rfl, ⟨rfl, (hF0.symm.trans hF), (Or.inl ⟨rfl, (rg_w h_5 (by decide +kernel))⟩)⟩, by rw [ht]; exact hP, va_K.moved hW.alike hK, hD⟩, hS.F ht⟩) hS.2.2 dX7_isNumber_12
  exact go _ _ _ hP hD hS hl

set_option maxRecDepth 100000 in
def g_X7_meanOfNumbers (a0 : Int32) (a1 : Int32) : Int32 := (ap1 (g_X7_isNumber a0) fun (x_1 : Int32) => (if x_1 = (0 : Int32) then a1 else (ap1 (g_X7_isNumber a1) fun (x_16 : Int32) => (if x_16 = (0 : Int32) then a0 else (ap1 (a0 + a1) fun (x_33 : Int32) => (ap1 (x_33 / (2 : Int32)) fun (x_34 : Int32) => x_34))))))
set_option maxRecDepth 100000 in
theorem g_X7_meanOfNumbers_e {a0 : Int32} {a1 : Int32} : g_X7_meanOfNumbers a0 a1 = (ap1 (g_X7_isNumber a0) fun (x_1 : Int32) => (if x_1 = (0 : Int32) then a1 else (ap1 (g_X7_isNumber a1) fun (x_16 : Int32) => (if x_16 = (0 : Int32) then a0 else (ap1 (a0 + a1) fun (x_33 : Int32) => (ap1 (x_33 / (2 : Int32)) fun (x_34 : Int32) => x_34)))))) := rfl
set_option maxHeartbeats 4000000 in
set_option maxRecDepth 100000 in
theorem s_X7_meanOfNumbers (l : Launch) (D : va_G) (t : pq_T) (σ : pq_S) (I : Nat → Nat → Int32) (J : Nat → Nat → Int64) (ri : Nat → Nat → Int32) (rj : Nat → Nat → Int64) (rq : Nat → Nat → Option Nat) (sz : Nat) (tg : Nat → Nat) (hSH : SH σ tg) (hG0 : GS tg σ I ri rq) (a0 : Int32) (a1 : Int32) : MetI l yX7_meanOfNumbers (wa yX7_meanOfNumbers cX7_meanOfNumbers 2 (some .int)) ({ frames := 1, cells := 0, slots := 0, locals := 20 }) [.int a0, .int a1] D t σ (I, J, ri, rj, rq) sz 0 0 (fun (r : Int32) (u : pq_S × pq_M) => u = (σ, I, J, ri, rj, rq) ∧ g_X7_meanOfNumbers a0 a1 = r) := by
  refine Met.ofW (cc := cX7_meanOfNumbers) (maxL := 2) (ret := (some .int)) (by decide +kernel) rfl ?_
  intro p e s m args below meth c s₁ B hml hv
  obtain ⟨rfl, hsz, hP, hK, hD0, hN⟩ := hv
  have hx := B.exec
  have hb := B.bytes
  have hr := B.returns
  have hts := atoms_spec (ws := (wa yX7_meanOfNumbers cX7_meanOfNumbers 2 (some .int))) B.pre
  have hown : s.vm.findClass RX7 = some m.cls := findClass_of_methodNamed B.named
  have hlocks := B.notSynchronized
  subst hsz
  have hD : va_D (pq_B t σ (I, J, ri, rj, rq) s.heap.size) (pq_P t σ (I, J, ri, rj, rq)) := hD0.self
  generalize hAe : pq_B t σ (I, J, ri, rj, rq) s.heap.size = A at hD ⊢
  have hA : ∀ q : Nat, s.heap.size ≤ q → A q := fun q h => by rw [← hAe]; exact Or.inr h
  have hS : va_S A s.heap s.heap [] := va_S.rf
  have hG : GX [] tg σ I ri rj I ri rj rq := ⟨hG0, fun _ _ _ => rfl, fun _ _ _ _ _ => rfl, fun _ _ _ _ _ => rfl⟩
  have hl := lv_entry ([.int a0, .int a1]) (n := 2) (Nat.le_of_ble_eq_true rfl)
  rw [lg_entry_eq]
  generalize (lg_sl ([.int a0, .int a1]) ++ List.replicate (2 - (lg_sl ([.int a0, .int a1])).length) Slot.unset).toArray = ls at hl ⊢
  have hl : lv_has ls 2 [(0, .int a0), (1, .int a1)] := hl
  refine q_gen (fun Q hQ => ?_)
  have go : ∀ (H : Heap) (locs : List Loc) (ls : Array Slot), va_P D vwCl (pq_P t σ (I, J, ri, rj, rq)) H → va_D A (pq_P t σ (I, J, ri, rj, rq)) → va_S A s.heap H locs → lv_has ls 2 [(0, .int a0), (1, .int a1)] → W p l e ({ frames := 1, cells := 0, slots := 0, locals := 20 } : Room) s m (List.toArray ([.int a0, .int a1] : List Value)) below meth c H locs 0 0 Q (F0 m 0 ls []) := by
    intro H locs ls hP hD hS hl
    obtain ⟨F, hF0⟩ : ∃ F, F = g_X7_meanOfNumbers a0 a1 := ⟨_, rfl⟩
    have hF := hF0.trans g_X7_meanOfNumbers_e
    refine lv_iload_n hx hb dX7_meanOfNumbers_0 rfl (lv_at hl 0 rfl) ?_
    refine pk_i (va_runS (As := [.int a0]) (rest := []) ⟨hx, hb, hml, hown, hts⟩ (s_X7_isNumber l D t σ I J ri rj rq H.size tg hSH hG.1 a0) (va_cwS 1 hts (tw_S tw_278 tw_279 tw_37 tw_280) rfl rfl rfl cd_yX7_isNumber_1 ⟨Nat.le_of_ble_eq_true rfl, Nat.le_of_ble_eq_true rfl⟩) ⟨pq_blind, pq_pre hK hN hP hD⟩ rfl rfl hl.1 rfl (lv_room (Nat.le_of_ble_eq_true rfl)) dX7_meanOfNumbers_1 ⟨Nat.le_of_ble_eq_true rfl, Nat.le_of_ble_eq_true rfl⟩) hD hS hA (fun x_1 σ1 μ1 H locs hw_2 hP hD hS => ?_)
    obtain ⟨hu_3, hfn_6, hr_5⟩ := hw_2
    obtain ⟨hu_3a, hu_3b⟩ := Prod.mk.inj hu_3
    rw [hu_3a, hu_3b] at hP hD
    replace hF := hF.trans (ap_n hfn_6.symm)
    have h_8 : rg x_1 0 1 := by rcases hr_5 with ⟨q, -⟩ | ⟨q, -⟩ <;> rw [q] <;> exact ⟨by decide +kernel, by decide +kernel⟩
    refine lv_if_ne (tgt := 9) hx hb dX7_meanOfNumbers_4 (by decide +kernel) (fun c_9 => ?_) (fun c_9 => ?_)
    · replace hF := hF.trans (if_neg c_9)
      have f_14 := (hr_5.resolve_right (fun q => c_9 q.1)).2
      have h_15 : rg x_1 1 1 := rg_ne c_9 h_8 0 rfl (by decide +kernel)
      refine lv_iload_n hx hb dX7_meanOfNumbers_9 rfl (lv_at hl 1 rfl) ?_
      refine pk_i (va_runS (As := [.int a1]) (rest := []) ⟨hx, hb, hml, hown, hts⟩ (s_X7_isNumber l D t σ I J ri rj rq H.size tg hSH hG.1 a1) (va_cwS 1 hts (tw_S tw_278 tw_279 tw_37 tw_280) rfl rfl rfl cd_yX7_isNumber_1 ⟨Nat.le_of_ble_eq_true rfl, Nat.le_of_ble_eq_true rfl⟩) ⟨pq_blind, pq_pre hK hN hP hD⟩ rfl rfl hl.1 rfl (lv_room (Nat.le_of_ble_eq_true rfl)) dX7_meanOfNumbers_10 ⟨Nat.le_of_ble_eq_true rfl, Nat.le_of_ble_eq_true rfl⟩) hD hS hA (fun x_16 σ1 μ1 H locs hw_17 hP hD hS => ?_)
      obtain ⟨hu_18, hfn_21, hr_20⟩ := hw_17
      obtain ⟨hu_18a, hu_18b⟩ := Prod.mk.inj hu_18
      rw [hu_18a, hu_18b] at hP hD
      replace hF := hF.trans (ap_n hfn_21.symm)
      have h_23 : rg x_16 0 1 := by rcases hr_20 with ⟨q, -⟩ | ⟨q, -⟩ <;> rw [q] <;> exact ⟨by decide +kernel, by decide +kernel⟩
      refine lv_if_eq (tgt := 24) hx hb dX7_meanOfNumbers_13 (by decide +kernel) (fun c_24 => ?_) (fun c_24 => ?_)
      · replace hF := hF.trans (if_pos c_24)
        have f_29 := (hr_20.resolve_left (fun q => absurd (q.1.symm.trans c_24) (by decide +kernel))).2
        have h_30 : rg x_16 0 0 := rg_and h_23 (rg_of_eq c_24 (rg_k (0 : Int32) 0 rfl)) (by decide +kernel)
        refine lv_iload_n hx hb dX7_meanOfNumbers_24 rfl (lv_at hl 0 rfl) ?_
        subst hQ
        exact W.iret (v := a0) hx hb hr (fun t1 ht hW => ⟨⟨a0, (σ, I, J, ri, rj, rq), rfl, ⟨rfl, (hF0.symm.trans hF)⟩, by rw [ht]; exact hP, va_K.moved hW.alike hK, hD⟩, hS.F ht⟩) hS.2.2 dX7_meanOfNumbers_25
      · replace hF := hF.trans (if_neg c_24)
        have f_31 := (hr_20.resolve_right (fun q => c_24 q.1)).2
        have h_32 : rg x_16 1 1 := rg_ne c_24 h_23 0 rfl (by decide +kernel)
        refine lv_iload_n hx hb dX7_meanOfNumbers_16 rfl (lv_at hl 0 rfl) ?_
        refine lv_iload_n hx hb dX7_meanOfNumbers_17 rfl (lv_at hl 1 rfl) ?_
        refine lv_iadd hx hb dX7_meanOfNumbers_18 ?_
        refine lv_topi (fun x_33 ex_33 => ?_)
        replace hF := hF.trans (ap_n ex_33)
        refine lv_iconst (v := 2) hx hb dX7_meanOfNumbers_19 (by decide +kernel) ?_
        refine lv_idiv hx hb dX7_meanOfNumbers_20 (by decide +kernel) ?_
        refine lv_topi (fun x_34 ex_34 => ?_)
        replace hF := hF.trans (ap_n ex_34)
        refine lv_goto (tgt := 25) hx hb dX7_meanOfNumbers_21 (by decide +kernel) ?_
        subst hQ
        exact W.iret (v := x_34) hx hb hr (fun t1 ht hW => ⟨⟨x_34, (σ, I, J, ri, rj, rq), rfl, ⟨rfl, (hF0.symm.trans hF)⟩, by rw [ht]; exact hP, va_K.moved hW.alike hK, hD⟩, hS.F ht⟩) hS.2.2 dX7_meanOfNumbers_25
    · replace hF := hF.trans (if_pos c_9)
      have f_35 := (hr_5.resolve_left (fun q => absurd (q.1.symm.trans c_9) (by decide +kernel))).2
      have h_36 : rg x_1 0 0 := rg_and h_8 (rg_of_eq c_9 (rg_k (0 : Int32) 0 rfl)) (by decide +kernel)
      refine lv_iload_n hx hb dX7_meanOfNumbers_7 rfl (lv_at hl 1 rfl) ?_
      subst hQ
      exact W.iret (v := a1) hx hb hr (fun t1 ht hW => ⟨⟨a1, (σ, I, J, ri, rj, rq), rfl, ⟨rfl, (hF0.symm.trans hF)⟩, by rw [ht]; exact hP, va_K.moved hW.alike hK, hD⟩, hS.F ht⟩) hS.2.2 dX7_meanOfNumbers_8
  exact go _ _ _ hP hD hS hl

set_option maxRecDepth 100000 in
def g_X7_known_K187 (I : Nat → Int32) (J : Nat → Int64) (ri : Nat → Nat → Int32) (rj : Nat → Nat → Int64) (rq : Nat → Nat → Option Nat) (x_1641 : Int32) : Int32 × vM := (ap1 (g_X7_isNumber x_1641) fun (x_1818 : Int32) => (if x_1818 = (0 : Int32) then ((0 : Int32), I, J, ri, rj, rq) else (x_1641, I, J, ri, rj, rq)))
set_option maxRecDepth 100000 in
theorem g_X7_known_K187_e {I : Nat → Int32} {J : Nat → Int64} {ri : Nat → Nat → Int32} {rj : Nat → Nat → Int64} {rq : Nat → Nat → Option Nat} {x_1641 : Int32} : g_X7_known_K187 I J ri rj rq x_1641  = (ap1 (g_X7_isNumber x_1641) fun (x_1818 : Int32) => (if x_1818 = (0 : Int32) then ((0 : Int32), I, J, ri, rj, rq) else (x_1641, I, J, ri, rj, rq))) := rfl
set_option maxRecDepth 100000 in
def g_X7_known_K179 (I : Nat → Int32) (J : Nat → Int64) (ri : Nat → Nat → Int32) (rj : Nat → Nat → Int64) (rq : Nat → Nat → Option Nat) (x_1639 : Int32) (x_1640 : Int32) : Int32 × vM := (ap1 (g_X7_meanOfNumbers x_1639 x_1640) fun (x_1876 : Int32) => (x_1876, I, J, ri, rj, rq))
set_option maxRecDepth 100000 in
theorem g_X7_known_K179_e {I : Nat → Int32} {J : Nat → Int64} {ri : Nat → Nat → Int32} {rj : Nat → Nat → Int64} {rq : Nat → Nat → Option Nat} {x_1639 : Int32} {x_1640 : Int32} : g_X7_known_K179 I J ri rj rq x_1639 x_1640  = (ap1 (g_X7_meanOfNumbers x_1639 x_1640) fun (x_1876 : Int32) => (x_1876, I, J, ri, rj, rq)) := rfl
set_option maxRecDepth 100000 in
def g_X7_known_K138 (x_1642 : Int32) (k_g_X7_known_L23 : (Int32) → (Int32) → (Int32) → (Int32) → (Int32) → Int32 × vM) (x_1932 : Int32) (x_1933 : Int32) (x_1934 : Int32) (x_1935 : Int32) : Int32 × vM := (ap1 (x_1642 + Int32.ofInt 1) fun (x_1942 : Int32) => (k_g_X7_known_L23 x_1932 x_1933 x_1934 x_1935 x_1942))
set_option maxRecDepth 100000 in
theorem g_X7_known_K138_e {x_1642 : Int32} {k_g_X7_known_L23 : (Int32) → (Int32) → (Int32) → (Int32) → (Int32) → Int32 × vM} {x_1932 : Int32} {x_1933 : Int32} {x_1934 : Int32} {x_1935 : Int32} : g_X7_known_K138 x_1642 k_g_X7_known_L23 x_1932 x_1933 x_1934 x_1935 = (ap1 (x_1642 + Int32.ofInt 1) fun (x_1942 : Int32) => (k_g_X7_known_L23 x_1932 x_1933 x_1934 x_1935 x_1942)) := rfl
set_option maxRecDepth 100000 in
def g_X7_known_L23 (a0 : Int32) (a1 : Int32) (a2 : Int32) (I : Nat → Int32) (J : Nat → Int64) (ri : Nat → Nat → Int32) (rj : Nat → Nat → Int64) (rq : Nat → Nat → Option Nat) : Nat → (Int32) → (Int32) → (Int32) → (Int32) → (Int32) → Int32 × vM
  | 0, x_1638, x_1639, x_1640, x_1641, x_1642 => ((0 : Int32), I, J, ri, rj, rq)
  | n_1740 + 1, x_1638, x_1639, x_1640, x_1641, x_1642 => (ap1 (I 224) fun (y_1748 : Int32) => (if (y_1748) ≤ x_1642 then (ap1 (g_X7_isNumber x_1638) fun (x_1752 : Int32) => (if x_1752 = (0 : Int32) then (if x_1638 = (-5000 : Int32) then (ap1 (g_X7_isNumber x_1639) fun (x_1842 : Int32) => (if x_1842 = (0 : Int32) then (ap1 (g_X7_isNumber x_1640) fun (x_1892 : Int32) => (if x_1892 = (0 : Int32) then (g_X7_known_K187 I J ri rj rq x_1641 ) else (g_X7_known_K179 I J ri rj rq x_1639 x_1640 ))) else (g_X7_known_K179 I J ri rj rq x_1639 x_1640 ))) else (g_X7_known_K187 I J ri rj rq x_1641 )) else (x_1638, I, J, ri, rj, rq))) else (ap1 (ri 225 (x_1642).toNatClampNeg) fun (x_1914 : Int32) => (if x_1914 = a0 then (ap1 (ri 228 (x_1642).toNatClampNeg) fun (x_1946 : Int32) => (if a2 < x_1946 then (g_X7_known_K138 x_1642 (g_X7_known_L23 a0 a1 a2 I J ri rj rq n_1740) x_1638 x_1639 x_1640 x_1641) else (ap1 (ri 227 (x_1642).toNatClampNeg) fun (x_1953 : Int32) => (ap1 (if x_1641 < x_1953 then x_1953 else x_1641) fun (x_1954 : Int32) => (ap1 (ri 226 (x_1642).toNatClampNeg) fun (x_1957 : Int32) => (if x_1957 = a1 then (g_X7_known_K138 x_1642 (g_X7_known_L23 a0 a1 a2 I J ri rj rq n_1740) x_1953 x_1639 x_1640 x_1954) else (ap1 (a1 - (1 : Int32)) fun (x_1959 : Int32) => (if x_1957 = x_1959 then (g_X7_known_K138 x_1642 (g_X7_known_L23 a0 a1 a2 I J ri rj rq n_1740) x_1638 x_1953 x_1640 x_1954) else (ap1 (a1 + (1 : Int32)) fun (x_1961 : Int32) => (if x_1957 = x_1961 then (g_X7_known_K138 x_1642 (g_X7_known_L23 a0 a1 a2 I J ri rj rq n_1740) x_1638 x_1639 x_1953 x_1954) else (g_X7_known_K138 x_1642 (g_X7_known_L23 a0 a1 a2 I J ri rj rq n_1740) x_1638 x_1639 x_1640 x_1954))))))))))) else (g_X7_known_K138 x_1642 (g_X7_known_L23 a0 a1 a2 I J ri rj rq n_1740) x_1638 x_1639 x_1640 x_1641)))))
set_option maxRecDepth 100000 in
theorem g_X7_known_L23_e {a0 : Int32} {a1 : Int32} {a2 : Int32} {I : Nat → Int32} {J : Nat → Int64} {ri : Nat → Nat → Int32} {rj : Nat → Nat → Int64} {rq : Nat → Nat → Option Nat} {n_1740 : Nat} {x_1638 : Int32} {x_1639 : Int32} {x_1640 : Int32} {x_1641 : Int32} {x_1642 : Int32} : g_X7_known_L23 a0 a1 a2 I J ri rj rq (n_1740 + 1) x_1638 x_1639 x_1640 x_1641 x_1642 = (ap1 (I 224) fun (y_1748 : Int32) => (if (y_1748) ≤ x_1642 then (ap1 (g_X7_isNumber x_1638) fun (x_1752 : Int32) => (if x_1752 = (0 : Int32) then (if x_1638 = (-5000 : Int32) then (ap1 (g_X7_isNumber x_1639) fun (x_1842 : Int32) => (if x_1842 = (0 : Int32) then (ap1 (g_X7_isNumber x_1640) fun (x_1892 : Int32) => (if x_1892 = (0 : Int32) then (g_X7_known_K187 I J ri rj rq x_1641 ) else (g_X7_known_K179 I J ri rj rq x_1639 x_1640 ))) else (g_X7_known_K179 I J ri rj rq x_1639 x_1640 ))) else (g_X7_known_K187 I J ri rj rq x_1641 )) else (x_1638, I, J, ri, rj, rq))) else (ap1 (ri 225 (x_1642).toNatClampNeg) fun (x_1914 : Int32) => (if x_1914 = a0 then (ap1 (ri 228 (x_1642).toNatClampNeg) fun (x_1946 : Int32) => (if a2 < x_1946 then (g_X7_known_K138 x_1642 (g_X7_known_L23 a0 a1 a2 I J ri rj rq n_1740) x_1638 x_1639 x_1640 x_1641) else (ap1 (ri 227 (x_1642).toNatClampNeg) fun (x_1953 : Int32) => (ap1 (if x_1641 < x_1953 then x_1953 else x_1641) fun (x_1954 : Int32) => (ap1 (ri 226 (x_1642).toNatClampNeg) fun (x_1957 : Int32) => (if x_1957 = a1 then (g_X7_known_K138 x_1642 (g_X7_known_L23 a0 a1 a2 I J ri rj rq n_1740) x_1953 x_1639 x_1640 x_1954) else (ap1 (a1 - (1 : Int32)) fun (x_1959 : Int32) => (if x_1957 = x_1959 then (g_X7_known_K138 x_1642 (g_X7_known_L23 a0 a1 a2 I J ri rj rq n_1740) x_1638 x_1953 x_1640 x_1954) else (ap1 (a1 + (1 : Int32)) fun (x_1961 : Int32) => (if x_1957 = x_1961 then (g_X7_known_K138 x_1642 (g_X7_known_L23 a0 a1 a2 I J ri rj rq n_1740) x_1638 x_1639 x_1953 x_1954) else (g_X7_known_K138 x_1642 (g_X7_known_L23 a0 a1 a2 I J ri rj rq n_1740) x_1638 x_1639 x_1640 x_1954))))))))))) else (g_X7_known_K138 x_1642 (g_X7_known_L23 a0 a1 a2 I J ri rj rq n_1740) x_1638 x_1639 x_1640 x_1641))))) := rfl
set_option maxRecDepth 100000 in
def g_X7_known (a0 : Int32) (a1 : Int32) (a2 : Int32) (I : Nat → Int32) (J : Nat → Int64) (ri : Nat → Nat → Int32) (rj : Nat → Nat → Int64) (rq : Nat → Nat → Option Nat) : Int32 × vM := (g_X7_known_L23 a0 a1 a2 I J ri rj rq ((200 - ((0 : Int32)).toInt).toNat + 1) (-6000 : Int32) (-6000 : Int32) (-6000 : Int32) (-6000 : Int32) (0 : Int32))
set_option maxRecDepth 100000 in
theorem g_X7_known_e {a0 : Int32} {a1 : Int32} {a2 : Int32} {I : Nat → Int32} {J : Nat → Int64} {ri : Nat → Nat → Int32} {rj : Nat → Nat → Int64} {rq : Nat → Nat → Option Nat} : g_X7_known a0 a1 a2 I J ri rj rq = (g_X7_known_L23 a0 a1 a2 I J ri rj rq ((200 - ((0 : Int32)).toInt).toNat + 1) (-6000 : Int32) (-6000 : Int32) (-6000 : Int32) (-6000 : Int32) (0 : Int32)) := rfl
set_option maxHeartbeats 4000000 in
set_option maxRecDepth 100000 in
theorem s_X7_known (l : Launch) (D : va_G) (t : pq_T) (σ : pq_S) (I : Nat → Nat → Int32) (J : Nat → Nat → Int64) (ri : Nat → Nat → Int32) (rj : Nat → Nat → Int64) (rq : Nat → Nat → Option Nat) (sz : Nat) (tg : Nat → Nat) (hSH : SH σ tg) (hG0 : GS tg σ I ri rq) (this : Nat) (a0 : Int32) (a1 : Int32) (a2 : Int32) (hL_this : this ∈ σ.1) (hK_this : σ.2.1 this = 7) (M : Nat) (hL_M : M ∈ σ.1) (hK_M : σ.2.1 M = 10) (hO_this : this = vo σ 7 M) : MetI l yX7_known (wa yX7_known cX7_known 9 (some .int)) ({ frames := 2, cells := 0, slots := 0, locals := 41 }) [.ref this, .int a0, .int a1, .int a2] D t σ (I, J, ri, rj, rq) sz 0 0 (fun (r : Int32) (u : pq_S × pq_M) => u = (σ, I, J, ri, rj, rq) ∧ g_X7_known a0 a1 a2 (vI 10 σ M I) (vJ 10 σ M J) (vR 10 σ M ri) (vL 10 σ M rj) (vQ 10 σ M rq) = (r, (vI 10 σ M I), (vJ 10 σ M J), (vR 10 σ M ri), (vL 10 σ M rj), (vQ 10 σ M rq))) := by
  refine Met.ofW (cc := cX7_known) (maxL := 9) (ret := (some .int)) (by decide +kernel) rfl ?_
  intro p e s m args below meth c s₁ B hml hv
  obtain ⟨rfl, hsz, hP, hK, hD0, hN⟩ := hv
  have hx := B.exec
  have hb := B.bytes
  have hr := B.returns
  have hts := atoms_spec (ws := (wa yX7_known cX7_known 9 (some .int))) B.pre
  have hown : s.vm.findClass RX7 = some m.cls := findClass_of_methodNamed B.named
  have hlocks := B.notSynchronized
  subst hsz
  have hD : va_D (pq_B t σ (I, J, ri, rj, rq) s.heap.size) (pq_P t σ (I, J, ri, rj, rq)) := hD0.self
  generalize hAe : pq_B t σ (I, J, ri, rj, rq) s.heap.size = A at hD ⊢
  have hA : ∀ q : Nat, s.heap.size ≤ q → A q := fun q h => by rw [← hAe]; exact Or.inr h
  have hS : va_S A s.heap s.heap [] := va_S.rf
  have hG : GX [] tg σ I ri rj I ri rj rq := ⟨hG0, fun _ _ _ => rfl, fun _ _ _ _ _ => rfl, fun _ _ _ _ _ => rfl⟩
  have hl := lv_entry ([.ref this, .int a0, .int a1, .int a2]) (n := 9) (Nat.le_of_ble_eq_true rfl)
  rw [lg_entry_eq]
  generalize (lg_sl ([.ref this, .int a0, .int a1, .int a2]) ++ List.replicate (9 - (lg_sl ([.ref this, .int a0, .int a1, .int a2])).length) Slot.unset).toArray = ls at hl ⊢
  have hl : lv_has ls 9 [(0, .ref this), (1, .int a0), (2, .int a1), (3, .int a2)] := hl
  refine q_gen (fun Q hQ => ?_)
  have go : ∀ (H : Heap) (locs : List Loc) (ls : Array Slot), va_P D vwCl (pq_P t σ (I, J, ri, rj, rq)) H → va_D A (pq_P t σ (I, J, ri, rj, rq)) → va_S A s.heap H locs → lv_has ls 9 [(0, .ref this), (1, .int a0), (2, .int a1), (3, .int a2)] → W p l e ({ frames := 2, cells := 0, slots := 0, locals := 41 } : Room) s m (List.toArray ([.ref this, .int a0, .int a1, .int a2] : List Value)) below meth c H locs 0 0 Q (F0 m 0 ls []) := by
    intro H locs ls hP hD hS hl
    have hVT : VT 10 σ tg M := vt_10 hSH hL_M hK_M
    have hFr : FR 10 tg σ M (I, J, ri, rj, rq) (I, J, ri, rj, rq) := fr_rf
    obtain ⟨F, hF0⟩ : ∃ F, F = g_X7_known a0 a1 a2 (vI 10 σ M I) (vJ 10 σ M J) (vR 10 σ M ri) (vL 10 σ M rj) (vQ 10 σ M rq) := ⟨_, rfl⟩
    have hF := hF0.trans g_X7_known_e
    refine lv_sipush (v := (-6000)) hx hb dX7_known_0 (by decide +kernel) ?_
    refine lv_istore (lv' := [(4, .int (-6000)), (0, .ref this), (1, .int a0), (2, .int a1), (3, .int a2)]) hx hb dX7_known_3 hl (by decide +kernel) rfl (fun ls hl => ?_)
    refine lv_sipush (v := (-6000)) hx hb dX7_known_5 (by decide +kernel) ?_
    refine lv_istore (lv' := [(5, .int (-6000)), (4, .int (-6000)), (0, .ref this), (1, .int a0), (2, .int a1), (3, .int a2)]) hx hb dX7_known_8 hl (by decide +kernel) rfl (fun ls hl => ?_)
    refine lv_sipush (v := (-6000)) hx hb dX7_known_10 (by decide +kernel) ?_
    refine lv_istore (lv' := [(6, .int (-6000)), (5, .int (-6000)), (4, .int (-6000)), (0, .ref this), (1, .int a0), (2, .int a1), (3, .int a2)]) hx hb dX7_known_13 hl (by decide +kernel) rfl (fun ls hl => ?_)
    refine lv_sipush (v := (-6000)) hx hb dX7_known_15 (by decide +kernel) ?_
    refine lv_istore (lv' := [(7, .int (-6000)), (6, .int (-6000)), (5, .int (-6000)), (4, .int (-6000)), (0, .ref this), (1, .int a0), (2, .int a1), (3, .int a2)]) hx hb dX7_known_18 hl (by decide +kernel) rfl (fun ls hl => ?_)
    refine lv_iconst (v := 0) hx hb dX7_known_20 (by decide +kernel) ?_
    refine lv_istore (lv' := [(8, .int 0), (7, .int (-6000)), (6, .int (-6000)), (5, .int (-6000)), (4, .int (-6000)), (0, .ref this), (1, .int a0), (2, .int a1), (3, .int a2)]) hx hb dX7_known_21 hl (by decide +kernel) rfl (fun ls hl => ?_)
    have L_1741 : ∀ (n_1740 : Nat) (x_1638 : Int32) (x_1639 : Int32) (x_1640 : Int32) (x_1641 : Int32) (x_1642 : Int32) (H : Heap) (locs : List Loc) (ls : Array Slot), rg x_1641 (-6000) 2147483647 → rg x_1642 0 200 → (200 - (x_1642).toInt).toNat < n_1740 → F = g_X7_known_L23 a0 a1 a2 (vI 10 σ M I) (vJ 10 σ M J) (vR 10 σ M ri) (vL 10 σ M rj) (vQ 10 σ M rq) n_1740 x_1638 x_1639 x_1640 x_1641 x_1642 → FR 10 tg σ M (I, J, ri, rj, rq) (I, J, ri, rj, rq) → GX [] tg σ I ri rj I ri rj rq → va_P D vwCl (pq_P t σ (I, J, ri, rj, rq)) H → va_D A (pq_P t σ (I, J, ri, rj, rq)) → va_S A s.heap H locs → lv_has ls 9 [(0, .ref this), (1, .int a0), (2, .int a1), (3, .int a2), (4, .int x_1638), (5, .int x_1639), (6, .int x_1640), (7, .int x_1641), (8, .int x_1642)] → W p l e ({ frames := 2, cells := 0, slots := 0, locals := 41 } : Room) s m (List.toArray ([.ref this, .int a0, .int a1, .int a2] : List Value)) below meth c H locs 0 0 Q (F0 m 23 ls []) := by
      intro n_1740
      induction n_1740 with
      | zero => intro x_1638 x_1639 x_1640 x_1641 x_1642 H locs ls h_1745 h_1746 hm_1739 hF hFr hG hP hD hS hl; exact absurd hm_1739 (Nat.not_lt_zero _)
      | succ n_1740 ih_1742 =>
        intro x_1638 x_1639 x_1640 x_1641 x_1642 H locs ls h_1745 h_1746 hm_1739 hF hFr hG hP hD hS hl
        replace hF := hF.trans g_X7_known_L23_e
        refine lv_iload hx hb dX7_known_23 (lv_at hl 8 rfl) ?_
        refine lv_aload_n hx hb dX7_known_25 rfl (lv_at hl 0 rfl) ?_
        refine pg_f (v := .int (I 224 this)) (C := RX7) (T := TX7) (N := 15) hx hb hts (tw_i inlX7) hown hK hP hL_this hK_this (by decide +kernel) rfl 0 (by decide +kernel) (hts _ (tw_c tw_254)) rfl dX7_known_26 ?_
        have h_1747 : rg (I 224 this) 0 200 := GX.rI hG 224 rfl
        replace hF := hF.trans (ap_n (vI_e (f := 224) hO_this (by decide +kernel)))
        refine lv_icmp_ge (tgt := 144) hx hb dX7_known_29 (by decide +kernel) (fun c_1749 => ?_) (fun c_1749 => ?_)
        · replace hF := hF.trans (if_pos c_1749)
          refine lv_iload hx hb dX7_known_144 (lv_at hl 4 rfl) ?_
          refine pk_i (va_runS (As := [.int x_1638]) (rest := []) ⟨hx, hb, hml, hown, hts⟩ (s_X7_isNumber l D t σ I J ri rj rq H.size tg hSH hG.1 x_1638) (va_cwS 1 hts (tw_S tw_278 tw_279 tw_37 tw_280) rfl rfl rfl cd_yX7_isNumber_1 ⟨Nat.le_of_ble_eq_true rfl, Nat.le_of_ble_eq_true rfl⟩) ⟨pq_blind, pq_pre hK hN hP hD⟩ rfl rfl hl.1 rfl (lv_room (Nat.le_of_ble_eq_true rfl)) dX7_known_146 ⟨Nat.le_of_ble_eq_true rfl, Nat.le_of_ble_eq_true rfl⟩) hD hS hA (fun x_1752 σ1 μ1 H locs hw_1753 hP hD hS => ?_)
          obtain ⟨hu_1754, hfn_1757, hr_1756⟩ := hw_1753
          obtain ⟨hu_1754a, hu_1754b⟩ := Prod.mk.inj hu_1754
          rw [hu_1754a, hu_1754b] at hP hD
          replace hF := hF.trans (ap_n hfn_1757.symm)
          have h_1759 : rg x_1752 0 1 := by rcases hr_1756 with ⟨q, -⟩ | ⟨q, -⟩ <;> rw [q] <;> exact ⟨by decide +kernel, by decide +kernel⟩
          refine lv_if_eq (tgt := 155) hx hb dX7_known_149 (by decide +kernel) (fun c_1760 => ?_) (fun c_1760 => ?_)
          · replace hF := hF.trans (if_pos c_1760)
            have f_1765 := (hr_1756.resolve_left (fun q => absurd (q.1.symm.trans c_1760) (by decide +kernel))).2
            have h_1766 : rg x_1752 0 0 := rg_and h_1759 (rg_of_eq c_1760 (rg_k (0 : Int32) 0 rfl)) (by decide +kernel)
            refine lv_iload hx hb dX7_known_155 (lv_at hl 4 rfl) ?_
            refine lv_sipush (v := (-5000)) hx hb dX7_known_157 (by decide +kernel) ?_
            have K_1817 : ∀  (H : Heap) (locs : List Loc) (ls : Array Slot), F = g_X7_known_K187 (vI 10 σ M I) (vJ 10 σ M J) (vR 10 σ M ri) (vL 10 σ M rj) (vQ 10 σ M rq) x_1641  → FR 10 tg σ M (I, J, ri, rj, rq) (I, J, ri, rj, rq) → GX [] tg σ I ri rj I ri rj rq → va_P D vwCl (pq_P t σ (I, J, ri, rj, rq)) H → va_D A (pq_P t σ (I, J, ri, rj, rq)) → va_S A s.heap H locs → lv_has ls 9 [(7, .int x_1641)] → W p l e ({ frames := 2, cells := 0, slots := 0, locals := 41 } : Room) s m (List.toArray ([.ref this, .int a0, .int a1, .int a2] : List Value)) below meth c H locs 0 0 Q (F0 m 187 ls []) := by
              intro H locs ls hF hFr hG hP hD hS hl
              replace hF := hF.trans g_X7_known_K187_e
              refine lv_iload hx hb dX7_known_187 (lv_at hl 0 rfl) ?_
              refine pk_i (va_runS (As := [.int x_1641]) (rest := []) ⟨hx, hb, hml, hown, hts⟩ (s_X7_isNumber l D t σ I J ri rj rq H.size tg hSH hG.1 x_1641) (va_cwS 1 hts (tw_S tw_278 tw_279 tw_37 tw_280) rfl rfl rfl cd_yX7_isNumber_1 ⟨Nat.le_of_ble_eq_true rfl, Nat.le_of_ble_eq_true rfl⟩) ⟨pq_blind, pq_pre hK hN hP hD⟩ rfl rfl hl.1 rfl (lv_room (Nat.le_of_ble_eq_true rfl)) dX7_known_189 ⟨Nat.le_of_ble_eq_true rfl, Nat.le_of_ble_eq_true rfl⟩) hD hS hA (fun x_1818 σ1 μ1 H locs hw_1819 hP hD hS => ?_)
              obtain ⟨hu_1820, hfn_1823, hr_1822⟩ := hw_1819
              obtain ⟨hu_1820a, hu_1820b⟩ := Prod.mk.inj hu_1820
              rw [hu_1820a, hu_1820b] at hP hD
              replace hF := hF.trans (ap_n hfn_1823.symm)
              have h_1825 : rg x_1818 0 1 := by rcases hr_1822 with ⟨q, -⟩ | ⟨q, -⟩ <;> rw [q] <;> exact ⟨by decide +kernel, by decide +kernel⟩
              refine lv_if_eq (tgt := 200) hx hb dX7_known_192 (by decide +kernel) (fun c_1826 => ?_) (fun c_1826 => ?_)
              · replace hF := hF.trans (if_pos c_1826)
                have f_1832 := (hr_1822.resolve_left (fun q => absurd (q.1.symm.trans c_1826) (by decide +kernel))).2
                have h_1833 : rg x_1641 (-6000) (-5000) := rg_and h_1745 f_1832 (by decide +kernel)
                have h_1834 : rg x_1818 0 0 := rg_and h_1825 (rg_of_eq c_1826 (rg_k (0 : Int32) 0 rfl)) (by decide +kernel)
                refine lv_iconst (v := 0) hx hb dX7_known_200 (by decide +kernel) ?_
                subst hQ
                exact W.iret (v := 0) hx hb hr (fun t1 ht hW => ⟨⟨0, (σ, I, J, ri, rj, rq), rfl, ⟨rfl, (hF0.symm.trans hF)⟩, by rw [ht]; exact hP, va_K.moved hW.alike hK, hD⟩, hS.F ht⟩) hS.2.2 dX7_known_201
              · replace hF := hF.trans (if_neg c_1826)
                have f_1835 := (hr_1822.resolve_right (fun q => c_1826 q.1)).2
                have h_1836 : rg x_1818 1 1 := rg_ne c_1826 h_1825 0 rfl (by decide +kernel)
                refine lv_iload hx hb dX7_known_195 (lv_at hl 0 rfl) ?_
                refine lv_goto (tgt := 201) hx hb dX7_known_197 (by decide +kernel) ?_
                subst hQ
                exact W.iret (v := x_1641) hx hb hr (fun t1 ht hW => ⟨⟨x_1641, (σ, I, J, ri, rj, rq), rfl, ⟨rfl, (hF0.symm.trans hF)⟩, by rw [ht]; exact hP, va_K.moved hW.alike hK, hD⟩, hS.F ht⟩) hS.2.2 dX7_known_201
            refine lv_icmp_ne (tgt := 187) hx hb dX7_known_160 (by decide +kernel) (fun c_1837 => ?_) (fun c_1837 => ?_)
            · replace hF := hF.trans (if_neg c_1837)
              have h_1840 : rg x_1638 (-2147483648) (-5001) := rg_ne c_1837 f_1765 (-5000) rfl (by decide +kernel)
              exact K_1817 _ _ _ hF hFr hG hP hD hS (lv_sub hl [7] rfl)
            · replace hF := hF.trans (if_pos c_1837)
              have h_1841 : rg x_1638 (-5000) (-5000) := rg_and f_1765 (rg_of_eq c_1837 (rg_k (-5000 : Int32) (-5000) rfl)) (by decide +kernel)
              refine lv_iload hx hb dX7_known_163 (lv_at hl 5 rfl) ?_
              refine pk_i (va_runS (As := [.int x_1639]) (rest := []) ⟨hx, hb, hml, hown, hts⟩ (s_X7_isNumber l D t σ I J ri rj rq H.size tg hSH hG.1 x_1639) (va_cwS 1 hts (tw_S tw_278 tw_279 tw_37 tw_280) rfl rfl rfl cd_yX7_isNumber_1 ⟨Nat.le_of_ble_eq_true rfl, Nat.le_of_ble_eq_true rfl⟩) ⟨pq_blind, pq_pre hK hN hP hD⟩ rfl rfl hl.1 rfl (lv_room (Nat.le_of_ble_eq_true rfl)) dX7_known_165 ⟨Nat.le_of_ble_eq_true rfl, Nat.le_of_ble_eq_true rfl⟩) hD hS hA (fun x_1842 σ1 μ1 H locs hw_1843 hP hD hS => ?_)
              obtain ⟨hu_1844, hfn_1847, hr_1846⟩ := hw_1843
              obtain ⟨hu_1844a, hu_1844b⟩ := Prod.mk.inj hu_1844
              rw [hu_1844a, hu_1844b] at hP hD
              replace hF := hF.trans (ap_n hfn_1847.symm)
              have h_1849 : rg x_1842 0 1 := by rcases hr_1846 with ⟨q, -⟩ | ⟨q, -⟩ <;> rw [q] <;> exact ⟨by decide +kernel, by decide +kernel⟩
              have K_1875 : ∀  (H : Heap) (locs : List Loc) (ls : Array Slot), F = g_X7_known_K179 (vI 10 σ M I) (vJ 10 σ M J) (vR 10 σ M ri) (vL 10 σ M rj) (vQ 10 σ M rq) x_1639 x_1640  → FR 10 tg σ M (I, J, ri, rj, rq) (I, J, ri, rj, rq) → GX [] tg σ I ri rj I ri rj rq → va_P D vwCl (pq_P t σ (I, J, ri, rj, rq)) H → va_D A (pq_P t σ (I, J, ri, rj, rq)) → va_S A s.heap H locs → lv_has ls 9 [(5, .int x_1639), (6, .int x_1640)] → W p l e ({ frames := 2, cells := 0, slots := 0, locals := 41 } : Room) s m (List.toArray ([.ref this, .int a0, .int a1, .int a2] : List Value)) below meth c H locs 0 0 Q (F0 m 179 ls []) := by
                intro H locs ls hF hFr hG hP hD hS hl
                replace hF := hF.trans g_X7_known_K179_e
                refine lv_iload hx hb dX7_known_179 (lv_at hl 0 rfl) ?_
                refine lv_iload hx hb dX7_known_181 (lv_at hl 1 rfl) ?_
                refine pk_i (va_runS (As := [.int x_1639, .int x_1640]) (rest := []) ⟨hx, hb, hml, hown, hts⟩ (s_X7_meanOfNumbers l D t σ I J ri rj rq H.size tg hSH hG.1 x_1639 x_1640) (va_cwS 2 hts (tw_S tw_281 tw_282 tw_37 tw_283) rfl rfl rfl cd_yX7_meanOfNumbers_2 ⟨Nat.le_of_ble_eq_true rfl, Nat.le_of_ble_eq_true rfl⟩) ⟨pq_blind, pq_pre hK hN hP hD⟩ rfl rfl hl.1 rfl (lv_room (Nat.le_of_ble_eq_true rfl)) dX7_known_183 ⟨Nat.le_of_ble_eq_true rfl, Nat.le_of_ble_eq_true rfl⟩) hD hS hA (fun x_1876 σ1 μ1 H locs hw_1877 hP hD hS => ?_)
                obtain ⟨hu_1878, hfn_1881⟩ := hw_1877
                obtain ⟨hu_1878a, hu_1878b⟩ := Prod.mk.inj hu_1878
                rw [hu_1878a, hu_1878b] at hP hD
                replace hF := hF.trans (ap_n hfn_1881.symm)
                subst hQ
                exact W.iret (v := x_1876) hx hb hr (fun t1 ht hW => ⟨⟨x_1876, (σ, I, J, ri, rj, rq), rfl, ⟨rfl, (hF0.symm.trans hF)⟩, by rw [ht]; exact hP, va_K.moved hW.alike hK, hD⟩, hS.F ht⟩) hS.2.2 dX7_known_186
              refine lv_if_ne (tgt := 179) hx hb dX7_known_168 (by decide +kernel) (fun c_1883 => ?_) (fun c_1883 => ?_)
              · replace hF := hF.trans (if_neg c_1883)
                have f_1888 := (hr_1846.resolve_right (fun q => c_1883 q.1)).2
                have h_1889 : rg x_1842 1 1 := rg_ne c_1883 h_1849 0 rfl (by decide +kernel)
                exact K_1875 _ _ _ hF hFr hG hP hD hS (lv_sub hl [5, 6] rfl)
              · replace hF := hF.trans (if_pos c_1883)
                have f_1890 := (hr_1846.resolve_left (fun q => absurd (q.1.symm.trans c_1883) (by decide +kernel))).2
                have h_1891 : rg x_1842 0 0 := rg_and h_1849 (rg_of_eq c_1883 (rg_k (0 : Int32) 0 rfl)) (by decide +kernel)
                refine lv_iload hx hb dX7_known_171 (lv_at hl 6 rfl) ?_
                refine pk_i (va_runS (As := [.int x_1640]) (rest := []) ⟨hx, hb, hml, hown, hts⟩ (s_X7_isNumber l D t σ I J ri rj rq H.size tg hSH hG.1 x_1640) (va_cwS 1 hts (tw_S tw_278 tw_279 tw_37 tw_280) rfl rfl rfl cd_yX7_isNumber_1 ⟨Nat.le_of_ble_eq_true rfl, Nat.le_of_ble_eq_true rfl⟩) ⟨pq_blind, pq_pre hK hN hP hD⟩ rfl rfl hl.1 rfl (lv_room (Nat.le_of_ble_eq_true rfl)) dX7_known_173 ⟨Nat.le_of_ble_eq_true rfl, Nat.le_of_ble_eq_true rfl⟩) hD hS hA (fun x_1892 σ1 μ1 H locs hw_1893 hP hD hS => ?_)
                obtain ⟨hu_1894, hfn_1897, hr_1896⟩ := hw_1893
                obtain ⟨hu_1894a, hu_1894b⟩ := Prod.mk.inj hu_1894
                rw [hu_1894a, hu_1894b] at hP hD
                replace hF := hF.trans (ap_n hfn_1897.symm)
                have h_1899 : rg x_1892 0 1 := by rcases hr_1896 with ⟨q, -⟩ | ⟨q, -⟩ <;> rw [q] <;> exact ⟨by decide +kernel, by decide +kernel⟩
                refine lv_if_eq (tgt := 187) hx hb dX7_known_176 (by decide +kernel) (fun c_1900 => ?_) (fun c_1900 => ?_)
                · replace hF := hF.trans (if_pos c_1900)
                  have f_1905 := (hr_1896.resolve_left (fun q => absurd (q.1.symm.trans c_1900) (by decide +kernel))).2
                  have h_1906 : rg x_1892 0 0 := rg_and h_1899 (rg_of_eq c_1900 (rg_k (0 : Int32) 0 rfl)) (by decide +kernel)
                  exact K_1817 _ _ _ hF hFr hG hP hD hS (lv_sub hl [7] rfl)
                · replace hF := hF.trans (if_neg c_1900)
                  have f_1907 := (hr_1896.resolve_right (fun q => c_1900 q.1)).2
                  have h_1908 : rg x_1892 1 1 := rg_ne c_1900 h_1899 0 rfl (by decide +kernel)
                  exact K_1875 _ _ _ hF hFr hG hP hD hS (lv_sub hl [5, 6] rfl)
          · replace hF := hF.trans (if_neg c_1760)
            have f_1909 := (hr_1756.resolve_right (fun q => c_1760 q.1)).2
            have h_1910 : rg x_1752 1 1 := rg_ne c_1760 h_1759 0 rfl (by decide +kernel)
            refine lv_iload hx hb dX7_known_152 (lv_at hl 4 rfl) ?_
            subst hQ
            exact W.iret (v := x_1638) hx hb hr (fun t1 ht hW => ⟨⟨x_1638, (σ, I, J, ri, rj, rq), rfl, ⟨rfl, (hF0.symm.trans hF)⟩, by rw [ht]; exact hP, va_K.moved hW.alike hK, hD⟩, hS.F ht⟩) hS.2.2 dX7_known_154
        · replace hF := hF.trans (if_neg c_1749)
          have h_1911 : rg x_1642 0 199 := rg_lt1 (nle c_1749) h_1746 h_1747 (by decide +kernel)
          have h_1912 : rg (I 224 this) 1 200 := rg_lt2 (nle c_1749) h_1746 h_1747 (by decide +kernel)
          refine lv_aload_n hx hb dX7_known_32 rfl (lv_at hl 0 rfl) ?_
          obtain ⟨w_1913, hR_w_1913, hL_w_1913, hK_w_1913, hN_w_1913, hT_w_1913⟩ := sh_a hSH 225 (ci := 7) (kd := 13) (len := 200) rfl (by decide +kernel) hL_this hK_this
          have hO_w_1913 : w_1913 = vrow σ 225 M := vo_k (c := 7) hO_this hR_w_1913
          refine pg_f (v := .ref w_1913) (C := RX7) (T := TX7) (N := 15) hx hb hts (tw_i inlX7) hown hK hP hL_this hK_this (by decide +kernel) rfl 1 (by decide +kernel) (hts _ (tw_c tw_61)) (pq_hv rfl hR_w_1913) dX7_known_33 ?_
          refine lv_iload hx hb dX7_known_36 (lv_at hl 8 rfl) ?_
          refine pl_i hx hb hK hP hL_w_1913 hK_w_1913 hN_w_1913 (rg_in h_1911 (by decide +kernel)) dX7_known_38 ?_
          refine lv_topi (fun x_1914 ex_1914 => ?_)
          replace hF := hF.trans (ap_n (vR_r hO_w_1913 (by decide +kernel) ex_1914))
          refine lv_iload_n hx hb dX7_known_39 rfl (lv_at hl 1 rfl) ?_
          have K_1939 : ∀  (x_1932 : Int32) (x_1933 : Int32) (x_1934 : Int32) (x_1935 : Int32) (H : Heap) (locs : List Loc) (ls : Array Slot), rg x_1935 (-6000) 2147483647 → F = g_X7_known_K138 x_1642 (g_X7_known_L23 a0 a1 a2 (vI 10 σ M I) (vJ 10 σ M J) (vR 10 σ M ri) (vL 10 σ M rj) (vQ 10 σ M rq) n_1740) x_1932 x_1933 x_1934 x_1935 → FR 10 tg σ M (I, J, ri, rj, rq) (I, J, ri, rj, rq) → GX [] tg σ I ri rj I ri rj rq → va_P D vwCl (pq_P t σ (I, J, ri, rj, rq)) H → va_D A (pq_P t σ (I, J, ri, rj, rq)) → va_S A s.heap H locs → lv_has ls 9 [(0, .ref this), (1, .int a0), (2, .int a1), (3, .int a2), (4, .int x_1932), (5, .int x_1933), (6, .int x_1934), (7, .int x_1935), (8, .int x_1642)] → W p l e ({ frames := 2, cells := 0, slots := 0, locals := 41 } : Room) s m (List.toArray ([.ref this, .int a0, .int a1, .int a2] : List Value)) below meth c H locs 0 0 Q (F0 m 138 ls []) := by
            intro x_1932 x_1933 x_1934 x_1935 H locs ls h_1941 hF hFr hG hP hD hS hl
            replace hF := hF.trans g_X7_known_K138_e
            obtain ⟨x_1942, ex_1942⟩ : ∃ y : Int32, y = x_1642 + Int32.ofInt 1 := ⟨_, rfl⟩
            replace hF := hF.trans (ap_n ex_1942)
            have h_1943 : rg x_1942 1 200 := rg_of_eq ex_1942 (rg_add h_1911 (rg_k (Int32.ofInt 1) 1 rfl) (by decide +kernel))
            refine lv_iinc (v := x_1942) (lv' := [(8, .int x_1942), (0, .ref this), (1, .int a0), (2, .int a1), (3, .int a2), (4, .int x_1932), (5, .int x_1933), (6, .int x_1934), (7, .int x_1935)]) hx hb dX7_known_138 hl (k := 8) rfl ex_1942.symm (by decide +kernel) rfl (fun ls hl => ?_)
            refine lv_goto (tgt := 23) hx hb dX7_known_141 (by decide +kernel) ?_
            exact ih_1742 x_1932 x_1933 x_1934 x_1935 x_1942 _ _ _ (rg_w h_1941 (by decide +kernel)) (rg_w h_1943 (by decide +kernel)) (ms_up 1 hm_1739 ex_1942 rfl (by decide +kernel) h_1911 (by decide +kernel) (by decide +kernel)) hF hFr hG hP hD hS (lv_sub hl [1, 2, 3, 4, 5, 6, 7, 8, 0] rfl)
          refine lv_icmp_ne (tgt := 138) hx hb dX7_known_40 (by decide +kernel) (fun c_1944 => ?_) (fun c_1944 => ?_)
          · replace hF := hF.trans (if_neg c_1944)
            exact K_1939 x_1638 x_1639 x_1640 x_1641 _ _ _ (rg_w h_1745 (by decide +kernel)) hF hFr hG hP hD hS (lv_sub hl [0, 1, 2, 3, 4, 5, 6, 7, 8] rfl)
          · replace hF := hF.trans (if_pos c_1944)
            refine lv_aload_n hx hb dX7_known_43 rfl (lv_at hl 0 rfl) ?_
            obtain ⟨w_1945, hR_w_1945, hL_w_1945, hK_w_1945, hN_w_1945, hT_w_1945⟩ := sh_a hSH 228 (ci := 7) (kd := 13) (len := 200) rfl (by decide +kernel) hL_this hK_this
            have hO_w_1945 : w_1945 = vrow σ 228 M := vo_k (c := 7) hO_this hR_w_1945
            refine pg_f (v := .ref w_1945) (C := RX7) (T := TX7) (N := 15) hx hb hts (tw_i inlX7) hown hK hP hL_this hK_this (by decide +kernel) rfl 4 (by decide +kernel) (hts _ (tw_c tw_64)) (pq_hv rfl hR_w_1945) dX7_known_44 ?_
            refine lv_iload hx hb dX7_known_47 (lv_at hl 8 rfl) ?_
            refine pl_i hx hb hK hP hL_w_1945 hK_w_1945 hN_w_1945 (rg_in h_1911 (by decide +kernel)) dX7_known_49 ?_
            refine lv_topi (fun x_1946 ex_1946 => ?_)
            replace hF := hF.trans (ap_n (vR_r hO_w_1945 (by decide +kernel) ex_1946))
            refine lv_iload_n hx hb dX7_known_50 rfl (lv_at hl 3 rfl) ?_
            refine lv_icmp_gt (tgt := 138) hx hb dX7_known_51 (by decide +kernel) (fun c_1947 => ?_) (fun c_1947 => ?_)
            · replace hF := hF.trans (if_pos c_1947)
              have h_1950 : rg a2 (-2147483648) 2147483646 := rg_lt1 c_1947 (rg_full _) (rg_full _) (by decide +kernel)
              have h_1951 : rg x_1946 (-2147483647) 2147483647 := rg_lt2 c_1947 (rg_full _) (rg_full _) (by decide +kernel)
              exact K_1939 x_1638 x_1639 x_1640 x_1641 _ _ _ (rg_w h_1745 (by decide +kernel)) hF hFr hG hP hD hS (lv_sub hl [0, 1, 2, 3, 4, 5, 6, 7, 8] rfl)
            · replace hF := hF.trans (if_neg c_1947)
              refine lv_iload hx hb dX7_known_54 (lv_at hl 7 rfl) ?_
              refine lv_aload_n hx hb dX7_known_56 rfl (lv_at hl 0 rfl) ?_
              obtain ⟨w_1952, hR_w_1952, hL_w_1952, hK_w_1952, hN_w_1952, hT_w_1952⟩ := sh_a hSH 227 (ci := 7) (kd := 13) (len := 200) rfl (by decide +kernel) hL_this hK_this
              have hO_w_1952 : w_1952 = vrow σ 227 M := vo_k (c := 7) hO_this hR_w_1952
              refine pg_f (v := .ref w_1952) (C := RX7) (T := TX7) (N := 15) hx hb hts (tw_i inlX7) hown hK hP hL_this hK_this (by decide +kernel) rfl 3 (by decide +kernel) (hts _ (tw_c tw_63)) (pq_hv rfl hR_w_1952) dX7_known_57 ?_
              refine lv_iload hx hb dX7_known_60 (lv_at hl 8 rfl) ?_
              refine pl_i hx hb hK hP hL_w_1952 hK_w_1952 hN_w_1952 (rg_in h_1911 (by decide +kernel)) dX7_known_62 ?_
              refine lv_topi (fun x_1953 ex_1953 => ?_)
              replace hF := hF.trans (ap_n (vR_r hO_w_1952 (by decide +kernel) ex_1953))
              refine va_mmax hx hb (hml.trans hl.1.symm) hown (hts _ (tw_c tw_274)) (hts _ (tw_c tw_275)) (hts _ (tw_c tw_276)) (hts _ (tw_c tw_277)) (Nat.le_of_ble_eq_true rfl) (Nat.le_of_ble_eq_true rfl) (Nat.zero_le _) (Nat.zero_le _) dX7_known_63 ?_
              refine lv_topi (fun x_1954 ex_1954 => ?_)
              replace hF := hF.trans (ap_n ex_1954)
              have h_1955 : rg x_1954 (-6000) 2147483647 := rg_of_eq ex_1954 (rg_max2 h_1745 (rg_full _) (by decide +kernel))
              refine lv_istore (lv' := [(7, .int x_1954), (0, .ref this), (1, .int a0), (2, .int a1), (3, .int a2), (4, .int x_1638), (5, .int x_1639), (6, .int x_1640), (8, .int x_1642)]) hx hb dX7_known_66 hl (by decide +kernel) rfl (fun ls hl => ?_)
              refine lv_aload_n hx hb dX7_known_68 rfl (lv_at hl 1 rfl) ?_
              obtain ⟨w_1956, hR_w_1956, hL_w_1956, hK_w_1956, hN_w_1956, hT_w_1956⟩ := sh_a hSH 226 (ci := 7) (kd := 13) (len := 200) rfl (by decide +kernel) hL_this hK_this
              have hO_w_1956 : w_1956 = vrow σ 226 M := vo_k (c := 7) hO_this hR_w_1956
              refine pg_f (v := .ref w_1956) (C := RX7) (T := TX7) (N := 15) hx hb hts (tw_i inlX7) hown hK hP hL_this hK_this (by decide +kernel) rfl 2 (by decide +kernel) (hts _ (tw_c tw_62)) (pq_hv rfl hR_w_1956) dX7_known_69 ?_
              refine lv_iload hx hb dX7_known_72 (lv_at hl 8 rfl) ?_
              refine pl_i hx hb hK hP hL_w_1956 hK_w_1956 hN_w_1956 (rg_in h_1911 (by decide +kernel)) dX7_known_74 ?_
              refine lv_topi (fun x_1957 ex_1957 => ?_)
              replace hF := hF.trans (ap_n (vR_r hO_w_1956 (by decide +kernel) ex_1957))
              refine lv_iload_n hx hb dX7_known_75 rfl (lv_at hl 3 rfl) ?_
              refine lv_icmp_ne (tgt := 91) hx hb dX7_known_76 (by decide +kernel) (fun c_1958 => ?_) (fun c_1958 => ?_)
              · replace hF := hF.trans (if_neg c_1958)
                refine lv_aload_n hx hb dX7_known_91 rfl (lv_at hl 1 rfl) ?_
                refine pg_f (v := .ref w_1956) (C := RX7) (T := TX7) (N := 15) hx hb hts (tw_i inlX7) hown hK hP hL_this hK_this (by decide +kernel) rfl 2 (by decide +kernel) (hts _ (tw_c tw_62)) (pq_hv rfl hR_w_1956) dX7_known_92 ?_
                refine lv_iload hx hb dX7_known_95 (lv_at hl 8 rfl) ?_
                refine pl_i hx hb hK hP hL_w_1956 hK_w_1956 hN_w_1956 (rg_in h_1911 (by decide +kernel)) dX7_known_97 ?_
                refine lv_tov x_1957 ex_1957.symm ?_
                refine lv_iload_n hx hb dX7_known_98 rfl (lv_at hl 3 rfl) ?_
                refine lv_iconst (v := 1) hx hb dX7_known_99 (by decide +kernel) ?_
                refine lv_isub hx hb dX7_known_100 ?_
                refine lv_topi (fun x_1959 ex_1959 => ?_)
                replace hF := hF.trans (ap_n ex_1959)
                refine lv_icmp_ne (tgt := 116) hx hb dX7_known_101 (by decide +kernel) (fun c_1960 => ?_) (fun c_1960 => ?_)
                · replace hF := hF.trans (if_neg c_1960)
                  refine lv_aload_n hx hb dX7_known_116 rfl (lv_at hl 1 rfl) ?_
                  refine pg_f (v := .ref w_1956) (C := RX7) (T := TX7) (N := 15) hx hb hts (tw_i inlX7) hown hK hP hL_this hK_this (by decide +kernel) rfl 2 (by decide +kernel) (hts _ (tw_c tw_62)) (pq_hv rfl hR_w_1956) dX7_known_117 ?_
                  refine lv_iload hx hb dX7_known_120 (lv_at hl 8 rfl) ?_
                  refine pl_i hx hb hK hP hL_w_1956 hK_w_1956 hN_w_1956 (rg_in h_1911 (by decide +kernel)) dX7_known_122 ?_
                  refine lv_tov x_1957 ex_1957.symm ?_
                  refine lv_iload_n hx hb dX7_known_123 rfl (lv_at hl 3 rfl) ?_
                  refine lv_iconst (v := 1) hx hb dX7_known_124 (by decide +kernel) ?_
                  refine lv_iadd hx hb dX7_known_125 ?_
                  refine lv_topi (fun x_1961 ex_1961 => ?_)
                  replace hF := hF.trans (ap_n ex_1961)
                  refine lv_icmp_ne (tgt := 138) hx hb dX7_known_126 (by decide +kernel) (fun c_1962 => ?_) (fun c_1962 => ?_)
                  · replace hF := hF.trans (if_neg c_1962)
                    exact K_1939 x_1638 x_1639 x_1640 x_1954 _ _ _ (rg_w h_1955 (by decide +kernel)) hF hFr hG hP hD hS (lv_sub hl [1, 2, 3, 4, 5, 6, 7, 0, 8] rfl)
                  · replace hF := hF.trans (if_pos c_1962)
                    refine lv_aload_n hx hb dX7_known_129 rfl (lv_at hl 1 rfl) ?_
                    refine pg_f (v := .ref w_1952) (C := RX7) (T := TX7) (N := 15) hx hb hts (tw_i inlX7) hown hK hP hL_this hK_this (by decide +kernel) rfl 3 (by decide +kernel) (hts _ (tw_c tw_63)) (pq_hv rfl hR_w_1952) dX7_known_130 ?_
                    refine lv_iload hx hb dX7_known_133 (lv_at hl 8 rfl) ?_
                    refine pl_i hx hb hK hP hL_w_1952 hK_w_1952 hN_w_1952 (rg_in h_1911 (by decide +kernel)) dX7_known_135 ?_
                    refine lv_tov x_1953 ex_1953.symm ?_
                    refine lv_istore (lv' := [(6, .int x_1953), (7, .int x_1954), (0, .ref this), (1, .int a0), (2, .int a1), (3, .int a2), (4, .int x_1638), (5, .int x_1639), (8, .int x_1642)]) hx hb dX7_known_136 hl (by decide +kernel) rfl (fun ls hl => ?_)
                    exact K_1939 x_1638 x_1639 x_1953 x_1954 _ _ _ (rg_w h_1955 (by decide +kernel)) hF hFr hG hP hD hS (lv_sub hl [2, 3, 4, 5, 6, 7, 0, 1, 8] rfl)
                · replace hF := hF.trans (if_pos c_1960)
                  refine lv_aload_n hx hb dX7_known_104 rfl (lv_at hl 1 rfl) ?_
                  refine pg_f (v := .ref w_1952) (C := RX7) (T := TX7) (N := 15) hx hb hts (tw_i inlX7) hown hK hP hL_this hK_this (by decide +kernel) rfl 3 (by decide +kernel) (hts _ (tw_c tw_63)) (pq_hv rfl hR_w_1952) dX7_known_105 ?_
                  refine lv_iload hx hb dX7_known_108 (lv_at hl 8 rfl) ?_
                  refine pl_i hx hb hK hP hL_w_1952 hK_w_1952 hN_w_1952 (rg_in h_1911 (by decide +kernel)) dX7_known_110 ?_
                  refine lv_tov x_1953 ex_1953.symm ?_
                  refine lv_istore (lv' := [(5, .int x_1953), (7, .int x_1954), (0, .ref this), (1, .int a0), (2, .int a1), (3, .int a2), (4, .int x_1638), (6, .int x_1640), (8, .int x_1642)]) hx hb dX7_known_111 hl (by decide +kernel) rfl (fun ls hl => ?_)
                  refine lv_goto (tgt := 138) hx hb dX7_known_113 (by decide +kernel) ?_
                  exact K_1939 x_1638 x_1953 x_1640 x_1954 _ _ _ (rg_w h_1955 (by decide +kernel)) hF hFr hG hP hD hS (lv_sub hl [2, 3, 4, 5, 6, 0, 7, 1, 8] rfl)
              · replace hF := hF.trans (if_pos c_1958)
                refine lv_aload_n hx hb dX7_known_79 rfl (lv_at hl 1 rfl) ?_
                refine pg_f (v := .ref w_1952) (C := RX7) (T := TX7) (N := 15) hx hb hts (tw_i inlX7) hown hK hP hL_this hK_this (by decide +kernel) rfl 3 (by decide +kernel) (hts _ (tw_c tw_63)) (pq_hv rfl hR_w_1952) dX7_known_80 ?_
                refine lv_iload hx hb dX7_known_83 (lv_at hl 8 rfl) ?_
                refine pl_i hx hb hK hP hL_w_1952 hK_w_1952 hN_w_1952 (rg_in h_1911 (by decide +kernel)) dX7_known_85 ?_
                refine lv_tov x_1953 ex_1953.symm ?_
                refine lv_istore (lv' := [(4, .int x_1953), (7, .int x_1954), (0, .ref this), (1, .int a0), (2, .int a1), (3, .int a2), (5, .int x_1639), (6, .int x_1640), (8, .int x_1642)]) hx hb dX7_known_86 hl (by decide +kernel) rfl (fun ls hl => ?_)
                refine lv_goto (tgt := 138) hx hb dX7_known_88 (by decide +kernel) ?_
                exact K_1939 x_1953 x_1639 x_1640 x_1954 _ _ _ (rg_w h_1955 (by decide +kernel)) hF hFr hG hP hD hS (lv_sub hl [2, 3, 4, 5, 0, 6, 7, 1, 8] rfl)
    exact L_1741 _ (-6000 : Int32) (-6000 : Int32) (-6000 : Int32) (-6000 : Int32) (0 : Int32) _ _ _ (rg_w (rg_k (-6000 : Int32) (-6000) rfl) (by decide +kernel)) (rg_w (rg_k (0 : Int32) 0 rfl) (by decide +kernel)) (Nat.lt_succ_self _) hF hFr hG hP hD hS (lv_sub hl [5, 6, 7, 8, 4, 3, 2, 1, 0] rfl)
  exact go _ _ _ hP hD hS hl
