theorem dX12_at_0 : decode cX12_at 0 = .ok (.aload_n 0, 1) := oc_42 (by decide +kernel)
theorem dX12_at_1 : decode cX12_at 1 = .ok (.iload_n 1, 1) := oc_27 (by decide +kernel)
theorem dX12_at_2 : decode cX12_at 2 = .ok (.invokevirtual 107, 3) := oc_182 (a := 0) (b := 107) (by decide +kernel)
theorem dX12_at_15 : decode cX12_at 15 = .ok (.aload_n 0, 1) := oc_42 (by decide +kernel)
theorem dX12_at_16 : decode cX12_at 16 = .ok (.iload_n 1, 1) := oc_27 (by decide +kernel)
theorem dX12_at_17 : decode cX12_at 17 = .ok (.invokevirtual 97, 3) := oc_182 (a := 0) (b := 97) (by decide +kernel)
theorem dX12_at_20 : decode cX12_at 20 = .ok (.goto 4, 3) := oc_167 (a := 0) (b := 4) (by decide +kernel)
theorem dX12_at_24 : decode cX12_at 24 = .ok (.ireturn, 1) := oc_172 (by decide +kernel)
theorem dX12_at_5 : decode cX12_at 5 = .ok (.ifCond .ne 10, 3) := oc_154 (a := 0) (b := 10) (by decide +kernel)
theorem dX12_at_8 : decode cX12_at 8 = .ok (.iload_n 1, 1) := oc_27 (by decide +kernel)
theorem dX12_at_9 : decode cX12_at 9 = .ok (.sipush 300, 3) := oc_17 (a := 1) (b := 44) (by decide +kernel)
theorem dX12_at_12 : decode cX12_at 12 = .ok (.if_icmp .ne 11, 3) := oc_160 (a := 0) (b := 11) (by decide +kernel)
theorem dX12_at_23 : decode cX12_at 23 = .ok (.iconst (-1), 1) := oc_2 (by decide +kernel)
theorem dX12_area_0 : decode cX12_area 0 = .ok (.aload_n 0, 1) := oc_42 (by decide +kernel)
theorem dX12_area_1 : decode cX12_area 1 = .ok (.getfield 7, 3) := oc_180 (a := 0) (b := 7) (by decide +kernel)
theorem dX12_area_4 : decode cX12_area 4 = .ok (.iconst 0, 1) := oc_3 (by decide +kernel)
theorem dX12_area_5 : decode cX12_area 5 = .ok (.iaload, 1) := oc_46 (by decide +kernel)
theorem dX12_area_6 : decode cX12_area 6 = .ok (.ifCond .ne 7, 3) := oc_154 (a := 0) (b := 7) (by decide +kernel)
theorem dX12_area_13 : decode cX12_area 13 = .ok (.aload_n 0, 1) := oc_42 (by decide +kernel)
theorem dX12_area_14 : decode cX12_area 14 = .ok (.getfield 7, 3) := oc_180 (a := 0) (b := 7) (by decide +kernel)
theorem dX12_area_17 : decode cX12_area 17 = .ok (.bipush 18, 2) := oc_16 (a := 18) (by decide +kernel)
theorem dX12_area_19 : decode cX12_area 19 = .ok (.iaload, 1) := oc_46 (by decide +kernel)
theorem dX12_area_20 : decode cX12_area 20 = .ok (.ireturn, 1) := oc_172 (by decide +kernel)
theorem dX12_area_9 : decode cX12_area 9 = .ok (.iconst (-1), 1) := oc_2 (by decide +kernel)
theorem dX12_area_10 : decode cX12_area 10 = .ok (.goto 10, 3) := oc_167 (a := 0) (b := 10) (by decide +kernel)
theorem dX12_choose_0 : decode cX12_choose 0 = .ok (.aload_n 0, 1) := oc_42 (by decide +kernel)
theorem dX12_choose_1 : decode cX12_choose 1 = .ok (.iload_n 1, 1) := oc_27 (by decide +kernel)
theorem dX12_choose_2 : decode cX12_choose 2 = .ok (.invokevirtual 104, 3) := oc_182 (a := 0) (b := 104) (by decide +kernel)
theorem dX12_choose_17 : decode cX12_choose 17 = .ok (.iconst 0, 1) := oc_3 (by decide +kernel)
theorem dX12_choose_18 : decode cX12_choose 18 = .ok (.ireturn, 1) := oc_172 (by decide +kernel)
theorem dX12_choose_5 : decode cX12_choose 5 = .ok (.ifCond .eq 12, 3) := oc_153 (a := 0) (b := 12) (by decide +kernel)
theorem dX12_choose_8 : decode cX12_choose 8 = .ok (.iload_n 2, 1) := oc_28 (by decide +kernel)
theorem dX12_choose_9 : decode cX12_choose 9 = .ok (.iconst (-1), 1) := oc_2 (by decide +kernel)
theorem dX12_choose_10 : decode cX12_choose 10 = .ok (.iconst 1, 1) := oc_4 (by decide +kernel)
theorem dX12_choose_11 : decode cX12_choose 11 = .ok (.invokestatic 62, 3) := oc_184 (a := 0) (b := 62) (by decide +kernel)
theorem dX12_choose_14 : decode cX12_choose 14 = .ok (.ifCond .ne 5, 3) := oc_154 (a := 0) (b := 5) (by decide +kernel)
theorem dX12_choose_19 : decode cX12_choose 19 = .ok (.aload_n 0, 1) := oc_42 (by decide +kernel)
theorem dX12_choose_20 : decode cX12_choose 20 = .ok (.getfield 7, 3) := oc_180 (a := 0) (b := 7) (by decide +kernel)
theorem dX12_choose_23 : decode cX12_choose 23 = .ok (.sipush 740, 3) := oc_17 (a := 2) (b := 228) (by decide +kernel)
theorem dX12_choose_26 : decode cX12_choose 26 = .ok (.bipush 12, 2) := oc_16 (a := 12) (by decide +kernel)
theorem dX12_choose_28 : decode cX12_choose 28 = .ok (.iload_n 1, 1) := oc_27 (by decide +kernel)
theorem dX12_choose_29 : decode cX12_choose 29 = .ok (.imul, 1) := oc_104 (by decide +kernel)
theorem dX12_choose_30 : decode cX12_choose 30 = .ok (.iadd, 1) := oc_96 (by decide +kernel)
theorem dX12_choose_31 : decode cX12_choose 31 = .ok (.bipush 8, 2) := oc_16 (a := 8) (by decide +kernel)
theorem dX12_choose_33 : decode cX12_choose 33 = .ok (.iadd, 1) := oc_96 (by decide +kernel)
theorem dX12_choose_34 : decode cX12_choose 34 = .ok (.iload_n 2, 1) := oc_28 (by decide +kernel)
theorem dX12_choose_35 : decode cX12_choose 35 = .ok (.iastore, 1) := oc_79 (by decide +kernel)
theorem dX12_choose_36 : decode cX12_choose 36 = .ok (.iconst 1, 1) := oc_4 (by decide +kernel)
theorem dX12_choose_37 : decode cX12_choose 37 = .ok (.ireturn, 1) := oc_172 (by decide +kernel)
theorem dX12_council_0 : decode cX12_council 0 = .ok (.lload_n 1, 1) := oc_31 (by decide +kernel)
theorem dX12_council_1 : decode cX12_council 1 = .ok (.lconst 0, 1) := oc_9 (by decide +kernel)
theorem dX12_council_2 : decode cX12_council 2 = .ok (.lcmp, 1) := oc_148 (by decide +kernel)
theorem dX12_council_19 : decode cX12_council 19 = .ok (.iconst (-1), 1) := oc_2 (by decide +kernel)
theorem dX12_council_20 : decode cX12_council 20 = .ok (.ireturn, 1) := oc_172 (by decide +kernel)
theorem dX12_council_3 : decode cX12_council 3 = .ok (.ifCond .lt 16, 3) := oc_155 (a := 0) (b := 16) (by decide +kernel)
theorem dX12_council_6 : decode cX12_council 6 = .ok (.lload_n 1, 1) := oc_31 (by decide +kernel)
theorem dX12_council_7 : decode cX12_council 7 = .ok (.aload_n 0, 1) := oc_42 (by decide +kernel)
theorem dX12_council_8 : decode cX12_council 8 = .ok (.getfield 7, 3) := oc_180 (a := 0) (b := 7) (by decide +kernel)
theorem dX12_council_11 : decode cX12_council 11 = .ok (.iconst 5, 1) := oc_8 (by decide +kernel)
theorem dX12_council_12 : decode cX12_council 12 = .ok (.iaload, 1) := oc_46 (by decide +kernel)
theorem dX12_council_13 : decode cX12_council 13 = .ok (.lshr, 1) := oc_123 (by decide +kernel)
theorem dX12_council_14 : decode cX12_council 14 = .ok (.lconst 0, 1) := oc_9 (by decide +kernel)
theorem dX12_council_15 : decode cX12_council 15 = .ok (.lcmp, 1) := oc_148 (by decide +kernel)
theorem dX12_council_16 : decode cX12_council 16 = .ok (.ifCond .eq 5, 3) := oc_153 (a := 0) (b := 5) (by decide +kernel)
theorem dX12_council_21 : decode cX12_council 21 = .ok (.aload_n 0, 1) := oc_42 (by decide +kernel)
theorem dX12_council_22 : decode cX12_council 22 = .ok (.getfield 7, 3) := oc_180 (a := 0) (b := 7) (by decide +kernel)
theorem dX12_council_25 : decode cX12_council 25 = .ok (.iconst 0, 1) := oc_3 (by decide +kernel)
theorem dX12_council_26 : decode cX12_council 26 = .ok (.iaload, 1) := oc_46 (by decide +kernel)
theorem dX12_council_27 : decode cX12_council 27 = .ok (.istore_n 3, 1) := oc_62 (by decide +kernel)
theorem dX12_council_28 : decode cX12_council 28 = .ok (.iconst 0, 1) := oc_3 (by decide +kernel)
theorem dX12_council_29 : decode cX12_council 29 = .ok (.istore 4, 2) := oc_54 (by decide +kernel)
theorem dX12_council_31 : decode cX12_council 31 = .ok (.iconst 0, 1) := oc_3 (by decide +kernel)
theorem dX12_council_32 : decode cX12_council 32 = .ok (.istore 5, 2) := oc_54 (by decide +kernel)
theorem dX12_council_34 : decode cX12_council 34 = .ok (.iconst 0, 1) := oc_3 (by decide +kernel)
theorem dX12_council_35 : decode cX12_council 35 = .ok (.istore 6, 2) := oc_54 (by decide +kernel)
theorem dX12_council_37 : decode cX12_council 37 = .ok (.iconst 0, 1) := oc_3 (by decide +kernel)
theorem dX12_council_38 : decode cX12_council 38 = .ok (.istore 7, 2) := oc_54 (by decide +kernel)
theorem dX12_council_40 : decode cX12_council 40 = .ok (.iload 7, 2) := oc_21 (by decide +kernel)
theorem dX12_council_42 : decode cX12_council 42 = .ok (.aload_n 0, 1) := oc_42 (by decide +kernel)
theorem dX12_council_43 : decode cX12_council 43 = .ok (.getfield 7, 3) := oc_180 (a := 0) (b := 7) (by decide +kernel)
theorem dX12_council_46 : decode cX12_council 46 = .ok (.iconst 5, 1) := oc_8 (by decide +kernel)
theorem dX12_council_47 : decode cX12_council 47 = .ok (.iaload, 1) := oc_46 (by decide +kernel)
theorem dX12_council_48 : decode cX12_council 48 = .ok (.if_icmp .ge 104, 3) := oc_162 (a := 0) (b := 104) (by decide +kernel)
theorem dX12_council_152 : decode cX12_council 152 = .ok (.bipush 100, 2) := oc_16 (a := 100) (by decide +kernel)
theorem dX12_council_154 : decode cX12_council 154 = .ok (.iload 5, 2) := oc_21 (by decide +kernel)
theorem dX12_council_156 : decode cX12_council 156 = .ok (.imul, 1) := oc_104 (by decide +kernel)
theorem dX12_council_157 : decode cX12_council 157 = .ok (.aload_n 0, 1) := oc_42 (by decide +kernel)
theorem dX12_council_158 : decode cX12_council 158 = .ok (.bipush 7, 2) := oc_16 (a := 7) (by decide +kernel)
theorem dX12_council_160 : decode cX12_council 160 = .ok (.iload_n 3, 1) := oc_29 (by decide +kernel)
theorem dX12_council_161 : decode cX12_council 161 = .ok (.bipush 50, 2) := oc_16 (a := 50) (by decide +kernel)
theorem dX12_council_163 : decode cX12_council 163 = .ok (.invokevirtual 304, 3) := oc_182 (a := 1) (b := 48) (by decide +kernel)
theorem dX12_council_166 : decode cX12_council 166 = .ok (.iload 4, 2) := oc_21 (by decide +kernel)
theorem dX12_council_168 : decode cX12_council 168 = .ok (.imul, 1) := oc_104 (by decide +kernel)
theorem dX12_council_169 : decode cX12_council 169 = .ok (.if_icmp .ge 5, 3) := oc_162 (a := 0) (b := 5) (by decide +kernel)
theorem dX12_council_174 : decode cX12_council 174 = .ok (.iload 6, 2) := oc_21 (by decide +kernel)
theorem dX12_council_176 : decode cX12_council 176 = .ok (.ifCond .le 7, 3) := oc_158 (a := 0) (b := 7) (by decide +kernel)
theorem dX12_council_183 : decode cX12_council 183 = .ok (.iconst 0, 1) := oc_3 (by decide +kernel)
theorem dX12_council_184 : decode cX12_council 184 = .ok (.ireturn, 1) := oc_172 (by decide +kernel)
theorem dX12_council_179 : decode cX12_council 179 = .ok (.iconst 1, 1) := oc_4 (by decide +kernel)
theorem dX12_council_180 : decode cX12_council 180 = .ok (.goto 4, 3) := oc_167 (a := 0) (b := 4) (by decide +kernel)
theorem dX12_council_172 : decode cX12_council 172 = .ok (.iconst 2, 1) := oc_5 (by decide +kernel)
theorem dX12_council_173 : decode cX12_council 173 = .ok (.ireturn, 1) := oc_172 (by decide +kernel)
theorem dX12_council_51 : decode cX12_council 51 = .ok (.aload_n 0, 1) := oc_42 (by decide +kernel)
theorem dX12_council_52 : decode cX12_council 52 = .ok (.iload 7, 2) := oc_21 (by decide +kernel)
theorem dX12_council_54 : decode cX12_council 54 = .ok (.iconst 3, 1) := oc_6 (by decide +kernel)
theorem dX12_council_55 : decode cX12_council 55 = .ok (.invokevirtual 94, 3) := oc_182 (a := 0) (b := 94) (by decide +kernel)
theorem dX12_council_58 : decode cX12_council 58 = .ok (.sipush 300, 3) := oc_17 (a := 1) (b := 44) (by decide +kernel)
theorem dX12_council_146 : decode cX12_council 146 = .ok (.iinc 7 1, 3) := oc_132 (b := 1) (by decide +kernel)
theorem dX12_council_149 : decode cX12_council 149 = .ok (.goto (-109), 3) := oc_167 (a := 255) (b := 147) (by decide +kernel)
theorem dX12_council_61 : decode cX12_council 61 = .ok (.if_icmp .eq 85, 3) := oc_159 (a := 0) (b := 85) (by decide +kernel)
theorem dX12_council_64 : decode cX12_council 64 = .ok (.aload_n 0, 1) := oc_42 (by decide +kernel)
theorem dX12_council_65 : decode cX12_council 65 = .ok (.iconst 2, 1) := oc_5 (by decide +kernel)
theorem dX12_council_66 : decode cX12_council 66 = .ok (.iload 7, 2) := oc_21 (by decide +kernel)
theorem dX12_council_68 : decode cX12_council 68 = .ok (.iload_n 3, 1) := oc_29 (by decide +kernel)
theorem dX12_council_69 : decode cX12_council 69 = .ok (.invokevirtual 301, 3) := oc_182 (a := 1) (b := 45) (by decide +kernel)
theorem dX12_council_72 : decode cX12_council 72 = .ok (.ifCond .eq 74, 3) := oc_153 (a := 0) (b := 74) (by decide +kernel)
theorem dX12_council_75 : decode cX12_council 75 = .ok (.aload_n 0, 1) := oc_42 (by decide +kernel)
theorem dX12_council_76 : decode cX12_council 76 = .ok (.iconst 4, 1) := oc_7 (by decide +kernel)
theorem dX12_council_77 : decode cX12_council 77 = .ok (.iload 7, 2) := oc_21 (by decide +kernel)
theorem dX12_council_79 : decode cX12_council 79 = .ok (.iload_n 3, 1) := oc_29 (by decide +kernel)
theorem dX12_council_80 : decode cX12_council 80 = .ok (.invokevirtual 301, 3) := oc_182 (a := 1) (b := 45) (by decide +kernel)
theorem dX12_council_83 : decode cX12_council 83 = .ok (.ifCond .ne 6, 3) := oc_154 (a := 0) (b := 6) (by decide +kernel)
theorem dX12_council_89 : decode cX12_council 89 = .ok (.iinc 4 1, 3) := oc_132 (b := 1) (by decide +kernel)
theorem dX12_council_92 : decode cX12_council 92 = .ok (.lload_n 1, 1) := oc_31 (by decide +kernel)
theorem dX12_council_93 : decode cX12_council 93 = .ok (.iload 7, 2) := oc_21 (by decide +kernel)
theorem dX12_council_95 : decode cX12_council 95 = .ok (.lshr, 1) := oc_123 (by decide +kernel)
theorem dX12_council_96 : decode cX12_council 96 = .ok (.lconst 1, 1) := oc_10 (by decide +kernel)
theorem dX12_council_97 : decode cX12_council 97 = .ok (.land, 1) := oc_127 (by decide +kernel)
theorem dX12_council_98 : decode cX12_council 98 = .ok (.lconst 0, 1) := oc_9 (by decide +kernel)
theorem dX12_council_99 : decode cX12_council 99 = .ok (.lcmp, 1) := oc_148 (by decide +kernel)
theorem dX12_council_100 : decode cX12_council 100 = .ok (.ifCond .ne 6, 3) := oc_154 (a := 0) (b := 6) (by decide +kernel)
theorem dX12_council_106 : decode cX12_council 106 = .ok (.iinc 5 1, 3) := oc_132 (b := 1) (by decide +kernel)
theorem dX12_council_109 : decode cX12_council 109 = .ok (.iload 6, 2) := oc_21 (by decide +kernel)
theorem dX12_council_111 : decode cX12_council 111 = .ok (.aload_n 0, 1) := oc_42 (by decide +kernel)
theorem dX12_council_112 : decode cX12_council 112 = .ok (.iload 7, 2) := oc_21 (by decide +kernel)
theorem dX12_council_114 : decode cX12_council 114 = .ok (.bipush 8, 2) := oc_16 (a := 8) (by decide +kernel)
theorem dX12_council_116 : decode cX12_council 116 = .ok (.invokevirtual 94, 3) := oc_182 (a := 0) (b := 94) (by decide +kernel)
theorem dX12_council_119 : decode cX12_council 119 = .ok (.iconst 1, 1) := oc_4 (by decide +kernel)
theorem dX12_council_143 : decode cX12_council 143 = .ok (.iadd, 1) := oc_96 (by decide +kernel)
theorem dX12_council_144 : decode cX12_council 144 = .ok (.istore 6, 2) := oc_54 (by decide +kernel)
theorem dX12_council_120 : decode cX12_council 120 = .ok (.if_icmp .ne 7, 3) := oc_160 (a := 0) (b := 7) (by decide +kernel)
theorem dX12_council_127 : decode cX12_council 127 = .ok (.aload_n 0, 1) := oc_42 (by decide +kernel)
theorem dX12_council_128 : decode cX12_council 128 = .ok (.iload 7, 2) := oc_21 (by decide +kernel)
theorem dX12_council_130 : decode cX12_council 130 = .ok (.bipush 8, 2) := oc_16 (a := 8) (by decide +kernel)
theorem dX12_council_132 : decode cX12_council 132 = .ok (.invokevirtual 94, 3) := oc_182 (a := 0) (b := 94) (by decide +kernel)
theorem dX12_council_135 : decode cX12_council 135 = .ok (.ifCond .ne 7, 3) := oc_154 (a := 0) (b := 7) (by decide +kernel)
theorem dX12_council_142 : decode cX12_council 142 = .ok (.iconst 0, 1) := oc_3 (by decide +kernel)
theorem dX12_council_138 : decode cX12_council 138 = .ok (.iconst (-1), 1) := oc_2 (by decide +kernel)
theorem dX12_council_139 : decode cX12_council 139 = .ok (.goto 4, 3) := oc_167 (a := 0) (b := 4) (by decide +kernel)
theorem dX12_council_123 : decode cX12_council 123 = .ok (.iconst 1, 1) := oc_4 (by decide +kernel)
theorem dX12_council_124 : decode cX12_council 124 = .ok (.goto 19, 3) := oc_167 (a := 0) (b := 19) (by decide +kernel)
theorem dX12_council_103 : decode cX12_council 103 = .ok (.goto 43, 3) := oc_167 (a := 0) (b := 43) (by decide +kernel)
theorem dX12_council_86 : decode cX12_council 86 = .ok (.goto 60, 3) := oc_167 (a := 0) (b := 60) (by decide +kernel)
theorem dX12_sinks_0 : decode cX12_sinks 0 = .ok (.aload_n 0, 1) := oc_42 (by decide +kernel)
theorem dX12_sinks_1 : decode cX12_sinks 1 = .ok (.iload_n 1, 1) := oc_27 (by decide +kernel)
theorem dX12_sinks_2 : decode cX12_sinks 2 = .ok (.invokevirtual 88, 3) := oc_182 (a := 0) (b := 88) (by decide +kernel)
theorem dX12_sinks_19 : decode cX12_sinks 19 = .ok (.iconst (-1), 1) := oc_2 (by decide +kernel)
theorem dX12_sinks_20 : decode cX12_sinks 20 = .ok (.ireturn, 1) := oc_172 (by decide +kernel)
theorem dX12_sinks_5 : decode cX12_sinks 5 = .ok (.ifCond .eq 14, 3) := oc_153 (a := 0) (b := 14) (by decide +kernel)
theorem dX12_sinks_8 : decode cX12_sinks 8 = .ok (.aload_n 0, 1) := oc_42 (by decide +kernel)
theorem dX12_sinks_9 : decode cX12_sinks 9 = .ok (.iload_n 3, 1) := oc_29 (by decide +kernel)
theorem dX12_sinks_10 : decode cX12_sinks 10 = .ok (.bipush 60, 2) := oc_16 (a := 60) (by decide +kernel)
theorem dX12_sinks_12 : decode cX12_sinks 12 = .ok (.iload_n 2, 1) := oc_28 (by decide +kernel)
theorem dX12_sinks_13 : decode cX12_sinks 13 = .ok (.invokevirtual 369, 3) := oc_182 (a := 1) (b := 113) (by decide +kernel)
theorem dX12_sinks_16 : decode cX12_sinks 16 = .ok (.ifCond .ne 5, 3) := oc_154 (a := 0) (b := 5) (by decide +kernel)
theorem dX12_sinks_21 : decode cX12_sinks 21 = .ok (.aload_n 0, 1) := oc_42 (by decide +kernel)
theorem dX12_sinks_22 : decode cX12_sinks 22 = .ok (.getfield 7, 3) := oc_180 (a := 0) (b := 7) (by decide +kernel)
theorem dX12_sinks_25 : decode cX12_sinks 25 = .ok (.aload_n 0, 1) := oc_42 (by decide +kernel)
theorem tw_178 : Cond.fieldLink RX12 16 "RingsUnderModel" "kept" "[I" ∈ wsL_law := sg_8 _ (List.mem_of_getElem? (i := 10) rfl)
theorem dX12_sinks_26 : decode cX12_sinks 26 = .ok (.getfield 16, 3) := oc_180 (a := 0) (b := 16) (by decide +kernel)
theorem tw_192 : Cond.methodLink RX12 58 yX12_copy ∈ wsL_law := sg_9 _ (List.mem_of_getElem? (i := 0) rfl)
theorem tw_193 : Cond.static yX12_copy ∈ wsL_law := sg_9 _ (List.mem_of_getElem? (i := 1) rfl)
theorem tw_194 : Cond.code yX12_copy cX12_copy 3 none ∈ wsL_law := sg_9 _ (List.mem_of_getElem? (i := 2) rfl)
theorem dX12_sinks_29 : decode cX12_sinks 29 = .ok (.invokestatic 58, 3) := oc_184 (a := 0) (b := 58) (by decide +kernel)
theorem dX12_sinks_32 : decode cX12_sinks 32 = .ok (.iconst (-1), 1) := oc_2 (by decide +kernel)
theorem dX12_sinks_33 : decode cX12_sinks 33 = .ok (.istore 4, 2) := oc_54 (by decide +kernel)
theorem dX12_sinks_35 : decode cX12_sinks 35 = .ok (.iconst 0, 1) := oc_3 (by decide +kernel)
theorem dX12_sinks_36 : decode cX12_sinks 36 = .ok (.istore 5, 2) := oc_54 (by decide +kernel)
theorem dX12_sinks_38 : decode cX12_sinks 38 = .ok (.iload 5, 2) := oc_21 (by decide +kernel)
theorem dX12_sinks_40 : decode cX12_sinks 40 = .ok (.iload_n 3, 1) := oc_29 (by decide +kernel)
theorem dX12_sinks_80 : decode cX12_sinks 80 = .ok (.aload_n 0, 1) := oc_42 (by decide +kernel)
theorem dX12_sinks_81 : decode cX12_sinks 81 = .ok (.getfield 16, 3) := oc_180 (a := 0) (b := 16) (by decide +kernel)
theorem dX12_sinks_84 : decode cX12_sinks 84 = .ok (.aload_n 0, 1) := oc_42 (by decide +kernel)
theorem dX12_sinks_85 : decode cX12_sinks 85 = .ok (.getfield 7, 3) := oc_180 (a := 0) (b := 7) (by decide +kernel)
theorem dX12_sinks_88 : decode cX12_sinks 88 = .ok (.invokestatic 58, 3) := oc_184 (a := 0) (b := 58) (by decide +kernel)
theorem dX12_sinks_91 : decode cX12_sinks 91 = .ok (.iload 4, 2) := oc_21 (by decide +kernel)
theorem dX12_sinks_93 : decode cX12_sinks 93 = .ok (.ireturn, 1) := oc_172 (by decide +kernel)
theorem dX12_sinks_41 : decode cX12_sinks 41 = .ok (.if_icmp .ge 39, 3) := oc_162 (a := 0) (b := 39) (by decide +kernel)
theorem dX12_sinks_44 : decode cX12_sinks 44 = .ok (.iload 4, 2) := oc_21 (by decide +kernel)
theorem dX12_sinks_46 : decode cX12_sinks 46 = .ok (.ifCond .ge 34, 3) := oc_156 (a := 0) (b := 34) (by decide +kernel)
theorem dX12_sinks_49 : decode cX12_sinks 49 = .ok (.aload_n 0, 1) := oc_42 (by decide +kernel)
theorem dX12_sinks_50 : decode cX12_sinks 50 = .ok (.iload_n 2, 1) := oc_28 (by decide +kernel)
theorem dX12_sinks_51 : decode cX12_sinks 51 = .ok (.invokevirtual 372, 3) := oc_182 (a := 1) (b := 116) (by decide +kernel)
theorem dX12_sinks_54 : decode cX12_sinks 54 = .ok (.aload_n 0, 1) := oc_42 (by decide +kernel)
theorem dX12_sinks_55 : decode cX12_sinks 55 = .ok (.iload_n 1, 1) := oc_27 (by decide +kernel)
theorem dX12_sinks_56 : decode cX12_sinks 56 = .ok (.bipush 12, 2) := oc_16 (a := 12) (by decide +kernel)
theorem dX12_sinks_58 : decode cX12_sinks 58 = .ok (.invokevirtual 91, 3) := oc_182 (a := 0) (b := 91) (by decide +kernel)
theorem dX12_sinks_74 : decode cX12_sinks 74 = .ok (.iinc 5 1, 3) := oc_132 (b := 1) (by decide +kernel)
theorem dX12_sinks_77 : decode cX12_sinks 77 = .ok (.goto (-39), 3) := oc_167 (a := 255) (b := 217) (by decide +kernel)
theorem dX12_sinks_61 : decode cX12_sinks 61 = .ok (.ifCond .ne 13, 3) := oc_154 (a := 0) (b := 13) (by decide +kernel)
theorem dX12_sinks_64 : decode cX12_sinks 64 = .ok (.aload_n 0, 1) := oc_42 (by decide +kernel)
theorem dX12_sinks_65 : decode cX12_sinks 65 = .ok (.getfield 7, 3) := oc_180 (a := 0) (b := 7) (by decide +kernel)
theorem dX12_sinks_68 : decode cX12_sinks 68 = .ok (.iconst 0, 1) := oc_3 (by decide +kernel)
theorem dX12_sinks_69 : decode cX12_sinks 69 = .ok (.iaload, 1) := oc_46 (by decide +kernel)
theorem dX12_sinks_70 : decode cX12_sinks 70 = .ok (.iconst 1, 1) := oc_4 (by decide +kernel)
theorem dX12_sinks_71 : decode cX12_sinks 71 = .ok (.isub, 1) := oc_100 (by decide +kernel)
theorem dX12_sinks_72 : decode cX12_sinks 72 = .ok (.istore 4, 2) := oc_54 (by decide +kernel)
theorem dX12_cant_0 : decode cX12_cant 0 = .ok (.aload_n 0, 1) := oc_42 (by decide +kernel)
theorem dX12_cant_1 : decode cX12_cant 1 = .ok (.iload_n 2, 1) := oc_28 (by decide +kernel)
theorem dX12_cant_2 : decode cX12_cant 2 = .ok (.bipush 60, 2) := oc_16 (a := 60) (by decide +kernel)
theorem dX12_cant_4 : decode cX12_cant 4 = .ok (.iload_n 1, 1) := oc_27 (by decide +kernel)
theorem dX12_cant_5 : decode cX12_cant 5 = .ok (.invokevirtual 369, 3) := oc_182 (a := 1) (b := 113) (by decide +kernel)
theorem dX12_cant_8 : decode cX12_cant 8 = .ok (.ifCond .ne 5, 3) := oc_154 (a := 0) (b := 5) (by decide +kernel)
theorem dX12_cant_13 : decode cX12_cant 13 = .ok (.aload_n 0, 1) := oc_42 (by decide +kernel)
theorem dX12_cant_14 : decode cX12_cant 14 = .ok (.getfield 7, 3) := oc_180 (a := 0) (b := 7) (by decide +kernel)
theorem dX12_cant_17 : decode cX12_cant 17 = .ok (.aload_n 0, 1) := oc_42 (by decide +kernel)
theorem dX12_cant_18 : decode cX12_cant 18 = .ok (.getfield 16, 3) := oc_180 (a := 0) (b := 16) (by decide +kernel)
theorem dX12_cant_21 : decode cX12_cant 21 = .ok (.invokestatic 58, 3) := oc_184 (a := 0) (b := 58) (by decide +kernel)
theorem dX12_cant_24 : decode cX12_cant 24 = .ok (.iconst (-1), 1) := oc_2 (by decide +kernel)
theorem dX12_cant_25 : decode cX12_cant 25 = .ok (.istore_n 3, 1) := oc_62 (by decide +kernel)
theorem dX12_cant_26 : decode cX12_cant 26 = .ok (.iconst 0, 1) := oc_3 (by decide +kernel)
theorem dX12_cant_27 : decode cX12_cant 27 = .ok (.istore 4, 2) := oc_54 (by decide +kernel)
theorem dX12_cant_29 : decode cX12_cant 29 = .ok (.iload 4, 2) := oc_21 (by decide +kernel)
theorem dX12_cant_31 : decode cX12_cant 31 = .ok (.iload_n 2, 1) := oc_28 (by decide +kernel)
theorem dX12_cant_67 : decode cX12_cant 67 = .ok (.aload_n 0, 1) := oc_42 (by decide +kernel)
theorem dX12_cant_68 : decode cX12_cant 68 = .ok (.getfield 16, 3) := oc_180 (a := 0) (b := 16) (by decide +kernel)
theorem dX12_cant_71 : decode cX12_cant 71 = .ok (.aload_n 0, 1) := oc_42 (by decide +kernel)
theorem dX12_cant_72 : decode cX12_cant 72 = .ok (.getfield 7, 3) := oc_180 (a := 0) (b := 7) (by decide +kernel)
theorem dX12_cant_75 : decode cX12_cant 75 = .ok (.invokestatic 58, 3) := oc_184 (a := 0) (b := 58) (by decide +kernel)
theorem dX12_cant_78 : decode cX12_cant 78 = .ok (.iload_n 3, 1) := oc_29 (by decide +kernel)
theorem dX12_cant_79 : decode cX12_cant 79 = .ok (.ireturn, 1) := oc_172 (by decide +kernel)
theorem dX12_cant_32 : decode cX12_cant 32 = .ok (.if_icmp .ge 35, 3) := oc_162 (a := 0) (b := 35) (by decide +kernel)
theorem dX12_cant_35 : decode cX12_cant 35 = .ok (.iload_n 3, 1) := oc_29 (by decide +kernel)
theorem dX12_cant_36 : decode cX12_cant 36 = .ok (.ifCond .ge 31, 3) := oc_156 (a := 0) (b := 31) (by decide +kernel)
theorem dX12_cant_39 : decode cX12_cant 39 = .ok (.aload_n 0, 1) := oc_42 (by decide +kernel)
theorem dX12_cant_40 : decode cX12_cant 40 = .ok (.iload_n 1, 1) := oc_27 (by decide +kernel)
theorem dX12_cant_41 : decode cX12_cant 41 = .ok (.invokevirtual 372, 3) := oc_182 (a := 1) (b := 116) (by decide +kernel)
theorem dX12_cant_44 : decode cX12_cant 44 = .ok (.aload_n 0, 1) := oc_42 (by decide +kernel)
theorem dX12_cant_45 : decode cX12_cant 45 = .ok (.getfield 325, 3) := oc_180 (a := 1) (b := 69) (by decide +kernel)
theorem dX12_cant_48 : decode cX12_cant 48 = .ok (.iconst 1, 1) := oc_4 (by decide +kernel)
theorem dX12_cant_61 : decode cX12_cant 61 = .ok (.iinc 4 1, 3) := oc_132 (b := 1) (by decide +kernel)
theorem dX12_cant_64 : decode cX12_cant 64 = .ok (.goto (-35), 3) := oc_167 (a := 255) (b := 221) (by decide +kernel)
theorem dX12_cant_49 : decode cX12_cant 49 = .ok (.if_icmp .ne 12, 3) := oc_160 (a := 0) (b := 12) (by decide +kernel)
theorem dX12_cant_52 : decode cX12_cant 52 = .ok (.aload_n 0, 1) := oc_42 (by decide +kernel)
theorem dX12_cant_53 : decode cX12_cant 53 = .ok (.getfield 7, 3) := oc_180 (a := 0) (b := 7) (by decide +kernel)
theorem dX12_cant_56 : decode cX12_cant 56 = .ok (.iconst 0, 1) := oc_3 (by decide +kernel)
theorem dX12_cant_57 : decode cX12_cant 57 = .ok (.iaload, 1) := oc_46 (by decide +kernel)
theorem dX12_cant_58 : decode cX12_cant 58 = .ok (.iconst 1, 1) := oc_4 (by decide +kernel)
theorem dX12_cant_59 : decode cX12_cant 59 = .ok (.isub, 1) := oc_100 (by decide +kernel)
theorem dX12_cant_60 : decode cX12_cant 60 = .ok (.istore_n 3, 1) := oc_62 (by decide +kernel)
theorem dX12_cant_11 : decode cX12_cant 11 = .ok (.iconst (-1), 1) := oc_2 (by decide +kernel)
theorem dX12_cant_12 : decode cX12_cant 12 = .ok (.ireturn, 1) := oc_172 (by decide +kernel)
set_option maxRecDepth 100000 in
def g_X12_at_K15 (a0 : Int32) (I : Nat → Int32) (J : Nat → Int64) (ri : Nat → Nat → Int32) (rj : Nat → Nat → Int64) (rq : Nat → Nat → Option Nat) : Int32 × vM := (bnI (g_X12_manyAt a0 I J ri rj rq) fun (x_32 : Int32) (_ : Nat → Int32) (_ : Nat → Int64) (_ : Nat → Nat → Int32) (_ : Nat → Nat → Int64) (_ : Nat → Nat → Option Nat) => (x_32, I, J, ri, rj, rq))
set_option maxRecDepth 100000 in
theorem g_X12_at_K15_e {a0 : Int32} {I : Nat → Int32} {J : Nat → Int64} {ri : Nat → Nat → Int32} {rj : Nat → Nat → Int64} {rq : Nat → Nat → Option Nat} : g_X12_at_K15 a0 I J ri rj rq  = (bnI (g_X12_manyAt a0 I J ri rj rq) fun (x_32 : Int32) (_ : Nat → Int32) (_ : Nat → Int64) (_ : Nat → Nat → Int32) (_ : Nat → Nat → Int64) (_ : Nat → Nat → Option Nat) => (x_32, I, J, ri, rj, rq)) := rfl
set_option maxRecDepth 100000 in
def g_X12_at (a0 : Int32) (I : Nat → Int32) (J : Nat → Int64) (ri : Nat → Nat → Int32) (rj : Nat → Nat → Int64) (rq : Nat → Nat → Option Nat) : Int32 × vM := (bnI (g_X12_isPlace a0 I J ri rj rq) fun (x_1 : Int32) (_ : Nat → Int32) (_ : Nat → Int64) (_ : Nat → Nat → Int32) (_ : Nat → Nat → Int64) (_ : Nat → Nat → Option Nat) => (if x_1 = (0 : Int32) then (if a0 = (300 : Int32) then (g_X12_at_K15 a0 I J ri rj rq ) else ((-1 : Int32), I, J, ri, rj, rq)) else (g_X12_at_K15 a0 I J ri rj rq )))
set_option maxRecDepth 100000 in
theorem g_X12_at_e {a0 : Int32} {I : Nat → Int32} {J : Nat → Int64} {ri : Nat → Nat → Int32} {rj : Nat → Nat → Int64} {rq : Nat → Nat → Option Nat} : g_X12_at a0 I J ri rj rq = (bnI (g_X12_isPlace a0 I J ri rj rq) fun (x_1 : Int32) (_ : Nat → Int32) (_ : Nat → Int64) (_ : Nat → Nat → Int32) (_ : Nat → Nat → Int64) (_ : Nat → Nat → Option Nat) => (if x_1 = (0 : Int32) then (if a0 = (300 : Int32) then (g_X12_at_K15 a0 I J ri rj rq ) else ((-1 : Int32), I, J, ri, rj, rq)) else (g_X12_at_K15 a0 I J ri rj rq ))) := rfl
set_option maxHeartbeats 4000000 in
set_option maxRecDepth 100000 in
theorem s_X12_at (l : Launch) (D : va_G) (t : pq_T) (σ : pq_S) (I : Nat → Nat → Int32) (J : Nat → Nat → Int64) (ri : Nat → Nat → Int32) (rj : Nat → Nat → Int64) (rq : Nat → Nat → Option Nat) (sz : Nat) (tg : Nat → Nat) (hSH : SH σ tg) (hG0 : GT tg I ri) (this : Nat) (a0 : Int32) (hL_this : this ∈ σ.1) (hK_this : σ.2.1 this = 12) : MetI l yX12_at (wa yX12_at cX12_at 2 (some .int)) ({ frames := 3, cells := 0, slots := 0, locals := 64 }) [.ref this, .int a0] D t σ (I, J, ri, rj, rq) sz 0 0 (fun (r : Int32) (u : pq_S × pq_M) => u = (σ, I, J, ri, rj, rq) ∧ g_X12_at a0 (vI 12 σ this I) (vJ 12 σ this J) (vR 12 σ this ri) (vL 12 σ this rj) (vQ 12 σ this rq) = (r, (vI 12 σ this I), (vJ 12 σ this J), (vR 12 σ this ri), (vL 12 σ this rj), (vQ 12 σ this rq))) := by
  refine Met.ofW (cc := cX12_at) (maxL := 2) (ret := (some .int)) (by decide +kernel) rfl ?_
  intro p e s m args below meth c s₁ B hml hv
  obtain ⟨rfl, hsz, hP, hK, hD0, hN⟩ := hv
  have hx := B.exec
  have hb := B.bytes
  have hr := B.returns
  have hts := atoms_spec (ws := (wa yX12_at cX12_at 2 (some .int))) B.pre
  have hown : s.vm.findClass RX12 = some m.cls := findClass_of_methodNamed B.named
  have hlocks := B.notSynchronized
  subst hsz
  have hD : va_D (pq_B t σ (I, J, ri, rj, rq) s.heap.size) (pq_P t σ (I, J, ri, rj, rq)) := hD0.self
  generalize hAe : pq_B t σ (I, J, ri, rj, rq) s.heap.size = A at hD ⊢
  have hA : ∀ q : Nat, s.heap.size ≤ q → A q := fun q h => by rw [← hAe]; exact Or.inr h
  have hS : va_S A s.heap s.heap [] := va_S.rf
  have hG : GM [] tg σ I ri I ri rq := ⟨hG0, fun _ _ _ => rfl, fun _ _ _ _ _ => rfl, fun _ _ _ _ _ _ => rfl⟩
  have hl := lv_entry ([.ref this, .int a0]) (n := 2) (Nat.le_of_ble_eq_true rfl)
  rw [lg_entry_eq]
  generalize (lg_sl ([.ref this, .int a0]) ++ List.replicate (2 - (lg_sl ([.ref this, .int a0])).length) Slot.unset).toArray = ls at hl ⊢
  have hl : lv_has ls 2 [(0, .ref this), (1, .int a0)] := hl
  refine q_gen (fun Q hQ => ?_)
  have go : ∀ (H : Heap) (locs : List Loc) (ls : Array Slot), va_P D vwCl (pq_P t σ (I, J, ri, rj, rq)) H → va_D A (pq_P t σ (I, J, ri, rj, rq)) → va_S A s.heap H locs → lv_has ls 2 [(0, .ref this), (1, .int a0)] → W p l e ({ frames := 3, cells := 0, slots := 0, locals := 64 } : Room) s m (List.toArray ([.ref this, .int a0] : List Value)) below meth c H locs 0 0 Q (F0 m 0 ls []) := by
    intro H locs ls hP hD hS hl
    have hO_this : this = vo σ 12 this := rfl
    have hVT : VT 12 σ tg this := vt_12 hSH hL_this hK_this
    have hFr : FR 12 tg σ this (I, J, ri, rj, rq) (I, J, ri, rj, rq) := fr_rf
    obtain ⟨F, hF0⟩ : ∃ F, F = g_X12_at a0 (vI 12 σ this I) (vJ 12 σ this J) (vR 12 σ this ri) (vL 12 σ this rj) (vQ 12 σ this rq) := ⟨_, rfl⟩
    have hF := hF0.trans g_X12_at_e
    refine lv_aload_n hx hb dX12_at_0 rfl (lv_at hl 0 rfl) ?_
    refine lv_iload_n hx hb dX12_at_1 rfl (lv_at hl 1 rfl) ?_
    refine pk_i (va_runV (As := [.int a0]) (rest := []) ⟨hx, hb, hml, hown, hts⟩ (s_X12_isPlace l D t σ I J ri rj rq H.size tg hSH hG.1 this a0 hL_this hK_this) (cwV 1 hts (tw_V tw_429 tw_430 tw_431 tw_5 tw_432) rfl rfl rfl cv_yX12_isPlace_1 ⟨Nat.le_of_ble_eq_true rfl, Nat.le_of_ble_eq_true rfl⟩) ⟨pq_blind, pq_recv hK hP hL_this hK_this (by decide +kernel) rfl, pq_pre hK hN hP hD⟩ rfl rfl hl.1 rfl (lv_room (Nat.le_of_ble_eq_true rfl)) dX12_at_2 ⟨Nat.le_of_ble_eq_true rfl, Nat.le_of_ble_eq_true rfl⟩) hD hS hA (fun x_1 σ1 μ1 H locs hw_2 hP hD hS => ?_)
    obtain ⟨hu_3, hfn_6, hr_5⟩ := hw_2
    obtain ⟨hu_3a, hu_3b⟩ := Prod.mk.inj hu_3
    rw [hu_3a, hu_3b] at hP hD
    replace hF := hF.trans (bn_n hfn_6)
    have h_8 : rg x_1 0 1 := by rcases hr_5 with ⟨q, -⟩ | ⟨q, -⟩ <;> rw [q] <;> exact ⟨by decide +kernel, by decide +kernel⟩
    have uh_8 := h_8.1
    have vh_8 := h_8.2
    have K_29 : ∀  (H : Heap) (locs : List Loc) (ls : Array Slot), rg (a0) 0 300 → F = g_X12_at_K15 a0 (vI 12 σ this I) (vJ 12 σ this J) (vR 12 σ this ri) (vL 12 σ this rj) (vQ 12 σ this rq)  → FR 12 tg σ this (I, J, ri, rj, rq) (I, J, ri, rj, rq) → GM [] tg σ I ri I ri rq → va_P D vwCl (pq_P t σ (I, J, ri, rj, rq)) H → va_D A (pq_P t σ (I, J, ri, rj, rq)) → va_S A s.heap H locs → lv_has ls 2 [(0, .ref this), (1, .int a0)] → W p l e ({ frames := 3, cells := 0, slots := 0, locals := 64 } : Room) s m (List.toArray ([.ref this, .int a0] : List Value)) below meth c H locs 0 0 Q (F0 m 15 ls []) := by
      intro H locs ls h_31 hF hFr hG hP hD hS hl
      have uh_31 := h_31.1
      have vh_31 := h_31.2
      replace hF := hF.trans g_X12_at_K15_e
      refine lv_aload_n hx hb dX12_at_15 rfl (lv_at hl 0 rfl) ?_
      refine lv_iload_n hx hb dX12_at_16 rfl (lv_at hl 1 rfl) ?_
      refine pk_i (va_runV (As := [.int a0]) (rest := []) ⟨hx, hb, hml, hown, hts⟩ (s_X12_manyAt l D t σ I J ri rj rq H.size tg hSH hG.1 this a0 hL_this hK_this) (cwV 1 hts (tw_V tw_445 tw_446 tw_447 tw_5 tw_448) rfl rfl rfl cv_yX12_manyAt_1 ⟨Nat.le_of_ble_eq_true rfl, Nat.le_of_ble_eq_true rfl⟩) ⟨pq_blind, pq_recv hK hP hL_this hK_this (by decide +kernel) rfl, pq_pre hK hN hP hD⟩ rfl rfl hl.1 rfl (lv_room (Nat.le_of_ble_eq_true rfl)) dX12_at_17 ⟨Nat.le_of_ble_eq_true rfl, Nat.le_of_ble_eq_true rfl⟩) hD hS hA (fun x_32 σ1 μ1 H locs hw_33 hP hD hS => ?_)
      obtain ⟨hu_34, hfn_37⟩ := hw_33
      obtain ⟨hu_34a, hu_34b⟩ := Prod.mk.inj hu_34
      rw [hu_34a, hu_34b] at hP hD
      replace hF := hF.trans (bn_n hfn_37)
      refine lv_goto (tgt := 24) hx hb dX12_at_20 (by decide +kernel) ?_
      subst hQ
      exact W.iret (v := x_32) hx hb hr (fun t1 ht hW => ⟨⟨x_32, (σ, I, J, ri, rj, rq), rfl, ⟨rfl, (hF0.symm.trans hF)⟩, by rw [ht]; exact hP, va_K.moved hW.alike hK, hD⟩, hS.F ht⟩) hS.2.2 dX12_at_24
    refine lv_if_ne (tgt := 15) hx hb dX12_at_5 (by decide +kernel) (fun c_39 => ?_) (fun c_39 => ?_)
    · replace hF := hF.trans (if_neg c_39)
      obtain ⟨f_47, f_48⟩ := (hr_5.resolve_right (fun q => c_39 q.1)).2
      have uf_47 := f_47.1
      have vf_47 := f_47.2
      have tc_49 : (x_1).toInt ≠ 0 := fun q => c_39 (Int32.toInt_inj.mp q)
      have h_50 : rg x_1 1 1 := rg_ne c_39 h_8 0 rfl (by decide +kernel)
      have uh_50 := h_50.1
      have vh_50 := h_50.2
      exact K_29 _ _ _ (rg_w f_47 (by decide +kernel)) hF hFr hG hP hD hS (lv_sub hl [0, 1] rfl)
    · replace hF := hF.trans (if_pos c_39)
      have f_51 := (hr_5.resolve_left (fun q => absurd (q.1.symm.trans c_39) (by decide +kernel))).2
      have tc_52 : (x_1).toInt = 0 := congrArg Int32.toInt c_39
      have h_53 : rg x_1 0 0 := rg_and h_8 (rg_of_eq c_39 (rg_k (0 : Int32) 0 rfl)) (by decide +kernel)
      have uh_53 := h_53.1
      have vh_53 := h_53.2
      refine lv_iload_n hx hb dX12_at_8 rfl (lv_at hl 1 rfl) ?_
      refine lv_sipush (v := 300) hx hb dX12_at_9 (by decide +kernel) ?_
      refine lv_icmp_ne (tgt := 23) hx hb dX12_at_12 (by decide +kernel) (fun c_54 => ?_) (fun c_54 => ?_)
      · replace hF := hF.trans (if_neg c_54)
        have tc_58 : (a0).toInt ≠ 300 := fun q => c_54 (Int32.toInt_inj.mp q)
        refine lv_iconst (v := (-1)) hx hb dX12_at_23 (by decide +kernel) ?_
        subst hQ
        exact W.iret (v := (-1)) hx hb hr (fun t1 ht hW => ⟨⟨(-1), (σ, I, J, ri, rj, rq), rfl, ⟨rfl, (hF0.symm.trans hF)⟩, by rw [ht]; exact hP, va_K.moved hW.alike hK, hD⟩, hS.F ht⟩) hS.2.2 dX12_at_24
      · replace hF := hF.trans (if_pos c_54)
        have tc_59 : (a0).toInt = 300 := congrArg Int32.toInt c_54
        have h_60 : rg a0 300 300 := rg_and (rg_full _) (rg_of_eq c_54 (rg_k (300 : Int32) 300 rfl)) (by decide +kernel)
        have uh_60 := h_60.1
        have vh_60 := h_60.2
        exact K_29 _ _ _ (rg_w h_60 (by decide +kernel)) hF hFr hG hP hD hS (lv_sub hl [0, 1] rfl)
  exact go _ _ _ hP hD hS hl

set_option maxRecDepth 100000 in
def g_X12_area (I : Nat → Int32) (J : Nat → Int64) (ri : Nat → Nat → Int32) (rj : Nat → Nat → Int64) (rq : Nat → Nat → Option Nat) : Int32 × vM := (ap1 (ri 384 0) fun (y_3 : Int32) => (if (y_3) = (0 : Int32) then ((-1 : Int32), I, J, ri, rj, rq) else (ap1 (ri 384 ((18 : Int32)).toNatClampNeg) fun (x_11 : Int32) => (x_11, I, J, ri, rj, rq))))
set_option maxRecDepth 100000 in
theorem g_X12_area_e {I : Nat → Int32} {J : Nat → Int64} {ri : Nat → Nat → Int32} {rj : Nat → Nat → Int64} {rq : Nat → Nat → Option Nat} : g_X12_area I J ri rj rq = (ap1 (ri 384 0) fun (y_3 : Int32) => (if (y_3) = (0 : Int32) then ((-1 : Int32), I, J, ri, rj, rq) else (ap1 (ri 384 ((18 : Int32)).toNatClampNeg) fun (x_11 : Int32) => (x_11, I, J, ri, rj, rq)))) := rfl
set_option maxHeartbeats 4000000 in
set_option maxRecDepth 100000 in
theorem s_X12_area (l : Launch) (D : va_G) (t : pq_T) (σ : pq_S) (I : Nat → Nat → Int32) (J : Nat → Nat → Int64) (ri : Nat → Nat → Int32) (rj : Nat → Nat → Int64) (rq : Nat → Nat → Option Nat) (sz : Nat) (tg : Nat → Nat) (hSH : SH σ tg) (hG0 : GT tg I ri) (this : Nat) (hL_this : this ∈ σ.1) (hK_this : σ.2.1 this = 12) : MetI l yX12_area (wa yX12_area cX12_area 1 (some .int)) ({ frames := 0, cells := 0, slots := 0, locals := 0 }) [.ref this] D t σ (I, J, ri, rj, rq) sz 0 0 (fun (r : Int32) (u : pq_S × pq_M) => u = (σ, I, J, ri, rj, rq) ∧ g_X12_area (vI 12 σ this I) (vJ 12 σ this J) (vR 12 σ this ri) (vL 12 σ this rj) (vQ 12 σ this rq) = (r, (vI 12 σ this I), (vJ 12 σ this J), (vR 12 σ this ri), (vL 12 σ this rj), (vQ 12 σ this rq))) := by
  refine Met.ofW (cc := cX12_area) (maxL := 1) (ret := (some .int)) (by decide +kernel) rfl ?_
  intro p e s m args below meth c s₁ B hml hv
  obtain ⟨rfl, hsz, hP, hK, hD0, hN⟩ := hv
  have hx := B.exec
  have hb := B.bytes
  have hr := B.returns
  have hts := atoms_spec (ws := (wa yX12_area cX12_area 1 (some .int))) B.pre
  have hown : s.vm.findClass RX12 = some m.cls := findClass_of_methodNamed B.named
  have hlocks := B.notSynchronized
  subst hsz
  have hD : va_D (pq_B t σ (I, J, ri, rj, rq) s.heap.size) (pq_P t σ (I, J, ri, rj, rq)) := hD0.self
  generalize hAe : pq_B t σ (I, J, ri, rj, rq) s.heap.size = A at hD ⊢
  have hA : ∀ q : Nat, s.heap.size ≤ q → A q := fun q h => by rw [← hAe]; exact Or.inr h
  have hS : va_S A s.heap s.heap [] := va_S.rf
  have hG : GM [] tg σ I ri I ri rq := ⟨hG0, fun _ _ _ => rfl, fun _ _ _ _ _ => rfl, fun _ _ _ _ _ _ => rfl⟩
  have hl := lv_entry ([.ref this]) (n := 1) (Nat.le_of_ble_eq_true rfl)
  rw [lg_entry_eq]
  generalize (lg_sl ([.ref this]) ++ List.replicate (1 - (lg_sl ([.ref this])).length) Slot.unset).toArray = ls at hl ⊢
  have hl : lv_has ls 1 [(0, .ref this)] := hl
  refine q_gen (fun Q hQ => ?_)
  have go : ∀ (H : Heap) (locs : List Loc) (ls : Array Slot), va_P D vwCl (pq_P t σ (I, J, ri, rj, rq)) H → va_D A (pq_P t σ (I, J, ri, rj, rq)) → va_S A s.heap H locs → lv_has ls 1 [(0, .ref this)] → W p l e ({ frames := 0, cells := 0, slots := 0, locals := 0 } : Room) s m (List.toArray ([.ref this] : List Value)) below meth c H locs 0 0 Q (F0 m 0 ls []) := by
    intro H locs ls hP hD hS hl
    have hO_this : this = vo σ 12 this := rfl
    have hVT : VT 12 σ tg this := vt_12 hSH hL_this hK_this
    have hFr : FR 12 tg σ this (I, J, ri, rj, rq) (I, J, ri, rj, rq) := fr_rf
    obtain ⟨F, hF0⟩ : ∃ F, F = g_X12_area (vI 12 σ this I) (vJ 12 σ this J) (vR 12 σ this ri) (vL 12 σ this rj) (vQ 12 σ this rq) := ⟨_, rfl⟩
    have hF := hF0.trans g_X12_area_e
    refine lv_aload_n hx hb dX12_area_0 rfl (lv_at hl 0 rfl) ?_
    obtain ⟨w_1, hR_w_1, hL_w_1, hK_w_1, hN_w_1, hT_w_1⟩ := sh_a hSH 384 (ci := 12) (kd := 13) (len := 12720) rfl (by decide +kernel) hL_this hK_this
    have hO_w_1 : w_1 = vrow σ 384 this := vo_k (c := 12) hO_this hR_w_1
    refine pg_f (v := .ref w_1) (C := RX12) (T := TX12) (N := 31) hx hb hts (tw_i inlX12) hown hK hP hL_this hK_this (by decide +kernel) rfl 0 (by decide +kernel) (hts _ (tw_c tw_176)) (pq_hv rfl hR_w_1) dX12_area_1 ?_
    refine lv_iconst (v := 0) hx hb dX12_area_4 (by decide +kernel) ?_
    refine pl_i hx hb hK hP hL_w_1 hK_w_1 hN_w_1 (vp_in_iff.mpr (by decide +kernel)) dX12_area_5 ?_
    refine lv_tov (ri w_1 0) rfl ?_
    have h_2 : rg (ri w_1 0) 0 600 := GM.z0 hG0 (by rw [hT_w_1]; decide) (i := 0) (k := 0) (by decide +kernel) rfl
    have uh_2 := h_2.1
    have vh_2 := h_2.2
    replace hF := hF.trans (ap_n (vR_r hO_w_1 (by decide +kernel) rfl))
    refine lv_if_ne (tgt := 13) hx hb dX12_area_6 (by decide +kernel) (fun c_4 => ?_) (fun c_4 => ?_)
    · replace hF := hF.trans (if_neg c_4)
      have tc_9 : (ri w_1 0).toInt ≠ 0 := fun q => c_4 (Int32.toInt_inj.mp q)
      have h_10 : rg (ri w_1 0) 1 600 := rg_ne c_4 h_2 0 rfl (by decide +kernel)
      have uh_10 := h_10.1
      have vh_10 := h_10.2
      refine lv_aload_n hx hb dX12_area_13 rfl (lv_at hl 0 rfl) ?_
      refine pg_f (v := .ref w_1) (C := RX12) (T := TX12) (N := 31) hx hb hts (tw_i inlX12) hown hK hP hL_this hK_this (by decide +kernel) rfl 0 (by decide +kernel) (hts _ (tw_c tw_176)) (pq_hv rfl hR_w_1) dX12_area_14 ?_
      refine lv_bipush (v := 18) hx hb dX12_area_17 (by decide +kernel) ?_
      refine pl_i hx hb hK hP hL_w_1 hK_w_1 hN_w_1 (vp_in_iff.mpr (by decide +kernel)) dX12_area_19 ?_
      refine lv_topi (fun x_11 ex_11 => ?_)
      replace hF := hF.trans (ap_n (vR_r hO_w_1 (by decide +kernel) ex_11))
      subst hQ
      exact W.iret (v := x_11) hx hb hr (fun t1 ht hW => ⟨⟨x_11, (σ, I, J, ri, rj, rq), rfl, ⟨rfl, (hF0.symm.trans hF)⟩, by rw [ht]; exact hP, va_K.moved hW.alike hK, hD⟩, hS.F ht⟩) hS.2.2 dX12_area_20
    · replace hF := hF.trans (if_pos c_4)
      have tc_12 : (ri w_1 0).toInt = 0 := congrArg Int32.toInt c_4
      have h_13 : rg (ri w_1 0) 0 0 := rg_and h_2 (rg_of_eq c_4 (rg_k (0 : Int32) 0 rfl)) (by decide +kernel)
      have uh_13 := h_13.1
      have vh_13 := h_13.2
      refine lv_iconst (v := (-1)) hx hb dX12_area_9 (by decide +kernel) ?_
      refine lv_goto (tgt := 20) hx hb dX12_area_10 (by decide +kernel) ?_
      subst hQ
      exact W.iret (v := (-1)) hx hb hr (fun t1 ht hW => ⟨⟨(-1), (σ, I, J, ri, rj, rq), rfl, ⟨rfl, (hF0.symm.trans hF)⟩, by rw [ht]; exact hP, va_K.moved hW.alike hK, hD⟩, hS.F ht⟩) hS.2.2 dX12_area_20
  exact go _ _ _ hP hD hS hl

set_option maxRecDepth 100000 in
def g_X12_choose_K17 (I : Nat → Int32) (J : Nat → Int64) (ri : Nat → Nat → Int32) (rj : Nat → Nat → Int64) (rq : Nat → Nat → Option Nat) : Int32 × vM := ((0 : Int32), I, J, ri, rj, rq)
set_option maxRecDepth 100000 in
theorem g_X12_choose_K17_e {I : Nat → Int32} {J : Nat → Int64} {ri : Nat → Nat → Int32} {rj : Nat → Nat → Int64} {rq : Nat → Nat → Option Nat} : g_X12_choose_K17 I J ri rj rq  = ((0 : Int32), I, J, ri, rj, rq) := rfl
set_option maxRecDepth 100000 in
def g_X12_choose (a0 : Int32) (a1 : Int32) (I : Nat → Int32) (J : Nat → Int64) (ri : Nat → Nat → Int32) (rj : Nat → Nat → Int64) (rq : Nat → Nat → Option Nat) : Int32 × vM := (bnI (g_X12_isPerson a0 I J ri rj rq) fun (x_1 : Int32) (_ : Nat → Int32) (_ : Nat → Int64) (_ : Nat → Nat → Int32) (_ : Nat → Nat → Int64) (_ : Nat → Nat → Option Nat) => (if x_1 = (0 : Int32) then (g_X12_choose_K17 I J ri rj rq ) else (ap1 (g_X12_isIn a1 (-1 : Int32) (1 : Int32)) fun (x_58 : Int32) => (if x_58 = (0 : Int32) then (g_X12_choose_K17 I J ri rj rq ) else (ap1 ((12 : Int32) * a0) fun (x_87 : Int32) => (ap1 ((740 : Int32) + x_87) fun (x_89 : Int32) => (ap1 (x_89 + (8 : Int32)) fun (x_91 : Int32) => (ap1 (va_up ri 384 (upd (ri 384) (x_91).toNatClampNeg a1)) fun (r_93 : Nat → Nat → Int32) => ((1 : Int32), I, J, r_93, rj, rq)))))))))
set_option maxRecDepth 100000 in
theorem g_X12_choose_e {a0 : Int32} {a1 : Int32} {I : Nat → Int32} {J : Nat → Int64} {ri : Nat → Nat → Int32} {rj : Nat → Nat → Int64} {rq : Nat → Nat → Option Nat} : g_X12_choose a0 a1 I J ri rj rq = (bnI (g_X12_isPerson a0 I J ri rj rq) fun (x_1 : Int32) (_ : Nat → Int32) (_ : Nat → Int64) (_ : Nat → Nat → Int32) (_ : Nat → Nat → Int64) (_ : Nat → Nat → Option Nat) => (if x_1 = (0 : Int32) then (g_X12_choose_K17 I J ri rj rq ) else (ap1 (g_X12_isIn a1 (-1 : Int32) (1 : Int32)) fun (x_58 : Int32) => (if x_58 = (0 : Int32) then (g_X12_choose_K17 I J ri rj rq ) else (ap1 ((12 : Int32) * a0) fun (x_87 : Int32) => (ap1 ((740 : Int32) + x_87) fun (x_89 : Int32) => (ap1 (x_89 + (8 : Int32)) fun (x_91 : Int32) => (ap1 (va_up ri 384 (upd (ri 384) (x_91).toNatClampNeg a1)) fun (r_93 : Nat → Nat → Int32) => ((1 : Int32), I, J, r_93, rj, rq))))))))) := rfl
set_option maxHeartbeats 4000000 in
set_option maxRecDepth 100000 in
theorem s_X12_choose (l : Launch) (D : va_G) (t : pq_T) (σ : pq_S) (I : Nat → Nat → Int32) (J : Nat → Nat → Int64) (ri : Nat → Nat → Int32) (rj : Nat → Nat → Int64) (rq : Nat → Nat → Option Nat) (sz : Nat) (tg : Nat → Nat) (hSH : SH σ tg) (hG0 : GT tg I ri) (this : Nat) (a0 : Int32) (a1 : Int32) (hL_this : this ∈ σ.1) (hK_this : σ.2.1 this = 12) : MetI l yX12_choose (wa yX12_choose cX12_choose 3 (some .boolean)) ({ frames := 2, cells := 0, slots := 0, locals := 43 }) [.ref this, .int a0, .int a1] D t σ (I, J, ri, rj, rq) sz 0 0 (fun (r : Int32) (u : pq_S × pq_M) => ∃ ri' : Nat → Nat → Int32, u = (σ, I, J, ri', rj, rq) ∧ GM [] tg σ I ri I ri' rq ∧ g_X12_choose a0 a1 (vI 12 σ this I) (vJ 12 σ this J) (vR 12 σ this ri) (vL 12 σ this rj) (vQ 12 σ this rq) = (r, (vI 12 σ this I), (vJ 12 σ this J), (vR 12 σ this ri'), (vL 12 σ this rj), (vQ 12 σ this rq)) ∧ FR 12 tg σ this (I, J, ri, rj, rq) (I, J, ri', rj, rq) ∧ ((r = 1 ∧ rg a0 0 39 ∧ rg a1 (-1) 1) ∨ (r = 0 ∧ True))) := by
  refine Met.ofW (cc := cX12_choose) (maxL := 3) (ret := (some .boolean)) (by decide +kernel) rfl ?_
  intro p e s m args below meth c s₁ B hml hv
  obtain ⟨rfl, hsz, hP, hK, hD0, hN⟩ := hv
  have hx := B.exec
  have hb := B.bytes
  have hr := B.returns
  have hts := atoms_spec (ws := (wa yX12_choose cX12_choose 3 (some .boolean))) B.pre
  have hown : s.vm.findClass RX12 = some m.cls := findClass_of_methodNamed B.named
  have hlocks := B.notSynchronized
  subst hsz
  have hD : va_D (pq_B t σ (I, J, ri, rj, rq) s.heap.size) (pq_P t σ (I, J, ri, rj, rq)) := hD0.self
  generalize hAe : pq_B t σ (I, J, ri, rj, rq) s.heap.size = A at hD ⊢
  have hA : ∀ q : Nat, s.heap.size ≤ q → A q := fun q h => by rw [← hAe]; exact Or.inr h
  have hS : va_S A s.heap s.heap [] := va_S.rf
  have hG : GM [] tg σ I ri I ri rq := ⟨hG0, fun _ _ _ => rfl, fun _ _ _ _ _ => rfl, fun _ _ _ _ _ _ => rfl⟩
  have hl := lv_entry ([.ref this, .int a0, .int a1]) (n := 3) (Nat.le_of_ble_eq_true rfl)
  rw [lg_entry_eq]
  generalize (lg_sl ([.ref this, .int a0, .int a1]) ++ List.replicate (3 - (lg_sl ([.ref this, .int a0, .int a1])).length) Slot.unset).toArray = ls at hl ⊢
  have hl : lv_has ls 3 [(0, .ref this), (1, .int a0), (2, .int a1)] := hl
  refine q_gen (fun Q hQ => ?_)
  have go : ∀ (H : Heap) (locs : List Loc) (ls : Array Slot), va_P D vwCl (pq_P t σ (I, J, ri, rj, rq)) H → va_D A (pq_P t σ (I, J, ri, rj, rq)) → va_S A s.heap H locs → lv_has ls 3 [(0, .ref this), (1, .int a0), (2, .int a1)] → W p l e ({ frames := 2, cells := 0, slots := 0, locals := 43 } : Room) s m (List.toArray ([.ref this, .int a0, .int a1] : List Value)) below meth c H locs 0 0 Q (F0 m 0 ls []) := by
    intro H locs ls hP hD hS hl
    have hO_this : this = vo σ 12 this := rfl
    have hVT : VT 12 σ tg this := vt_12 hSH hL_this hK_this
    have hFr : FR 12 tg σ this (I, J, ri, rj, rq) (I, J, ri, rj, rq) := fr_rf
    obtain ⟨F, hF0⟩ : ∃ F, F = g_X12_choose a0 a1 (vI 12 σ this I) (vJ 12 σ this J) (vR 12 σ this ri) (vL 12 σ this rj) (vQ 12 σ this rq) := ⟨_, rfl⟩
    have hF := hF0.trans g_X12_choose_e
    refine lv_aload_n hx hb dX12_choose_0 rfl (lv_at hl 0 rfl) ?_
    refine lv_iload_n hx hb dX12_choose_1 rfl (lv_at hl 1 rfl) ?_
    refine pk_i (va_runV (As := [.int a0]) (rest := []) ⟨hx, hb, hml, hown, hts⟩ (s_X12_isPerson l D t σ I J ri rj rq H.size tg hSH hG.1 this a0 hL_this hK_this) (cwV 1 hts (tw_V tw_425 tw_426 tw_427 tw_5 tw_428) rfl rfl rfl cv_yX12_isPerson_1 ⟨Nat.le_of_ble_eq_true rfl, Nat.le_of_ble_eq_true rfl⟩) ⟨pq_blind, pq_recv hK hP hL_this hK_this (by decide +kernel) rfl, pq_pre hK hN hP hD⟩ rfl rfl hl.1 rfl (lv_room (Nat.le_of_ble_eq_true rfl)) dX12_choose_2 ⟨Nat.le_of_ble_eq_true rfl, Nat.le_of_ble_eq_true rfl⟩) hD hS hA (fun x_1 σ1 μ1 H locs hw_2 hP hD hS => ?_)
    obtain ⟨hu_3, hfn_6, hr_5⟩ := hw_2
    obtain ⟨hu_3a, hu_3b⟩ := Prod.mk.inj hu_3
    rw [hu_3a, hu_3b] at hP hD
    replace hF := hF.trans (bn_n hfn_6)
    have h_8 : rg x_1 0 1 := by rcases hr_5 with ⟨q, -⟩ | ⟨q, -⟩ <;> rw [q] <;> exact ⟨by decide +kernel, by decide +kernel⟩
    have uh_8 := h_8.1
    have vh_8 := h_8.2
    have K_44 : ∀  (H : Heap) (locs : List Loc) (ls : Array Slot), F = g_X12_choose_K17 (vI 12 σ this I) (vJ 12 σ this J) (vR 12 σ this ri) (vL 12 σ this rj) (vQ 12 σ this rq)  → FR 12 tg σ this (I, J, ri, rj, rq) (I, J, ri, rj, rq) → GM [] tg σ I ri I ri rq → va_P D vwCl (pq_P t σ (I, J, ri, rj, rq)) H → va_D A (pq_P t σ (I, J, ri, rj, rq)) → va_S A s.heap H locs → lv_has ls 3 [] → W p l e ({ frames := 2, cells := 0, slots := 0, locals := 43 } : Room) s m (List.toArray ([.ref this, .int a0, .int a1] : List Value)) below meth c H locs 0 0 Q (F0 m 17 ls []) := by
      intro H locs ls hF hFr hG hP hD hS hl
      replace hF := hF.trans g_X12_choose_K17_e
      refine lv_iconst (v := 0) hx hb dX12_choose_17 (by decide +kernel) ?_
      subst hQ
      exact W.zret (v := 0) hx hb hr (by decide +kernel) (fun t1 ht hW => ⟨⟨0, (σ, I, J, ri, rj, rq), rfl, ⟨ri, rfl, hG, (hF0.symm.trans hF), hFr, (Or.inr ⟨rfl, trivial⟩)⟩, by rw [ht]; exact hP, va_K.moved hW.alike hK, hD⟩, hS.F ht⟩) hS.2.2 dX12_choose_18
    refine lv_if_eq (tgt := 17) hx hb dX12_choose_5 (by decide +kernel) (fun c_45 => ?_) (fun c_45 => ?_)
    · replace hF := hF.trans (if_pos c_45)
      have f_52 := (hr_5.resolve_left (fun q => absurd (q.1.symm.trans c_45) (by decide +kernel))).2
      have tc_53 : (x_1).toInt = 0 := congrArg Int32.toInt c_45
      have h_54 : rg x_1 0 0 := rg_and h_8 (rg_of_eq c_45 (rg_k (0 : Int32) 0 rfl)) (by decide +kernel)
      have uh_54 := h_54.1
      have vh_54 := h_54.2
      exact K_44 _ _ _ hF hFr hG hP hD hS (lv_sub hl [] rfl)
    · replace hF := hF.trans (if_neg c_45)
      have f_55 := (hr_5.resolve_right (fun q => c_45 q.1)).2
      have uf_55 := f_55.1
      have vf_55 := f_55.2
      have tc_56 : (x_1).toInt ≠ 0 := fun q => c_45 (Int32.toInt_inj.mp q)
      have h_57 : rg x_1 1 1 := rg_ne c_45 h_8 0 rfl (by decide +kernel)
      have uh_57 := h_57.1
      have vh_57 := h_57.2
      refine lv_iload_n hx hb dX12_choose_8 rfl (lv_at hl 2 rfl) ?_
      refine lv_iconst (v := (-1)) hx hb dX12_choose_9 (by decide +kernel) ?_
      refine lv_iconst (v := 1) hx hb dX12_choose_10 (by decide +kernel) ?_
      refine pk_i (va_runS (As := [.int a1, .int (-1), .int 1]) (rest := []) ⟨hx, hb, hml, hown, hts⟩ (s_X12_isIn l D t σ I J ri rj rq H.size tg hSH hG.1 a1 (-1 : Int32) (1 : Int32)) (va_cwS 3 hts (tw_S tw_235 tw_236 tw_5 tw_237) rfl rfl rfl cd_yX12_isIn_3 ⟨Nat.le_of_ble_eq_true rfl, Nat.le_of_ble_eq_true rfl⟩) ⟨pq_blind, pq_pre hK hN hP hD⟩ rfl rfl hl.1 rfl (lv_room (Nat.le_of_ble_eq_true rfl)) dX12_choose_11 ⟨Nat.le_of_ble_eq_true rfl, Nat.le_of_ble_eq_true rfl⟩) hD hS hA (fun x_58 σ1 μ1 H locs hw_59 hP hD hS => ?_)
      obtain ⟨hu_60, hfn_63, hr_62⟩ := hw_59
      obtain ⟨hu_60a, hu_60b⟩ := Prod.mk.inj hu_60
      rw [hu_60a, hu_60b] at hP hD
      replace hF := hF.trans (ap_n hfn_63.symm)
      have h_65 : rg x_58 0 1 := by rcases hr_62 with ⟨q, -⟩ | ⟨q, -⟩ <;> rw [q] <;> exact ⟨by decide +kernel, by decide +kernel⟩
      have uh_65 := h_65.1
      have vh_65 := h_65.2
      refine lv_if_ne (tgt := 19) hx hb dX12_choose_14 (by decide +kernel) (fun c_66 => ?_) (fun c_66 => ?_)
      · replace hF := hF.trans (if_neg c_66)
        obtain ⟨f_78, f_79⟩ := (hr_62.resolve_right (fun q => c_66 q.1)).2
        have tc_80 : (-1) ≤ (a1).toInt := Int32.le_iff_toInt_le.mp f_78
        have h_81 : rg a1 (-1) 2147483647 := rg_le2 f_78 (rg_k (-1 : Int32) (-1) rfl) (rg_full _) (by decide +kernel)
        have uh_81 := h_81.1
        have vh_81 := h_81.2
        have tc_82 : (a1).toInt ≤ 1 := Int32.le_iff_toInt_le.mp f_79
        have h_83 : rg a1 (-1) 1 := rg_le1 f_79 h_81 (rg_k (1 : Int32) 1 rfl) (by decide +kernel)
        have uh_83 := h_83.1
        have vh_83 := h_83.2
        have tc_84 : (x_58).toInt ≠ 0 := fun q => c_66 (Int32.toInt_inj.mp q)
        have h_85 : rg x_58 1 1 := rg_ne c_66 h_65 0 rfl (by decide +kernel)
        have uh_85 := h_85.1
        have vh_85 := h_85.2
        refine lv_aload_n hx hb dX12_choose_19 rfl (lv_at hl 0 rfl) ?_
        obtain ⟨w_86, hR_w_86, hL_w_86, hK_w_86, hN_w_86, hT_w_86⟩ := sh_a hSH 384 (ci := 12) (kd := 13) (len := 12720) rfl (by decide +kernel) hL_this hK_this
        have hO_w_86 : w_86 = vrow σ 384 this := vo_k (c := 12) hO_this hR_w_86
        refine pg_f (v := .ref w_86) (C := RX12) (T := TX12) (N := 31) hx hb hts (tw_i inlX12) hown hK hP hL_this hK_this (by decide +kernel) rfl 0 (by decide +kernel) (hts _ (tw_c tw_176)) (pq_hv rfl hR_w_86) dX12_choose_20 ?_
        refine lv_sipush (v := 740) hx hb dX12_choose_23 (by decide +kernel) ?_
        refine lv_bipush (v := 12) hx hb dX12_choose_26 (by decide +kernel) ?_
        refine lv_iload_n hx hb dX12_choose_28 rfl (lv_at hl 1 rfl) ?_
        refine lv_imul hx hb dX12_choose_29 ?_
        refine lv_topi (fun x_87 ex_87 => ?_)
        replace hF := hF.trans (ap_n ex_87)
        have h_88 : rg x_87 0 468 := rg_of_eq ex_87 (rg_mul (rg_k (12 : Int32) 12 rfl) f_55 (by decide +kernel))
        have uh_88 := h_88.1
        have vh_88 := h_88.2
        have tx_87 : (x_87).toInt = 12 * (a0).toInt := by rw [ex_87]; exact i_mul_rg (a2 := 12) (b2 := (a0).toInt) rfl rfl (rg_k (12 : Int32) 12 rfl) f_55 (by decide +kernel)
        refine lv_iadd hx hb dX12_choose_30 ?_
        refine lv_topi (fun x_89 ex_89 => ?_)
        replace hF := hF.trans (ap_n ex_89)
        have h_90 : rg x_89 740 1208 := rg_of_eq ex_89 (rg_add (rg_k (740 : Int32) 740 rfl) h_88 (by decide +kernel))
        have uh_90 := h_90.1
        have vh_90 := h_90.2
        have tx_89 : (x_89).toInt = 740 + (x_87).toInt := by rw [ex_89]; exact i_add_rg (a2 := 740) (b2 := (x_87).toInt) rfl rfl (rg_k (740 : Int32) 740 rfl) h_88 (by decide +kernel)
        refine lv_bipush (v := 8) hx hb dX12_choose_31 (by decide +kernel) ?_
        refine lv_iadd hx hb dX12_choose_33 ?_
        refine lv_topi (fun x_91 ex_91 => ?_)
        replace hF := hF.trans (ap_n ex_91)
        have h_92 : rg x_91 748 1216 := rg_of_eq ex_91 (rg_add h_90 (rg_k (8 : Int32) 8 rfl) (by decide +kernel))
        have uh_92 := h_92.1
        have vh_92 := h_92.2
        have tx_91 : (x_91).toInt = (x_89).toInt + 8 := by rw [ex_91]; exact i_add_rg (a2 := (x_89).toInt) (b2 := 8) rfl rfl h_90 (rg_k (8 : Int32) 8 rfl) (by decide +kernel)
        refine lv_iload_n hx hb dX12_choose_34 rfl (lv_at hl 2 rfl) ?_
        refine pt_i hx hb hK hP hD hS hL_w_86 hK_w_86 hN_w_86 (rg_in h_92 (by decide +kernel)) dX12_choose_35 (fun r_93 H locs er_93 hP hD hS => ?_)
        replace hFr := fr_R hFr hO_w_86 (by decide +kernel) er_93
        replace hF := hF.trans (ap_n (vR_st hVT hO_w_86 (by decide +kernel) er_93))
        have hG := GM.wz hG hT_w_86 (by decide +kernel) er_93 (zn_PERSON (c := a0.toNatClampNeg) (k := 8) (by have z_i := clampE x_91; have z_0 := clampE a0; omega) (rg_cl1 f_55 (by decide +kernel)) (by decide +kernel)) rfl (rg_w h_83 (by decide +kernel)) (by decide +kernel)
        refine lv_iconst (v := 1) hx hb dX12_choose_36 (by decide +kernel) ?_
        subst hQ
        exact W.zret (v := 1) hx hb hr (by decide +kernel) (fun t1 ht hW => ⟨⟨1, (σ, I, J, r_93, rj, rq), rfl, ⟨r_93, rfl, hG, (hF0.symm.trans hF), hFr, (Or.inl ⟨rfl, (rg_w f_55 (by decide +kernel)), (rg_w h_83 (by decide +kernel))⟩)⟩, by rw [ht]; exact hP, va_K.moved hW.alike hK, hD⟩, hS.F ht⟩) hS.2.2 dX12_choose_37
      · replace hF := hF.trans (if_pos c_66)
        have f_94 := (hr_62.resolve_left (fun q => absurd (q.1.symm.trans c_66) (by decide +kernel))).2
        have tc_95 : (x_58).toInt = 0 := congrArg Int32.toInt c_66
        have h_96 : rg x_58 0 0 := rg_and h_65 (rg_of_eq c_66 (rg_k (0 : Int32) 0 rfl)) (by decide +kernel)
        have uh_96 := h_96.1
        have vh_96 := h_96.2
        exact K_44 _ _ _ hF hFr hG hP hD hS (lv_sub hl [] rfl)
  exact go _ _ _ hP hD hS hl

set_option maxRecDepth 100000 in
def g_X12_personAt_c8 (a0 : Int32) (I : Nat → Int32) (J : Nat → Int64) (ri : Nat → Nat → Int32) (rj : Nat → Nat → Int64) (rq : Nat → Nat → Option Nat) : Int32 × vM := (ap1 ((12 : Int32) * a0) fun (x_1 : Int32) => (ap1 ((740 : Int32) + x_1) fun (x_3 : Int32) => (ap1 (x_3 + (8 : Int32)) fun (x_5 : Int32) => (ap1 (ri 384 (x_5).toNatClampNeg) fun (x_7 : Int32) => (x_7, I, J, ri, rj, rq)))))
set_option maxRecDepth 100000 in
theorem g_X12_personAt_c8_e {a0 : Int32} {I : Nat → Int32} {J : Nat → Int64} {ri : Nat → Nat → Int32} {rj : Nat → Nat → Int64} {rq : Nat → Nat → Option Nat} : g_X12_personAt_c8 a0 I J ri rj rq = (ap1 ((12 : Int32) * a0) fun (x_1 : Int32) => (ap1 ((740 : Int32) + x_1) fun (x_3 : Int32) => (ap1 (x_3 + (8 : Int32)) fun (x_5 : Int32) => (ap1 (ri 384 (x_5).toNatClampNeg) fun (x_7 : Int32) => (x_7, I, J, ri, rj, rq))))) := rfl
set_option maxHeartbeats 4000000 in
set_option maxRecDepth 100000 in
theorem s_X12_personAt_c8 (l : Launch) (D : va_G) (t : pq_T) (σ : pq_S) (I : Nat → Nat → Int32) (J : Nat → Nat → Int64) (ri : Nat → Nat → Int32) (rj : Nat → Nat → Int64) (rq : Nat → Nat → Option Nat) (sz : Nat) (tg : Nat → Nat) (hSH : SH σ tg) (hG0 : GT tg I ri) (this : Nat) (a0 : Int32) (hL_this : this ∈ σ.1) (hK_this : σ.2.1 this = 12) (h_a0 : rg a0 0 39) (this_a : Nat) (hR_this_a : σ.2.2.1 384 this = some this_a) (hL_this_a : this_a ∈ σ.1) (hK_this_a : σ.2.1 this_a = 13) (hN_this_a : σ.2.2.2 this_a = 12720) (hT_this_a : tg this_a = 384) : MetI l yX12_personAt (wa yX12_personAt cX12_personAt 3 (some .int)) ({ frames := 0, cells := 0, slots := 0, locals := 0 }) [.ref this, .int a0, .int 8] D t σ (I, J, ri, rj, rq) sz 0 0 (fun (r : Int32) (u : pq_S × pq_M) => u = (σ, I, J, ri, rj, rq) ∧ (r = ri this_a (748 + 12 * a0.toNatClampNeg)) ∧ g_X12_personAt_c8 a0 (vI 12 σ this I) (vJ 12 σ this J) (vR 12 σ this ri) (vL 12 σ this rj) (vQ 12 σ this rq) = (r, (vI 12 σ this I), (vJ 12 σ this J), (vR 12 σ this ri), (vL 12 σ this rj), (vQ 12 σ this rq))) := by
  refine Met.ofW (cc := cX12_personAt) (maxL := 3) (ret := (some .int)) (by decide +kernel) rfl ?_
  intro p e s m args below meth c s₁ B hml hv
  obtain ⟨rfl, hsz, hP, hK, hD0, hN⟩ := hv
  have hx := B.exec
  have hb := B.bytes
  have hr := B.returns
  have hts := atoms_spec (ws := (wa yX12_personAt cX12_personAt 3 (some .int))) B.pre
  have hown : s.vm.findClass RX12 = some m.cls := findClass_of_methodNamed B.named
  have hlocks := B.notSynchronized
  subst hsz
  have hD : va_D (pq_B t σ (I, J, ri, rj, rq) s.heap.size) (pq_P t σ (I, J, ri, rj, rq)) := hD0.self
  generalize hAe : pq_B t σ (I, J, ri, rj, rq) s.heap.size = A at hD ⊢
  have hA : ∀ q : Nat, s.heap.size ≤ q → A q := fun q h => by rw [← hAe]; exact Or.inr h
  have hS : va_S A s.heap s.heap [] := va_S.rf
  have hG : GM [] tg σ I ri I ri rq := ⟨hG0, fun _ _ _ => rfl, fun _ _ _ _ _ => rfl, fun _ _ _ _ _ _ => rfl⟩
  have hl := lv_entry ([.ref this, .int a0, .int 8]) (n := 3) (Nat.le_of_ble_eq_true rfl)
  rw [lg_entry_eq]
  generalize (lg_sl ([.ref this, .int a0, .int 8]) ++ List.replicate (3 - (lg_sl ([.ref this, .int a0, .int 8])).length) Slot.unset).toArray = ls at hl ⊢
  have hl : lv_has ls 3 [(0, .ref this), (1, .int a0), (2, .int 8)] := hl
  refine q_gen (fun Q hQ => ?_)
  have go : ∀ (H : Heap) (locs : List Loc) (ls : Array Slot), va_P D vwCl (pq_P t σ (I, J, ri, rj, rq)) H → va_D A (pq_P t σ (I, J, ri, rj, rq)) → va_S A s.heap H locs → lv_has ls 3 [(0, .ref this), (1, .int a0), (2, .int 8)] → W p l e ({ frames := 0, cells := 0, slots := 0, locals := 0 } : Room) s m (List.toArray ([.ref this, .int a0, .int 8] : List Value)) below meth c H locs 0 0 Q (F0 m 0 ls []) := by
    intro H locs ls hP hD hS hl
    have hO_this : this = vo σ 12 this := rfl
    have hVT : VT 12 σ tg this := vt_12 hSH hL_this hK_this
    have hFr : FR 12 tg σ this (I, J, ri, rj, rq) (I, J, ri, rj, rq) := fr_rf
    have hO_this_a : this_a = vrow σ 384 this := vo_k (c := 12) hO_this hR_this_a
    obtain ⟨F, hF0⟩ : ∃ F, F = g_X12_personAt_c8 a0 (vI 12 σ this I) (vJ 12 σ this J) (vR 12 σ this ri) (vL 12 σ this rj) (vQ 12 σ this rq) := ⟨_, rfl⟩
    have hF := hF0.trans g_X12_personAt_c8_e
    refine lv_aload_n hx hb dX12_personAt_0 rfl (lv_at hl 0 rfl) ?_
    refine pg_f (v := .ref this_a) (C := RX12) (T := TX12) (N := 31) hx hb hts (tw_i inlX12) hown hK hP hL_this hK_this (by decide +kernel) rfl 0 (by decide +kernel) (hts _ (tw_c tw_176)) (pq_hv rfl hR_this_a) dX12_personAt_1 ?_
    refine lv_sipush (v := 740) hx hb dX12_personAt_4 (by decide +kernel) ?_
    refine lv_bipush (v := 12) hx hb dX12_personAt_7 (by decide +kernel) ?_
    refine lv_iload_n hx hb dX12_personAt_9 rfl (lv_at hl 1 rfl) ?_
    refine lv_imul hx hb dX12_personAt_10 ?_
    refine lv_topi (fun x_1 ex_1 => ?_)
    replace hF := hF.trans (ap_n ex_1)
    have h_2 : rg x_1 0 468 := rg_of_eq ex_1 (rg_mul (rg_k (12 : Int32) 12 rfl) h_a0 (by decide +kernel))
    have uh_2 := h_2.1
    have vh_2 := h_2.2
    have tx_1 : (x_1).toInt = 12 * (a0).toInt := by rw [ex_1]; exact i_mul_rg (a2 := 12) (b2 := (a0).toInt) rfl rfl (rg_k (12 : Int32) 12 rfl) h_a0 (by decide +kernel)
    refine lv_iadd hx hb dX12_personAt_11 ?_
    refine lv_topi (fun x_3 ex_3 => ?_)
    replace hF := hF.trans (ap_n ex_3)
    have h_4 : rg x_3 740 1208 := rg_of_eq ex_3 (rg_add (rg_k (740 : Int32) 740 rfl) h_2 (by decide +kernel))
    have uh_4 := h_4.1
    have vh_4 := h_4.2
    have tx_3 : (x_3).toInt = 740 + (x_1).toInt := by rw [ex_3]; exact i_add_rg (a2 := 740) (b2 := (x_1).toInt) rfl rfl (rg_k (740 : Int32) 740 rfl) h_2 (by decide +kernel)
    refine lv_iload_n hx hb dX12_personAt_12 rfl (lv_at hl 2 rfl) ?_
    refine lv_iadd hx hb dX12_personAt_13 ?_
    refine lv_topi (fun x_5 ex_5 => ?_)
    replace hF := hF.trans (ap_n ex_5)
    have h_6 : rg x_5 748 1216 := rg_of_eq ex_5 (rg_add h_4 (rg_k (8 : Int32) 8 rfl) (by decide +kernel))
    have uh_6 := h_6.1
    have vh_6 := h_6.2
    have tx_5 : (x_5).toInt = (x_3).toInt + 8 := by rw [ex_5]; exact i_add_rg (a2 := (x_3).toInt) (b2 := 8) rfl rfl h_4 (rg_k (8 : Int32) 8 rfl) (by decide +kernel)
    refine pl_i hx hb hK hP hL_this_a hK_this_a hN_this_a (rg_in h_6 (by decide +kernel)) dX12_personAt_14 ?_
    refine lv_topi (fun x_7 ex_7 => ?_)
    replace hF := hF.trans (ap_n (vR_r hO_this_a (by decide +kernel) ex_7))
    subst hQ
    exact W.iret (v := x_7) hx hb hr (fun t1 ht hW => ⟨⟨x_7, (σ, I, J, ri, rj, rq), rfl, ⟨rfl, (show x_7 = ri this_a (748 + 12 * a0.toNatClampNeg) from ex_7.trans (congrArg (ri this_a) (by have z0 := clampE a0; have z1 := clampE x_5; omega))), (hF0.symm.trans hF)⟩, by rw [ht]; exact hP, va_K.moved hW.alike hK, hD⟩, hS.F ht⟩) hS.2.2 dX12_personAt_15
  exact go _ _ _ hP hD hS hl

set_option maxRecDepth 100000 in
def g_X12_council_K19 (I : Nat → Int32) (J : Nat → Int64) (ri : Nat → Nat → Int32) (rj : Nat → Nat → Int64) (rq : Nat → Nat → Option Nat) : Int32 × vM := ((-1 : Int32), I, J, ri, rj, rq)
set_option maxRecDepth 100000 in
theorem g_X12_council_K19_e {I : Nat → Int32} {J : Nat → Int64} {ri : Nat → Nat → Int32} {rj : Nat → Nat → Int64} {rq : Nat → Nat → Option Nat} : g_X12_council_K19 I J ri rj rq  = ((-1 : Int32), I, J, ri, rj, rq) := rfl
set_option maxRecDepth 100000 in
def g_X12_council_K146 (x_6524 : Int32) (k_g_X12_council_L40 : (Int32) → (Int32) → (Int32) → (Int32) → (Nat → Nat → Int32) → (Nat → Nat → Int64) → Int32 × vM) (x_6771 : Int32) (x_6772 : Int32) (x_6773 : Int32) (ri_6774 : Nat → Nat → Int32) (rj_6775 : Nat → Nat → Int64) : Int32 × vM := (ap1 (x_6524 + Int32.ofInt 1) fun (x_6779 : Int32) => (k_g_X12_council_L40 x_6771 x_6772 x_6773 x_6779 ri_6774 rj_6775))
set_option maxRecDepth 100000 in
theorem g_X12_council_K146_e {x_6524 : Int32} {k_g_X12_council_L40 : (Int32) → (Int32) → (Int32) → (Int32) → (Nat → Nat → Int32) → (Nat → Nat → Int64) → Int32 × vM} {x_6771 : Int32} {x_6772 : Int32} {x_6773 : Int32} {ri_6774 : Nat → Nat → Int32} {rj_6775 : Nat → Nat → Int64} : g_X12_council_K146 x_6524 k_g_X12_council_L40 x_6771 x_6772 x_6773 ri_6774 rj_6775 = (ap1 (x_6524 + Int32.ofInt 1) fun (x_6779 : Int32) => (k_g_X12_council_L40 x_6771 x_6772 x_6773 x_6779 ri_6774 rj_6775)) := rfl
set_option maxRecDepth 100000 in
def g_X12_council_K143 (x_6523 : Int32) (x_6524 : Int32) (k_g_X12_council_L40 : (Int32) → (Int32) → (Int32) → (Int32) → (Nat → Nat → Int32) → (Nat → Nat → Int64) → Int32 × vM) (ri_6812 : Nat → Nat → Int32) (rj_6813 : Nat → Nat → Int64) (x_6828 : Int32) (x_6837 : Int32) : Int32 × vM := (ap1 (x_6523 + (0 : Int32)) fun (x_6868 : Int32) => (g_X12_council_K146 x_6524 k_g_X12_council_L40 x_6828 x_6837 x_6868 ri_6812 rj_6813))
set_option maxRecDepth 100000 in
theorem g_X12_council_K143_e {x_6523 : Int32} {x_6524 : Int32} {k_g_X12_council_L40 : (Int32) → (Int32) → (Int32) → (Int32) → (Nat → Nat → Int32) → (Nat → Nat → Int64) → Int32 × vM} {ri_6812 : Nat → Nat → Int32} {rj_6813 : Nat → Nat → Int64} {x_6828 : Int32} {x_6837 : Int32} : g_X12_council_K143 x_6523 x_6524 k_g_X12_council_L40 ri_6812 rj_6813 x_6828 x_6837  = (ap1 (x_6523 + (0 : Int32)) fun (x_6868 : Int32) => (g_X12_council_K146 x_6524 k_g_X12_council_L40 x_6828 x_6837 x_6868 ri_6812 rj_6813)) := rfl
set_option maxRecDepth 100000 in
def g_X12_council_K143_2 (x_6523 : Int32) (x_6524 : Int32) (k_g_X12_council_L40 : (Int32) → (Int32) → (Int32) → (Int32) → (Nat → Nat → Int32) → (Nat → Nat → Int64) → Int32 × vM) (ri_6812 : Nat → Nat → Int32) (rj_6813 : Nat → Nat → Int64) (x_6828 : Int32) (x_6837 : Int32) : Int32 × vM := (ap1 (x_6523 + (-1 : Int32)) fun (x_6871 : Int32) => (g_X12_council_K146 x_6524 k_g_X12_council_L40 x_6828 x_6837 x_6871 ri_6812 rj_6813))
set_option maxRecDepth 100000 in
theorem g_X12_council_K143_2_e {x_6523 : Int32} {x_6524 : Int32} {k_g_X12_council_L40 : (Int32) → (Int32) → (Int32) → (Int32) → (Nat → Nat → Int32) → (Nat → Nat → Int64) → Int32 × vM} {ri_6812 : Nat → Nat → Int32} {rj_6813 : Nat → Nat → Int64} {x_6828 : Int32} {x_6837 : Int32} : g_X12_council_K143_2 x_6523 x_6524 k_g_X12_council_L40 ri_6812 rj_6813 x_6828 x_6837  = (ap1 (x_6523 + (-1 : Int32)) fun (x_6871 : Int32) => (g_X12_council_K146 x_6524 k_g_X12_council_L40 x_6828 x_6837 x_6871 ri_6812 rj_6813)) := rfl
set_option maxRecDepth 100000 in
def g_X12_council_K143_3 (x_6523 : Int32) (x_6524 : Int32) (k_g_X12_council_L40 : (Int32) → (Int32) → (Int32) → (Int32) → (Nat → Nat → Int32) → (Nat → Nat → Int64) → Int32 × vM) (ri_6812 : Nat → Nat → Int32) (rj_6813 : Nat → Nat → Int64) (x_6828 : Int32) (x_6837 : Int32) : Int32 × vM := (ap1 (x_6523 + (1 : Int32)) fun (x_6875 : Int32) => (g_X12_council_K146 x_6524 k_g_X12_council_L40 x_6828 x_6837 x_6875 ri_6812 rj_6813))
set_option maxRecDepth 100000 in
theorem g_X12_council_K143_3_e {x_6523 : Int32} {x_6524 : Int32} {k_g_X12_council_L40 : (Int32) → (Int32) → (Int32) → (Int32) → (Nat → Nat → Int32) → (Nat → Nat → Int64) → Int32 × vM} {ri_6812 : Nat → Nat → Int32} {rj_6813 : Nat → Nat → Int64} {x_6828 : Int32} {x_6837 : Int32} : g_X12_council_K143_3 x_6523 x_6524 k_g_X12_council_L40 ri_6812 rj_6813 x_6828 x_6837  = (ap1 (x_6523 + (1 : Int32)) fun (x_6875 : Int32) => (g_X12_council_K146 x_6524 k_g_X12_council_L40 x_6828 x_6837 x_6875 ri_6812 rj_6813)) := rfl
set_option maxRecDepth 100000 in
def g_X12_council_L40 (a0 : Int64) (I : Nat → Int32) (J : Nat → Int64) (rq : Nat → Nat → Option Nat) (y_3391 : Int32) (y_3401 : Int32) : Nat → (Int32) → (Int32) → (Int32) → (Int32) → (Nat → Nat → Int32) → (Nat → Nat → Int64) → Int32 × vM
  | 0, x_6521, x_6522, x_6523, x_6524, ri_6525, rj_6526 => ((0 : Int32), I, J, ri_6525, rj_6526, rq)
  | n_6645 + 1, x_6521, x_6522, x_6523, x_6524, ri_6525, rj_6526 => (if (y_3391) ≤ x_6524 then (ap1 ((100 : Int32) * x_6522) fun (x_6656 : Int32) => (bnI (g_X12_numberOf (7 : Int32) (y_3401) (50 : Int32) I J ri_6525 rj_6526 rq) fun (x_6657 : Int32) (_ : Nat → Int32) (_ : Nat → Int64) (_ : Nat → Nat → Int32) (_ : Nat → Nat → Int64) (_ : Nat → Nat → Option Nat) => (ap1 (x_6657 * x_6521) fun (x_6664 : Int32) => (if x_6664 ≤ x_6656 then (if x_6523 ≤ (0 : Int32) then ((0 : Int32), I, J, ri_6525, rj_6526, rq) else ((1 : Int32), I, J, ri_6525, rj_6526, rq)) else ((2 : Int32), I, J, ri_6525, rj_6526, rq))))) else (bnI (g_X12_personAt_c3 x_6524 I J ri_6525 rj_6526 rq) fun (x_6686 : Int32) (_ : Nat → Int32) (_ : Nat → Int64) (_ : Nat → Nat → Int32) (_ : Nat → Nat → Int64) (_ : Nat → Nat → Option Nat) => (if x_6686 = (300 : Int32) then (g_X12_council_K146 x_6524 (g_X12_council_L40 a0 I J rq y_3391 y_3401 n_6645) x_6521 x_6522 x_6523 ri_6525 rj_6526) else (bnI (g_X12_isFor (2 : Int32) x_6524 (y_3401) I J ri_6525 rj_6526 rq) fun (x_6790 : Int32) (_ : Nat → Int32) (_ : Nat → Int64) (ri_6792 : Nat → Nat → Int32) (rj_6793 : Nat → Nat → Int64) (_ : Nat → Nat → Option Nat) => (if x_6790 = (0 : Int32) then (g_X12_council_K146 x_6524 (g_X12_council_L40 a0 I J rq y_3391 y_3401 n_6645) x_6521 x_6522 x_6523 ri_6792 rj_6793) else (bnI (g_X12_isFor (4 : Int32) x_6524 (y_3401) I J ri_6792 rj_6793 rq) fun (x_6810 : Int32) (_ : Nat → Int32) (_ : Nat → Int64) (ri_6812 : Nat → Nat → Int32) (rj_6813 : Nat → Nat → Int64) (_ : Nat → Nat → Option Nat) => (if x_6810 = (0 : Int32) then (g_X12_council_K146 x_6524 (g_X12_council_L40 a0 I J rq y_3391 y_3401 n_6645) x_6521 x_6522 x_6523 ri_6812 rj_6813) else (ap1 (x_6521 + Int32.ofInt 1) fun (x_6828 : Int32) => (ap1 (a0 >>> (x_6524.toInt64 &&& 63)) fun (x_6829 : Int64) => (ap1 (x_6829 &&& (1 : Int64)) fun (x_6830 : Int64) => (ap1 (lg_cmp x_6830 (0 : Int64)) fun (x_6831 : Int32) => (if x_6831 = (0 : Int32) then (g_X12_council_K146 x_6524 (g_X12_council_L40 a0 I J rq y_3391 y_3401 n_6645) x_6828 x_6522 x_6523 ri_6812 rj_6813) else (ap1 (x_6522 + Int32.ofInt 1) fun (x_6837 : Int32) => (bnI (g_X12_personAt_c8 x_6524 I J ri_6812 rj_6813 rq) fun (x_6838 : Int32) (_ : Nat → Int32) (_ : Nat → Int64) (_ : Nat → Nat → Int32) (_ : Nat → Nat → Int64) (_ : Nat → Nat → Option Nat) => (if x_6838 = (1 : Int32) then (g_X12_council_K143_3 x_6523 x_6524 (g_X12_council_L40 a0 I J rq y_3391 y_3401 n_6645) ri_6812 rj_6813 x_6828 x_6837 ) else (bnI (g_X12_personAt_c8 x_6524 I J ri_6812 rj_6813 rq) fun (x_6881 : Int32) (_ : Nat → Int32) (_ : Nat → Int64) (_ : Nat → Nat → Int32) (_ : Nat → Nat → Int64) (_ : Nat → Nat → Option Nat) => (if x_6881 = (0 : Int32) then (g_X12_council_K143_2 x_6523 x_6524 (g_X12_council_L40 a0 I J rq y_3391 y_3401 n_6645) ri_6812 rj_6813 x_6828 x_6837 ) else (g_X12_council_K143 x_6523 x_6524 (g_X12_council_L40 a0 I J rq y_3391 y_3401 n_6645) ri_6812 rj_6813 x_6828 x_6837 ))))))))))))))))))
set_option maxRecDepth 100000 in
theorem g_X12_council_L40_e {a0 : Int64} {I : Nat → Int32} {J : Nat → Int64} {rq : Nat → Nat → Option Nat} {y_3391 : Int32} {y_3401 : Int32} {n_6645 : Nat} {x_6521 : Int32} {x_6522 : Int32} {x_6523 : Int32} {x_6524 : Int32} {ri_6525 : Nat → Nat → Int32} {rj_6526 : Nat → Nat → Int64} : g_X12_council_L40 a0 I J rq y_3391 y_3401 (n_6645 + 1) x_6521 x_6522 x_6523 x_6524 ri_6525 rj_6526 = (if (y_3391) ≤ x_6524 then (ap1 ((100 : Int32) * x_6522) fun (x_6656 : Int32) => (bnI (g_X12_numberOf (7 : Int32) (y_3401) (50 : Int32) I J ri_6525 rj_6526 rq) fun (x_6657 : Int32) (_ : Nat → Int32) (_ : Nat → Int64) (_ : Nat → Nat → Int32) (_ : Nat → Nat → Int64) (_ : Nat → Nat → Option Nat) => (ap1 (x_6657 * x_6521) fun (x_6664 : Int32) => (if x_6664 ≤ x_6656 then (if x_6523 ≤ (0 : Int32) then ((0 : Int32), I, J, ri_6525, rj_6526, rq) else ((1 : Int32), I, J, ri_6525, rj_6526, rq)) else ((2 : Int32), I, J, ri_6525, rj_6526, rq))))) else (bnI (g_X12_personAt_c3 x_6524 I J ri_6525 rj_6526 rq) fun (x_6686 : Int32) (_ : Nat → Int32) (_ : Nat → Int64) (_ : Nat → Nat → Int32) (_ : Nat → Nat → Int64) (_ : Nat → Nat → Option Nat) => (if x_6686 = (300 : Int32) then (g_X12_council_K146 x_6524 (g_X12_council_L40 a0 I J rq y_3391 y_3401 n_6645) x_6521 x_6522 x_6523 ri_6525 rj_6526) else (bnI (g_X12_isFor (2 : Int32) x_6524 (y_3401) I J ri_6525 rj_6526 rq) fun (x_6790 : Int32) (_ : Nat → Int32) (_ : Nat → Int64) (ri_6792 : Nat → Nat → Int32) (rj_6793 : Nat → Nat → Int64) (_ : Nat → Nat → Option Nat) => (if x_6790 = (0 : Int32) then (g_X12_council_K146 x_6524 (g_X12_council_L40 a0 I J rq y_3391 y_3401 n_6645) x_6521 x_6522 x_6523 ri_6792 rj_6793) else (bnI (g_X12_isFor (4 : Int32) x_6524 (y_3401) I J ri_6792 rj_6793 rq) fun (x_6810 : Int32) (_ : Nat → Int32) (_ : Nat → Int64) (ri_6812 : Nat → Nat → Int32) (rj_6813 : Nat → Nat → Int64) (_ : Nat → Nat → Option Nat) => (if x_6810 = (0 : Int32) then (g_X12_council_K146 x_6524 (g_X12_council_L40 a0 I J rq y_3391 y_3401 n_6645) x_6521 x_6522 x_6523 ri_6812 rj_6813) else (ap1 (x_6521 + Int32.ofInt 1) fun (x_6828 : Int32) => (ap1 (a0 >>> (x_6524.toInt64 &&& 63)) fun (x_6829 : Int64) => (ap1 (x_6829 &&& (1 : Int64)) fun (x_6830 : Int64) => (ap1 (lg_cmp x_6830 (0 : Int64)) fun (x_6831 : Int32) => (if x_6831 = (0 : Int32) then (g_X12_council_K146 x_6524 (g_X12_council_L40 a0 I J rq y_3391 y_3401 n_6645) x_6828 x_6522 x_6523 ri_6812 rj_6813) else (ap1 (x_6522 + Int32.ofInt 1) fun (x_6837 : Int32) => (bnI (g_X12_personAt_c8 x_6524 I J ri_6812 rj_6813 rq) fun (x_6838 : Int32) (_ : Nat → Int32) (_ : Nat → Int64) (_ : Nat → Nat → Int32) (_ : Nat → Nat → Int64) (_ : Nat → Nat → Option Nat) => (if x_6838 = (1 : Int32) then (g_X12_council_K143_3 x_6523 x_6524 (g_X12_council_L40 a0 I J rq y_3391 y_3401 n_6645) ri_6812 rj_6813 x_6828 x_6837 ) else (bnI (g_X12_personAt_c8 x_6524 I J ri_6812 rj_6813 rq) fun (x_6881 : Int32) (_ : Nat → Int32) (_ : Nat → Int64) (_ : Nat → Nat → Int32) (_ : Nat → Nat → Int64) (_ : Nat → Nat → Option Nat) => (if x_6881 = (0 : Int32) then (g_X12_council_K143_2 x_6523 x_6524 (g_X12_council_L40 a0 I J rq y_3391 y_3401 n_6645) ri_6812 rj_6813 x_6828 x_6837 ) else (g_X12_council_K143 x_6523 x_6524 (g_X12_council_L40 a0 I J rq y_3391 y_3401 n_6645) ri_6812 rj_6813 x_6828 x_6837 )))))))))))))))))) := rfl
set_option maxRecDepth 100000 in
def g_X12_council (a0 : Int64) (I : Nat → Int32) (J : Nat → Int64) (ri : Nat → Nat → Int32) (rj : Nat → Nat → Int64) (rq : Nat → Nat → Option Nat) : Int32 × vM := (ap1 (lg_cmp a0 (0 : Int64)) fun (x_1 : Int32) => (if x_1 < (0 : Int32) then (g_X12_council_K19 I J ri rj rq ) else (ap1 (ri 384 5) fun (y_3391 : Int32) => (ap1 (a0 >>> ((y_3391).toInt64 &&& 63)) fun (x_3392 : Int64) => (ap1 (lg_cmp x_3392 (0 : Int64)) fun (x_3393 : Int32) => (if x_3393 = (0 : Int32) then (ap1 (ri 384 0) fun (y_3401 : Int32) => (g_X12_council_L40 a0 I J rq y_3391 y_3401 ((40 - ((0 : Int32)).toInt).toNat + 1) (0 : Int32) (0 : Int32) (0 : Int32) (0 : Int32) ri rj)) else (g_X12_council_K19 I J ri rj rq )))))))
set_option maxRecDepth 100000 in
theorem g_X12_council_e {a0 : Int64} {I : Nat → Int32} {J : Nat → Int64} {ri : Nat → Nat → Int32} {rj : Nat → Nat → Int64} {rq : Nat → Nat → Option Nat} : g_X12_council a0 I J ri rj rq = (ap1 (lg_cmp a0 (0 : Int64)) fun (x_1 : Int32) => (if x_1 < (0 : Int32) then (g_X12_council_K19 I J ri rj rq ) else (ap1 (ri 384 5) fun (y_3391 : Int32) => (ap1 (a0 >>> ((y_3391).toInt64 &&& 63)) fun (x_3392 : Int64) => (ap1 (lg_cmp x_3392 (0 : Int64)) fun (x_3393 : Int32) => (if x_3393 = (0 : Int32) then (ap1 (ri 384 0) fun (y_3401 : Int32) => (g_X12_council_L40 a0 I J rq y_3391 y_3401 ((40 - ((0 : Int32)).toInt).toNat + 1) (0 : Int32) (0 : Int32) (0 : Int32) (0 : Int32) ri rj)) else (g_X12_council_K19 I J ri rj rq ))))))) := rfl
set_option maxHeartbeats 4000000 in
set_option maxRecDepth 100000 in
theorem s_X12_council (l : Launch) (D : va_G) (t : pq_T) (σ : pq_S) (I : Nat → Nat → Int32) (J : Nat → Nat → Int64) (ri : Nat → Nat → Int32) (rj : Nat → Nat → Int64) (rq : Nat → Nat → Option Nat) (sz : Nat) (tg : Nat → Nat) (hSH : SH σ tg) (hG0 : GT tg I ri) (this : Nat) (a0 : Int64) (hL_this : this ∈ σ.1) (hK_this : σ.2.1 this = 12) : MetI l yX12_council (wa yX12_council cX12_council 8 (some .int)) ({ frames := 5, cells := 0, slots := 0, locals := 125 }) [.ref this, .long a0] D t σ (I, J, ri, rj, rq) sz 0 0 (fun (r : Int32) (u : pq_S × pq_M) => ∃ ri' : Nat → Nat → Int32, ∃ rj' : Nat → Nat → Int64, u = (σ, I, J, ri', rj', rq) ∧ GM [] tg σ I ri I ri' rq ∧ g_X12_council a0 (vI 12 σ this I) (vJ 12 σ this J) (vR 12 σ this ri) (vL 12 σ this rj) (vQ 12 σ this rq) = (r, (vI 12 σ this I), (vJ 12 σ this J), (vR 12 σ this ri'), (vL 12 σ this rj'), (vQ 12 σ this rq)) ∧ FR 12 tg σ this (I, J, ri, rj, rq) (I, J, ri', rj', rq) ∧ rg r (-1) 2) := by
  refine Met.ofW (cc := cX12_council) (maxL := 8) (ret := (some .int)) (by decide +kernel) rfl ?_
  intro p e s m args below meth c s₁ B hml hv
  obtain ⟨rfl, hsz, hP, hK, hD0, hN⟩ := hv
  have hx := B.exec
  have hb := B.bytes
  have hr := B.returns
  have hts := atoms_spec (ws := (wa yX12_council cX12_council 8 (some .int))) B.pre
  have hown : s.vm.findClass RX12 = some m.cls := findClass_of_methodNamed B.named
  have hlocks := B.notSynchronized
  subst hsz
  have hD : va_D (pq_B t σ (I, J, ri, rj, rq) s.heap.size) (pq_P t σ (I, J, ri, rj, rq)) := hD0.self
  generalize hAe : pq_B t σ (I, J, ri, rj, rq) s.heap.size = A at hD ⊢
  have hA : ∀ q : Nat, s.heap.size ≤ q → A q := fun q h => by rw [← hAe]; exact Or.inr h
  have hS : va_S A s.heap s.heap [] := va_S.rf
  have hG : GM [] tg σ I ri I ri rq := ⟨hG0, fun _ _ _ => rfl, fun _ _ _ _ _ => rfl, fun _ _ _ _ _ _ => rfl⟩
  have hl := lv_entry ([.ref this, .long a0]) (n := 8) (Nat.le_of_ble_eq_true rfl)
  rw [lg_entry_eq]
  generalize (lg_sl ([.ref this, .long a0]) ++ List.replicate (8 - (lg_sl ([.ref this, .long a0])).length) Slot.unset).toArray = ls at hl ⊢
  have hl : lv_has ls 8 [(0, .ref this), (1, .long a0)] := hl
  refine q_gen (fun Q hQ => ?_)
  have go : ∀ (H : Heap) (locs : List Loc) (ls : Array Slot), va_P D vwCl (pq_P t σ (I, J, ri, rj, rq)) H → va_D A (pq_P t σ (I, J, ri, rj, rq)) → va_S A s.heap H locs → lv_has ls 8 [(0, .ref this), (1, .long a0)] → W p l e ({ frames := 5, cells := 0, slots := 0, locals := 125 } : Room) s m (List.toArray ([.ref this, .long a0] : List Value)) below meth c H locs 0 0 Q (F0 m 0 ls []) := by
    intro H locs ls hP hD hS hl
    have hO_this : this = vo σ 12 this := rfl
    have hVT : VT 12 σ tg this := vt_12 hSH hL_this hK_this
    have hFr : FR 12 tg σ this (I, J, ri, rj, rq) (I, J, ri, rj, rq) := fr_rf
    obtain ⟨F, hF0⟩ : ∃ F, F = g_X12_council a0 (vI 12 σ this I) (vJ 12 σ this J) (vR 12 σ this ri) (vL 12 σ this rj) (vQ 12 σ this rq) := ⟨_, rfl⟩
    have hF := hF0.trans g_X12_council_e
    refine lv_lload_n hx hb dX12_council_0 rfl (lv_at hl 1 rfl) ?_
    refine lv_lconst (v := 0) hx hb dX12_council_1 (by decide +kernel) ?_
    refine W.lcmp hx hb dX12_council_2 ?_
    refine lv_topi (fun x_1 ex_1 => ?_)
    replace hF := hF.trans (ap_n ex_1)
    have K_3379 : ∀  (H : Heap) (locs : List Loc) (ls : Array Slot), F = g_X12_council_K19 (vI 12 σ this I) (vJ 12 σ this J) (vR 12 σ this ri) (vL 12 σ this rj) (vQ 12 σ this rq)  → FR 12 tg σ this (I, J, ri, rj, rq) (I, J, ri, rj, rq) → GM [] tg σ I ri I ri rq → va_P D vwCl (pq_P t σ (I, J, ri, rj, rq)) H → va_D A (pq_P t σ (I, J, ri, rj, rq)) → va_S A s.heap H locs → lv_has ls 8 [] → W p l e ({ frames := 5, cells := 0, slots := 0, locals := 125 } : Room) s m (List.toArray ([.ref this, .long a0] : List Value)) below meth c H locs 0 0 Q (F0 m 19 ls []) := by
      intro H locs ls hF hFr hG hP hD hS hl
      replace hF := hF.trans g_X12_council_K19_e
      refine lv_iconst (v := (-1)) hx hb dX12_council_19 (by decide +kernel) ?_
      subst hQ
      exact W.iret (v := (-1)) hx hb hr (fun t1 ht hW => ⟨⟨(-1), (σ, I, J, ri, rj, rq), rfl, ⟨ri, rj, rfl, hG, (hF0.symm.trans hF), hFr, (rg_w (rg_k (-1 : Int32) (-1) rfl) (by decide +kernel))⟩, by rw [ht]; exact hP, va_K.moved hW.alike hK, hD⟩, hS.F ht⟩) hS.2.2 dX12_council_20
    refine lv_if_lt (tgt := 19) hx hb dX12_council_3 (by decide +kernel) (fun c_3380 => ?_) (fun c_3380 => ?_)
    · replace hF := hF.trans (if_pos c_3380)
      have tc_3385 : (x_1).toInt < 0 := Int32.lt_iff_toInt_lt.mp c_3380
      have h_3386 : rg x_1 (-2147483648) (-1) := rg_lt1 c_3380 (rg_full _) (rg_k (0 : Int32) 0 rfl) (by decide +kernel)
      have uh_3386 := h_3386.1
      have vh_3386 := h_3386.2
      exact K_3379 _ _ _ hF hFr hG hP hD hS (lv_sub hl [] rfl)
    · replace hF := hF.trans (if_neg c_3380)
      have tc_3387 : 0 ≤ (x_1).toInt := Int32.le_iff_toInt_le.mp (nlt c_3380)
      have h_3388 : rg x_1 0 2147483647 := rg_le2 (nlt c_3380) (rg_k (0 : Int32) 0 rfl) (rg_full _) (by decide +kernel)
      have uh_3388 := h_3388.1
      have vh_3388 := h_3388.2
      refine lv_lload_n hx hb dX12_council_6 rfl (lv_at hl 1 rfl) ?_
      refine lv_aload_n hx hb dX12_council_7 rfl (lv_at hl 0 rfl) ?_
      obtain ⟨w_3389, hR_w_3389, hL_w_3389, hK_w_3389, hN_w_3389, hT_w_3389⟩ := sh_a hSH 384 (ci := 12) (kd := 13) (len := 12720) rfl (by decide +kernel) hL_this hK_this
      have hO_w_3389 : w_3389 = vrow σ 384 this := vo_k (c := 12) hO_this hR_w_3389
      refine pg_f (v := .ref w_3389) (C := RX12) (T := TX12) (N := 31) hx hb hts (tw_i inlX12) hown hK hP hL_this hK_this (by decide +kernel) rfl 0 (by decide +kernel) (hts _ (tw_c tw_176)) (pq_hv rfl hR_w_3389) dX12_council_8 ?_
      refine lv_iconst (v := 5) hx hb dX12_council_11 (by decide +kernel) ?_
      refine pl_i hx hb hK hP hL_w_3389 hK_w_3389 hN_w_3389 (vp_in_iff.mpr (by decide +kernel)) dX12_council_12 ?_
      refine lv_tov (ri w_3389 5) rfl ?_
      have h_3390 : rg (ri w_3389 5) 0 40 := GM.z0 hG0 (by rw [hT_w_3389]; decide) (i := 5) (k := 5) (by decide +kernel) rfl
      have uh_3390 := h_3390.1
      have vh_3390 := h_3390.2
      replace hF := hF.trans (ap_n (vR_r hO_w_3389 (by decide +kernel) rfl))
      refine lv_lshr hx hb dX12_council_13 rfl ?_
      refine lv_topl (fun x_3392 ex_3392 => ?_)
      replace hF := hF.trans (ap_n ex_3392)
      refine lv_lconst (v := 0) hx hb dX12_council_14 (by decide +kernel) ?_
      refine W.lcmp hx hb dX12_council_15 ?_
      refine lv_topi (fun x_3393 ex_3393 => ?_)
      replace hF := hF.trans (ap_n ex_3393)
      refine lv_if_eq (tgt := 21) hx hb dX12_council_16 (by decide +kernel) (fun c_3394 => ?_) (fun c_3394 => ?_)
      · replace hF := hF.trans (if_pos c_3394)
        have tc_3398 : (x_3393).toInt = 0 := congrArg Int32.toInt c_3394
        have h_3399 : rg x_3393 0 0 := rg_and (rg_full _) (rg_of_eq c_3394 (rg_k (0 : Int32) 0 rfl)) (by decide +kernel)
        have uh_3399 := h_3399.1
        have vh_3399 := h_3399.2
        refine lv_aload_n hx hb dX12_council_21 rfl (lv_at hl 0 rfl) ?_
        refine pg_f (v := .ref w_3389) (C := RX12) (T := TX12) (N := 31) hx hb hts (tw_i inlX12) hown hK hP hL_this hK_this (by decide +kernel) rfl 0 (by decide +kernel) (hts _ (tw_c tw_176)) (pq_hv rfl hR_w_3389) dX12_council_22 ?_
        refine lv_iconst (v := 0) hx hb dX12_council_25 (by decide +kernel) ?_
        refine pl_i hx hb hK hP hL_w_3389 hK_w_3389 hN_w_3389 (vp_in_iff.mpr (by decide +kernel)) dX12_council_26 ?_
        refine lv_tov (ri w_3389 0) rfl ?_
        have h_3400 : rg (ri w_3389 0) 0 600 := GM.z0 hG0 (by rw [hT_w_3389]; decide) (i := 0) (k := 0) (by decide +kernel) rfl
        have uh_3400 := h_3400.1
        have vh_3400 := h_3400.2
        replace hF := hF.trans (ap_n (vR_r hO_w_3389 (by decide +kernel) rfl))
        refine lv_istore_n (lv' := [(3, .int (ri w_3389 0)), (0, .ref this), (1, .long a0)]) hx hb dX12_council_27 rfl hl (by decide +kernel) rfl (fun ls hl => ?_)
        refine lv_iconst (v := 0) hx hb dX12_council_28 (by decide +kernel) ?_
        refine lv_istore (lv' := [(4, .int 0), (3, .int (ri w_3389 0)), (0, .ref this), (1, .long a0)]) hx hb dX12_council_29 hl (by decide +kernel) rfl (fun ls hl => ?_)
        refine lv_iconst (v := 0) hx hb dX12_council_31 (by decide +kernel) ?_
        refine lv_istore (lv' := [(5, .int 0), (4, .int 0), (3, .int (ri w_3389 0)), (0, .ref this), (1, .long a0)]) hx hb dX12_council_32 hl (by decide +kernel) rfl (fun ls hl => ?_)
        refine lv_iconst (v := 0) hx hb dX12_council_34 (by decide +kernel) ?_
        refine lv_istore (lv' := [(6, .int 0), (5, .int 0), (4, .int 0), (3, .int (ri w_3389 0)), (0, .ref this), (1, .long a0)]) hx hb dX12_council_35 hl (by decide +kernel) rfl (fun ls hl => ?_)
        refine lv_iconst (v := 0) hx hb dX12_council_37 (by decide +kernel) ?_
        refine lv_istore (lv' := [(7, .int 0), (6, .int 0), (5, .int 0), (4, .int 0), (3, .int (ri w_3389 0)), (0, .ref this), (1, .long a0)]) hx hb dX12_council_38 hl (by decide +kernel) rfl (fun ls hl => ?_)
        have L_6646 : ∀ (n_6645 : Nat) (x_6521 : Int32) (x_6522 : Int32) (x_6523 : Int32) (x_6524 : Int32) (ri_6525 : Nat → Nat → Int32) (rj_6526 : Nat → Nat → Int64) (H : Heap) (locs : List Loc) (ls : Array Slot), rg x_6524 0 40 → (40 - (x_6524).toInt).toNat < n_6645 → F = g_X12_council_L40 a0 (vI 12 σ this I) (vJ 12 σ this J) (vQ 12 σ this rq) (ri w_3389 5) (ri w_3389 0) n_6645 x_6521 x_6522 x_6523 x_6524 (vR 12 σ this ri_6525) (vL 12 σ this rj_6526) → FR 12 tg σ this (I, J, ri, rj, rq) (I, J, ri_6525, rj_6526, rq) → GM [] tg σ I ri I ri_6525 rq → va_P D vwCl (pq_P t σ (I, J, ri_6525, rj_6526, rq)) H → va_D A (pq_P t σ (I, J, ri_6525, rj_6526, rq)) → va_S A s.heap H locs → lv_has ls 8 [(0, .ref this), (1, .long a0), (3, .int (ri w_3389 0)), (4, .int x_6521), (5, .int x_6522), (6, .int x_6523), (7, .int x_6524)] → W p l e ({ frames := 5, cells := 0, slots := 0, locals := 125 } : Room) s m (List.toArray ([.ref this, .long a0] : List Value)) below meth c H locs 0 0 Q (F0 m 40 ls []) := by
          intro n_6645
          induction n_6645 with
          | zero => intro x_6521 x_6522 x_6523 x_6524 ri_6525 rj_6526 H locs ls h_6649 hm_6644 hF hFr hG hP hD hS hl; exact absurd hm_6644 (Nat.not_lt_zero _)
          | succ n_6645 ih_6647 =>
            intro x_6521 x_6522 x_6523 x_6524 ri_6525 rj_6526 H locs ls h_6649 hm_6644 hF hFr hG hP hD hS hl
            have uh_6649 := h_6649.1
            have vh_6649 := h_6649.2
            replace hF := hF.trans g_X12_council_L40_e
            refine lv_iload hx hb dX12_council_40 (lv_at hl 6 rfl) ?_
            refine lv_aload_n hx hb dX12_council_42 rfl (lv_at hl 0 rfl) ?_
            refine pg_f (v := .ref w_3389) (C := RX12) (T := TX12) (N := 31) hx hb hts (tw_i inlX12) hown hK hP hL_this hK_this (by decide +kernel) rfl 0 (by decide +kernel) (hts _ (tw_c tw_176)) (pq_hv rfl hR_w_3389) dX12_council_43 ?_
            refine lv_iconst (v := 5) hx hb dX12_council_46 (by decide +kernel) ?_
            refine pl_i hx hb hK hP hL_w_3389 hK_w_3389 hN_w_3389 (vp_in_iff.mpr (by decide +kernel)) dX12_council_47 ?_
            refine lv_tov (ri w_3389 5) (hG.2.2.1 w_3389 hT_w_3389 5 (by decide +kernel) (by decide +kernel)) ?_
            refine lv_icmp_ge (tgt := 152) hx hb dX12_council_48 (by decide +kernel) (fun c_6650 => ?_) (fun c_6650 => ?_)
            · replace hF := hF.trans (if_pos c_6650)
              have tc_6655 : (ri w_3389 5).toInt ≤ (x_6524).toInt := Int32.le_iff_toInt_le.mp c_6650
              refine lv_bipush (v := 100) hx hb dX12_council_152 (by decide +kernel) ?_
              refine lv_iload hx hb dX12_council_154 (lv_at hl 4 rfl) ?_
              refine lv_imul hx hb dX12_council_156 ?_
              refine lv_topi (fun x_6656 ex_6656 => ?_)
              replace hF := hF.trans (ap_n ex_6656)
              refine lv_aload_n hx hb dX12_council_157 rfl (lv_at hl 0 rfl) ?_
              refine lv_bipush (v := 7) hx hb dX12_council_158 (by decide +kernel) ?_
              refine lv_iload_n hx hb dX12_council_160 rfl (lv_at hl 2 rfl) ?_
              refine lv_bipush (v := 50) hx hb dX12_council_161 (by decide +kernel) ?_
              refine pk_i (va_runV (As := [.int 7, .int (ri w_3389 0), .int 50]) (rest := [.int x_6656]) ⟨hx, hb, hml, hown, hts⟩ (s_X12_numberOf l D t σ I J ri_6525 rj_6526 rq H.size tg hSH hG.1 this (7 : Int32) (ri w_3389 0) (50 : Int32) hL_this hK_this w_3389 hR_w_3389 hL_w_3389 hK_w_3389 hN_w_3389 hT_w_3389) (cwV 3 hts (tw_V tw_1016 tw_1017 tw_1018 tw_5 tw_1019) rfl rfl rfl cv_yX12_numberOf_3 ⟨Nat.le_of_ble_eq_true rfl, Nat.le_of_ble_eq_true rfl⟩) ⟨pq_blind, pq_recv hK hP hL_this hK_this (by decide +kernel) rfl, pq_pre hK hN hP hD⟩ rfl rfl hl.1 rfl (lv_room (Nat.le_of_ble_eq_true rfl)) dX12_council_163 ⟨Nat.le_of_ble_eq_true rfl, Nat.le_of_ble_eq_true rfl⟩) hD hS hA (fun x_6657 σ1 μ1 H locs hw_6658 hP hD hS => ?_)
              obtain ⟨hu_6659, hfn_6662⟩ := hw_6658
              obtain ⟨hu_6659a, hu_6659b⟩ := Prod.mk.inj hu_6659
              rw [hu_6659a, hu_6659b] at hP hD
              replace hF := hF.trans (bn_n hfn_6662)
              refine lv_iload hx hb dX12_council_166 (lv_at hl 3 rfl) ?_
              refine lv_imul hx hb dX12_council_168 ?_
              refine lv_topi (fun x_6664 ex_6664 => ?_)
              replace hF := hF.trans (ap_n ex_6664)
              refine lv_icmp_ge (tgt := 174) hx hb dX12_council_169 (by decide +kernel) (fun c_6665 => ?_) (fun c_6665 => ?_)
              · replace hF := hF.trans (if_pos c_6665)
                have tc_6670 : (x_6664).toInt ≤ (x_6656).toInt := Int32.le_iff_toInt_le.mp c_6665
                refine lv_iload hx hb dX12_council_174 (lv_at hl 5 rfl) ?_
                refine lv_if_le (tgt := 183) hx hb dX12_council_176 (by decide +kernel) (fun c_6671 => ?_) (fun c_6671 => ?_)
                · replace hF := hF.trans (if_pos c_6671)
                  have tc_6676 : (x_6523).toInt ≤ 0 := Int32.le_iff_toInt_le.mp c_6671
                  have h_6677 : rg x_6523 (-2147483648) 0 := rg_le1 c_6671 (rg_full _) (rg_k (0 : Int32) 0 rfl) (by decide +kernel)
                  have uh_6677 := h_6677.1
                  have vh_6677 := h_6677.2
                  refine lv_iconst (v := 0) hx hb dX12_council_183 (by decide +kernel) ?_
                  subst hQ
                  exact W.iret (v := 0) hx hb hr (fun t1 ht hW => ⟨⟨0, (σ, I, J, ri_6525, rj_6526, rq), rfl, ⟨ri_6525, rj_6526, rfl, hG, (hF0.symm.trans hF), hFr, (rg_w (rg_k (0 : Int32) 0 rfl) (by decide +kernel))⟩, by rw [ht]; exact hP, va_K.moved hW.alike hK, hD⟩, hS.F ht⟩) hS.2.2 dX12_council_184
                · replace hF := hF.trans (if_neg c_6671)
                  have tc_6678 : 0 < (x_6523).toInt := Int32.lt_iff_toInt_lt.mp (nle c_6671)
                  have h_6679 : rg x_6523 1 2147483647 := rg_lt2 (nle c_6671) (rg_k (0 : Int32) 0 rfl) (rg_full _) (by decide +kernel)
                  have uh_6679 := h_6679.1
                  have vh_6679 := h_6679.2
                  refine lv_iconst (v := 1) hx hb dX12_council_179 (by decide +kernel) ?_
                  refine lv_goto (tgt := 184) hx hb dX12_council_180 (by decide +kernel) ?_
                  subst hQ
                  exact W.iret (v := 1) hx hb hr (fun t1 ht hW => ⟨⟨1, (σ, I, J, ri_6525, rj_6526, rq), rfl, ⟨ri_6525, rj_6526, rfl, hG, (hF0.symm.trans hF), hFr, (rg_w (rg_k (1 : Int32) 1 rfl) (by decide +kernel))⟩, by rw [ht]; exact hP, va_K.moved hW.alike hK, hD⟩, hS.F ht⟩) hS.2.2 dX12_council_184
              · replace hF := hF.trans (if_neg c_6665)
                have tc_6680 : (x_6656).toInt < (x_6664).toInt := Int32.lt_iff_toInt_lt.mp (nle c_6665)
                have h_6681 : rg x_6656 (-2147483648) 2147483646 := rg_lt1 (nle c_6665) (rg_full _) (rg_full _) (by decide +kernel)
                have uh_6681 := h_6681.1
                have vh_6681 := h_6681.2
                have h_6682 : rg x_6664 (-2147483647) 2147483647 := rg_lt2 (nle c_6665) (rg_full _) (rg_full _) (by decide +kernel)
                have uh_6682 := h_6682.1
                have vh_6682 := h_6682.2
                refine lv_iconst (v := 2) hx hb dX12_council_172 (by decide +kernel) ?_
                subst hQ
                exact W.iret (v := 2) hx hb hr (fun t1 ht hW => ⟨⟨2, (σ, I, J, ri_6525, rj_6526, rq), rfl, ⟨ri_6525, rj_6526, rfl, hG, (hF0.symm.trans hF), hFr, (rg_w (rg_k (2 : Int32) 2 rfl) (by decide +kernel))⟩, by rw [ht]; exact hP, va_K.moved hW.alike hK, hD⟩, hS.F ht⟩) hS.2.2 dX12_council_173
            · replace hF := hF.trans (if_neg c_6650)
              have tc_6683 : (x_6524).toInt < (ri w_3389 5).toInt := Int32.lt_iff_toInt_lt.mp (nle c_6650)
              have h_6684 : rg x_6524 0 39 := rg_lt1 (nle c_6650) h_6649 h_3390 (by decide +kernel)
              have uh_6684 := h_6684.1
              have vh_6684 := h_6684.2
              have h_6685 : rg (ri w_3389 5) 1 40 := rg_lt2 (nle c_6650) h_6649 h_3390 (by decide +kernel)
              have uh_6685 := h_6685.1
              have vh_6685 := h_6685.2
              refine lv_aload_n hx hb dX12_council_51 rfl (lv_at hl 0 rfl) ?_
              refine lv_iload hx hb dX12_council_52 (lv_at hl 6 rfl) ?_
              refine lv_iconst (v := 3) hx hb dX12_council_54 (by decide +kernel) ?_
              refine pk_i (va_runV (As := [.int x_6524, .int 3]) (rest := []) ⟨hx, hb, hml, hown, hts⟩ (s_X12_personAt_c3 l D t σ I J ri_6525 rj_6526 rq H.size tg hSH hG.1 this x_6524 hL_this hK_this (rg_w h_6684 (by decide +kernel)) w_3389 hR_w_3389 hL_w_3389 hK_w_3389 hN_w_3389 hT_w_3389) (cwV 2 hts (tw_V tw_437 tw_438 tw_439 tw_5 tw_440) rfl rfl rfl cv_yX12_personAt_2 ⟨Nat.le_of_ble_eq_true rfl, Nat.le_of_ble_eq_true rfl⟩) ⟨pq_blind, pq_recv hK hP hL_this hK_this (by decide +kernel) rfl, pq_pre hK hN hP hD⟩ rfl rfl hl.1 rfl (lv_room (Nat.le_of_ble_eq_true rfl)) dX12_council_55 ⟨Nat.le_of_ble_eq_true rfl, Nat.le_of_ble_eq_true rfl⟩) hD hS hA (fun x_6686 σ1 μ1 H locs hw_6687 hP hD hS => ?_)
              obtain ⟨hu_6688, hp_6691, hp_6692, hfn_6693, hr_6690⟩ := hw_6687
              obtain ⟨hu_6688a, hu_6688b⟩ := Prod.mk.inj hu_6688
              rw [hu_6688a, hu_6688b] at hP hD
              replace hF := hF.trans (bn_n hfn_6693)
              have tt_6695 := hp_6692
              refine lv_sipush (v := 300) hx hb dX12_council_58 (by decide +kernel) ?_
              have K_6778 : ∀  (x_6771 : Int32) (x_6772 : Int32) (x_6773 : Int32) (ri_6774 : Nat → Nat → Int32) (rj_6775 : Nat → Nat → Int64) (H : Heap) (locs : List Loc) (ls : Array Slot), F = g_X12_council_K146 x_6524 (g_X12_council_L40 a0 (vI 12 σ this I) (vJ 12 σ this J) (vQ 12 σ this rq) (ri w_3389 5) (ri w_3389 0) n_6645) x_6771 x_6772 x_6773 (vR 12 σ this ri_6774) (vL 12 σ this rj_6775) → FR 12 tg σ this (I, J, ri, rj, rq) (I, J, ri_6774, rj_6775, rq) → GM [] tg σ I ri I ri_6774 rq → va_P D vwCl (pq_P t σ (I, J, ri_6774, rj_6775, rq)) H → va_D A (pq_P t σ (I, J, ri_6774, rj_6775, rq)) → va_S A s.heap H locs → lv_has ls 8 [(0, .ref this), (1, .long a0), (3, .int (ri w_3389 0)), (4, .int x_6771), (5, .int x_6772), (6, .int x_6773), (7, .int x_6524)] → W p l e ({ frames := 5, cells := 0, slots := 0, locals := 125 } : Room) s m (List.toArray ([.ref this, .long a0] : List Value)) below meth c H locs 0 0 Q (F0 m 146 ls []) := by
                intro x_6771 x_6772 x_6773 ri_6774 rj_6775 H locs ls hF hFr hG hP hD hS hl
                replace hF := hF.trans g_X12_council_K146_e
                obtain ⟨x_6779, ex_6779⟩ : ∃ y : Int32, y = x_6524 + Int32.ofInt 1 := ⟨_, rfl⟩
                replace hF := hF.trans (ap_n ex_6779)
                have h_6780 : rg x_6779 1 40 := rg_of_eq ex_6779 (rg_add h_6684 (rg_k (Int32.ofInt 1) 1 rfl) (by decide +kernel))
                have uh_6780 := h_6780.1
                have vh_6780 := h_6780.2
                have tx_6779 : (x_6779).toInt = (x_6524).toInt + 1 := by rw [ex_6779]; exact i_add_rg (a2 := (x_6524).toInt) (b2 := 1) rfl rfl h_6684 (rg_k (Int32.ofInt 1) 1 rfl) (by decide +kernel)
                refine lv_iinc (v := x_6779) (lv' := [(7, .int x_6779), (0, .ref this), (1, .long a0), (3, .int (ri w_3389 0)), (4, .int x_6771), (5, .int x_6772), (6, .int x_6773)]) hx hb dX12_council_146 hl (k := 6) rfl ex_6779.symm (by decide +kernel) rfl (fun ls hl => ?_)
                refine lv_goto (tgt := 40) hx hb dX12_council_149 (by decide +kernel) ?_
                exact ih_6647 x_6771 x_6772 x_6773 x_6779 ri_6774 rj_6775 _ _ _ (rg_w h_6780 (by decide +kernel)) (ms_up 1 hm_6644 ex_6779 rfl (by decide +kernel) h_6684 (by decide +kernel) (by decide +kernel)) hF hFr hG hP hD hS (lv_sub hl [1, 2, 3, 4, 5, 6, 0] rfl)
              refine lv_icmp_eq (tgt := 146) hx hb dX12_council_61 (by decide +kernel) (fun c_6781 => ?_) (fun c_6781 => ?_)
              · replace hF := hF.trans (if_pos c_6781)
                have tc_6786 : (x_6686).toInt = 300 := congrArg Int32.toInt c_6781
                have h_6787 : rg x_6686 300 300 := rg_and hr_6690 (rg_of_eq c_6781 (rg_k (300 : Int32) 300 rfl)) (by decide +kernel)
                have uh_6787 := h_6787.1
                have vh_6787 := h_6787.2
                exact K_6778 x_6521 x_6522 x_6523 ri_6525 rj_6526 _ _ _ hF hFr hG hP hD hS (lv_sub hl [0, 1, 2, 3, 4, 5, 6] rfl)
              · replace hF := hF.trans (if_neg c_6781)
                have tc_6788 : (x_6686).toInt ≠ 300 := fun q => c_6781 (Int32.toInt_inj.mp q)
                have h_6789 : rg x_6686 0 299 := rg_ne c_6781 hr_6690 300 rfl (by decide +kernel)
                have uh_6789 := h_6789.1
                have vh_6789 := h_6789.2
                refine lv_aload_n hx hb dX12_council_64 rfl (lv_at hl 0 rfl) ?_
                refine lv_iconst (v := 2) hx hb dX12_council_65 (by decide +kernel) ?_
                refine lv_iload hx hb dX12_council_66 (lv_at hl 6 rfl) ?_
                refine lv_iload_n hx hb dX12_council_68 rfl (lv_at hl 2 rfl) ?_
                refine pk_i (va_runV (As := [.int 2, .int x_6524, .int (ri w_3389 0)]) (rest := []) ⟨hx, hb, hml, hown, hts⟩ (s_X12_isFor l D t σ I J ri_6525 rj_6526 rq H.size tg hSH hG.1 this (2 : Int32) x_6524 (ri w_3389 0) hL_this hK_this (rg_w (rg_k (2 : Int32) 2 rfl) (by decide +kernel)) (rg_w h_6684 (by decide +kernel)) w_3389 hR_w_3389 hL_w_3389 hK_w_3389 hN_w_3389 hT_w_3389) (cwV 3 hts (tw_V tw_971 tw_972 tw_973 tw_5 tw_974) rfl rfl rfl cv_yX12_isFor_3 ⟨Nat.le_of_ble_eq_true rfl, Nat.le_of_ble_eq_true rfl⟩) ⟨pq_blind, pq_recv hK hP hL_this hK_this (by decide +kernel) rfl, pq_pre hK hN hP hD⟩ rfl rfl hl.1 rfl (lv_room (Nat.le_of_ble_eq_true rfl)) dX12_council_69 ⟨Nat.le_of_ble_eq_true rfl, Nat.le_of_ble_eq_true rfl⟩) hD hS hA (fun x_6790 σ1 μ1 H locs hw_6791 hP hD hS => ?_)
                obtain ⟨ri_6792, rj_6793, hu_6794, hg_6795, hp_6797, hfn_6798, hfr_6799, hr_6796⟩ := hw_6791
                obtain ⟨hu_6794a, hu_6794b⟩ := Prod.mk.inj hu_6794
                rw [hu_6794a, hu_6794b] at hP hD
                replace hF := hF.trans (bn_n hfn_6798)
                replace hFr := fr_tr hFr hfr_6799
                have hG := GM.tr hG hg_6795 (by decide +kernel)
                have h_6800 : rg x_6790 0 1 := by rcases hr_6796 with ⟨q, -⟩ | ⟨q, -⟩ <;> rw [q] <;> exact ⟨by decide +kernel, by decide +kernel⟩
                have uh_6800 := h_6800.1
                have vh_6800 := h_6800.2
                refine lv_if_eq (tgt := 146) hx hb dX12_council_72 (by decide +kernel) (fun c_6801 => ?_) (fun c_6801 => ?_)
                · replace hF := hF.trans (if_pos c_6801)
                  have tc_6806 : (x_6790).toInt = 0 := congrArg Int32.toInt c_6801
                  have h_6807 : rg x_6790 0 0 := rg_and h_6800 (rg_of_eq c_6801 (rg_k (0 : Int32) 0 rfl)) (by decide +kernel)
                  have uh_6807 := h_6807.1
                  have vh_6807 := h_6807.2
                  exact K_6778 x_6521 x_6522 x_6523 ri_6792 rj_6793 _ _ _ hF hFr hG hP hD hS (lv_sub hl [0, 1, 2, 3, 4, 5, 6] rfl)
                · replace hF := hF.trans (if_neg c_6801)
                  have tc_6808 : (x_6790).toInt ≠ 0 := fun q => c_6801 (Int32.toInt_inj.mp q)
                  have h_6809 : rg x_6790 1 1 := rg_ne c_6801 h_6800 0 rfl (by decide +kernel)
                  have uh_6809 := h_6809.1
                  have vh_6809 := h_6809.2
                  refine lv_aload_n hx hb dX12_council_75 rfl (lv_at hl 0 rfl) ?_
                  refine lv_iconst (v := 4) hx hb dX12_council_76 (by decide +kernel) ?_
                  refine lv_iload hx hb dX12_council_77 (lv_at hl 6 rfl) ?_
                  refine lv_iload_n hx hb dX12_council_79 rfl (lv_at hl 2 rfl) ?_
                  refine pk_i (va_runV (As := [.int 4, .int x_6524, .int (ri w_3389 0)]) (rest := []) ⟨hx, hb, hml, hown, hts⟩ (s_X12_isFor l D t σ I J ri_6792 rj_6793 rq H.size tg hSH hG.1 this (4 : Int32) x_6524 (ri w_3389 0) hL_this hK_this (rg_w (rg_k (4 : Int32) 4 rfl) (by decide +kernel)) (rg_w h_6684 (by decide +kernel)) w_3389 hR_w_3389 hL_w_3389 hK_w_3389 hN_w_3389 hT_w_3389) (cwV 3 hts (tw_V tw_971 tw_972 tw_973 tw_5 tw_974) rfl rfl rfl cv_yX12_isFor_3 ⟨Nat.le_of_ble_eq_true rfl, Nat.le_of_ble_eq_true rfl⟩) ⟨pq_blind, pq_recv hK hP hL_this hK_this (by decide +kernel) rfl, pq_pre hK hN hP hD⟩ rfl rfl hl.1 rfl (lv_room (Nat.le_of_ble_eq_true rfl)) dX12_council_80 ⟨Nat.le_of_ble_eq_true rfl, Nat.le_of_ble_eq_true rfl⟩) hD hS hA (fun x_6810 σ1 μ1 H locs hw_6811 hP hD hS => ?_)
                  obtain ⟨ri_6812, rj_6813, hu_6814, hg_6815, hp_6817, hfn_6818, hfr_6819, hr_6816⟩ := hw_6811
                  obtain ⟨hu_6814a, hu_6814b⟩ := Prod.mk.inj hu_6814
                  rw [hu_6814a, hu_6814b] at hP hD
                  replace hF := hF.trans (bn_n hfn_6818)
                  replace hFr := fr_tr hFr hfr_6819
                  have hG := GM.tr hG hg_6815 (by decide +kernel)
                  have h_6820 : rg x_6810 0 1 := by rcases hr_6816 with ⟨q, -⟩ | ⟨q, -⟩ <;> rw [q] <;> exact ⟨by decide +kernel, by decide +kernel⟩
                  have uh_6820 := h_6820.1
                  have vh_6820 := h_6820.2
                  refine lv_if_ne (tgt := 89) hx hb dX12_council_83 (by decide +kernel) (fun c_6821 => ?_) (fun c_6821 => ?_)
                  · replace hF := hF.trans (if_neg c_6821)
                    have tc_6826 : (x_6810).toInt ≠ 0 := fun q => c_6821 (Int32.toInt_inj.mp q)
                    have h_6827 : rg x_6810 1 1 := rg_ne c_6821 h_6820 0 rfl (by decide +kernel)
                    have uh_6827 := h_6827.1
                    have vh_6827 := h_6827.2
                    obtain ⟨x_6828, ex_6828⟩ : ∃ y : Int32, y = x_6521 + Int32.ofInt 1 := ⟨_, rfl⟩
                    replace hF := hF.trans (ap_n ex_6828)
                    refine lv_iinc (v := x_6828) (lv' := [(4, .int x_6828), (0, .ref this), (1, .long a0), (3, .int (ri w_3389 0)), (5, .int x_6522), (6, .int x_6523), (7, .int x_6524)]) hx hb dX12_council_89 hl (k := 3) rfl ex_6828.symm (by decide +kernel) rfl (fun ls hl => ?_)
                    refine lv_lload_n hx hb dX12_council_92 rfl (lv_at hl 2 rfl) ?_
                    refine lv_iload hx hb dX12_council_93 (lv_at hl 6 rfl) ?_
                    refine lv_lshr hx hb dX12_council_95 rfl ?_
                    refine lv_topl (fun x_6829 ex_6829 => ?_)
                    replace hF := hF.trans (ap_n ex_6829)
                    refine lv_lconst (v := 1) hx hb dX12_council_96 (by decide +kernel) ?_
                    refine lv_land hx hb dX12_council_97 ?_
                    refine lv_topl (fun x_6830 ex_6830 => ?_)
                    replace hF := hF.trans (ap_n ex_6830)
                    refine lv_lconst (v := 0) hx hb dX12_council_98 (by decide +kernel) ?_
                    refine W.lcmp hx hb dX12_council_99 ?_
                    refine lv_topi (fun x_6831 ex_6831 => ?_)
                    replace hF := hF.trans (ap_n ex_6831)
                    refine lv_if_ne (tgt := 106) hx hb dX12_council_100 (by decide +kernel) (fun c_6832 => ?_) (fun c_6832 => ?_)
                    · replace hF := hF.trans (if_neg c_6832)
                      have tc_6836 : (x_6831).toInt ≠ 0 := fun q => c_6832 (Int32.toInt_inj.mp q)
                      obtain ⟨x_6837, ex_6837⟩ : ∃ y : Int32, y = x_6522 + Int32.ofInt 1 := ⟨_, rfl⟩
                      replace hF := hF.trans (ap_n ex_6837)
                      refine lv_iinc (v := x_6837) (lv' := [(5, .int x_6837), (4, .int x_6828), (0, .ref this), (1, .long a0), (3, .int (ri w_3389 0)), (6, .int x_6523), (7, .int x_6524)]) hx hb dX12_council_106 hl (k := 4) rfl ex_6837.symm (by decide +kernel) rfl (fun ls hl => ?_)
                      refine lv_iload hx hb dX12_council_109 (lv_at hl 5 rfl) ?_
                      refine lv_aload_n hx hb dX12_council_111 rfl (lv_at hl 2 rfl) ?_
                      refine lv_iload hx hb dX12_council_112 (lv_at hl 6 rfl) ?_
                      refine lv_bipush (v := 8) hx hb dX12_council_114 (by decide +kernel) ?_
                      refine pk_i (va_runV (As := [.int x_6524, .int 8]) (rest := [.int x_6523]) ⟨hx, hb, hml, hown, hts⟩ (s_X12_personAt_c8 l D t σ I J ri_6812 rj_6813 rq H.size tg hSH hG.1 this x_6524 hL_this hK_this (rg_w h_6684 (by decide +kernel)) w_3389 hR_w_3389 hL_w_3389 hK_w_3389 hN_w_3389 hT_w_3389) (cwV 2 hts (tw_V tw_437 tw_438 tw_439 tw_5 tw_440) rfl rfl rfl cv_yX12_personAt_2 ⟨Nat.le_of_ble_eq_true rfl, Nat.le_of_ble_eq_true rfl⟩) ⟨pq_blind, pq_recv hK hP hL_this hK_this (by decide +kernel) rfl, pq_pre hK hN hP hD⟩ rfl rfl hl.1 rfl (lv_room (Nat.le_of_ble_eq_true rfl)) dX12_council_116 ⟨Nat.le_of_ble_eq_true rfl, Nat.le_of_ble_eq_true rfl⟩) hD hS hA (fun x_6838 σ1 μ1 H locs hw_6839 hP hD hS => ?_)
                      obtain ⟨hu_6840, hp_6843, hfn_6844⟩ := hw_6839
                      obtain ⟨hu_6840a, hu_6840b⟩ := Prod.mk.inj hu_6840
                      rw [hu_6840a, hu_6840b] at hP hD
                      replace hF := hF.trans (bn_n hfn_6844)
                      refine lv_iconst (v := 1) hx hb dX12_council_119 (by decide +kernel) ?_
                      have K_6867 : ∀  (H : Heap) (locs : List Loc) (ls : Array Slot), F = g_X12_council_K143 x_6523 x_6524 (g_X12_council_L40 a0 (vI 12 σ this I) (vJ 12 σ this J) (vQ 12 σ this rq) (ri w_3389 5) (ri w_3389 0) n_6645) (vR 12 σ this ri_6812) (vL 12 σ this rj_6813) x_6828 x_6837  → FR 12 tg σ this (I, J, ri, rj, rq) (I, J, ri_6812, rj_6813, rq) → GM [] tg σ I ri I ri_6812 rq → va_P D vwCl (pq_P t σ (I, J, ri_6812, rj_6813, rq)) H → va_D A (pq_P t σ (I, J, ri_6812, rj_6813, rq)) → va_S A s.heap H locs → lv_has ls 8 [(0, .ref this), (1, .long a0), (3, .int (ri w_3389 0)), (4, .int x_6828), (5, .int x_6837), (7, .int x_6524)] → W p l e ({ frames := 5, cells := 0, slots := 0, locals := 125 } : Room) s m (List.toArray ([.ref this, .long a0] : List Value)) below meth c H locs 0 0 Q (F0 m 143 ls [.int 0, .int x_6523]) := by
                        intro H locs ls hF hFr hG hP hD hS hl
                        replace hF := hF.trans g_X12_council_K143_e
                        refine lv_iadd hx hb dX12_council_143 ?_
                        refine lv_topi (fun x_6868 ex_6868 => ?_)
                        replace hF := hF.trans (ap_n ex_6868)
                        have h_6869 : rg x_6868 (-2147483648) 2147483647 := rg_of_eq ex_6868 (rg_add (rg_full _) (rg_k (0 : Int32) 0 rfl) (by decide +kernel))
                        have uh_6869 := h_6869.1
                        have vh_6869 := h_6869.2
                        have tx_6868 : (x_6868).toInt = (x_6523).toInt + 0 := by rw [ex_6868]; exact i_add_rg (a2 := (x_6523).toInt) (b2 := 0) rfl rfl (rg_full _) (rg_k (0 : Int32) 0 rfl) (by decide +kernel)
                        refine lv_istore (lv' := [(6, .int x_6868), (0, .ref this), (1, .long a0), (3, .int (ri w_3389 0)), (4, .int x_6828), (5, .int x_6837), (7, .int x_6524)]) hx hb dX12_council_144 hl (by decide +kernel) rfl (fun ls hl => ?_)
                        exact K_6778 x_6828 x_6837 x_6868 ri_6812 rj_6813 _ _ _ hF hFr hG hP hD hS (lv_sub hl [1, 2, 3, 4, 5, 0, 6] rfl)
                      have K_6870 : ∀  (H : Heap) (locs : List Loc) (ls : Array Slot), F = g_X12_council_K143_2 x_6523 x_6524 (g_X12_council_L40 a0 (vI 12 σ this I) (vJ 12 σ this J) (vQ 12 σ this rq) (ri w_3389 5) (ri w_3389 0) n_6645) (vR 12 σ this ri_6812) (vL 12 σ this rj_6813) x_6828 x_6837  → FR 12 tg σ this (I, J, ri, rj, rq) (I, J, ri_6812, rj_6813, rq) → GM [] tg σ I ri I ri_6812 rq → va_P D vwCl (pq_P t σ (I, J, ri_6812, rj_6813, rq)) H → va_D A (pq_P t σ (I, J, ri_6812, rj_6813, rq)) → va_S A s.heap H locs → lv_has ls 8 [(0, .ref this), (1, .long a0), (3, .int (ri w_3389 0)), (4, .int x_6828), (5, .int x_6837), (7, .int x_6524)] → W p l e ({ frames := 5, cells := 0, slots := 0, locals := 125 } : Room) s m (List.toArray ([.ref this, .long a0] : List Value)) below meth c H locs 0 0 Q (F0 m 143 ls [.int (-1), .int x_6523]) := by
                        intro H locs ls hF hFr hG hP hD hS hl
                        replace hF := hF.trans g_X12_council_K143_2_e
                        refine lv_iadd hx hb dX12_council_143 ?_
                        refine lv_topi (fun x_6871 ex_6871 => ?_)
                        replace hF := hF.trans (ap_n ex_6871)
                        refine lv_istore (lv' := [(6, .int x_6871), (0, .ref this), (1, .long a0), (3, .int (ri w_3389 0)), (4, .int x_6828), (5, .int x_6837), (7, .int x_6524)]) hx hb dX12_council_144 hl (by decide +kernel) rfl (fun ls hl => ?_)
                        exact K_6778 x_6828 x_6837 x_6871 ri_6812 rj_6813 _ _ _ hF hFr hG hP hD hS (lv_sub hl [1, 2, 3, 4, 5, 0, 6] rfl)
                      have K_6872 : ∀  (H : Heap) (locs : List Loc) (ls : Array Slot), rg (x_6838) 1 1 → F = g_X12_council_K143_3 x_6523 x_6524 (g_X12_council_L40 a0 (vI 12 σ this I) (vJ 12 σ this J) (vQ 12 σ this rq) (ri w_3389 5) (ri w_3389 0) n_6645) (vR 12 σ this ri_6812) (vL 12 σ this rj_6813) x_6828 x_6837  → FR 12 tg σ this (I, J, ri, rj, rq) (I, J, ri_6812, rj_6813, rq) → GM [] tg σ I ri I ri_6812 rq → va_P D vwCl (pq_P t σ (I, J, ri_6812, rj_6813, rq)) H → va_D A (pq_P t σ (I, J, ri_6812, rj_6813, rq)) → va_S A s.heap H locs → lv_has ls 8 [(0, .ref this), (1, .long a0), (3, .int (ri w_3389 0)), (4, .int x_6828), (5, .int x_6837), (7, .int x_6524)] → W p l e ({ frames := 5, cells := 0, slots := 0, locals := 125 } : Room) s m (List.toArray ([.ref this, .long a0] : List Value)) below meth c H locs 0 0 Q (F0 m 143 ls [.int 1, .int x_6523]) := by
                        intro H locs ls h_6874 hF hFr hG hP hD hS hl
                        have uh_6874 := h_6874.1
                        have vh_6874 := h_6874.2
                        replace hF := hF.trans g_X12_council_K143_3_e
                        refine lv_iadd hx hb dX12_council_143 ?_
                        refine lv_topi (fun x_6875 ex_6875 => ?_)
                        replace hF := hF.trans (ap_n ex_6875)
                        refine lv_istore (lv' := [(6, .int x_6875), (0, .ref this), (1, .long a0), (3, .int (ri w_3389 0)), (4, .int x_6828), (5, .int x_6837), (7, .int x_6524)]) hx hb dX12_council_144 hl (by decide +kernel) rfl (fun ls hl => ?_)
                        exact K_6778 x_6828 x_6837 x_6875 ri_6812 rj_6813 _ _ _ hF hFr hG hP hD hS (lv_sub hl [1, 2, 3, 4, 5, 0, 6] rfl)
                      refine lv_icmp_ne (tgt := 127) hx hb dX12_council_120 (by decide +kernel) (fun c_6876 => ?_) (fun c_6876 => ?_)
                      · replace hF := hF.trans (if_neg c_6876)
                        have tc_6880 : (x_6838).toInt ≠ 1 := fun q => c_6876 (Int32.toInt_inj.mp q)
                        refine lv_aload_n hx hb dX12_council_127 rfl (lv_at hl 2 rfl) ?_
                        refine lv_iload hx hb dX12_council_128 (lv_at hl 6 rfl) ?_
                        refine lv_bipush (v := 8) hx hb dX12_council_130 (by decide +kernel) ?_
                        refine pk_i (va_runV (As := [.int x_6524, .int 8]) (rest := [.int x_6523]) ⟨hx, hb, hml, hown, hts⟩ (s_X12_personAt_c8 l D t σ I J ri_6812 rj_6813 rq H.size tg hSH hG.1 this x_6524 hL_this hK_this (rg_w h_6684 (by decide +kernel)) w_3389 hR_w_3389 hL_w_3389 hK_w_3389 hN_w_3389 hT_w_3389) (cwV 2 hts (tw_V tw_437 tw_438 tw_439 tw_5 tw_440) rfl rfl rfl cv_yX12_personAt_2 ⟨Nat.le_of_ble_eq_true rfl, Nat.le_of_ble_eq_true rfl⟩) ⟨pq_blind, pq_recv hK hP hL_this hK_this (by decide +kernel) rfl, pq_pre hK hN hP hD⟩ rfl rfl hl.1 rfl (lv_room (Nat.le_of_ble_eq_true rfl)) dX12_council_132 ⟨Nat.le_of_ble_eq_true rfl, Nat.le_of_ble_eq_true rfl⟩) hD hS hA (fun x_6881 σ1 μ1 H locs hw_6882 hP hD hS => ?_)
                        obtain ⟨hu_6883, hp_6886, hfn_6887⟩ := hw_6882
                        obtain ⟨hu_6883a, hu_6883b⟩ := Prod.mk.inj hu_6883
                        rw [hu_6883a, hu_6883b] at hP hD
                        replace hF := hF.trans (bn_n hfn_6887)
                        refine lv_if_ne (tgt := 142) hx hb dX12_council_135 (by decide +kernel) (fun c_6889 => ?_) (fun c_6889 => ?_)
                        · replace hF := hF.trans (if_neg c_6889)
                          have tc_6893 : (x_6881).toInt ≠ 0 := fun q => c_6889 (Int32.toInt_inj.mp q)
                          refine lv_iconst (v := 0) hx hb dX12_council_142 (by decide +kernel) ?_
                          exact K_6867 _ _ _ hF hFr hG hP hD hS (lv_sub hl [2, 3, 4, 1, 0, 6] rfl)
                        · replace hF := hF.trans (if_pos c_6889)
                          have tc_6894 : (x_6881).toInt = 0 := congrArg Int32.toInt c_6889
                          have h_6895 : rg x_6881 0 0 := rg_and (rg_full _) (rg_of_eq c_6889 (rg_k (0 : Int32) 0 rfl)) (by decide +kernel)
                          have uh_6895 := h_6895.1
                          have vh_6895 := h_6895.2
                          refine lv_iconst (v := (-1)) hx hb dX12_council_138 (by decide +kernel) ?_
                          refine lv_goto (tgt := 143) hx hb dX12_council_139 (by decide +kernel) ?_
                          exact K_6870 _ _ _ hF hFr hG hP hD hS (lv_sub hl [2, 3, 4, 1, 0, 6] rfl)
                      · replace hF := hF.trans (if_pos c_6876)
                        have tc_6896 : (x_6838).toInt = 1 := congrArg Int32.toInt c_6876
                        have h_6897 : rg x_6838 1 1 := rg_and (rg_full _) (rg_of_eq c_6876 (rg_k (1 : Int32) 1 rfl)) (by decide +kernel)
                        have uh_6897 := h_6897.1
                        have vh_6897 := h_6897.2
                        refine lv_iconst (v := 1) hx hb dX12_council_123 (by decide +kernel) ?_
                        refine lv_goto (tgt := 143) hx hb dX12_council_124 (by decide +kernel) ?_
                        exact K_6872 _ _ _ (rg_w h_6897 (by decide +kernel)) hF hFr hG hP hD hS (lv_sub hl [2, 3, 4, 1, 0, 6] rfl)
                    · replace hF := hF.trans (if_pos c_6832)
                      have tc_6898 : (x_6831).toInt = 0 := congrArg Int32.toInt c_6832
                      have h_6899 : rg x_6831 0 0 := rg_and (rg_full _) (rg_of_eq c_6832 (rg_k (0 : Int32) 0 rfl)) (by decide +kernel)
                      have uh_6899 := h_6899.1
                      have vh_6899 := h_6899.2
                      refine lv_goto (tgt := 146) hx hb dX12_council_103 (by decide +kernel) ?_
                      exact K_6778 x_6828 x_6522 x_6523 ri_6812 rj_6813 _ _ _ hF hFr hG hP hD hS (lv_sub hl [1, 2, 3, 0, 4, 5, 6] rfl)
                  · replace hF := hF.trans (if_pos c_6821)
                    have tc_6900 : (x_6810).toInt = 0 := congrArg Int32.toInt c_6821
                    have h_6901 : rg x_6810 0 0 := rg_and h_6820 (rg_of_eq c_6821 (rg_k (0 : Int32) 0 rfl)) (by decide +kernel)
                    have uh_6901 := h_6901.1
                    have vh_6901 := h_6901.2
                    refine lv_goto (tgt := 146) hx hb dX12_council_86 (by decide +kernel) ?_
                    exact K_6778 x_6521 x_6522 x_6523 ri_6812 rj_6813 _ _ _ hF hFr hG hP hD hS (lv_sub hl [0, 1, 2, 3, 4, 5, 6] rfl)
        exact L_6646 _ (0 : Int32) (0 : Int32) (0 : Int32) (0 : Int32) ri rj _ _ _ (rg_w (rg_k (0 : Int32) 0 rfl) (by decide +kernel)) (Nat.lt_succ_self _) hF hFr hG hP hD hS (lv_sub hl [5, 6, 4, 3, 2, 1, 0] rfl)
      · replace hF := hF.trans (if_neg c_3394)
        have tc_6902 : (x_3393).toInt ≠ 0 := fun q => c_3394 (Int32.toInt_inj.mp q)
        exact K_3379 _ _ _ hF hFr hG hP hD hS (lv_sub hl [] rfl)
  exact go _ _ _ hP hD hS hl

set_option maxRecDepth 100000 in
def g_X12_sinks_K19 (I : Nat → Int32) (J : Nat → Int64) (ri : Nat → Nat → Int32) (rj : Nat → Nat → Int64) (rq : Nat → Nat → Option Nat) : Int32 × vM := ((-1 : Int32), I, J, ri, rj, rq)
set_option maxRecDepth 100000 in
theorem g_X12_sinks_K19_e {I : Nat → Int32} {J : Nat → Int64} {ri : Nat → Nat → Int32} {rj : Nat → Nat → Int64} {rq : Nat → Nat → Option Nat} : g_X12_sinks_K19 I J ri rj rq  = ((-1 : Int32), I, J, ri, rj, rq) := rfl
set_option maxRecDepth 100000 in
def g_X12_sinks_K80 (J : Nat → Int64) (rq : Nat → Nat → Option Nat) (x_2154 : Int32) (I_2156 : Nat → Int32) (ri_2157 : Nat → Nat → Int32) (rj_2158 : Nat → Nat → Int64) : Int32 × vM := (ap1 (va_up ri_2157 384 (va_cpy (ri_2157 386) (ri_2157 384) 0 0 12720)) fun (ri_2285 : Nat → Nat → Int32) => (x_2154, I_2156, J, ri_2285, rj_2158, rq))
set_option maxRecDepth 100000 in
theorem g_X12_sinks_K80_e {J : Nat → Int64} {rq : Nat → Nat → Option Nat} {x_2154 : Int32} {I_2156 : Nat → Int32} {ri_2157 : Nat → Nat → Int32} {rj_2158 : Nat → Nat → Int64} : g_X12_sinks_K80 J rq x_2154 I_2156 ri_2157 rj_2158  = (ap1 (va_up ri_2157 384 (va_cpy (ri_2157 386) (ri_2157 384) 0 0 12720)) fun (ri_2285 : Nat → Nat → Int32) => (x_2154, I_2156, J, ri_2285, rj_2158, rq)) := rfl
set_option maxRecDepth 100000 in
def g_X12_sinks_K74 (x_2155 : Int32) (k_g_X12_sinks_L38 : (Int32) → (Int32) → (Nat → Int32) → (Nat → Nat → Int32) → (Nat → Nat → Int64) → Int32 × vM) (I_2316 : Nat → Int32) (ri_2317 : Nat → Nat → Int32) (rj_2318 : Nat → Nat → Int64) (x_2342 : Int32) : Int32 × vM := (ap1 (x_2155 + Int32.ofInt 1) fun (x_2349 : Int32) => (k_g_X12_sinks_L38 x_2342 x_2349 I_2316 ri_2317 rj_2318))
set_option maxRecDepth 100000 in
theorem g_X12_sinks_K74_e {x_2155 : Int32} {k_g_X12_sinks_L38 : (Int32) → (Int32) → (Nat → Int32) → (Nat → Nat → Int32) → (Nat → Nat → Int64) → Int32 × vM} {I_2316 : Nat → Int32} {ri_2317 : Nat → Nat → Int32} {rj_2318 : Nat → Nat → Int64} {x_2342 : Int32} : g_X12_sinks_K74 x_2155 k_g_X12_sinks_L38 I_2316 ri_2317 rj_2318 x_2342 = (ap1 (x_2155 + Int32.ofInt 1) fun (x_2349 : Int32) => (k_g_X12_sinks_L38 x_2342 x_2349 I_2316 ri_2317 rj_2318)) := rfl
set_option maxRecDepth 100000 in
def g_X12_sinks_L38 (a0 : Int32) (a1 : Int32) (a2 : Int32) (J : Nat → Int64) (rq : Nat → Nat → Option Nat) : Nat → (Int32) → (Int32) → (Nat → Int32) → (Nat → Nat → Int32) → (Nat → Nat → Int64) → Int32 × vM
  | 0, x_2154, x_2155, I_2156, ri_2157, rj_2158 => ((0 : Int32), I_2156, J, ri_2157, rj_2158, rq)
  | n_2218 + 1, x_2154, x_2155, I_2156, ri_2157, rj_2158 => (if a2 ≤ x_2155 then (g_X12_sinks_K80 J rq x_2154 I_2156 ri_2157 rj_2158 ) else (if (0 : Int32) ≤ x_2154 then (g_X12_sinks_K80 J rq x_2154 I_2156 ri_2157 rj_2158 ) else (bnV (g_X12_month a1 I_2156 J ri_2157 rj_2158 rq) fun (I_2316 : Nat → Int32) (_ : Nat → Int64) (ri_2317 : Nat → Nat → Int32) (rj_2318 : Nat → Nat → Int64) (_ : Nat → Nat → Option Nat) => (bnI (g_X12_cellAt_c12 a0 I_2316 J ri_2317 rj_2318 rq) fun (x_2327 : Int32) (_ : Nat → Int32) (_ : Nat → Int64) (_ : Nat → Nat → Int32) (_ : Nat → Nat → Int64) (_ : Nat → Nat → Option Nat) => (if x_2327 = (0 : Int32) then (ap1 (ri_2317 384 ((0 : Int32)).toNatClampNeg) fun (x_2358 : Int32) => (ap1 (x_2358 - (1 : Int32)) fun (x_2360 : Int32) => (g_X12_sinks_K74 x_2155 (g_X12_sinks_L38 a0 a1 a2 J rq n_2218) I_2316 ri_2317 rj_2318 x_2360))) else (g_X12_sinks_K74 x_2155 (g_X12_sinks_L38 a0 a1 a2 J rq n_2218) I_2316 ri_2317 rj_2318 x_2154))))))
set_option maxRecDepth 100000 in
theorem g_X12_sinks_L38_e {a0 : Int32} {a1 : Int32} {a2 : Int32} {J : Nat → Int64} {rq : Nat → Nat → Option Nat} {n_2218 : Nat} {x_2154 : Int32} {x_2155 : Int32} {I_2156 : Nat → Int32} {ri_2157 : Nat → Nat → Int32} {rj_2158 : Nat → Nat → Int64} : g_X12_sinks_L38 a0 a1 a2 J rq (n_2218 + 1) x_2154 x_2155 I_2156 ri_2157 rj_2158 = (if a2 ≤ x_2155 then (g_X12_sinks_K80 J rq x_2154 I_2156 ri_2157 rj_2158 ) else (if (0 : Int32) ≤ x_2154 then (g_X12_sinks_K80 J rq x_2154 I_2156 ri_2157 rj_2158 ) else (bnV (g_X12_month a1 I_2156 J ri_2157 rj_2158 rq) fun (I_2316 : Nat → Int32) (_ : Nat → Int64) (ri_2317 : Nat → Nat → Int32) (rj_2318 : Nat → Nat → Int64) (_ : Nat → Nat → Option Nat) => (bnI (g_X12_cellAt_c12 a0 I_2316 J ri_2317 rj_2318 rq) fun (x_2327 : Int32) (_ : Nat → Int32) (_ : Nat → Int64) (_ : Nat → Nat → Int32) (_ : Nat → Nat → Int64) (_ : Nat → Nat → Option Nat) => (if x_2327 = (0 : Int32) then (ap1 (ri_2317 384 ((0 : Int32)).toNatClampNeg) fun (x_2358 : Int32) => (ap1 (x_2358 - (1 : Int32)) fun (x_2360 : Int32) => (g_X12_sinks_K74 x_2155 (g_X12_sinks_L38 a0 a1 a2 J rq n_2218) I_2316 ri_2317 rj_2318 x_2360))) else (g_X12_sinks_K74 x_2155 (g_X12_sinks_L38 a0 a1 a2 J rq n_2218) I_2316 ri_2317 rj_2318 x_2154)))))) := rfl
set_option maxRecDepth 100000 in
def g_X12_sinks (a0 : Int32) (a1 : Int32) (a2 : Int32) (I : Nat → Int32) (J : Nat → Int64) (ri : Nat → Nat → Int32) (rj : Nat → Nat → Int64) (rq : Nat → Nat → Option Nat) : Int32 × vM := (bnI (g_X12_isCell a0 I J ri rj rq) fun (x_1 : Int32) (_ : Nat → Int32) (_ : Nat → Int64) (_ : Nat → Nat → Int32) (_ : Nat → Nat → Int64) (_ : Nat → Nat → Option Nat) => (if x_1 = (0 : Int32) then (g_X12_sinks_K19 I J ri rj rq ) else (bnI (g_X12_isTime a2 (60 : Int32) a1 I J ri rj rq) fun (x_1150 : Int32) (_ : Nat → Int32) (_ : Nat → Int64) (_ : Nat → Nat → Int32) (_ : Nat → Nat → Int64) (_ : Nat → Nat → Option Nat) => (if x_1150 = (0 : Int32) then (g_X12_sinks_K19 I J ri rj rq ) else (ap1 (va_up ri 386 (va_cpy (ri 384) (ri 386) 0 0 12720)) fun (ri_1178 : Nat → Nat → Int32) => (g_X12_sinks_L38 a0 a1 a2 J rq ((60 - ((0 : Int32)).toInt).toNat + 1) (-1 : Int32) (0 : Int32) I ri_1178 rj))))))
set_option maxRecDepth 100000 in
theorem g_X12_sinks_e {a0 : Int32} {a1 : Int32} {a2 : Int32} {I : Nat → Int32} {J : Nat → Int64} {ri : Nat → Nat → Int32} {rj : Nat → Nat → Int64} {rq : Nat → Nat → Option Nat} : g_X12_sinks a0 a1 a2 I J ri rj rq = (bnI (g_X12_isCell a0 I J ri rj rq) fun (x_1 : Int32) (_ : Nat → Int32) (_ : Nat → Int64) (_ : Nat → Nat → Int32) (_ : Nat → Nat → Int64) (_ : Nat → Nat → Option Nat) => (if x_1 = (0 : Int32) then (g_X12_sinks_K19 I J ri rj rq ) else (bnI (g_X12_isTime a2 (60 : Int32) a1 I J ri rj rq) fun (x_1150 : Int32) (_ : Nat → Int32) (_ : Nat → Int64) (_ : Nat → Nat → Int32) (_ : Nat → Nat → Int64) (_ : Nat → Nat → Option Nat) => (if x_1150 = (0 : Int32) then (g_X12_sinks_K19 I J ri rj rq ) else (ap1 (va_up ri 386 (va_cpy (ri 384) (ri 386) 0 0 12720)) fun (ri_1178 : Nat → Nat → Int32) => (g_X12_sinks_L38 a0 a1 a2 J rq ((60 - ((0 : Int32)).toInt).toNat + 1) (-1 : Int32) (0 : Int32) I ri_1178 rj)))))) := rfl
set_option maxHeartbeats 4000000 in
set_option maxRecDepth 100000 in
theorem s_X12_sinks (l : Launch) (D : va_G) (t : pq_T) (σ : pq_S) (I : Nat → Nat → Int32) (J : Nat → Nat → Int64) (ri : Nat → Nat → Int32) (rj : Nat → Nat → Int64) (rq : Nat → Nat → Option Nat) (sz : Nat) (tg : Nat → Nat) (hSH : SH σ tg) (hG0 : GT tg I ri) (this : Nat) (a0 : Int32) (a1 : Int32) (a2 : Int32) (hL_this : this ∈ σ.1) (hK_this : σ.2.1 this = 12) (this_a : Nat) (hR_this_a : σ.2.2.1 384 this = some this_a) (hL_this_a : this_a ∈ σ.1) (hK_this_a : σ.2.1 this_a = 13) (hN_this_a : σ.2.2.2 this_a = 12720) (hT_this_a : tg this_a = 384) (this_kept : Nat) (hR_this_kept : σ.2.2.1 386 this = some this_kept) (hL_this_kept : this_kept ∈ σ.1) (hK_this_kept : σ.2.1 this_kept = 13) (hN_this_kept : σ.2.2.2 this_kept = 12720) (hT_this_kept : tg this_kept = 386) : MetI l yX12_sinks (wa yX12_sinks cX12_sinks 6 (some .int)) ({ frames := 7, cells := 0, slots := 0, locals := 172 }) [.ref this, .int a0, .int a1, .int a2] D t σ (I, J, ri, rj, rq) sz 0 0 (fun (r : Int32) (u : pq_S × pq_M) => ∃ I' : Nat → Nat → Int32, ∃ ri' : Nat → Nat → Int32, ∃ rj' : Nat → Nat → Int64, u = (σ, I', J, ri', rj', rq) ∧ GM [2001, 1305, 1304, 1403, 1000, 1001, 1002, 1003, 1004, 1005, 1006, 1007, 1010, 1013, 1014, 1015, 1500, 1501, 1502, 1503, 1504, 1100, 1101, 1102, 1103, 1104, 1300, 1301, 1306, 1308, 1700, 1701, 1702] tg σ I ri I' ri' rq ∧ g_X12_sinks a0 a1 a2 (vI 12 σ this I) (vJ 12 σ this J) (vR 12 σ this ri) (vL 12 σ this rj) (vQ 12 σ this rq) = (r, (vI 12 σ this I'), (vJ 12 σ this J), (vR 12 σ this ri'), (vL 12 σ this rj'), (vQ 12 σ this rq)) ∧ FR 12 tg σ this (I, J, ri, rj, rq) (I', J, ri', rj', rq) ∧ rg r (-1) 599) := by
  refine Met.ofW (cc := cX12_sinks) (maxL := 6) (ret := (some .int)) (by decide +kernel) rfl ?_
  intro p e s m args below meth c s₁ B hml hv
  obtain ⟨rfl, hsz, hP, hK, hD0, hN⟩ := hv
  have hx := B.exec
  have hb := B.bytes
  have hr := B.returns
  have hts := atoms_spec (ws := (wa yX12_sinks cX12_sinks 6 (some .int))) B.pre
  have hown : s.vm.findClass RX12 = some m.cls := findClass_of_methodNamed B.named
  have hlocks := B.notSynchronized
  subst hsz
  have hD : va_D (pq_B t σ (I, J, ri, rj, rq) s.heap.size) (pq_P t σ (I, J, ri, rj, rq)) := hD0.self
  generalize hAe : pq_B t σ (I, J, ri, rj, rq) s.heap.size = A at hD ⊢
  have hA : ∀ q : Nat, s.heap.size ≤ q → A q := fun q h => by rw [← hAe]; exact Or.inr h
  have hS : va_S A s.heap s.heap [] := va_S.rf
  have hG : GM [2001, 1305, 1304, 1403, 1000, 1001, 1002, 1003, 1004, 1005, 1006, 1007, 1010, 1013, 1014, 1015, 1500, 1501, 1502, 1503, 1504, 1100, 1101, 1102, 1103, 1104, 1300, 1301, 1306, 1308, 1700, 1701, 1702] tg σ I ri I ri rq := ⟨hG0, fun _ _ _ => rfl, fun _ _ _ _ _ => rfl, fun _ _ _ _ _ _ => rfl⟩
  have hl := lv_entry ([.ref this, .int a0, .int a1, .int a2]) (n := 6) (Nat.le_of_ble_eq_true rfl)
  rw [lg_entry_eq]
  generalize (lg_sl ([.ref this, .int a0, .int a1, .int a2]) ++ List.replicate (6 - (lg_sl ([.ref this, .int a0, .int a1, .int a2])).length) Slot.unset).toArray = ls at hl ⊢
  have hl : lv_has ls 6 [(0, .ref this), (1, .int a0), (2, .int a1), (3, .int a2)] := hl
  refine q_gen (fun Q hQ => ?_)
  have go : ∀ (H : Heap) (locs : List Loc) (ls : Array Slot), va_P D vwCl (pq_P t σ (I, J, ri, rj, rq)) H → va_D A (pq_P t σ (I, J, ri, rj, rq)) → va_S A s.heap H locs → lv_has ls 6 [(0, .ref this), (1, .int a0), (2, .int a1), (3, .int a2)] → W p l e ({ frames := 7, cells := 0, slots := 0, locals := 172 } : Room) s m (List.toArray ([.ref this, .int a0, .int a1, .int a2] : List Value)) below meth c H locs 0 0 Q (F0 m 0 ls []) := by
    intro H locs ls hP hD hS hl
    have hO_this : this = vo σ 12 this := rfl
    have hVT : VT 12 σ tg this := vt_12 hSH hL_this hK_this
    have hFr : FR 12 tg σ this (I, J, ri, rj, rq) (I, J, ri, rj, rq) := fr_rf
    have hO_this_a : this_a = vrow σ 384 this := vo_k (c := 12) hO_this hR_this_a
    have hO_this_kept : this_kept = vrow σ 386 this := vo_k (c := 12) hO_this hR_this_kept
    obtain ⟨F, hF0⟩ : ∃ F, F = g_X12_sinks a0 a1 a2 (vI 12 σ this I) (vJ 12 σ this J) (vR 12 σ this ri) (vL 12 σ this rj) (vQ 12 σ this rq) := ⟨_, rfl⟩
    have hF := hF0.trans g_X12_sinks_e
    refine lv_aload_n hx hb dX12_sinks_0 rfl (lv_at hl 0 rfl) ?_
    refine lv_iload_n hx hb dX12_sinks_1 rfl (lv_at hl 1 rfl) ?_
    refine pk_i (va_runV (As := [.int a0]) (rest := []) ⟨hx, hb, hml, hown, hts⟩ (s_X12_isCell l D t σ I J ri rj rq H.size tg hSH hG.1 this a0 hL_this hK_this) (cwV 1 hts (tw_V tw_340 tw_341 tw_342 tw_5 tw_343) rfl rfl rfl cv_yX12_isCell_1 ⟨Nat.le_of_ble_eq_true rfl, Nat.le_of_ble_eq_true rfl⟩) ⟨pq_blind, pq_recv hK hP hL_this hK_this (by decide +kernel) rfl, pq_pre hK hN hP hD⟩ rfl rfl hl.1 rfl (lv_room (Nat.le_of_ble_eq_true rfl)) dX12_sinks_2 ⟨Nat.le_of_ble_eq_true rfl, Nat.le_of_ble_eq_true rfl⟩) hD hS hA (fun x_1 σ1 μ1 H locs hw_2 hP hD hS => ?_)
    obtain ⟨hu_3, hfn_6, hr_5⟩ := hw_2
    obtain ⟨hu_3a, hu_3b⟩ := Prod.mk.inj hu_3
    rw [hu_3a, hu_3b] at hP hD
    replace hF := hF.trans (bn_n hfn_6)
    have h_8 : rg x_1 0 1 := by rcases hr_5 with ⟨q, -⟩ | ⟨q, -⟩ <;> rw [q] <;> exact ⟨by decide +kernel, by decide +kernel⟩
    have uh_8 := h_8.1
    have vh_8 := h_8.2
    have K_1136 : ∀  (H : Heap) (locs : List Loc) (ls : Array Slot), F = g_X12_sinks_K19 (vI 12 σ this I) (vJ 12 σ this J) (vR 12 σ this ri) (vL 12 σ this rj) (vQ 12 σ this rq)  → FR 12 tg σ this (I, J, ri, rj, rq) (I, J, ri, rj, rq) → GM [2001, 1305, 1304, 1403, 1000, 1001, 1002, 1003, 1004, 1005, 1006, 1007, 1010, 1013, 1014, 1015, 1500, 1501, 1502, 1503, 1504, 1100, 1101, 1102, 1103, 1104, 1300, 1301, 1306, 1308, 1700, 1701, 1702] tg σ I ri I ri rq → va_P D vwCl (pq_P t σ (I, J, ri, rj, rq)) H → va_D A (pq_P t σ (I, J, ri, rj, rq)) → va_S A s.heap H locs → lv_has ls 6 [] → W p l e ({ frames := 7, cells := 0, slots := 0, locals := 172 } : Room) s m (List.toArray ([.ref this, .int a0, .int a1, .int a2] : List Value)) below meth c H locs 0 0 Q (F0 m 19 ls []) := by
      intro H locs ls hF hFr hG hP hD hS hl
      replace hF := hF.trans g_X12_sinks_K19_e
      refine lv_iconst (v := (-1)) hx hb dX12_sinks_19 (by decide +kernel) ?_
      subst hQ
      exact W.iret (v := (-1)) hx hb hr (fun t1 ht hW => ⟨⟨(-1), (σ, I, J, ri, rj, rq), rfl, ⟨I, ri, rj, rfl, hG, (hF0.symm.trans hF), hFr, (rg_w (rg_k (-1 : Int32) (-1) rfl) (by decide +kernel))⟩, by rw [ht]; exact hP, va_K.moved hW.alike hK, hD⟩, hS.F ht⟩) hS.2.2 dX12_sinks_20
    refine lv_if_eq (tgt := 19) hx hb dX12_sinks_5 (by decide +kernel) (fun c_1137 => ?_) (fun c_1137 => ?_)
    · replace hF := hF.trans (if_pos c_1137)
      have f_1144 := (hr_5.resolve_left (fun q => absurd (q.1.symm.trans c_1137) (by decide +kernel))).2
      have tc_1145 : (x_1).toInt = 0 := congrArg Int32.toInt c_1137
      have h_1146 : rg x_1 0 0 := rg_and h_8 (rg_of_eq c_1137 (rg_k (0 : Int32) 0 rfl)) (by decide +kernel)
      have uh_1146 := h_1146.1
      have vh_1146 := h_1146.2
      exact K_1136 _ _ _ hF hFr hG hP hD hS (lv_sub hl [] rfl)
    · replace hF := hF.trans (if_neg c_1137)
      have f_1147 := (hr_5.resolve_right (fun q => c_1137 q.1)).2
      have uf_1147 := f_1147.1
      have vf_1147 := f_1147.2
      have tc_1148 : (x_1).toInt ≠ 0 := fun q => c_1137 (Int32.toInt_inj.mp q)
      have h_1149 : rg x_1 1 1 := rg_ne c_1137 h_8 0 rfl (by decide +kernel)
      have uh_1149 := h_1149.1
      have vh_1149 := h_1149.2
      refine lv_aload_n hx hb dX12_sinks_8 rfl (lv_at hl 0 rfl) ?_
      refine lv_iload_n hx hb dX12_sinks_9 rfl (lv_at hl 3 rfl) ?_
      refine lv_bipush (v := 60) hx hb dX12_sinks_10 (by decide +kernel) ?_
      refine lv_iload_n hx hb dX12_sinks_12 rfl (lv_at hl 2 rfl) ?_
      refine pk_i (va_runV (As := [.int a2, .int 60, .int a1]) (rest := []) ⟨hx, hb, hml, hown, hts⟩ (s_X12_isTime l D t σ I J ri rj rq H.size tg hSH hG.1 this a2 (60 : Int32) a1 hL_this hK_this (rg_w (rg_k (60 : Int32) 60 rfl) (by decide +kernel)) this_a hR_this_a hL_this_a hK_this_a hN_this_a hT_this_a) (cwV 3 hts (tw_V tw_1189 tw_1190 tw_1191 tw_5 tw_1192) rfl rfl rfl cv_yX12_isTime_3 ⟨Nat.le_of_ble_eq_true rfl, Nat.le_of_ble_eq_true rfl⟩) ⟨pq_blind, pq_recv hK hP hL_this hK_this (by decide +kernel) rfl, pq_pre hK hN hP hD⟩ rfl rfl hl.1 rfl (lv_room (Nat.le_of_ble_eq_true rfl)) dX12_sinks_13 ⟨Nat.le_of_ble_eq_true rfl, Nat.le_of_ble_eq_true rfl⟩) hD hS hA (fun x_1150 σ1 μ1 H locs hw_1151 hP hD hS => ?_)
      obtain ⟨hu_1152, hfn_1155, hr_1154⟩ := hw_1151
      obtain ⟨hu_1152a, hu_1152b⟩ := Prod.mk.inj hu_1152
      rw [hu_1152a, hu_1152b] at hP hD
      replace hF := hF.trans (bn_n hfn_1155)
      have h_1157 : rg x_1150 0 1 := by rcases hr_1154 with ⟨q, -⟩ | ⟨q, -⟩ <;> rw [q] <;> exact ⟨by decide +kernel, by decide +kernel⟩
      have uh_1157 := h_1157.1
      have vh_1157 := h_1157.2
      refine lv_if_ne (tgt := 21) hx hb dX12_sinks_16 (by decide +kernel) (fun c_1158 => ?_) (fun c_1158 => ?_)
      · replace hF := hF.trans (if_neg c_1158)
        obtain ⟨f_1169, f_1170, f_1171, f_1172⟩ := (hr_1154.resolve_right (fun q => c_1158 q.1)).2
        have uf_1169 := f_1169.1
        have vf_1169 := f_1169.2
        have uf_1170 := f_1170.1
        have vf_1170 := f_1170.2
        have tc_1173 : (a2).toInt ≤ 60 := Int32.le_iff_toInt_le.mp f_1171
        have tc_1174 : (x_1150).toInt ≠ 0 := fun q => c_1158 (Int32.toInt_inj.mp q)
        have h_1175 : rg x_1150 1 1 := rg_ne c_1158 h_1157 0 rfl (by decide +kernel)
        have uh_1175 := h_1175.1
        have vh_1175 := h_1175.2
        refine lv_aload_n hx hb dX12_sinks_21 rfl (lv_at hl 0 rfl) ?_
        refine pg_f (v := .ref this_a) (C := RX12) (T := TX12) (N := 31) hx hb hts (tw_i inlX12) hown hK hP hL_this hK_this (by decide +kernel) rfl 0 (by decide +kernel) (hts _ (tw_c tw_176)) (pq_hv rfl hR_this_a) dX12_sinks_22 ?_
        refine lv_aload_n hx hb dX12_sinks_25 rfl (lv_at hl 0 rfl) ?_
        refine pg_f (v := .ref this_kept) (C := RX12) (T := TX12) (N := 31) hx hb hts (tw_i inlX12) hown hK hP hL_this hK_this (by decide +kernel) rfl 2 (by decide +kernel) (hts _ (tw_c tw_178)) (pq_hv rfl hR_this_kept) dX12_sinks_26 ?_
        refine pk_v (va_runS (As := [.ref this_a, .ref this_kept]) (rest := []) ⟨hx, hb, hml, hown, hts⟩ (c_X12_copy l D t σ I J ri rj rq H.size this_a this_kept 12720 hL_this_a hK_this_a hN_this_a hL_this_kept hK_this_kept hN_this_kept rfl (tg_ne hT_this_a hT_this_kept (by decide +kernel))) (va_cwS 2 hts (tw_S tw_192 tw_193 tw_5 tw_194) rfl rfl rfl cd_yX12_copy_2 ⟨Nat.le_of_ble_eq_true rfl, Nat.le_of_ble_eq_true rfl⟩) ⟨pq_blind, pq_pre hK hN hP hD⟩ rfl rfl hl.1 rfl (lv_room (Nat.le_of_ble_eq_true rfl)) dX12_sinks_29 ⟨Nat.le_of_ble_eq_true rfl, Nat.le_of_ble_eq_true rfl⟩) hD hS hA (fun σ1 μ1 H locs hw_1177 hP hD hS => ?_)
        obtain ⟨ri_1178, hu_1179, hp_1182, hp_1183, hp_1184⟩ := hw_1177
        obtain ⟨hu_1179a, hu_1179b⟩ := Prod.mk.inj hu_1179
        rw [hu_1179a, hu_1179b] at hP hD
        replace hF := hF.trans (ap_n (vR_cp hVT hO_this_kept (by decide +kernel) (funext fun _ => (vR_r hO_this_a (by decide +kernel) rfl)) hp_1184))
        replace hFr := fr_R hFr hO_this_kept (by decide +kernel) hp_1184
        have tt_1187 : (ri_1178 this_kept 0).toInt = (ri this_a 0).toInt := congrArg Int32.toInt (hp_1182 0 (by decide +kernel))
        have tt_1188 : (ri_1178 this_a 0).toInt = (ri this_a 0).toInt := congrArg Int32.toInt (congrFun (hp_1183 this_a (tg_ne hT_this_a hT_this_kept (by decide +kernel))) 0)
        have hG := GM.cp hG hT_this_a hT_this_kept (by decide +kernel) hp_1182 hp_1183 (by decide +kernel)
        refine lv_iconst (v := (-1)) hx hb dX12_sinks_32 (by decide +kernel) ?_
        refine lv_istore (lv' := [(4, .int (-1)), (0, .ref this), (1, .int a0), (2, .int a1), (3, .int a2)]) hx hb dX12_sinks_33 hl (by decide +kernel) rfl (fun ls hl => ?_)
        refine lv_iconst (v := 0) hx hb dX12_sinks_35 (by decide +kernel) ?_
        refine lv_istore (lv' := [(5, .int 0), (4, .int (-1)), (0, .ref this), (1, .int a0), (2, .int a1), (3, .int a2)]) hx hb dX12_sinks_36 hl (by decide +kernel) rfl (fun ls hl => ?_)
        have L_2219 : ∀ (n_2218 : Nat) (x_2154 : Int32) (x_2155 : Int32) (I_2156 : Nat → Nat → Int32) (ri_2157 : Nat → Nat → Int32) (rj_2158 : Nat → Nat → Int64) (H : Heap) (locs : List Loc) (ls : Array Slot), rg x_2154 (-1) 599 → rg x_2155 0 60 → ((ri_2157 this_a 0).toInt = (ri this_a 0).toInt + (x_2155).toInt) → (60 - (x_2155).toInt).toNat < n_2218 → F = g_X12_sinks_L38 a0 a1 a2 (vJ 12 σ this J) (vQ 12 σ this rq) n_2218 x_2154 x_2155 (vI 12 σ this I_2156) (vR 12 σ this ri_2157) (vL 12 σ this rj_2158) → FR 12 tg σ this (I, J, ri, rj, rq) (I_2156, J, ri_2157, rj_2158, rq) → GM [2001, 1305, 1304, 1403, 1000, 1001, 1002, 1003, 1004, 1005, 1006, 1007, 1010, 1013, 1014, 1015, 1500, 1501, 1502, 1503, 1504, 1100, 1101, 1102, 1103, 1104, 1300, 1301, 1306, 1308, 1700, 1701, 1702] tg σ I ri I_2156 ri_2157 rq → va_P D vwCl (pq_P t σ (I_2156, J, ri_2157, rj_2158, rq)) H → va_D A (pq_P t σ (I_2156, J, ri_2157, rj_2158, rq)) → va_S A s.heap H locs → lv_has ls 6 [(0, .ref this), (1, .int a0), (2, .int a1), (3, .int a2), (4, .int x_2154), (5, .int x_2155)] → W p l e ({ frames := 7, cells := 0, slots := 0, locals := 172 } : Room) s m (List.toArray ([.ref this, .int a0, .int a1, .int a2] : List Value)) below meth c H locs 0 0 Q (F0 m 38 ls []) := by
          intro n_2218
          induction n_2218 with
          | zero => intro x_2154 x_2155 I_2156 ri_2157 rj_2158 H locs ls h_2224 h_2225 hrel_2226 hm_2217 hF hFr hG hP hD hS hl; exact absurd hm_2217 (Nat.not_lt_zero _)
          | succ n_2218 ih_2220 =>
            intro x_2154 x_2155 I_2156 ri_2157 rj_2158 H locs ls h_2224 h_2225 hrel_2226 hm_2217 hF hFr hG hP hD hS hl
            have uh_2224 := h_2224.1
            have vh_2224 := h_2224.2
            have uh_2225 := h_2225.1
            have vh_2225 := h_2225.2
            replace hF := hF.trans g_X12_sinks_L38_e
            refine lv_iload hx hb dX12_sinks_38 (lv_at hl 5 rfl) ?_
            refine lv_iload_n hx hb dX12_sinks_40 rfl (lv_at hl 3 rfl) ?_
            have K_2282 : ∀  (H : Heap) (locs : List Loc) (ls : Array Slot), F = g_X12_sinks_K80 (vJ 12 σ this J) (vQ 12 σ this rq) x_2154 (vI 12 σ this I_2156) (vR 12 σ this ri_2157) (vL 12 σ this rj_2158)  → FR 12 tg σ this (I, J, ri, rj, rq) (I_2156, J, ri_2157, rj_2158, rq) → GM [2001, 1305, 1304, 1403, 1000, 1001, 1002, 1003, 1004, 1005, 1006, 1007, 1010, 1013, 1014, 1015, 1500, 1501, 1502, 1503, 1504, 1100, 1101, 1102, 1103, 1104, 1300, 1301, 1306, 1308, 1700, 1701, 1702] tg σ I ri I_2156 ri_2157 rq → va_P D vwCl (pq_P t σ (I_2156, J, ri_2157, rj_2158, rq)) H → va_D A (pq_P t σ (I_2156, J, ri_2157, rj_2158, rq)) → va_S A s.heap H locs → lv_has ls 6 [(0, .ref this), (4, .int x_2154)] → W p l e ({ frames := 7, cells := 0, slots := 0, locals := 172 } : Room) s m (List.toArray ([.ref this, .int a0, .int a1, .int a2] : List Value)) below meth c H locs 0 0 Q (F0 m 80 ls []) := by
              intro H locs ls hF hFr hG hP hD hS hl
              replace hF := hF.trans g_X12_sinks_K80_e
              refine lv_aload_n hx hb dX12_sinks_80 rfl (lv_at hl 0 rfl) ?_
              refine pg_f (v := .ref this_kept) (C := RX12) (T := TX12) (N := 31) hx hb hts (tw_i inlX12) hown hK hP hL_this hK_this (by decide +kernel) rfl 2 (by decide +kernel) (hts _ (tw_c tw_178)) (pq_hv rfl hR_this_kept) dX12_sinks_81 ?_
              refine lv_aload_n hx hb dX12_sinks_84 rfl (lv_at hl 0 rfl) ?_
              refine pg_f (v := .ref this_a) (C := RX12) (T := TX12) (N := 31) hx hb hts (tw_i inlX12) hown hK hP hL_this hK_this (by decide +kernel) rfl 0 (by decide +kernel) (hts _ (tw_c tw_176)) (pq_hv rfl hR_this_a) dX12_sinks_85 ?_
              refine pk_v (va_runS (As := [.ref this_kept, .ref this_a]) (rest := []) ⟨hx, hb, hml, hown, hts⟩ (c_X12_copy l D t σ I_2156 J ri_2157 rj_2158 rq H.size this_kept this_a 12720 hL_this_kept hK_this_kept hN_this_kept hL_this_a hK_this_a hN_this_a rfl (tg_ne hT_this_kept hT_this_a (by decide +kernel))) (va_cwS 2 hts (tw_S tw_192 tw_193 tw_5 tw_194) rfl rfl rfl cd_yX12_copy_2 ⟨Nat.le_of_ble_eq_true rfl, Nat.le_of_ble_eq_true rfl⟩) ⟨pq_blind, pq_pre hK hN hP hD⟩ rfl rfl hl.1 rfl (lv_room (Nat.le_of_ble_eq_true rfl)) dX12_sinks_88 ⟨Nat.le_of_ble_eq_true rfl, Nat.le_of_ble_eq_true rfl⟩) hD hS hA (fun σ1 μ1 H locs hw_2284 hP hD hS => ?_)
              obtain ⟨ri_2285, hu_2286, hp_2289, hp_2290, hp_2291⟩ := hw_2284
              obtain ⟨hu_2286a, hu_2286b⟩ := Prod.mk.inj hu_2286
              rw [hu_2286a, hu_2286b] at hP hD
              replace hF := hF.trans (ap_n (vR_cp hVT hO_this_a (by decide +kernel) (funext fun _ => (vR_r hO_this_kept (by decide +kernel) rfl)) hp_2291))
              replace hFr := fr_R hFr hO_this_a (by decide +kernel) hp_2291
              have tt_2294 : (ri_2285 this_a 0).toInt = (ri_2157 this_kept 0).toInt := congrArg Int32.toInt (hp_2289 0 (by decide +kernel))
              have tt_2295 : (ri_2285 this_kept 0).toInt = (ri_2157 this_kept 0).toInt := congrArg Int32.toInt (congrFun (hp_2290 this_kept (tg_ne hT_this_kept hT_this_a (by decide +kernel))) 0)
              have hG := GM.cp hG hT_this_kept hT_this_a (by decide +kernel) hp_2289 hp_2290 (by decide +kernel)
              refine lv_iload hx hb dX12_sinks_91 (lv_at hl 1 rfl) ?_
              subst hQ
              exact W.iret (v := x_2154) hx hb hr (fun t1 ht hW => ⟨⟨x_2154, (σ, I_2156, J, ri_2285, rj_2158, rq), rfl, ⟨I_2156, ri_2285, rj_2158, rfl, hG, (hF0.symm.trans hF), hFr, (rg_w h_2224 (by decide +kernel))⟩, by rw [ht]; exact hP, va_K.moved hW.alike hK, hD⟩, hS.F ht⟩) hS.2.2 dX12_sinks_93
            refine lv_icmp_ge (tgt := 80) hx hb dX12_sinks_41 (by decide +kernel) (fun c_2296 => ?_) (fun c_2296 => ?_)
            · replace hF := hF.trans (if_pos c_2296)
              have tc_2301 : (a2).toInt ≤ (x_2155).toInt := Int32.le_iff_toInt_le.mp c_2296
              have h_2302 : rg x_2155 1 60 := rg_le2 c_2296 f_1169 h_2225 (by decide +kernel)
              have uh_2302 := h_2302.1
              have vh_2302 := h_2302.2
              exact K_2282 _ _ _ hF hFr hG hP hD hS (lv_sub hl [0, 4] rfl)
            · replace hF := hF.trans (if_neg c_2296)
              have tc_2303 : (x_2155).toInt < (a2).toInt := Int32.lt_iff_toInt_lt.mp (nle c_2296)
              have h_2304 : rg x_2155 0 59 := rg_lt1 (nle c_2296) h_2225 f_1169 (by decide +kernel)
              have uh_2304 := h_2304.1
              have vh_2304 := h_2304.2
              refine lv_iload hx hb dX12_sinks_44 (lv_at hl 4 rfl) ?_
              refine lv_if_ge (tgt := 80) hx hb dX12_sinks_46 (by decide +kernel) (fun c_2305 => ?_) (fun c_2305 => ?_)
              · replace hF := hF.trans (if_pos c_2305)
                have tc_2310 : 0 ≤ (x_2154).toInt := Int32.le_iff_toInt_le.mp c_2305
                have h_2311 : rg x_2154 0 599 := rg_le2 c_2305 (rg_k (0 : Int32) 0 rfl) h_2224 (by decide +kernel)
                have uh_2311 := h_2311.1
                have vh_2311 := h_2311.2
                exact K_2282 _ _ _ hF hFr hG hP hD hS (lv_sub hl [0, 4] rfl)
              · replace hF := hF.trans (if_neg c_2305)
                have tc_2312 : (x_2154).toInt < 0 := Int32.lt_iff_toInt_lt.mp (nle c_2305)
                have h_2313 : rg x_2154 (-1) (-1) := rg_lt1 (nle c_2305) h_2224 (rg_k (0 : Int32) 0 rfl) (by decide +kernel)
                have uh_2313 := h_2313.1
                have vh_2313 := h_2313.2
                refine lv_aload_n hx hb dX12_sinks_49 rfl (lv_at hl 0 rfl) ?_
                refine lv_iload_n hx hb dX12_sinks_50 rfl (lv_at hl 2 rfl) ?_
                refine pk_v (va_runV (As := [.int a1]) (rest := []) ⟨hx, hb, hml, hown, hts⟩ (s_X12_month l D t σ I_2156 J ri_2157 rj_2158 rq H.size tg hSH hG.1 this a1 hL_this hK_this this_a hR_this_a hL_this_a hK_this_a hN_this_a hT_this_a (by omega)) (cwV 1 hts (tw_V tw_1193 tw_1194 tw_1195 tw_5 tw_1196) rfl rfl rfl cv_yX12_month_1 ⟨Nat.le_of_ble_eq_true rfl, Nat.le_of_ble_eq_true rfl⟩) ⟨pq_blind, pq_recv hK hP hL_this hK_this (by decide +kernel) rfl, pq_pre hK hN hP hD⟩ rfl rfl hl.1 rfl (lv_room (Nat.le_of_ble_eq_true rfl)) dX12_sinks_51 ⟨Nat.le_of_ble_eq_true rfl, Nat.le_of_ble_eq_true rfl⟩) hD hS hA (fun σ1 μ1 H locs hw_2315 hP hD hS => ?_)
                obtain ⟨I_2316, ri_2317, rj_2318, hu_2319, hg_2320, hp_2322, hfn_2323, hfr_2324⟩ := hw_2315
                obtain ⟨hu_2319a, hu_2319b⟩ := Prod.mk.inj hu_2319
                rw [hu_2319a, hu_2319b] at hP hD
                replace hF := hF.trans (bv_n hfn_2323)
                replace hFr := fr_tr hFr hfr_2324
                have tt_2325 := hp_2322
                have tt_2326 : (ri_2317 this_kept 0).toInt = (ri_2157 this_kept 0).toInt := congrArg Int32.toInt (congrFun (hg_2320.2.2.2 386 2001 (by decide +kernel) (by decide +kernel) this_kept hT_this_kept) 0)
                have hG := GM.tr hG hg_2320 (by decide +kernel)
                refine lv_aload_n hx hb dX12_sinks_54 rfl (lv_at hl 0 rfl) ?_
                refine lv_iload_n hx hb dX12_sinks_55 rfl (lv_at hl 1 rfl) ?_
                refine lv_bipush (v := 12) hx hb dX12_sinks_56 (by decide +kernel) ?_
                refine pk_i (va_runV (As := [.int a0, .int 12]) (rest := []) ⟨hx, hb, hml, hown, hts⟩ (s_X12_cellAt_c12 l D t σ I_2316 J ri_2317 rj_2318 rq H.size tg hSH hG.1 this a0 hL_this hK_this (rg_w f_1147 (by decide +kernel))) (cwV 2 hts (tw_V tw_361 tw_362 tw_363 tw_5 tw_364) rfl rfl rfl cv_yX12_cellAt_2 ⟨Nat.le_of_ble_eq_true rfl, Nat.le_of_ble_eq_true rfl⟩) ⟨pq_blind, pq_recv hK hP hL_this hK_this (by decide +kernel) rfl, pq_pre hK hN hP hD⟩ rfl rfl hl.1 rfl (lv_room (Nat.le_of_ble_eq_true rfl)) dX12_sinks_58 ⟨Nat.le_of_ble_eq_true rfl, Nat.le_of_ble_eq_true rfl⟩) hD hS hA (fun x_2327 σ1 μ1 H locs hw_2328 hP hD hS => ?_)
                obtain ⟨hu_2329, hfn_2332⟩ := hw_2328
                obtain ⟨hu_2329a, hu_2329b⟩ := Prod.mk.inj hu_2329
                rw [hu_2329a, hu_2329b] at hP hD
                replace hF := hF.trans (bn_n hfn_2332)
                have K_2346 : ∀  (x_2342 : Int32) (H : Heap) (locs : List Loc) (ls : Array Slot), rg x_2342 (-1) 599 → F = g_X12_sinks_K74 x_2155 (g_X12_sinks_L38 a0 a1 a2 (vJ 12 σ this J) (vQ 12 σ this rq) n_2218) (vI 12 σ this I_2316) (vR 12 σ this ri_2317) (vL 12 σ this rj_2318) x_2342 → FR 12 tg σ this (I, J, ri, rj, rq) (I_2316, J, ri_2317, rj_2318, rq) → GM [2001, 1305, 1304, 1403, 1000, 1001, 1002, 1003, 1004, 1005, 1006, 1007, 1010, 1013, 1014, 1015, 1500, 1501, 1502, 1503, 1504, 1100, 1101, 1102, 1103, 1104, 1300, 1301, 1306, 1308, 1700, 1701, 1702] tg σ I ri I_2316 ri_2317 rq → va_P D vwCl (pq_P t σ (I_2316, J, ri_2317, rj_2318, rq)) H → va_D A (pq_P t σ (I_2316, J, ri_2317, rj_2318, rq)) → va_S A s.heap H locs → lv_has ls 6 [(0, .ref this), (1, .int a0), (2, .int a1), (3, .int a2), (4, .int x_2342), (5, .int x_2155)] → W p l e ({ frames := 7, cells := 0, slots := 0, locals := 172 } : Room) s m (List.toArray ([.ref this, .int a0, .int a1, .int a2] : List Value)) below meth c H locs 0 0 Q (F0 m 74 ls []) := by
                  intro x_2342 H locs ls h_2348 hF hFr hG hP hD hS hl
                  have uh_2348 := h_2348.1
                  have vh_2348 := h_2348.2
                  replace hF := hF.trans g_X12_sinks_K74_e
                  obtain ⟨x_2349, ex_2349⟩ : ∃ y : Int32, y = x_2155 + Int32.ofInt 1 := ⟨_, rfl⟩
                  replace hF := hF.trans (ap_n ex_2349)
                  have h_2350 : rg x_2349 1 60 := rg_of_eq ex_2349 (rg_add h_2304 (rg_k (Int32.ofInt 1) 1 rfl) (by decide +kernel))
                  have uh_2350 := h_2350.1
                  have vh_2350 := h_2350.2
                  have tx_2349 : (x_2349).toInt = (x_2155).toInt + 1 := by rw [ex_2349]; exact i_add_rg (a2 := (x_2155).toInt) (b2 := 1) rfl rfl h_2304 (rg_k (Int32.ofInt 1) 1 rfl) (by decide +kernel)
                  refine lv_iinc (v := x_2349) (lv' := [(5, .int x_2349), (0, .ref this), (1, .int a0), (2, .int a1), (3, .int a2), (4, .int x_2342)]) hx hb dX12_sinks_74 hl (k := 5) rfl ex_2349.symm (by decide +kernel) rfl (fun ls hl => ?_)
                  refine lv_goto (tgt := 38) hx hb dX12_sinks_77 (by decide +kernel) ?_
                  exact ih_2220 x_2342 x_2349 I_2316 ri_2317 rj_2318 _ _ _ (rg_w h_2348 (by decide +kernel)) (rg_w h_2350 (by decide +kernel)) (by omega) (ms_up 1 hm_2217 ex_2349 rfl (by decide +kernel) h_2304 (by decide +kernel) (by decide +kernel)) hF hFr hG hP hD hS (lv_sub hl [1, 2, 3, 4, 5, 0] rfl)
                refine lv_if_ne (tgt := 74) hx hb dX12_sinks_61 (by decide +kernel) (fun c_2351 => ?_) (fun c_2351 => ?_)
                · replace hF := hF.trans (if_neg c_2351)
                  have tc_2355 : (x_2327).toInt ≠ 0 := fun q => c_2351 (Int32.toInt_inj.mp q)
                  exact K_2346 x_2154 _ _ _ (rg_w h_2313 (by decide +kernel)) hF hFr hG hP hD hS (lv_sub hl [0, 1, 2, 3, 4, 5] rfl)
                · replace hF := hF.trans (if_pos c_2351)
                  have tc_2356 : (x_2327).toInt = 0 := congrArg Int32.toInt c_2351
                  have h_2357 : rg x_2327 0 0 := rg_and (rg_full _) (rg_of_eq c_2351 (rg_k (0 : Int32) 0 rfl)) (by decide +kernel)
                  have uh_2357 := h_2357.1
                  have vh_2357 := h_2357.2
                  refine lv_aload_n hx hb dX12_sinks_64 rfl (lv_at hl 0 rfl) ?_
                  refine pg_f (v := .ref this_a) (C := RX12) (T := TX12) (N := 31) hx hb hts (tw_i inlX12) hown hK hP hL_this hK_this (by decide +kernel) rfl 0 (by decide +kernel) (hts _ (tw_c tw_176)) (pq_hv rfl hR_this_a) dX12_sinks_65 ?_
                  refine lv_iconst (v := 0) hx hb dX12_sinks_68 (by decide +kernel) ?_
                  refine pl_i hx hb hK hP hL_this_a hK_this_a hN_this_a (vp_in_iff.mpr (by decide +kernel)) dX12_sinks_69 ?_
                  refine lv_topi (fun x_2358 ex_2358 => ?_)
                  replace hF := hF.trans (ap_n (vR_r hO_this_a (by decide +kernel) ex_2358))
                  have h_2359 : rg x_2358 0 600 := rg_of_eq ex_2358 (GM.z hG (by rw [hT_this_a]; decide) (show zn ((0 : Int32)).toNatClampNeg = 0 from by decide +kernel) rfl)
                  have uh_2359 := h_2359.1
                  have vh_2359 := h_2359.2
                  refine lv_iconst (v := 1) hx hb dX12_sinks_70 (by decide +kernel) ?_
                  refine lv_isub hx hb dX12_sinks_71 ?_
                  refine lv_topi (fun x_2360 ex_2360 => ?_)
                  replace hF := hF.trans (ap_n ex_2360)
                  have h_2361 : rg x_2360 (-1) 599 := rg_of_eq ex_2360 (rg_sub h_2359 (rg_k (1 : Int32) 1 rfl) (by decide +kernel))
                  have uh_2361 := h_2361.1
                  have vh_2361 := h_2361.2
                  have tx_2360 : (x_2360).toInt = (x_2358).toInt - 1 := by rw [ex_2360]; exact i_sub_rg (a2 := (x_2358).toInt) (b2 := 1) rfl rfl h_2359 (rg_k (1 : Int32) 1 rfl) (by decide +kernel)
                  refine lv_istore (lv' := [(4, .int x_2360), (0, .ref this), (1, .int a0), (2, .int a1), (3, .int a2), (5, .int x_2155)]) hx hb dX12_sinks_72 hl (by decide +kernel) rfl (fun ls hl => ?_)
                  exact K_2346 x_2360 _ _ _ (rg_w h_2361 (by decide +kernel)) hF hFr hG hP hD hS (lv_sub hl [1, 2, 3, 4, 0, 5] rfl)
        exact L_2219 _ (-1 : Int32) (0 : Int32) I ri_1178 rj _ _ _ (rg_w (rg_k (-1 : Int32) (-1) rfl) (by decide +kernel)) (rg_w (rg_k (0 : Int32) 0 rfl) (by decide +kernel)) (by have k0 : ((-1) : Int32).toInt = (-1) := rfl; have k1 : (0 : Int32).toInt = 0 := rfl; omega) (Nat.lt_succ_self _) hF hFr hG hP hD hS (lv_sub hl [2, 3, 4, 5, 1, 0] rfl)
      · replace hF := hF.trans (if_pos c_1158)
        have f_2362 := (hr_1154.resolve_left (fun q => absurd (q.1.symm.trans c_1158) (by decide +kernel))).2
        have tc_2363 : (x_1150).toInt = 0 := congrArg Int32.toInt c_1158
        have h_2364 : rg x_1150 0 0 := rg_and h_1157 (rg_of_eq c_1158 (rg_k (0 : Int32) 0 rfl)) (by decide +kernel)
        have uh_2364 := h_2364.1
        have vh_2364 := h_2364.2
        exact K_1136 _ _ _ hF hFr hG hP hD hS (lv_sub hl [] rfl)
  exact go _ _ _ hP hD hS hl

set_option maxRecDepth 100000 in
def g_X12_cant_K67 (J : Nat → Int64) (rq : Nat → Nat → Option Nat) (x_909 : Int32) (I_911 : Nat → Int32) (ri_912 : Nat → Nat → Int32) (rj_913 : Nat → Nat → Int64) : Int32 × vM := (ap1 (va_up ri_912 384 (va_cpy (ri_912 386) (ri_912 384) 0 0 12720)) fun (ri_1028 : Nat → Nat → Int32) => (x_909, I_911, J, ri_1028, rj_913, rq))
set_option maxRecDepth 100000 in
theorem g_X12_cant_K67_e {J : Nat → Int64} {rq : Nat → Nat → Option Nat} {x_909 : Int32} {I_911 : Nat → Int32} {ri_912 : Nat → Nat → Int32} {rj_913 : Nat → Nat → Int64} : g_X12_cant_K67 J rq x_909 I_911 ri_912 rj_913  = (ap1 (va_up ri_912 384 (va_cpy (ri_912 386) (ri_912 384) 0 0 12720)) fun (ri_1028 : Nat → Nat → Int32) => (x_909, I_911, J, ri_1028, rj_913, rq)) := rfl
set_option maxRecDepth 100000 in
def g_X12_cant_K61 (x_910 : Int32) (k_g_X12_cant_L29 : (Int32) → (Int32) → (Nat → Int32) → (Nat → Nat → Int32) → (Nat → Nat → Int64) → Int32 × vM) (I_1059 : Nat → Int32) (ri_1060 : Nat → Nat → Int32) (rj_1061 : Nat → Nat → Int64) (x_1079 : Int32) : Int32 × vM := (ap1 (x_910 + Int32.ofInt 1) fun (x_1086 : Int32) => (k_g_X12_cant_L29 x_1079 x_1086 I_1059 ri_1060 rj_1061))
set_option maxRecDepth 100000 in
theorem g_X12_cant_K61_e {x_910 : Int32} {k_g_X12_cant_L29 : (Int32) → (Int32) → (Nat → Int32) → (Nat → Nat → Int32) → (Nat → Nat → Int64) → Int32 × vM} {I_1059 : Nat → Int32} {ri_1060 : Nat → Nat → Int32} {rj_1061 : Nat → Nat → Int64} {x_1079 : Int32} : g_X12_cant_K61 x_910 k_g_X12_cant_L29 I_1059 ri_1060 rj_1061 x_1079 = (ap1 (x_910 + Int32.ofInt 1) fun (x_1086 : Int32) => (k_g_X12_cant_L29 x_1079 x_1086 I_1059 ri_1060 rj_1061)) := rfl
set_option maxRecDepth 100000 in
def g_X12_cant_L29 (a0 : Int32) (a1 : Int32) (J : Nat → Int64) (rq : Nat → Nat → Option Nat) : Nat → (Int32) → (Int32) → (Nat → Int32) → (Nat → Nat → Int32) → (Nat → Nat → Int64) → Int32 × vM
  | 0, x_909, x_910, I_911, ri_912, rj_913 => ((0 : Int32), I_911, J, ri_912, rj_913, rq)
  | n_967 + 1, x_909, x_910, I_911, ri_912, rj_913 => (if a1 ≤ x_910 then (g_X12_cant_K67 J rq x_909 I_911 ri_912 rj_913 ) else (if (0 : Int32) ≤ x_909 then (g_X12_cant_K67 J rq x_909 I_911 ri_912 rj_913 ) else (bnV (g_X12_month a0 I_911 J ri_912 rj_913 rq) fun (I_1059 : Nat → Int32) (_ : Nat → Int64) (ri_1060 : Nat → Nat → Int32) (rj_1061 : Nat → Nat → Int64) (_ : Nat → Nat → Option Nat) => (ap1 (I_1059 410) fun (y_1070 : Int32) => (if (y_1070) = (1 : Int32) then (ap1 (ri_1060 384 ((0 : Int32)).toNatClampNeg) fun (x_1095 : Int32) => (ap1 (x_1095 - (1 : Int32)) fun (x_1097 : Int32) => (g_X12_cant_K61 x_910 (g_X12_cant_L29 a0 a1 J rq n_967) I_1059 ri_1060 rj_1061 x_1097))) else (g_X12_cant_K61 x_910 (g_X12_cant_L29 a0 a1 J rq n_967) I_1059 ri_1060 rj_1061 x_909))))))
set_option maxRecDepth 100000 in
theorem g_X12_cant_L29_e {a0 : Int32} {a1 : Int32} {J : Nat → Int64} {rq : Nat → Nat → Option Nat} {n_967 : Nat} {x_909 : Int32} {x_910 : Int32} {I_911 : Nat → Int32} {ri_912 : Nat → Nat → Int32} {rj_913 : Nat → Nat → Int64} : g_X12_cant_L29 a0 a1 J rq (n_967 + 1) x_909 x_910 I_911 ri_912 rj_913 = (if a1 ≤ x_910 then (g_X12_cant_K67 J rq x_909 I_911 ri_912 rj_913 ) else (if (0 : Int32) ≤ x_909 then (g_X12_cant_K67 J rq x_909 I_911 ri_912 rj_913 ) else (bnV (g_X12_month a0 I_911 J ri_912 rj_913 rq) fun (I_1059 : Nat → Int32) (_ : Nat → Int64) (ri_1060 : Nat → Nat → Int32) (rj_1061 : Nat → Nat → Int64) (_ : Nat → Nat → Option Nat) => (ap1 (I_1059 410) fun (y_1070 : Int32) => (if (y_1070) = (1 : Int32) then (ap1 (ri_1060 384 ((0 : Int32)).toNatClampNeg) fun (x_1095 : Int32) => (ap1 (x_1095 - (1 : Int32)) fun (x_1097 : Int32) => (g_X12_cant_K61 x_910 (g_X12_cant_L29 a0 a1 J rq n_967) I_1059 ri_1060 rj_1061 x_1097))) else (g_X12_cant_K61 x_910 (g_X12_cant_L29 a0 a1 J rq n_967) I_1059 ri_1060 rj_1061 x_909)))))) := rfl
set_option maxRecDepth 100000 in
def g_X12_cant (a0 : Int32) (a1 : Int32) (I : Nat → Int32) (J : Nat → Int64) (ri : Nat → Nat → Int32) (rj : Nat → Nat → Int64) (rq : Nat → Nat → Option Nat) : Int32 × vM := (bnI (g_X12_isTime a1 (60 : Int32) a0 I J ri rj rq) fun (x_1 : Int32) (_ : Nat → Int32) (_ : Nat → Int64) (_ : Nat → Nat → Int32) (_ : Nat → Nat → Int64) (_ : Nat → Nat → Option Nat) => (if x_1 = (0 : Int32) then ((-1 : Int32), I, J, ri, rj, rq) else (ap1 (va_up ri 386 (va_cpy (ri 384) (ri 386) 0 0 12720)) fun (ri_29 : Nat → Nat → Int32) => (g_X12_cant_L29 a0 a1 J rq ((60 - ((0 : Int32)).toInt).toNat + 1) (-1 : Int32) (0 : Int32) I ri_29 rj))))
set_option maxRecDepth 100000 in
theorem g_X12_cant_e {a0 : Int32} {a1 : Int32} {I : Nat → Int32} {J : Nat → Int64} {ri : Nat → Nat → Int32} {rj : Nat → Nat → Int64} {rq : Nat → Nat → Option Nat} : g_X12_cant a0 a1 I J ri rj rq = (bnI (g_X12_isTime a1 (60 : Int32) a0 I J ri rj rq) fun (x_1 : Int32) (_ : Nat → Int32) (_ : Nat → Int64) (_ : Nat → Nat → Int32) (_ : Nat → Nat → Int64) (_ : Nat → Nat → Option Nat) => (if x_1 = (0 : Int32) then ((-1 : Int32), I, J, ri, rj, rq) else (ap1 (va_up ri 386 (va_cpy (ri 384) (ri 386) 0 0 12720)) fun (ri_29 : Nat → Nat → Int32) => (g_X12_cant_L29 a0 a1 J rq ((60 - ((0 : Int32)).toInt).toNat + 1) (-1 : Int32) (0 : Int32) I ri_29 rj)))) := rfl
set_option maxHeartbeats 4000000 in
set_option maxRecDepth 100000 in
theorem s_X12_cant (l : Launch) (D : va_G) (t : pq_T) (σ : pq_S) (I : Nat → Nat → Int32) (J : Nat → Nat → Int64) (ri : Nat → Nat → Int32) (rj : Nat → Nat → Int64) (rq : Nat → Nat → Option Nat) (sz : Nat) (tg : Nat → Nat) (hSH : SH σ tg) (hG0 : GT tg I ri) (this : Nat) (a0 : Int32) (a1 : Int32) (hL_this : this ∈ σ.1) (hK_this : σ.2.1 this = 12) (this_a : Nat) (hR_this_a : σ.2.2.1 384 this = some this_a) (hL_this_a : this_a ∈ σ.1) (hK_this_a : σ.2.1 this_a = 13) (hN_this_a : σ.2.2.2 this_a = 12720) (hT_this_a : tg this_a = 384) (this_kept : Nat) (hR_this_kept : σ.2.2.1 386 this = some this_kept) (hL_this_kept : this_kept ∈ σ.1) (hK_this_kept : σ.2.1 this_kept = 13) (hN_this_kept : σ.2.2.2 this_kept = 12720) (hT_this_kept : tg this_kept = 386) : MetI l yX12_cant (wa yX12_cant cX12_cant 5 (some .int)) ({ frames := 7, cells := 0, slots := 0, locals := 172 }) [.ref this, .int a0, .int a1] D t σ (I, J, ri, rj, rq) sz 0 0 (fun (r : Int32) (u : pq_S × pq_M) => ∃ I' : Nat → Nat → Int32, ∃ ri' : Nat → Nat → Int32, ∃ rj' : Nat → Nat → Int64, u = (σ, I', J, ri', rj', rq) ∧ GM [2001, 1305, 1304, 1403, 1000, 1001, 1002, 1003, 1004, 1005, 1006, 1007, 1010, 1013, 1014, 1015, 1500, 1501, 1502, 1503, 1504, 1100, 1101, 1102, 1103, 1104, 1300, 1301, 1306, 1308, 1700, 1701, 1702] tg σ I ri I' ri' rq ∧ g_X12_cant a0 a1 (vI 12 σ this I) (vJ 12 σ this J) (vR 12 σ this ri) (vL 12 σ this rj) (vQ 12 σ this rq) = (r, (vI 12 σ this I'), (vJ 12 σ this J), (vR 12 σ this ri'), (vL 12 σ this rj'), (vQ 12 σ this rq)) ∧ FR 12 tg σ this (I, J, ri, rj, rq) (I', J, ri', rj', rq) ∧ rg r (-1) 599) := by
  refine Met.ofW (cc := cX12_cant) (maxL := 5) (ret := (some .int)) (by decide +kernel) rfl ?_
  intro p e s m args below meth c s₁ B hml hv
  obtain ⟨rfl, hsz, hP, hK, hD0, hN⟩ := hv
  have hx := B.exec
  have hb := B.bytes
  have hr := B.returns
  have hts := atoms_spec (ws := (wa yX12_cant cX12_cant 5 (some .int))) B.pre
  have hown : s.vm.findClass RX12 = some m.cls := findClass_of_methodNamed B.named
  have hlocks := B.notSynchronized
  subst hsz
  have hD : va_D (pq_B t σ (I, J, ri, rj, rq) s.heap.size) (pq_P t σ (I, J, ri, rj, rq)) := hD0.self
  generalize hAe : pq_B t σ (I, J, ri, rj, rq) s.heap.size = A at hD ⊢
  have hA : ∀ q : Nat, s.heap.size ≤ q → A q := fun q h => by rw [← hAe]; exact Or.inr h
  have hS : va_S A s.heap s.heap [] := va_S.rf
  have hG : GM [2001, 1305, 1304, 1403, 1000, 1001, 1002, 1003, 1004, 1005, 1006, 1007, 1010, 1013, 1014, 1015, 1500, 1501, 1502, 1503, 1504, 1100, 1101, 1102, 1103, 1104, 1300, 1301, 1306, 1308, 1700, 1701, 1702] tg σ I ri I ri rq := ⟨hG0, fun _ _ _ => rfl, fun _ _ _ _ _ => rfl, fun _ _ _ _ _ _ => rfl⟩
  have hl := lv_entry ([.ref this, .int a0, .int a1]) (n := 5) (Nat.le_of_ble_eq_true rfl)
  rw [lg_entry_eq]
  generalize (lg_sl ([.ref this, .int a0, .int a1]) ++ List.replicate (5 - (lg_sl ([.ref this, .int a0, .int a1])).length) Slot.unset).toArray = ls at hl ⊢
  have hl : lv_has ls 5 [(0, .ref this), (1, .int a0), (2, .int a1)] := hl
  refine q_gen (fun Q hQ => ?_)
  have go : ∀ (H : Heap) (locs : List Loc) (ls : Array Slot), va_P D vwCl (pq_P t σ (I, J, ri, rj, rq)) H → va_D A (pq_P t σ (I, J, ri, rj, rq)) → va_S A s.heap H locs → lv_has ls 5 [(0, .ref this), (1, .int a0), (2, .int a1)] → W p l e ({ frames := 7, cells := 0, slots := 0, locals := 172 } : Room) s m (List.toArray ([.ref this, .int a0, .int a1] : List Value)) below meth c H locs 0 0 Q (F0 m 0 ls []) := by
    intro H locs ls hP hD hS hl
    have hO_this : this = vo σ 12 this := rfl
    have hVT : VT 12 σ tg this := vt_12 hSH hL_this hK_this
    have hFr : FR 12 tg σ this (I, J, ri, rj, rq) (I, J, ri, rj, rq) := fr_rf
    have hO_this_a : this_a = vrow σ 384 this := vo_k (c := 12) hO_this hR_this_a
    have hO_this_kept : this_kept = vrow σ 386 this := vo_k (c := 12) hO_this hR_this_kept
    obtain ⟨F, hF0⟩ : ∃ F, F = g_X12_cant a0 a1 (vI 12 σ this I) (vJ 12 σ this J) (vR 12 σ this ri) (vL 12 σ this rj) (vQ 12 σ this rq) := ⟨_, rfl⟩
    have hF := hF0.trans g_X12_cant_e
    refine lv_aload_n hx hb dX12_cant_0 rfl (lv_at hl 0 rfl) ?_
    refine lv_iload_n hx hb dX12_cant_1 rfl (lv_at hl 2 rfl) ?_
    refine lv_bipush (v := 60) hx hb dX12_cant_2 (by decide +kernel) ?_
    refine lv_iload_n hx hb dX12_cant_4 rfl (lv_at hl 1 rfl) ?_
    refine pk_i (va_runV (As := [.int a1, .int 60, .int a0]) (rest := []) ⟨hx, hb, hml, hown, hts⟩ (s_X12_isTime l D t σ I J ri rj rq H.size tg hSH hG.1 this a1 (60 : Int32) a0 hL_this hK_this (rg_w (rg_k (60 : Int32) 60 rfl) (by decide +kernel)) this_a hR_this_a hL_this_a hK_this_a hN_this_a hT_this_a) (cwV 3 hts (tw_V tw_1189 tw_1190 tw_1191 tw_5 tw_1192) rfl rfl rfl cv_yX12_isTime_3 ⟨Nat.le_of_ble_eq_true rfl, Nat.le_of_ble_eq_true rfl⟩) ⟨pq_blind, pq_recv hK hP hL_this hK_this (by decide +kernel) rfl, pq_pre hK hN hP hD⟩ rfl rfl hl.1 rfl (lv_room (Nat.le_of_ble_eq_true rfl)) dX12_cant_5 ⟨Nat.le_of_ble_eq_true rfl, Nat.le_of_ble_eq_true rfl⟩) hD hS hA (fun x_1 σ1 μ1 H locs hw_2 hP hD hS => ?_)
    obtain ⟨hu_3, hfn_6, hr_5⟩ := hw_2
    obtain ⟨hu_3a, hu_3b⟩ := Prod.mk.inj hu_3
    rw [hu_3a, hu_3b] at hP hD
    replace hF := hF.trans (bn_n hfn_6)
    have h_8 : rg x_1 0 1 := by rcases hr_5 with ⟨q, -⟩ | ⟨q, -⟩ <;> rw [q] <;> exact ⟨by decide +kernel, by decide +kernel⟩
    have uh_8 := h_8.1
    have vh_8 := h_8.2
    refine lv_if_ne (tgt := 13) hx hb dX12_cant_8 (by decide +kernel) (fun c_9 => ?_) (fun c_9 => ?_)
    · replace hF := hF.trans (if_neg c_9)
      obtain ⟨f_20, f_21, f_22, f_23⟩ := (hr_5.resolve_right (fun q => c_9 q.1)).2
      have uf_20 := f_20.1
      have vf_20 := f_20.2
      have uf_21 := f_21.1
      have vf_21 := f_21.2
      have tc_24 : (a1).toInt ≤ 60 := Int32.le_iff_toInt_le.mp f_22
      have tc_25 : (x_1).toInt ≠ 0 := fun q => c_9 (Int32.toInt_inj.mp q)
      have h_26 : rg x_1 1 1 := rg_ne c_9 h_8 0 rfl (by decide +kernel)
      have uh_26 := h_26.1
      have vh_26 := h_26.2
      refine lv_aload_n hx hb dX12_cant_13 rfl (lv_at hl 0 rfl) ?_
      refine pg_f (v := .ref this_a) (C := RX12) (T := TX12) (N := 31) hx hb hts (tw_i inlX12) hown hK hP hL_this hK_this (by decide +kernel) rfl 0 (by decide +kernel) (hts _ (tw_c tw_176)) (pq_hv rfl hR_this_a) dX12_cant_14 ?_
      refine lv_aload_n hx hb dX12_cant_17 rfl (lv_at hl 0 rfl) ?_
      refine pg_f (v := .ref this_kept) (C := RX12) (T := TX12) (N := 31) hx hb hts (tw_i inlX12) hown hK hP hL_this hK_this (by decide +kernel) rfl 2 (by decide +kernel) (hts _ (tw_c tw_178)) (pq_hv rfl hR_this_kept) dX12_cant_18 ?_
      refine pk_v (va_runS (As := [.ref this_a, .ref this_kept]) (rest := []) ⟨hx, hb, hml, hown, hts⟩ (c_X12_copy l D t σ I J ri rj rq H.size this_a this_kept 12720 hL_this_a hK_this_a hN_this_a hL_this_kept hK_this_kept hN_this_kept rfl (tg_ne hT_this_a hT_this_kept (by decide +kernel))) (va_cwS 2 hts (tw_S tw_192 tw_193 tw_5 tw_194) rfl rfl rfl cd_yX12_copy_2 ⟨Nat.le_of_ble_eq_true rfl, Nat.le_of_ble_eq_true rfl⟩) ⟨pq_blind, pq_pre hK hN hP hD⟩ rfl rfl hl.1 rfl (lv_room (Nat.le_of_ble_eq_true rfl)) dX12_cant_21 ⟨Nat.le_of_ble_eq_true rfl, Nat.le_of_ble_eq_true rfl⟩) hD hS hA (fun σ1 μ1 H locs hw_28 hP hD hS => ?_)
      obtain ⟨ri_29, hu_30, hp_33, hp_34, hp_35⟩ := hw_28
      obtain ⟨hu_30a, hu_30b⟩ := Prod.mk.inj hu_30
      rw [hu_30a, hu_30b] at hP hD
      replace hF := hF.trans (ap_n (vR_cp hVT hO_this_kept (by decide +kernel) (funext fun _ => (vR_r hO_this_a (by decide +kernel) rfl)) hp_35))
      replace hFr := fr_R hFr hO_this_kept (by decide +kernel) hp_35
      have tt_38 : (ri_29 this_kept 0).toInt = (ri this_a 0).toInt := congrArg Int32.toInt (hp_33 0 (by decide +kernel))
      have tt_39 : (ri_29 this_a 0).toInt = (ri this_a 0).toInt := congrArg Int32.toInt (congrFun (hp_34 this_a (tg_ne hT_this_a hT_this_kept (by decide +kernel))) 0)
      have hG := GM.cp hG hT_this_a hT_this_kept (by decide +kernel) hp_33 hp_34 (by decide +kernel)
      refine lv_iconst (v := (-1)) hx hb dX12_cant_24 (by decide +kernel) ?_
      refine lv_istore_n (lv' := [(3, .int (-1)), (0, .ref this), (1, .int a0), (2, .int a1)]) hx hb dX12_cant_25 rfl hl (by decide +kernel) rfl (fun ls hl => ?_)
      refine lv_iconst (v := 0) hx hb dX12_cant_26 (by decide +kernel) ?_
      refine lv_istore (lv' := [(4, .int 0), (3, .int (-1)), (0, .ref this), (1, .int a0), (2, .int a1)]) hx hb dX12_cant_27 hl (by decide +kernel) rfl (fun ls hl => ?_)
      have L_968 : ∀ (n_967 : Nat) (x_909 : Int32) (x_910 : Int32) (I_911 : Nat → Nat → Int32) (ri_912 : Nat → Nat → Int32) (rj_913 : Nat → Nat → Int64) (H : Heap) (locs : List Loc) (ls : Array Slot), rg x_909 (-1) 599 → rg x_910 0 60 → ((ri_912 this_a 0).toInt = (ri this_a 0).toInt + (x_910).toInt) → (60 - (x_910).toInt).toNat < n_967 → F = g_X12_cant_L29 a0 a1 (vJ 12 σ this J) (vQ 12 σ this rq) n_967 x_909 x_910 (vI 12 σ this I_911) (vR 12 σ this ri_912) (vL 12 σ this rj_913) → FR 12 tg σ this (I, J, ri, rj, rq) (I_911, J, ri_912, rj_913, rq) → GM [2001, 1305, 1304, 1403, 1000, 1001, 1002, 1003, 1004, 1005, 1006, 1007, 1010, 1013, 1014, 1015, 1500, 1501, 1502, 1503, 1504, 1100, 1101, 1102, 1103, 1104, 1300, 1301, 1306, 1308, 1700, 1701, 1702] tg σ I ri I_911 ri_912 rq → va_P D vwCl (pq_P t σ (I_911, J, ri_912, rj_913, rq)) H → va_D A (pq_P t σ (I_911, J, ri_912, rj_913, rq)) → va_S A s.heap H locs → lv_has ls 5 [(0, .ref this), (1, .int a0), (2, .int a1), (3, .int x_909), (4, .int x_910)] → W p l e ({ frames := 7, cells := 0, slots := 0, locals := 172 } : Room) s m (List.toArray ([.ref this, .int a0, .int a1] : List Value)) below meth c H locs 0 0 Q (F0 m 29 ls []) := by
        intro n_967
        induction n_967 with
        | zero => intro x_909 x_910 I_911 ri_912 rj_913 H locs ls h_973 h_974 hrel_975 hm_966 hF hFr hG hP hD hS hl; exact absurd hm_966 (Nat.not_lt_zero _)
        | succ n_967 ih_969 =>
          intro x_909 x_910 I_911 ri_912 rj_913 H locs ls h_973 h_974 hrel_975 hm_966 hF hFr hG hP hD hS hl
          have uh_973 := h_973.1
          have vh_973 := h_973.2
          have uh_974 := h_974.1
          have vh_974 := h_974.2
          replace hF := hF.trans g_X12_cant_L29_e
          refine lv_iload hx hb dX12_cant_29 (lv_at hl 4 rfl) ?_
          refine lv_iload_n hx hb dX12_cant_31 rfl (lv_at hl 2 rfl) ?_
          have K_1025 : ∀  (H : Heap) (locs : List Loc) (ls : Array Slot), F = g_X12_cant_K67 (vJ 12 σ this J) (vQ 12 σ this rq) x_909 (vI 12 σ this I_911) (vR 12 σ this ri_912) (vL 12 σ this rj_913)  → FR 12 tg σ this (I, J, ri, rj, rq) (I_911, J, ri_912, rj_913, rq) → GM [2001, 1305, 1304, 1403, 1000, 1001, 1002, 1003, 1004, 1005, 1006, 1007, 1010, 1013, 1014, 1015, 1500, 1501, 1502, 1503, 1504, 1100, 1101, 1102, 1103, 1104, 1300, 1301, 1306, 1308, 1700, 1701, 1702] tg σ I ri I_911 ri_912 rq → va_P D vwCl (pq_P t σ (I_911, J, ri_912, rj_913, rq)) H → va_D A (pq_P t σ (I_911, J, ri_912, rj_913, rq)) → va_S A s.heap H locs → lv_has ls 5 [(0, .ref this), (3, .int x_909)] → W p l e ({ frames := 7, cells := 0, slots := 0, locals := 172 } : Room) s m (List.toArray ([.ref this, .int a0, .int a1] : List Value)) below meth c H locs 0 0 Q (F0 m 67 ls []) := by
            intro H locs ls hF hFr hG hP hD hS hl
            replace hF := hF.trans g_X12_cant_K67_e
            refine lv_aload_n hx hb dX12_cant_67 rfl (lv_at hl 0 rfl) ?_
            refine pg_f (v := .ref this_kept) (C := RX12) (T := TX12) (N := 31) hx hb hts (tw_i inlX12) hown hK hP hL_this hK_this (by decide +kernel) rfl 2 (by decide +kernel) (hts _ (tw_c tw_178)) (pq_hv rfl hR_this_kept) dX12_cant_68 ?_
            refine lv_aload_n hx hb dX12_cant_71 rfl (lv_at hl 0 rfl) ?_
            refine pg_f (v := .ref this_a) (C := RX12) (T := TX12) (N := 31) hx hb hts (tw_i inlX12) hown hK hP hL_this hK_this (by decide +kernel) rfl 0 (by decide +kernel) (hts _ (tw_c tw_176)) (pq_hv rfl hR_this_a) dX12_cant_72 ?_
            refine pk_v (va_runS (As := [.ref this_kept, .ref this_a]) (rest := []) ⟨hx, hb, hml, hown, hts⟩ (c_X12_copy l D t σ I_911 J ri_912 rj_913 rq H.size this_kept this_a 12720 hL_this_kept hK_this_kept hN_this_kept hL_this_a hK_this_a hN_this_a rfl (tg_ne hT_this_kept hT_this_a (by decide +kernel))) (va_cwS 2 hts (tw_S tw_192 tw_193 tw_5 tw_194) rfl rfl rfl cd_yX12_copy_2 ⟨Nat.le_of_ble_eq_true rfl, Nat.le_of_ble_eq_true rfl⟩) ⟨pq_blind, pq_pre hK hN hP hD⟩ rfl rfl hl.1 rfl (lv_room (Nat.le_of_ble_eq_true rfl)) dX12_cant_75 ⟨Nat.le_of_ble_eq_true rfl, Nat.le_of_ble_eq_true rfl⟩) hD hS hA (fun σ1 μ1 H locs hw_1027 hP hD hS => ?_)
            obtain ⟨ri_1028, hu_1029, hp_1032, hp_1033, hp_1034⟩ := hw_1027
            obtain ⟨hu_1029a, hu_1029b⟩ := Prod.mk.inj hu_1029
            rw [hu_1029a, hu_1029b] at hP hD
            replace hF := hF.trans (ap_n (vR_cp hVT hO_this_a (by decide +kernel) (funext fun _ => (vR_r hO_this_kept (by decide +kernel) rfl)) hp_1034))
            replace hFr := fr_R hFr hO_this_a (by decide +kernel) hp_1034
            have tt_1037 : (ri_1028 this_a 0).toInt = (ri_912 this_kept 0).toInt := congrArg Int32.toInt (hp_1032 0 (by decide +kernel))
            have tt_1038 : (ri_1028 this_kept 0).toInt = (ri_912 this_kept 0).toInt := congrArg Int32.toInt (congrFun (hp_1033 this_kept (tg_ne hT_this_kept hT_this_a (by decide +kernel))) 0)
            have hG := GM.cp hG hT_this_kept hT_this_a (by decide +kernel) hp_1032 hp_1033 (by decide +kernel)
            refine lv_iload_n hx hb dX12_cant_78 rfl (lv_at hl 1 rfl) ?_
            subst hQ
            exact W.iret (v := x_909) hx hb hr (fun t1 ht hW => ⟨⟨x_909, (σ, I_911, J, ri_1028, rj_913, rq), rfl, ⟨I_911, ri_1028, rj_913, rfl, hG, (hF0.symm.trans hF), hFr, (rg_w h_973 (by decide +kernel))⟩, by rw [ht]; exact hP, va_K.moved hW.alike hK, hD⟩, hS.F ht⟩) hS.2.2 dX12_cant_79
          refine lv_icmp_ge (tgt := 67) hx hb dX12_cant_32 (by decide +kernel) (fun c_1039 => ?_) (fun c_1039 => ?_)
          · replace hF := hF.trans (if_pos c_1039)
            have tc_1044 : (a1).toInt ≤ (x_910).toInt := Int32.le_iff_toInt_le.mp c_1039
            have h_1045 : rg x_910 1 60 := rg_le2 c_1039 f_20 h_974 (by decide +kernel)
            have uh_1045 := h_1045.1
            have vh_1045 := h_1045.2
            exact K_1025 _ _ _ hF hFr hG hP hD hS (lv_sub hl [0, 3] rfl)
          · replace hF := hF.trans (if_neg c_1039)
            have tc_1046 : (x_910).toInt < (a1).toInt := Int32.lt_iff_toInt_lt.mp (nle c_1039)
            have h_1047 : rg x_910 0 59 := rg_lt1 (nle c_1039) h_974 f_20 (by decide +kernel)
            have uh_1047 := h_1047.1
            have vh_1047 := h_1047.2
            refine lv_iload_n hx hb dX12_cant_35 rfl (lv_at hl 3 rfl) ?_
            refine lv_if_ge (tgt := 67) hx hb dX12_cant_36 (by decide +kernel) (fun c_1048 => ?_) (fun c_1048 => ?_)
            · replace hF := hF.trans (if_pos c_1048)
              have tc_1053 : 0 ≤ (x_909).toInt := Int32.le_iff_toInt_le.mp c_1048
              have h_1054 : rg x_909 0 599 := rg_le2 c_1048 (rg_k (0 : Int32) 0 rfl) h_973 (by decide +kernel)
              have uh_1054 := h_1054.1
              have vh_1054 := h_1054.2
              exact K_1025 _ _ _ hF hFr hG hP hD hS (lv_sub hl [0, 3] rfl)
            · replace hF := hF.trans (if_neg c_1048)
              have tc_1055 : (x_909).toInt < 0 := Int32.lt_iff_toInt_lt.mp (nle c_1048)
              have h_1056 : rg x_909 (-1) (-1) := rg_lt1 (nle c_1048) h_973 (rg_k (0 : Int32) 0 rfl) (by decide +kernel)
              have uh_1056 := h_1056.1
              have vh_1056 := h_1056.2
              refine lv_aload_n hx hb dX12_cant_39 rfl (lv_at hl 0 rfl) ?_
              refine lv_iload_n hx hb dX12_cant_40 rfl (lv_at hl 1 rfl) ?_
              refine pk_v (va_runV (As := [.int a0]) (rest := []) ⟨hx, hb, hml, hown, hts⟩ (s_X12_month l D t σ I_911 J ri_912 rj_913 rq H.size tg hSH hG.1 this a0 hL_this hK_this this_a hR_this_a hL_this_a hK_this_a hN_this_a hT_this_a (by omega)) (cwV 1 hts (tw_V tw_1193 tw_1194 tw_1195 tw_5 tw_1196) rfl rfl rfl cv_yX12_month_1 ⟨Nat.le_of_ble_eq_true rfl, Nat.le_of_ble_eq_true rfl⟩) ⟨pq_blind, pq_recv hK hP hL_this hK_this (by decide +kernel) rfl, pq_pre hK hN hP hD⟩ rfl rfl hl.1 rfl (lv_room (Nat.le_of_ble_eq_true rfl)) dX12_cant_41 ⟨Nat.le_of_ble_eq_true rfl, Nat.le_of_ble_eq_true rfl⟩) hD hS hA (fun σ1 μ1 H locs hw_1058 hP hD hS => ?_)
              obtain ⟨I_1059, ri_1060, rj_1061, hu_1062, hg_1063, hp_1065, hfn_1066, hfr_1067⟩ := hw_1058
              obtain ⟨hu_1062a, hu_1062b⟩ := Prod.mk.inj hu_1062
              rw [hu_1062a, hu_1062b] at hP hD
              replace hF := hF.trans (bv_n hfn_1066)
              replace hFr := fr_tr hFr hfr_1067
              have tt_1068 := hp_1065
              have tt_1069 : (ri_1060 this_kept 0).toInt = (ri_912 this_kept 0).toInt := congrArg Int32.toInt (congrFun (hg_1063.2.2.2 386 2001 (by decide +kernel) (by decide +kernel) this_kept hT_this_kept) 0)
              have hG := GM.tr hG hg_1063 (by decide +kernel)
              refine lv_aload_n hx hb dX12_cant_44 rfl (lv_at hl 0 rfl) ?_
              refine pg_f (v := .int (I_1059 410 this)) (C := RX12) (T := TX12) (N := 31) hx hb hts (tw_i inlX12) hown hK hP hL_this hK_this (by decide +kernel) rfl 26 (by decide +kernel) (hts _ (tw_c tw_1237)) rfl dX12_cant_45 ?_
              replace hF := hF.trans (ap_n (vI_e (f := 410) hO_this (by decide +kernel)))
              refine lv_iconst (v := 1) hx hb dX12_cant_48 (by decide +kernel) ?_
              have K_1083 : ∀  (x_1079 : Int32) (H : Heap) (locs : List Loc) (ls : Array Slot), rg x_1079 (-1) 599 → F = g_X12_cant_K61 x_910 (g_X12_cant_L29 a0 a1 (vJ 12 σ this J) (vQ 12 σ this rq) n_967) (vI 12 σ this I_1059) (vR 12 σ this ri_1060) (vL 12 σ this rj_1061) x_1079 → FR 12 tg σ this (I, J, ri, rj, rq) (I_1059, J, ri_1060, rj_1061, rq) → GM [2001, 1305, 1304, 1403, 1000, 1001, 1002, 1003, 1004, 1005, 1006, 1007, 1010, 1013, 1014, 1015, 1500, 1501, 1502, 1503, 1504, 1100, 1101, 1102, 1103, 1104, 1300, 1301, 1306, 1308, 1700, 1701, 1702] tg σ I ri I_1059 ri_1060 rq → va_P D vwCl (pq_P t σ (I_1059, J, ri_1060, rj_1061, rq)) H → va_D A (pq_P t σ (I_1059, J, ri_1060, rj_1061, rq)) → va_S A s.heap H locs → lv_has ls 5 [(0, .ref this), (1, .int a0), (2, .int a1), (3, .int x_1079), (4, .int x_910)] → W p l e ({ frames := 7, cells := 0, slots := 0, locals := 172 } : Room) s m (List.toArray ([.ref this, .int a0, .int a1] : List Value)) below meth c H locs 0 0 Q (F0 m 61 ls []) := by
                intro x_1079 H locs ls h_1085 hF hFr hG hP hD hS hl
                have uh_1085 := h_1085.1
                have vh_1085 := h_1085.2
                replace hF := hF.trans g_X12_cant_K61_e
                obtain ⟨x_1086, ex_1086⟩ : ∃ y : Int32, y = x_910 + Int32.ofInt 1 := ⟨_, rfl⟩
                replace hF := hF.trans (ap_n ex_1086)
                have h_1087 : rg x_1086 1 60 := rg_of_eq ex_1086 (rg_add h_1047 (rg_k (Int32.ofInt 1) 1 rfl) (by decide +kernel))
                have uh_1087 := h_1087.1
                have vh_1087 := h_1087.2
                have tx_1086 : (x_1086).toInt = (x_910).toInt + 1 := by rw [ex_1086]; exact i_add_rg (a2 := (x_910).toInt) (b2 := 1) rfl rfl h_1047 (rg_k (Int32.ofInt 1) 1 rfl) (by decide +kernel)
                refine lv_iinc (v := x_1086) (lv' := [(4, .int x_1086), (0, .ref this), (1, .int a0), (2, .int a1), (3, .int x_1079)]) hx hb dX12_cant_61 hl (k := 4) rfl ex_1086.symm (by decide +kernel) rfl (fun ls hl => ?_)
                refine lv_goto (tgt := 29) hx hb dX12_cant_64 (by decide +kernel) ?_
                exact ih_969 x_1079 x_1086 I_1059 ri_1060 rj_1061 _ _ _ (rg_w h_1085 (by decide +kernel)) (rg_w h_1087 (by decide +kernel)) (by omega) (ms_up 1 hm_966 ex_1086 rfl (by decide +kernel) h_1047 (by decide +kernel) (by decide +kernel)) hF hFr hG hP hD hS (lv_sub hl [1, 2, 3, 4, 0] rfl)
              refine lv_icmp_ne (tgt := 61) hx hb dX12_cant_49 (by decide +kernel) (fun c_1088 => ?_) (fun c_1088 => ?_)
              · replace hF := hF.trans (if_neg c_1088)
                have tc_1092 : (I_1059 410 this).toInt ≠ 1 := fun q => c_1088 (Int32.toInt_inj.mp q)
                exact K_1083 x_909 _ _ _ (rg_w h_1056 (by decide +kernel)) hF hFr hG hP hD hS (lv_sub hl [0, 1, 2, 3, 4] rfl)
              · replace hF := hF.trans (if_pos c_1088)
                have tc_1093 : (I_1059 410 this).toInt = 1 := congrArg Int32.toInt c_1088
                have h_1094 : rg (I_1059 410 this) 1 1 := rg_and (rg_full _) (rg_of_eq c_1088 (rg_k (1 : Int32) 1 rfl)) (by decide +kernel)
                have uh_1094 := h_1094.1
                have vh_1094 := h_1094.2
                refine lv_aload_n hx hb dX12_cant_52 rfl (lv_at hl 0 rfl) ?_
                refine pg_f (v := .ref this_a) (C := RX12) (T := TX12) (N := 31) hx hb hts (tw_i inlX12) hown hK hP hL_this hK_this (by decide +kernel) rfl 0 (by decide +kernel) (hts _ (tw_c tw_176)) (pq_hv rfl hR_this_a) dX12_cant_53 ?_
                refine lv_iconst (v := 0) hx hb dX12_cant_56 (by decide +kernel) ?_
                refine pl_i hx hb hK hP hL_this_a hK_this_a hN_this_a (vp_in_iff.mpr (by decide +kernel)) dX12_cant_57 ?_
                refine lv_topi (fun x_1095 ex_1095 => ?_)
                replace hF := hF.trans (ap_n (vR_r hO_this_a (by decide +kernel) ex_1095))
                have h_1096 : rg x_1095 0 600 := rg_of_eq ex_1095 (GM.z hG (by rw [hT_this_a]; decide) (show zn ((0 : Int32)).toNatClampNeg = 0 from by decide +kernel) rfl)
                have uh_1096 := h_1096.1
                have vh_1096 := h_1096.2
                refine lv_iconst (v := 1) hx hb dX12_cant_58 (by decide +kernel) ?_
                refine lv_isub hx hb dX12_cant_59 ?_
                refine lv_topi (fun x_1097 ex_1097 => ?_)
                replace hF := hF.trans (ap_n ex_1097)
                have h_1098 : rg x_1097 (-1) 599 := rg_of_eq ex_1097 (rg_sub h_1096 (rg_k (1 : Int32) 1 rfl) (by decide +kernel))
                have uh_1098 := h_1098.1
                have vh_1098 := h_1098.2
                have tx_1097 : (x_1097).toInt = (x_1095).toInt - 1 := by rw [ex_1097]; exact i_sub_rg (a2 := (x_1095).toInt) (b2 := 1) rfl rfl h_1096 (rg_k (1 : Int32) 1 rfl) (by decide +kernel)
                refine lv_istore_n (lv' := [(3, .int x_1097), (0, .ref this), (1, .int a0), (2, .int a1), (4, .int x_910)]) hx hb dX12_cant_60 rfl hl (by decide +kernel) rfl (fun ls hl => ?_)
                exact K_1083 x_1097 _ _ _ (rg_w h_1098 (by decide +kernel)) hF hFr hG hP hD hS (lv_sub hl [1, 2, 3, 0, 4] rfl)
      exact L_968 _ (-1 : Int32) (0 : Int32) I ri_29 rj _ _ _ (rg_w (rg_k (-1 : Int32) (-1) rfl) (by decide +kernel)) (rg_w (rg_k (0 : Int32) 0 rfl) (by decide +kernel)) (by have k0 : ((-1) : Int32).toInt = (-1) := rfl; have k1 : (0 : Int32).toInt = 0 := rfl; omega) (Nat.lt_succ_self _) hF hFr hG hP hD hS (lv_sub hl [2, 3, 4, 1, 0] rfl)
    · replace hF := hF.trans (if_pos c_9)
      have f_1099 := (hr_5.resolve_left (fun q => absurd (q.1.symm.trans c_9) (by decide +kernel))).2
      have tc_1100 : (x_1).toInt = 0 := congrArg Int32.toInt c_9
      have h_1101 : rg x_1 0 0 := rg_and h_8 (rg_of_eq c_9 (rg_k (0 : Int32) 0 rfl)) (by decide +kernel)
      have uh_1101 := h_1101.1
      have vh_1101 := h_1101.2
      refine lv_iconst (v := (-1)) hx hb dX12_cant_11 (by decide +kernel) ?_
      subst hQ
      exact W.iret (v := (-1)) hx hb hr (fun t1 ht hW => ⟨⟨(-1), (σ, I, J, ri, rj, rq), rfl, ⟨I, ri, rj, rfl, hG, (hF0.symm.trans hF), hFr, (rg_w (rg_k (-1 : Int32) (-1) rfl) (by decide +kernel))⟩, by rw [ht]; exact hP, va_K.moved hW.alike hK, hD⟩, hS.F ht⟩) hS.2.2 dX12_cant_12
  exact go _ _ _ hP hD hS hl
