theorem dX12_copy_2 : decode cX12_copy 2 = .ok (.iload_n 2, 1) := oc_28 (by decide +kernel)
theorem dX12_copy_3 : decode cX12_copy 3 = .ok (.sipush 12720, 3) := oc_17 (a := 49) (b := 176) (by decide +kernel)
theorem dX12_copy_6 : decode cX12_copy 6 = .ok (.if_icmp .ge 15, 3) := oc_162 (a := 0) (b := 15) (by decide +kernel)
theorem dX12_copy_9 : decode cX12_copy 9 = .ok (.aload_n 1, 1) := oc_43 (by decide +kernel)
theorem dX12_copy_10 : decode cX12_copy 10 = .ok (.iload_n 2, 1) := oc_28 (by decide +kernel)
theorem dX12_copy_11 : decode cX12_copy 11 = .ok (.aload_n 0, 1) := oc_42 (by decide +kernel)
theorem dX12_copy_12 : decode cX12_copy 12 = .ok (.iload_n 2, 1) := oc_28 (by decide +kernel)
theorem dX12_copy_13 : decode cX12_copy 13 = .ok (.iaload, 1) := oc_46 (by decide +kernel)
theorem dX12_copy_14 : decode cX12_copy 14 = .ok (.iastore, 1) := oc_79 (by decide +kernel)
theorem dX12_copy_15 : decode cX12_copy 15 = .ok (.iinc 2 1, 3) := oc_132 (b := 1) (by decide +kernel)
theorem dX12_copy_18 : decode cX12_copy 18 = .ok (.goto (-16), 3) := oc_167 (a := 255) (b := 240) (by decide +kernel)
theorem dX12_copy_0 : decode cX12_copy 0 = .ok (.iconst 0, 1) := oc_3 (by decide +kernel)
theorem dX12_copy_1 : decode cX12_copy 1 = .ok (.istore_n 2, 1) := oc_61 (by decide +kernel)
theorem dX12_copy_21 : decode cX12_copy 21 = .ok (.return_, 1) := oc_177 (by decide +kernel)
theorem dX12_isMonth_0 : decode cX12_isMonth 0 = .ok (.iload_n 0, 1) := oc_26 (by decide +kernel)
theorem dX12_isMonth_1 : decode cX12_isMonth 1 = .ok (.iconst 0, 1) := oc_3 (by decide +kernel)
theorem dX12_isMonth_2 : decode cX12_isMonth 2 = .ok (.sipush 599, 3) := oc_17 (a := 2) (b := 87) (by decide +kernel)
theorem dX12_isMonth_5 : decode cX12_isMonth 5 = .ok (.invokestatic 62, 3) := oc_184 (a := 0) (b := 62) (by decide +kernel)
theorem dX12_isMonth_8 : decode cX12_isMonth 8 = .ok (.ireturn, 1) := oc_172 (by decide +kernel)
theorem dX12_isRing_0 : decode cX12_isRing 0 = .ok (.iload_n 1, 1) := oc_27 (by decide +kernel)
theorem dX12_isRing_1 : decode cX12_isRing 1 = .ok (.iconst 0, 1) := oc_3 (by decide +kernel)
theorem dX12_isRing_2 : decode cX12_isRing 2 = .ok (.aload_n 0, 1) := oc_42 (by decide +kernel)
theorem dX12_isRing_3 : decode cX12_isRing 3 = .ok (.getfield 7, 3) := oc_180 (a := 0) (b := 7) (by decide +kernel)
theorem dX12_isRing_6 : decode cX12_isRing 6 = .ok (.iconst 1, 1) := oc_4 (by decide +kernel)
theorem dX12_isRing_7 : decode cX12_isRing 7 = .ok (.iaload, 1) := oc_46 (by decide +kernel)
theorem dX12_isRing_8 : decode cX12_isRing 8 = .ok (.iconst 1, 1) := oc_4 (by decide +kernel)
theorem dX12_isRing_9 : decode cX12_isRing 9 = .ok (.isub, 1) := oc_100 (by decide +kernel)
theorem dX12_isRing_10 : decode cX12_isRing 10 = .ok (.invokestatic 62, 3) := oc_184 (a := 0) (b := 62) (by decide +kernel)
theorem dX12_isRing_13 : decode cX12_isRing 13 = .ok (.ireturn, 1) := oc_172 (by decide +kernel)
theorem dX12_isCell_0 : decode cX12_isCell 0 = .ok (.iload_n 1, 1) := oc_27 (by decide +kernel)
theorem dX12_isCell_1 : decode cX12_isCell 1 = .ok (.iconst 0, 1) := oc_3 (by decide +kernel)
theorem dX12_isCell_2 : decode cX12_isCell 2 = .ok (.aload_n 0, 1) := oc_42 (by decide +kernel)
theorem dX12_isCell_3 : decode cX12_isCell 3 = .ok (.getfield 7, 3) := oc_180 (a := 0) (b := 7) (by decide +kernel)
theorem dX12_isCell_6 : decode cX12_isCell 6 = .ok (.iconst 2, 1) := oc_5 (by decide +kernel)
theorem dX12_isCell_7 : decode cX12_isCell 7 = .ok (.iaload, 1) := oc_46 (by decide +kernel)
theorem dX12_isCell_8 : decode cX12_isCell 8 = .ok (.iconst 1, 1) := oc_4 (by decide +kernel)
theorem dX12_isCell_9 : decode cX12_isCell 9 = .ok (.isub, 1) := oc_100 (by decide +kernel)
theorem dX12_isCell_10 : decode cX12_isCell 10 = .ok (.invokestatic 62, 3) := oc_184 (a := 0) (b := 62) (by decide +kernel)
theorem dX12_isCell_13 : decode cX12_isCell 13 = .ok (.ireturn, 1) := oc_172 (by decide +kernel)
theorem dX12_isPerson_0 : decode cX12_isPerson 0 = .ok (.iload_n 1, 1) := oc_27 (by decide +kernel)
theorem dX12_isPerson_1 : decode cX12_isPerson 1 = .ok (.iconst 0, 1) := oc_3 (by decide +kernel)
theorem dX12_isPerson_2 : decode cX12_isPerson 2 = .ok (.aload_n 0, 1) := oc_42 (by decide +kernel)
theorem dX12_isPerson_3 : decode cX12_isPerson 3 = .ok (.getfield 7, 3) := oc_180 (a := 0) (b := 7) (by decide +kernel)
theorem dX12_isPerson_6 : decode cX12_isPerson 6 = .ok (.iconst 5, 1) := oc_8 (by decide +kernel)
theorem dX12_isPerson_7 : decode cX12_isPerson 7 = .ok (.iaload, 1) := oc_46 (by decide +kernel)
theorem dX12_isPerson_8 : decode cX12_isPerson 8 = .ok (.iconst 1, 1) := oc_4 (by decide +kernel)
theorem dX12_isPerson_9 : decode cX12_isPerson 9 = .ok (.isub, 1) := oc_100 (by decide +kernel)
theorem dX12_isPerson_10 : decode cX12_isPerson 10 = .ok (.invokestatic 62, 3) := oc_184 (a := 0) (b := 62) (by decide +kernel)
theorem dX12_isPerson_13 : decode cX12_isPerson 13 = .ok (.ireturn, 1) := oc_172 (by decide +kernel)
theorem dX12_isRise_0 : decode cX12_isRise 0 = .ok (.iload_n 0, 1) := oc_26 (by decide +kernel)
theorem dX12_isRise_1 : decode cX12_isRise 1 = .ok (.iconst 0, 1) := oc_3 (by decide +kernel)
theorem dX12_isRise_2 : decode cX12_isRise 2 = .ok (.iconst 2, 1) := oc_5 (by decide +kernel)
theorem dX12_isRise_3 : decode cX12_isRise 3 = .ok (.invokestatic 62, 3) := oc_184 (a := 0) (b := 62) (by decide +kernel)
theorem dX12_isRise_6 : decode cX12_isRise 6 = .ok (.ireturn, 1) := oc_172 (by decide +kernel)
theorem dX12_ring_0 : decode cX12_ring 0 = .ok (.aload_n 0, 1) := oc_42 (by decide +kernel)
theorem dX12_ring_1 : decode cX12_ring 1 = .ok (.getfield 7, 3) := oc_180 (a := 0) (b := 7) (by decide +kernel)
theorem dX12_ring_4 : decode cX12_ring 4 = .ok (.iconst 1, 1) := oc_4 (by decide +kernel)
theorem dX12_ring_5 : decode cX12_ring 5 = .ok (.iaload, 1) := oc_46 (by decide +kernel)
theorem dX12_ring_6 : decode cX12_ring 6 = .ok (.iconst 5, 1) := oc_8 (by decide +kernel)
theorem dX12_ring_7 : decode cX12_ring 7 = .ok (.if_icmp .ne 5, 3) := oc_160 (a := 0) (b := 5) (by decide +kernel)
theorem dX12_ring_12 : decode cX12_ring 12 = .ok (.aload_n 0, 1) := oc_42 (by decide +kernel)
theorem dX12_ring_13 : decode cX12_ring 13 = .ok (.getfield 7, 3) := oc_180 (a := 0) (b := 7) (by decide +kernel)
theorem dX12_ring_16 : decode cX12_ring 16 = .ok (.iconst 1, 1) := oc_4 (by decide +kernel)
theorem dX12_ring_17 : decode cX12_ring 17 = .ok (.dup2, 1) := oc_92 (by decide +kernel)
theorem dX12_ring_18 : decode cX12_ring 18 = .ok (.iaload, 1) := oc_46 (by decide +kernel)
theorem dX12_ring_19 : decode cX12_ring 19 = .ok (.iconst 1, 1) := oc_4 (by decide +kernel)
theorem dX12_ring_20 : decode cX12_ring 20 = .ok (.iadd, 1) := oc_96 (by decide +kernel)
theorem dX12_ring_21 : decode cX12_ring 21 = .ok (.iastore, 1) := oc_79 (by decide +kernel)
theorem dX12_ring_22 : decode cX12_ring 22 = .ok (.aload_n 0, 1) := oc_42 (by decide +kernel)
theorem dX12_ring_23 : decode cX12_ring 23 = .ok (.getfield 7, 3) := oc_180 (a := 0) (b := 7) (by decide +kernel)
theorem dX12_ring_26 : decode cX12_ring 26 = .ok (.iconst 1, 1) := oc_4 (by decide +kernel)
theorem dX12_ring_27 : decode cX12_ring 27 = .ok (.iaload, 1) := oc_46 (by decide +kernel)
theorem dX12_ring_28 : decode cX12_ring 28 = .ok (.iconst 1, 1) := oc_4 (by decide +kernel)
theorem dX12_ring_29 : decode cX12_ring 29 = .ok (.isub, 1) := oc_100 (by decide +kernel)
theorem dX12_ring_30 : decode cX12_ring 30 = .ok (.ireturn, 1) := oc_172 (by decide +kernel)
theorem dX12_ring_10 : decode cX12_ring 10 = .ok (.iconst (-1), 1) := oc_2 (by decide +kernel)
theorem dX12_ring_11 : decode cX12_ring 11 = .ok (.ireturn, 1) := oc_172 (by decide +kernel)
theorem dX12_cell_0 : decode cX12_cell 0 = .ok (.aload_n 0, 1) := oc_42 (by decide +kernel)
theorem dX12_cell_1 : decode cX12_cell 1 = .ok (.iload_n 1, 1) := oc_27 (by decide +kernel)
theorem tw_231 : Cond.methodLink RX12 66 yX12_isRing ∈ wsL_law := sg_10 _ (List.mem_of_getElem? (i := 15) rfl)
theorem tw_232 : Cond.instanceMethod yX12_isRing ∈ wsL_law := sg_10 _ (List.mem_of_getElem? (i := 16) rfl)
theorem tw_233 : Cond.selects RX12 yX12_isRing yX12_isRing ∈ wsL_law := sg_10 _ (List.mem_of_getElem? (i := 17) rfl)
theorem tw_234 : Cond.code yX12_isRing cX12_isRing 2 (some .boolean) ∈ wsL_law := sg_10 _ (List.mem_of_getElem? (i := 18) rfl)
theorem dX12_cell_2 : decode cX12_cell 2 = .ok (.invokevirtual 66, 3) := oc_182 (a := 0) (b := 66) (by decide +kernel)
theorem dX12_cell_86 : decode cX12_cell 86 = .ok (.iconst (-1), 1) := oc_2 (by decide +kernel)
theorem dX12_cell_87 : decode cX12_cell 87 = .ok (.ireturn, 1) := oc_172 (by decide +kernel)
theorem dX12_cell_5 : decode cX12_cell 5 = .ok (.ifCond .eq 81, 3) := oc_153 (a := 0) (b := 81) (by decide +kernel)
theorem dX12_cell_8 : decode cX12_cell 8 = .ok (.iload_n 2, 1) := oc_28 (by decide +kernel)
theorem dX12_cell_9 : decode cX12_cell 9 = .ok (.sipush (-500), 3) := oc_17 (a := 254) (b := 12) (by decide +kernel)
theorem dX12_cell_12 : decode cX12_cell 12 = .ok (.sipush 3000, 3) := oc_17 (a := 11) (b := 184) (by decide +kernel)
theorem dX12_cell_15 : decode cX12_cell 15 = .ok (.invokestatic 62, 3) := oc_184 (a := 0) (b := 62) (by decide +kernel)
theorem dX12_cell_18 : decode cX12_cell 18 = .ok (.ifCond .eq 68, 3) := oc_153 (a := 0) (b := 68) (by decide +kernel)
theorem dX12_cell_21 : decode cX12_cell 21 = .ok (.iload_n 3, 1) := oc_29 (by decide +kernel)
theorem dX12_cell_22 : decode cX12_cell 22 = .ok (.iconst 0, 1) := oc_3 (by decide +kernel)
theorem dX12_cell_23 : decode cX12_cell 23 = .ok (.bipush 31, 2) := oc_16 (a := 31) (by decide +kernel)
theorem dX12_cell_25 : decode cX12_cell 25 = .ok (.invokestatic 62, 3) := oc_184 (a := 0) (b := 62) (by decide +kernel)
theorem dX12_cell_28 : decode cX12_cell 28 = .ok (.ifCond .eq 58, 3) := oc_153 (a := 0) (b := 58) (by decide +kernel)
theorem dX12_cell_31 : decode cX12_cell 31 = .ok (.iload 4, 2) := oc_21 (by decide +kernel)
theorem dX12_cell_33 : decode cX12_cell 33 = .ok (.iconst 0, 1) := oc_3 (by decide +kernel)
theorem dX12_cell_34 : decode cX12_cell 34 = .ok (.bipush 31, 2) := oc_16 (a := 31) (by decide +kernel)
theorem dX12_cell_36 : decode cX12_cell 36 = .ok (.invokestatic 62, 3) := oc_184 (a := 0) (b := 62) (by decide +kernel)
theorem dX12_cell_39 : decode cX12_cell 39 = .ok (.ifCond .eq 47, 3) := oc_153 (a := 0) (b := 47) (by decide +kernel)
theorem dX12_cell_42 : decode cX12_cell 42 = .ok (.iload 5, 2) := oc_21 (by decide +kernel)
theorem dX12_cell_44 : decode cX12_cell 44 = .ok (.iconst 0, 1) := oc_3 (by decide +kernel)
theorem dX12_cell_45 : decode cX12_cell 45 = .ok (.sipush 500, 3) := oc_17 (a := 1) (b := 244) (by decide +kernel)
theorem dX12_cell_48 : decode cX12_cell 48 = .ok (.invokestatic 62, 3) := oc_184 (a := 0) (b := 62) (by decide +kernel)
theorem dX12_cell_51 : decode cX12_cell 51 = .ok (.ifCond .eq 35, 3) := oc_153 (a := 0) (b := 35) (by decide +kernel)
theorem dX12_cell_54 : decode cX12_cell 54 = .ok (.iload 6, 2) := oc_21 (by decide +kernel)
theorem dX12_cell_56 : decode cX12_cell 56 = .ok (.iconst 0, 1) := oc_3 (by decide +kernel)
theorem dX12_cell_57 : decode cX12_cell 57 = .ok (.sipush 400, 3) := oc_17 (a := 1) (b := 144) (by decide +kernel)
theorem dX12_cell_60 : decode cX12_cell 60 = .ok (.invokestatic 62, 3) := oc_184 (a := 0) (b := 62) (by decide +kernel)
theorem dX12_cell_63 : decode cX12_cell 63 = .ok (.ifCond .eq 23, 3) := oc_153 (a := 0) (b := 23) (by decide +kernel)
theorem dX12_cell_66 : decode cX12_cell 66 = .ok (.aload_n 0, 1) := oc_42 (by decide +kernel)
theorem dX12_cell_67 : decode cX12_cell 67 = .ok (.getfield 7, 3) := oc_180 (a := 0) (b := 7) (by decide +kernel)
theorem dX12_cell_70 : decode cX12_cell 70 = .ok (.iconst 0, 1) := oc_3 (by decide +kernel)
theorem dX12_cell_71 : decode cX12_cell 71 = .ok (.iaload, 1) := oc_46 (by decide +kernel)
theorem dX12_cell_72 : decode cX12_cell 72 = .ok (.ifCond .gt 14, 3) := oc_157 (a := 0) (b := 14) (by decide +kernel)
theorem dX12_cell_75 : decode cX12_cell 75 = .ok (.aload_n 0, 1) := oc_42 (by decide +kernel)
theorem dX12_cell_76 : decode cX12_cell 76 = .ok (.getfield 7, 3) := oc_180 (a := 0) (b := 7) (by decide +kernel)
theorem dX12_cell_79 : decode cX12_cell 79 = .ok (.iconst 2, 1) := oc_5 (by decide +kernel)
theorem dX12_cell_80 : decode cX12_cell 80 = .ok (.iaload, 1) := oc_46 (by decide +kernel)
theorem dX12_cell_81 : decode cX12_cell 81 = .ok (.bipush 40, 2) := oc_16 (a := 40) (by decide +kernel)
theorem dX12_cell_83 : decode cX12_cell 83 = .ok (.if_icmp .ne 5, 3) := oc_160 (a := 0) (b := 5) (by decide +kernel)
theorem dX12_cell_88 : decode cX12_cell 88 = .ok (.bipush 100, 2) := oc_16 (a := 100) (by decide +kernel)
theorem dX12_cell_90 : decode cX12_cell 90 = .ok (.bipush 16, 2) := oc_16 (a := 16) (by decide +kernel)
theorem dX12_cell_92 : decode cX12_cell 92 = .ok (.aload_n 0, 1) := oc_42 (by decide +kernel)
theorem dX12_cell_93 : decode cX12_cell 93 = .ok (.getfield 7, 3) := oc_180 (a := 0) (b := 7) (by decide +kernel)
theorem dX12_cell_96 : decode cX12_cell 96 = .ok (.iconst 2, 1) := oc_5 (by decide +kernel)
theorem dX12_cell_97 : decode cX12_cell 97 = .ok (.iaload, 1) := oc_46 (by decide +kernel)
theorem dX12_cell_98 : decode cX12_cell 98 = .ok (.imul, 1) := oc_104 (by decide +kernel)
theorem dX12_cell_99 : decode cX12_cell 99 = .ok (.iadd, 1) := oc_96 (by decide +kernel)
theorem dX12_cell_100 : decode cX12_cell 100 = .ok (.istore 7, 2) := oc_54 (by decide +kernel)
theorem dX12_cell_102 : decode cX12_cell 102 = .ok (.aload_n 0, 1) := oc_42 (by decide +kernel)
theorem dX12_cell_103 : decode cX12_cell 103 = .ok (.getfield 7, 3) := oc_180 (a := 0) (b := 7) (by decide +kernel)
theorem dX12_cell_106 : decode cX12_cell 106 = .ok (.iload 7, 2) := oc_21 (by decide +kernel)
theorem dX12_cell_108 : decode cX12_cell 108 = .ok (.iconst 0, 1) := oc_3 (by decide +kernel)
theorem dX12_cell_109 : decode cX12_cell 109 = .ok (.iadd, 1) := oc_96 (by decide +kernel)
theorem dX12_cell_110 : decode cX12_cell 110 = .ok (.iload_n 1, 1) := oc_27 (by decide +kernel)
theorem dX12_cell_111 : decode cX12_cell 111 = .ok (.iastore, 1) := oc_79 (by decide +kernel)
theorem dX12_cell_112 : decode cX12_cell 112 = .ok (.aload_n 0, 1) := oc_42 (by decide +kernel)
theorem dX12_cell_113 : decode cX12_cell 113 = .ok (.getfield 7, 3) := oc_180 (a := 0) (b := 7) (by decide +kernel)
theorem dX12_cell_116 : decode cX12_cell 116 = .ok (.iload 7, 2) := oc_21 (by decide +kernel)
theorem dX12_cell_118 : decode cX12_cell 118 = .ok (.iconst 1, 1) := oc_4 (by decide +kernel)
theorem dX12_cell_119 : decode cX12_cell 119 = .ok (.iadd, 1) := oc_96 (by decide +kernel)
theorem dX12_cell_120 : decode cX12_cell 120 = .ok (.iload_n 2, 1) := oc_28 (by decide +kernel)
theorem dX12_cell_121 : decode cX12_cell 121 = .ok (.iastore, 1) := oc_79 (by decide +kernel)
theorem dX12_cell_122 : decode cX12_cell 122 = .ok (.aload_n 0, 1) := oc_42 (by decide +kernel)
theorem dX12_cell_123 : decode cX12_cell 123 = .ok (.getfield 7, 3) := oc_180 (a := 0) (b := 7) (by decide +kernel)
theorem dX12_cell_126 : decode cX12_cell 126 = .ok (.iload 7, 2) := oc_21 (by decide +kernel)
theorem dX12_cell_128 : decode cX12_cell 128 = .ok (.iconst 2, 1) := oc_5 (by decide +kernel)
theorem dX12_cell_129 : decode cX12_cell 129 = .ok (.iadd, 1) := oc_96 (by decide +kernel)
theorem dX12_cell_130 : decode cX12_cell 130 = .ok (.iload_n 3, 1) := oc_29 (by decide +kernel)
theorem dX12_cell_131 : decode cX12_cell 131 = .ok (.iastore, 1) := oc_79 (by decide +kernel)
theorem dX12_cell_132 : decode cX12_cell 132 = .ok (.aload_n 0, 1) := oc_42 (by decide +kernel)
theorem dX12_cell_133 : decode cX12_cell 133 = .ok (.getfield 7, 3) := oc_180 (a := 0) (b := 7) (by decide +kernel)
theorem dX12_cell_136 : decode cX12_cell 136 = .ok (.iload 7, 2) := oc_21 (by decide +kernel)
theorem dX12_cell_138 : decode cX12_cell 138 = .ok (.iconst 3, 1) := oc_6 (by decide +kernel)
theorem dX12_cell_139 : decode cX12_cell 139 = .ok (.iadd, 1) := oc_96 (by decide +kernel)
theorem dX12_cell_140 : decode cX12_cell 140 = .ok (.iload 4, 2) := oc_21 (by decide +kernel)
theorem dX12_cell_142 : decode cX12_cell 142 = .ok (.iastore, 1) := oc_79 (by decide +kernel)
theorem dX12_cell_143 : decode cX12_cell 143 = .ok (.aload_n 0, 1) := oc_42 (by decide +kernel)
theorem dX12_cell_144 : decode cX12_cell 144 = .ok (.getfield 7, 3) := oc_180 (a := 0) (b := 7) (by decide +kernel)
theorem dX12_cell_147 : decode cX12_cell 147 = .ok (.iload 7, 2) := oc_21 (by decide +kernel)
theorem dX12_cell_149 : decode cX12_cell 149 = .ok (.iconst 4, 1) := oc_7 (by decide +kernel)
theorem dX12_cell_150 : decode cX12_cell 150 = .ok (.iadd, 1) := oc_96 (by decide +kernel)
theorem dX12_cell_151 : decode cX12_cell 151 = .ok (.iload 5, 2) := oc_21 (by decide +kernel)
theorem dX12_cell_153 : decode cX12_cell 153 = .ok (.iastore, 1) := oc_79 (by decide +kernel)
theorem dX12_cell_154 : decode cX12_cell 154 = .ok (.aload_n 0, 1) := oc_42 (by decide +kernel)
theorem dX12_cell_155 : decode cX12_cell 155 = .ok (.getfield 7, 3) := oc_180 (a := 0) (b := 7) (by decide +kernel)
theorem dX12_cell_158 : decode cX12_cell 158 = .ok (.iload 7, 2) := oc_21 (by decide +kernel)
theorem dX12_cell_160 : decode cX12_cell 160 = .ok (.iconst 5, 1) := oc_8 (by decide +kernel)
theorem dX12_cell_161 : decode cX12_cell 161 = .ok (.iadd, 1) := oc_96 (by decide +kernel)
theorem dX12_cell_162 : decode cX12_cell 162 = .ok (.iload 6, 2) := oc_21 (by decide +kernel)
theorem dX12_cell_164 : decode cX12_cell 164 = .ok (.iastore, 1) := oc_79 (by decide +kernel)
theorem dX12_cell_165 : decode cX12_cell 165 = .ok (.aload_n 0, 1) := oc_42 (by decide +kernel)
theorem dX12_cell_166 : decode cX12_cell 166 = .ok (.getfield 7, 3) := oc_180 (a := 0) (b := 7) (by decide +kernel)
theorem dX12_cell_169 : decode cX12_cell 169 = .ok (.iload 7, 2) := oc_21 (by decide +kernel)
theorem dX12_cell_171 : decode cX12_cell 171 = .ok (.bipush 14, 2) := oc_16 (a := 14) (by decide +kernel)
theorem dX12_cell_173 : decode cX12_cell 173 = .ok (.iadd, 1) := oc_96 (by decide +kernel)
theorem dX12_cell_174 : decode cX12_cell 174 = .ok (.iconst (-1), 1) := oc_2 (by decide +kernel)
theorem dX12_cell_175 : decode cX12_cell 175 = .ok (.iastore, 1) := oc_79 (by decide +kernel)
theorem dX12_cell_176 : decode cX12_cell 176 = .ok (.aload_n 0, 1) := oc_42 (by decide +kernel)
theorem dX12_cell_177 : decode cX12_cell 177 = .ok (.getfield 7, 3) := oc_180 (a := 0) (b := 7) (by decide +kernel)
theorem dX12_cell_180 : decode cX12_cell 180 = .ok (.iconst 2, 1) := oc_5 (by decide +kernel)
theorem dX12_cell_181 : decode cX12_cell 181 = .ok (.dup2, 1) := oc_92 (by decide +kernel)
theorem dX12_cell_182 : decode cX12_cell 182 = .ok (.iaload, 1) := oc_46 (by decide +kernel)
theorem dX12_cell_183 : decode cX12_cell 183 = .ok (.iconst 1, 1) := oc_4 (by decide +kernel)
theorem dX12_cell_184 : decode cX12_cell 184 = .ok (.iadd, 1) := oc_96 (by decide +kernel)
theorem dX12_cell_185 : decode cX12_cell 185 = .ok (.iastore, 1) := oc_79 (by decide +kernel)
theorem dX12_cell_186 : decode cX12_cell 186 = .ok (.aload_n 0, 1) := oc_42 (by decide +kernel)
theorem dX12_cell_187 : decode cX12_cell 187 = .ok (.getfield 7, 3) := oc_180 (a := 0) (b := 7) (by decide +kernel)
theorem dX12_cell_190 : decode cX12_cell 190 = .ok (.iconst 2, 1) := oc_5 (by decide +kernel)
theorem dX12_cell_191 : decode cX12_cell 191 = .ok (.iaload, 1) := oc_46 (by decide +kernel)
theorem dX12_cell_192 : decode cX12_cell 192 = .ok (.iconst 1, 1) := oc_4 (by decide +kernel)
theorem dX12_cell_193 : decode cX12_cell 193 = .ok (.isub, 1) := oc_100 (by decide +kernel)
theorem dX12_cell_194 : decode cX12_cell 194 = .ok (.ireturn, 1) := oc_172 (by decide +kernel)
theorem dX12_level_0 : decode cX12_level 0 = .ok (.iload_n 1, 1) := oc_27 (by decide +kernel)
theorem tw_259 : Cond.methodLink RX12 70 yX12_isRise ∈ wsL_law := sg_11 _ (List.mem_of_getElem? (i := 19) rfl)
theorem tw_260 : Cond.static yX12_isRise ∈ wsL_law := sg_11 _ (List.mem_of_getElem? (i := 20) rfl)
theorem tw_261 : Cond.code yX12_isRise cX12_isRise 1 (some .boolean) ∈ wsL_law := sg_11 _ (List.mem_of_getElem? (i := 21) rfl)
theorem dX12_level_1 : decode cX12_level 1 = .ok (.invokestatic 70, 3) := oc_184 (a := 0) (b := 70) (by decide +kernel)
theorem dX12_level_44 : decode cX12_level 44 = .ok (.iconst (-1), 1) := oc_2 (by decide +kernel)
theorem dX12_level_45 : decode cX12_level 45 = .ok (.ireturn, 1) := oc_172 (by decide +kernel)
theorem dX12_level_4 : decode cX12_level 4 = .ok (.ifCond .eq 40, 3) := oc_153 (a := 0) (b := 40) (by decide +kernel)
theorem dX12_level_7 : decode cX12_level 7 = .ok (.iload_n 2, 1) := oc_28 (by decide +kernel)
theorem tw_262 : Cond.methodLink RX12 73 yX12_isMonth ∈ wsL_law := sg_11 _ (List.mem_of_getElem? (i := 22) rfl)
theorem tw_263 : Cond.static yX12_isMonth ∈ wsL_law := sg_11 _ (List.mem_of_getElem? (i := 23) rfl)
theorem tw_264 : Cond.code yX12_isMonth cX12_isMonth 1 (some .boolean) ∈ wsL_law := sg_12 _ (List.mem_of_getElem? (i := 0) rfl)
theorem dX12_level_8 : decode cX12_level 8 = .ok (.invokestatic 73, 3) := oc_184 (a := 0) (b := 73) (by decide +kernel)
theorem dX12_level_11 : decode cX12_level 11 = .ok (.ifCond .eq 33, 3) := oc_153 (a := 0) (b := 33) (by decide +kernel)
theorem dX12_level_14 : decode cX12_level 14 = .ok (.iload_n 3, 1) := oc_29 (by decide +kernel)
theorem dX12_level_32 : decode cX12_level 32 = .ok (.aload_n 0, 1) := oc_42 (by decide +kernel)
theorem dX12_level_33 : decode cX12_level 33 = .ok (.getfield 7, 3) := oc_180 (a := 0) (b := 7) (by decide +kernel)
theorem dX12_level_36 : decode cX12_level 36 = .ok (.iconst 3, 1) := oc_6 (by decide +kernel)
theorem dX12_level_37 : decode cX12_level 37 = .ok (.iaload, 1) := oc_46 (by decide +kernel)
theorem dX12_level_38 : decode cX12_level 38 = .ok (.sipush 200, 3) := oc_17 (a := 0) (b := 200) (by decide +kernel)
theorem dX12_level_41 : decode cX12_level 41 = .ok (.if_icmp .ne 5, 3) := oc_160 (a := 0) (b := 5) (by decide +kernel)
theorem dX12_level_46 : decode cX12_level 46 = .ok (.sipush 1220, 3) := oc_17 (a := 4) (b := 196) (by decide +kernel)
theorem dX12_level_49 : decode cX12_level 49 = .ok (.iconst 5, 1) := oc_8 (by decide +kernel)
theorem dX12_level_50 : decode cX12_level 50 = .ok (.aload_n 0, 1) := oc_42 (by decide +kernel)
theorem dX12_level_51 : decode cX12_level 51 = .ok (.getfield 7, 3) := oc_180 (a := 0) (b := 7) (by decide +kernel)
theorem dX12_level_54 : decode cX12_level 54 = .ok (.iconst 3, 1) := oc_6 (by decide +kernel)
theorem dX12_level_55 : decode cX12_level 55 = .ok (.iaload, 1) := oc_46 (by decide +kernel)
theorem dX12_level_56 : decode cX12_level 56 = .ok (.imul, 1) := oc_104 (by decide +kernel)
theorem dX12_level_57 : decode cX12_level 57 = .ok (.iadd, 1) := oc_96 (by decide +kernel)
theorem dX12_level_58 : decode cX12_level 58 = .ok (.istore 5, 2) := oc_54 (by decide +kernel)
theorem dX12_level_60 : decode cX12_level 60 = .ok (.aload_n 0, 1) := oc_42 (by decide +kernel)
theorem dX12_level_61 : decode cX12_level 61 = .ok (.getfield 7, 3) := oc_180 (a := 0) (b := 7) (by decide +kernel)
theorem dX12_level_64 : decode cX12_level 64 = .ok (.iload 5, 2) := oc_21 (by decide +kernel)
theorem dX12_level_66 : decode cX12_level 66 = .ok (.iload_n 1, 1) := oc_27 (by decide +kernel)
theorem dX12_level_67 : decode cX12_level 67 = .ok (.iastore, 1) := oc_79 (by decide +kernel)
theorem dX12_level_68 : decode cX12_level 68 = .ok (.aload_n 0, 1) := oc_42 (by decide +kernel)
theorem dX12_level_69 : decode cX12_level 69 = .ok (.getfield 7, 3) := oc_180 (a := 0) (b := 7) (by decide +kernel)
theorem dX12_level_72 : decode cX12_level 72 = .ok (.iload 5, 2) := oc_21 (by decide +kernel)
theorem dX12_level_74 : decode cX12_level 74 = .ok (.iconst 1, 1) := oc_4 (by decide +kernel)
theorem dX12_level_75 : decode cX12_level 75 = .ok (.iadd, 1) := oc_96 (by decide +kernel)
theorem dX12_level_76 : decode cX12_level 76 = .ok (.iload_n 2, 1) := oc_28 (by decide +kernel)
theorem dX12_level_77 : decode cX12_level 77 = .ok (.iastore, 1) := oc_79 (by decide +kernel)
theorem dX12_level_78 : decode cX12_level 78 = .ok (.aload_n 0, 1) := oc_42 (by decide +kernel)
theorem dX12_level_79 : decode cX12_level 79 = .ok (.getfield 7, 3) := oc_180 (a := 0) (b := 7) (by decide +kernel)
theorem dX12_level_82 : decode cX12_level 82 = .ok (.iload 5, 2) := oc_21 (by decide +kernel)
theorem dX12_level_84 : decode cX12_level 84 = .ok (.iconst 2, 1) := oc_5 (by decide +kernel)
theorem dX12_level_85 : decode cX12_level 85 = .ok (.iadd, 1) := oc_96 (by decide +kernel)
theorem dX12_level_86 : decode cX12_level 86 = .ok (.iload_n 3, 1) := oc_29 (by decide +kernel)
theorem dX12_level_95 : decode cX12_level 95 = .ok (.iastore, 1) := oc_79 (by decide +kernel)
theorem dX12_level_96 : decode cX12_level 96 = .ok (.aload_n 0, 1) := oc_42 (by decide +kernel)
theorem dX12_level_97 : decode cX12_level 97 = .ok (.getfield 7, 3) := oc_180 (a := 0) (b := 7) (by decide +kernel)
theorem dX12_level_100 : decode cX12_level 100 = .ok (.iload 5, 2) := oc_21 (by decide +kernel)
theorem dX12_level_102 : decode cX12_level 102 = .ok (.iconst 3, 1) := oc_6 (by decide +kernel)
theorem dX12_level_103 : decode cX12_level 103 = .ok (.iadd, 1) := oc_96 (by decide +kernel)
theorem dX12_level_104 : decode cX12_level 104 = .ok (.iload_n 3, 1) := oc_29 (by decide +kernel)
theorem dX12_level_114 : decode cX12_level 114 = .ok (.iastore, 1) := oc_79 (by decide +kernel)
theorem dX12_level_115 : decode cX12_level 115 = .ok (.aload_n 0, 1) := oc_42 (by decide +kernel)
theorem dX12_level_116 : decode cX12_level 116 = .ok (.getfield 7, 3) := oc_180 (a := 0) (b := 7) (by decide +kernel)
theorem dX12_level_119 : decode cX12_level 119 = .ok (.iload 5, 2) := oc_21 (by decide +kernel)
theorem dX12_level_121 : decode cX12_level 121 = .ok (.iconst 4, 1) := oc_7 (by decide +kernel)
theorem dX12_level_122 : decode cX12_level 122 = .ok (.iadd, 1) := oc_96 (by decide +kernel)
theorem dX12_level_123 : decode cX12_level 123 = .ok (.aload_n 0, 1) := oc_42 (by decide +kernel)
theorem dX12_level_124 : decode cX12_level 124 = .ok (.getfield 7, 3) := oc_180 (a := 0) (b := 7) (by decide +kernel)
theorem dX12_level_127 : decode cX12_level 127 = .ok (.iconst 0, 1) := oc_3 (by decide +kernel)
theorem dX12_level_128 : decode cX12_level 128 = .ok (.iaload, 1) := oc_46 (by decide +kernel)
theorem dX12_level_129 : decode cX12_level 129 = .ok (.iastore, 1) := oc_79 (by decide +kernel)
theorem dX12_level_130 : decode cX12_level 130 = .ok (.aload_n 0, 1) := oc_42 (by decide +kernel)
theorem dX12_level_131 : decode cX12_level 131 = .ok (.getfield 7, 3) := oc_180 (a := 0) (b := 7) (by decide +kernel)
theorem dX12_level_134 : decode cX12_level 134 = .ok (.iconst 3, 1) := oc_6 (by decide +kernel)
theorem dX12_level_135 : decode cX12_level 135 = .ok (.dup2, 1) := oc_92 (by decide +kernel)
theorem dX12_level_136 : decode cX12_level 136 = .ok (.iaload, 1) := oc_46 (by decide +kernel)
theorem dX12_level_137 : decode cX12_level 137 = .ok (.iconst 1, 1) := oc_4 (by decide +kernel)
theorem dX12_level_138 : decode cX12_level 138 = .ok (.iadd, 1) := oc_96 (by decide +kernel)
theorem dX12_level_139 : decode cX12_level 139 = .ok (.iastore, 1) := oc_79 (by decide +kernel)
theorem dX12_level_140 : decode cX12_level 140 = .ok (.aload_n 0, 1) := oc_42 (by decide +kernel)
theorem dX12_level_141 : decode cX12_level 141 = .ok (.getfield 7, 3) := oc_180 (a := 0) (b := 7) (by decide +kernel)
theorem dX12_level_144 : decode cX12_level 144 = .ok (.iconst 3, 1) := oc_6 (by decide +kernel)
theorem dX12_level_145 : decode cX12_level 145 = .ok (.iaload, 1) := oc_46 (by decide +kernel)
theorem dX12_level_146 : decode cX12_level 146 = .ok (.ireturn, 1) := oc_172 (by decide +kernel)
theorem dX12_level_105 : decode cX12_level 105 = .ok (.ifCond .eq 8, 3) := oc_153 (a := 0) (b := 8) (by decide +kernel)
theorem dX12_level_113 : decode cX12_level 113 = .ok (.iconst 0, 1) := oc_3 (by decide +kernel)
theorem dX12_level_108 : decode cX12_level 108 = .ok (.iload 4, 2) := oc_21 (by decide +kernel)
theorem dX12_level_110 : decode cX12_level 110 = .ok (.goto 4, 3) := oc_167 (a := 0) (b := 4) (by decide +kernel)
theorem dX12_level_87 : decode cX12_level 87 = .ok (.ifCond .eq 7, 3) := oc_153 (a := 0) (b := 7) (by decide +kernel)
theorem dX12_level_94 : decode cX12_level 94 = .ok (.iconst 0, 1) := oc_3 (by decide +kernel)
theorem dX12_level_90 : decode cX12_level 90 = .ok (.iconst 1, 1) := oc_4 (by decide +kernel)
theorem dX12_level_91 : decode cX12_level 91 = .ok (.goto 4, 3) := oc_167 (a := 0) (b := 4) (by decide +kernel)
theorem dX12_level_15 : decode cX12_level 15 = .ok (.ifCond .eq 17, 3) := oc_153 (a := 0) (b := 17) (by decide +kernel)
theorem dX12_level_18 : decode cX12_level 18 = .ok (.iload 4, 2) := oc_21 (by decide +kernel)
theorem dX12_level_20 : decode cX12_level 20 = .ok (.sipush (-1000), 3) := oc_17 (a := 252) (b := 24) (by decide +kernel)
theorem dX12_level_23 : decode cX12_level 23 = .ok (.sipush 5000, 3) := oc_17 (a := 19) (b := 136) (by decide +kernel)
theorem dX12_level_26 : decode cX12_level 26 = .ok (.invokestatic 62, 3) := oc_184 (a := 0) (b := 62) (by decide +kernel)
theorem dX12_level_29 : decode cX12_level 29 = .ok (.ifCond .eq 15, 3) := oc_153 (a := 0) (b := 15) (by decide +kernel)
theorem dX12_latest_0 : decode cX12_latest 0 = .ok (.aload_n 0, 1) := oc_42 (by decide +kernel)
theorem dX12_latest_1 : decode cX12_latest 1 = .ok (.getfield 7, 3) := oc_180 (a := 0) (b := 7) (by decide +kernel)
theorem dX12_latest_4 : decode cX12_latest 4 = .ok (.iconst 3, 1) := oc_6 (by decide +kernel)
theorem dX12_latest_5 : decode cX12_latest 5 = .ok (.iaload, 1) := oc_46 (by decide +kernel)
theorem dX12_latest_6 : decode cX12_latest 6 = .ok (.iconst 1, 1) := oc_4 (by decide +kernel)
theorem dX12_latest_7 : decode cX12_latest 7 = .ok (.isub, 1) := oc_100 (by decide +kernel)
theorem dX12_latest_8 : decode cX12_latest 8 = .ok (.istore 4, 2) := oc_54 (by decide +kernel)
theorem dX12_latest_10 : decode cX12_latest 10 = .ok (.iload 4, 2) := oc_21 (by decide +kernel)
theorem dX12_latest_12 : decode cX12_latest 12 = .ok (.ifCond .lt 59, 3) := oc_155 (a := 0) (b := 59) (by decide +kernel)
theorem dX12_latest_71 : decode cX12_latest 71 = .ok (.iconst (-1), 1) := oc_2 (by decide +kernel)
theorem dX12_latest_72 : decode cX12_latest 72 = .ok (.ireturn, 1) := oc_172 (by decide +kernel)
theorem dX12_latest_15 : decode cX12_latest 15 = .ok (.sipush 1220, 3) := oc_17 (a := 4) (b := 196) (by decide +kernel)
theorem dX12_latest_18 : decode cX12_latest 18 = .ok (.iconst 5, 1) := oc_8 (by decide +kernel)
theorem dX12_latest_19 : decode cX12_latest 19 = .ok (.iload 4, 2) := oc_21 (by decide +kernel)
theorem dX12_latest_21 : decode cX12_latest 21 = .ok (.imul, 1) := oc_104 (by decide +kernel)
theorem dX12_latest_22 : decode cX12_latest 22 = .ok (.iadd, 1) := oc_96 (by decide +kernel)
theorem dX12_latest_23 : decode cX12_latest 23 = .ok (.istore 5, 2) := oc_54 (by decide +kernel)
theorem dX12_latest_25 : decode cX12_latest 25 = .ok (.aload_n 0, 1) := oc_42 (by decide +kernel)
theorem dX12_latest_26 : decode cX12_latest 26 = .ok (.getfield 7, 3) := oc_180 (a := 0) (b := 7) (by decide +kernel)
theorem dX12_latest_29 : decode cX12_latest 29 = .ok (.iload 5, 2) := oc_21 (by decide +kernel)
theorem dX12_latest_31 : decode cX12_latest 31 = .ok (.iaload, 1) := oc_46 (by decide +kernel)
theorem dX12_latest_32 : decode cX12_latest 32 = .ok (.iload_n 1, 1) := oc_27 (by decide +kernel)
theorem dX12_latest_65 : decode cX12_latest 65 = .ok (.iinc 4 (-1), 3) := oc_132 (b := 255) (by decide +kernel)
theorem dX12_latest_68 : decode cX12_latest 68 = .ok (.goto (-58), 3) := oc_167 (a := 255) (b := 198) (by decide +kernel)
theorem dX12_latest_33 : decode cX12_latest 33 = .ok (.if_icmp .ne 32, 3) := oc_160 (a := 0) (b := 32) (by decide +kernel)
theorem dX12_latest_36 : decode cX12_latest 36 = .ok (.aload_n 0, 1) := oc_42 (by decide +kernel)
theorem dX12_latest_37 : decode cX12_latest 37 = .ok (.getfield 7, 3) := oc_180 (a := 0) (b := 7) (by decide +kernel)
theorem dX12_latest_40 : decode cX12_latest 40 = .ok (.iload 5, 2) := oc_21 (by decide +kernel)
theorem dX12_latest_42 : decode cX12_latest 42 = .ok (.iconst 1, 1) := oc_4 (by decide +kernel)
theorem dX12_latest_43 : decode cX12_latest 43 = .ok (.iadd, 1) := oc_96 (by decide +kernel)
theorem dX12_latest_44 : decode cX12_latest 44 = .ok (.iaload, 1) := oc_46 (by decide +kernel)
theorem dX12_latest_45 : decode cX12_latest 45 = .ok (.iload_n 2, 1) := oc_28 (by decide +kernel)
theorem dX12_latest_46 : decode cX12_latest 46 = .ok (.if_icmp .ne 19, 3) := oc_160 (a := 0) (b := 19) (by decide +kernel)
theorem dX12_latest_49 : decode cX12_latest 49 = .ok (.aload_n 0, 1) := oc_42 (by decide +kernel)
theorem dX12_latest_50 : decode cX12_latest 50 = .ok (.getfield 7, 3) := oc_180 (a := 0) (b := 7) (by decide +kernel)
theorem dX12_latest_53 : decode cX12_latest 53 = .ok (.iload 5, 2) := oc_21 (by decide +kernel)
theorem dX12_latest_55 : decode cX12_latest 55 = .ok (.iconst 4, 1) := oc_7 (by decide +kernel)
theorem dX12_latest_56 : decode cX12_latest 56 = .ok (.iadd, 1) := oc_96 (by decide +kernel)
theorem dX12_latest_57 : decode cX12_latest 57 = .ok (.iaload, 1) := oc_46 (by decide +kernel)
theorem dX12_latest_58 : decode cX12_latest 58 = .ok (.iload_n 3, 1) := oc_29 (by decide +kernel)
theorem dX12_latest_59 : decode cX12_latest 59 = .ok (.if_icmp .gt 6, 3) := oc_163 (a := 0) (b := 6) (by decide +kernel)
theorem dX12_latest_62 : decode cX12_latest 62 = .ok (.iload 5, 2) := oc_21 (by decide +kernel)
theorem dX12_latest_64 : decode cX12_latest 64 = .ok (.ireturn, 1) := oc_172 (by decide +kernel)
theorem dX12_worst_0 : decode cX12_worst 0 = .ok (.iconst 0, 1) := oc_3 (by decide +kernel)
theorem dX12_worst_1 : decode cX12_worst 1 = .ok (.istore_n 3, 1) := oc_62 (by decide +kernel)
theorem dX12_worst_2 : decode cX12_worst 2 = .ok (.iconst 0, 1) := oc_3 (by decide +kernel)
theorem dX12_worst_3 : decode cX12_worst 3 = .ok (.istore 4, 2) := oc_54 (by decide +kernel)
theorem dX12_worst_5 : decode cX12_worst 5 = .ok (.iconst 0, 1) := oc_3 (by decide +kernel)
theorem dX12_worst_6 : decode cX12_worst 6 = .ok (.istore 5, 2) := oc_54 (by decide +kernel)
theorem dX12_worst_8 : decode cX12_worst 8 = .ok (.iload 5, 2) := oc_21 (by decide +kernel)
theorem dX12_worst_10 : decode cX12_worst 10 = .ok (.aload_n 0, 1) := oc_42 (by decide +kernel)
theorem dX12_worst_11 : decode cX12_worst 11 = .ok (.getfield 7, 3) := oc_180 (a := 0) (b := 7) (by decide +kernel)
theorem dX12_worst_14 : decode cX12_worst 14 = .ok (.iconst 3, 1) := oc_6 (by decide +kernel)
theorem dX12_worst_15 : decode cX12_worst 15 = .ok (.iaload, 1) := oc_46 (by decide +kernel)
theorem dX12_worst_16 : decode cX12_worst 16 = .ok (.if_icmp .ge 89, 3) := oc_162 (a := 0) (b := 89) (by decide +kernel)
theorem dX12_worst_105 : decode cX12_worst 105 = .ok (.iload_n 3, 1) := oc_29 (by decide +kernel)
theorem dX12_worst_106 : decode cX12_worst 106 = .ok (.ireturn, 1) := oc_172 (by decide +kernel)
theorem dX12_worst_19 : decode cX12_worst 19 = .ok (.sipush 1220, 3) := oc_17 (a := 4) (b := 196) (by decide +kernel)
theorem dX12_worst_22 : decode cX12_worst 22 = .ok (.iconst 5, 1) := oc_8 (by decide +kernel)
theorem dX12_worst_23 : decode cX12_worst 23 = .ok (.iload 5, 2) := oc_21 (by decide +kernel)
theorem dX12_worst_25 : decode cX12_worst 25 = .ok (.imul, 1) := oc_104 (by decide +kernel)
theorem dX12_worst_26 : decode cX12_worst 26 = .ok (.iadd, 1) := oc_96 (by decide +kernel)
theorem dX12_worst_27 : decode cX12_worst 27 = .ok (.istore 6, 2) := oc_54 (by decide +kernel)
theorem dX12_worst_29 : decode cX12_worst 29 = .ok (.aload_n 0, 1) := oc_42 (by decide +kernel)
theorem dX12_worst_30 : decode cX12_worst 30 = .ok (.getfield 7, 3) := oc_180 (a := 0) (b := 7) (by decide +kernel)
theorem dX12_worst_33 : decode cX12_worst 33 = .ok (.iload 6, 2) := oc_21 (by decide +kernel)
theorem dX12_worst_35 : decode cX12_worst 35 = .ok (.iaload, 1) := oc_46 (by decide +kernel)
theorem dX12_worst_36 : decode cX12_worst 36 = .ok (.iload_n 1, 1) := oc_27 (by decide +kernel)
theorem dX12_worst_99 : decode cX12_worst 99 = .ok (.iinc 5 1, 3) := oc_132 (b := 1) (by decide +kernel)
theorem dX12_worst_102 : decode cX12_worst 102 = .ok (.goto (-94), 3) := oc_167 (a := 255) (b := 162) (by decide +kernel)
theorem dX12_worst_37 : decode cX12_worst 37 = .ok (.if_icmp .ne 62, 3) := oc_160 (a := 0) (b := 62) (by decide +kernel)
theorem dX12_worst_40 : decode cX12_worst 40 = .ok (.aload_n 0, 1) := oc_42 (by decide +kernel)
theorem dX12_worst_41 : decode cX12_worst 41 = .ok (.getfield 7, 3) := oc_180 (a := 0) (b := 7) (by decide +kernel)
theorem dX12_worst_44 : decode cX12_worst 44 = .ok (.iload 6, 2) := oc_21 (by decide +kernel)
theorem dX12_worst_46 : decode cX12_worst 46 = .ok (.iconst 2, 1) := oc_5 (by decide +kernel)
theorem dX12_worst_47 : decode cX12_worst 47 = .ok (.iadd, 1) := oc_96 (by decide +kernel)
theorem dX12_worst_48 : decode cX12_worst 48 = .ok (.iaload, 1) := oc_46 (by decide +kernel)
theorem dX12_worst_49 : decode cX12_worst 49 = .ok (.ifCond .eq 50, 3) := oc_153 (a := 0) (b := 50) (by decide +kernel)
theorem dX12_worst_52 : decode cX12_worst 52 = .ok (.aload_n 0, 1) := oc_42 (by decide +kernel)
theorem dX12_worst_53 : decode cX12_worst 53 = .ok (.getfield 7, 3) := oc_180 (a := 0) (b := 7) (by decide +kernel)
theorem dX12_worst_56 : decode cX12_worst 56 = .ok (.iload 6, 2) := oc_21 (by decide +kernel)
theorem dX12_worst_58 : decode cX12_worst 58 = .ok (.iconst 4, 1) := oc_7 (by decide +kernel)
theorem dX12_worst_59 : decode cX12_worst 59 = .ok (.iadd, 1) := oc_96 (by decide +kernel)
theorem dX12_worst_60 : decode cX12_worst 60 = .ok (.iaload, 1) := oc_46 (by decide +kernel)
theorem dX12_worst_61 : decode cX12_worst 61 = .ok (.iload_n 2, 1) := oc_28 (by decide +kernel)
theorem dX12_worst_62 : decode cX12_worst 62 = .ok (.if_icmp .gt 37, 3) := oc_163 (a := 0) (b := 37) (by decide +kernel)
theorem dX12_worst_65 : decode cX12_worst 65 = .ok (.iload 4, 2) := oc_21 (by decide +kernel)
theorem dX12_worst_86 : decode cX12_worst 86 = .ok (.aload_n 0, 1) := oc_42 (by decide +kernel)
theorem dX12_worst_87 : decode cX12_worst 87 = .ok (.getfield 7, 3) := oc_180 (a := 0) (b := 7) (by decide +kernel)
theorem dX12_worst_90 : decode cX12_worst 90 = .ok (.iload 6, 2) := oc_21 (by decide +kernel)
theorem dX12_worst_92 : decode cX12_worst 92 = .ok (.iconst 3, 1) := oc_6 (by decide +kernel)
theorem dX12_worst_93 : decode cX12_worst 93 = .ok (.iadd, 1) := oc_96 (by decide +kernel)
theorem dX12_worst_94 : decode cX12_worst 94 = .ok (.iaload, 1) := oc_46 (by decide +kernel)
theorem dX12_worst_95 : decode cX12_worst 95 = .ok (.istore_n 3, 1) := oc_62 (by decide +kernel)
theorem dX12_worst_96 : decode cX12_worst 96 = .ok (.iconst 1, 1) := oc_4 (by decide +kernel)
theorem dX12_worst_97 : decode cX12_worst 97 = .ok (.istore 4, 2) := oc_54 (by decide +kernel)
theorem dX12_worst_67 : decode cX12_worst 67 = .ok (.ifCond .eq 19, 3) := oc_153 (a := 0) (b := 19) (by decide +kernel)
theorem dX12_worst_70 : decode cX12_worst 70 = .ok (.aload_n 0, 1) := oc_42 (by decide +kernel)
theorem dX12_worst_71 : decode cX12_worst 71 = .ok (.getfield 7, 3) := oc_180 (a := 0) (b := 7) (by decide +kernel)
theorem dX12_worst_74 : decode cX12_worst 74 = .ok (.iload 6, 2) := oc_21 (by decide +kernel)
theorem dX12_worst_76 : decode cX12_worst 76 = .ok (.iconst 3, 1) := oc_6 (by decide +kernel)
theorem dX12_worst_77 : decode cX12_worst 77 = .ok (.iadd, 1) := oc_96 (by decide +kernel)
theorem dX12_worst_78 : decode cX12_worst 78 = .ok (.iaload, 1) := oc_46 (by decide +kernel)
theorem dX12_worst_79 : decode cX12_worst 79 = .ok (.iload_n 3, 1) := oc_29 (by decide +kernel)
theorem dX12_worst_80 : decode cX12_worst 80 = .ok (.if_icmp .gt 6, 3) := oc_163 (a := 0) (b := 6) (by decide +kernel)
theorem dX12_worst_83 : decode cX12_worst 83 = .ok (.goto 16, 3) := oc_167 (a := 0) (b := 16) (by decide +kernel)
theorem pq_c1 {r0 r r1 : Nat → Nat → Int32} {a b i : Nat} (hab : b ≠ a) (h : (∀ j, j < i → r a j = r0 b j) ∧ ∀ c, c ≠ a → r c = r0 c) (hi : i < 2 ^ 31) (e : r1 = va_up r a (upd (r a) (nI i).toNatClampNeg (r b (nI i).toNatClampNeg))) : (∀ j, j < i + 1 → r1 a j = r0 b j) ∧ ∀ c, c ≠ a → r1 c = r0 c := by
  subst e
  rw [nI_clamp hi]
  refine ⟨fun j hj => ?_, fun c hc => ?_⟩
  · rw [va_up_self]
    unfold upd
    split
    · next q => rw [q, h.2 b hab]
    · exact h.1 j (by omega)
  · rw [va_up_ne _ _ hc]
    exact h.2 c hc

set_option maxHeartbeats 4000000 in
set_option maxRecDepth 100000 in
theorem lp_X12_copy_2 (l : Launch) (D : va_G) (t : pq_T) (σ : pq_S) (I : Nat → Nat → Int32) (J : Nat → Nat → Int64) (ri : Nat → Nat → Int32) (rj : Nat → Nat → Int64) (rq : Nat → Nat → Option Nat) (fr : Nat) (to : Nat) (n_a : Nat) (hL_fr : fr ∈ σ.1) (hK_fr : σ.2.1 fr = 13) (hN_fr : σ.2.2.2 fr = n_a) (hL_to : to ∈ σ.1) (hK_to : σ.2.1 to = 13) (hN_to : σ.2.2.2 to = n_a) (hn : n_a = 12720) (hab : fr ≠ to) {p : Program} {e : Env} {s : State} {m : MethodId} {args : Array Value} {below : List Frame} {meth : Method} {c : Code} {cells slots : Nat} {Q : State → Prop} {A : Nat → Prop} (hx : p.tables.exec = Jvm.exec) (hb : c.code = cX12_copy) (hml : c.maxLocals = 3) (hts : ∀ w ∈ (wa yX12_copy cX12_copy 3 none), w.before args s = true) (hown : s.vm.findClass RX12 = some m.cls) (hK : va_K D vwCl (pq_ty t) s) (hN : pq_N s) (hA : ∀ q : Nat, s.heap.size ≤ q → A q) (hcs : cells = 0 ∧ slots = 0)
    (kk : ∀ (i : Nat) (ri' : Nat → Nat → Int32) (H : Heap) (locs : List Loc) (ls : Array Slot), (i ≤ 12720) → ((∀ j, j < i → ri' to j = ri fr j) ∧ ∀ b, b ≠ to → ri' b = ri b) → (12720 ≤ i) → va_P D vwCl (pq_P t σ (I, J, ri', rj, rq)) H → va_D A (pq_P t σ (I, J, ri', rj, rq)) → va_S A s.heap H locs → lv_has ls 3 [(2, .int (nI i)), (0, .ref fr), (1, .ref to)] → W p l e ({ frames := 0, cells := 0, slots := 0, locals := 0 } : Room) s m args below meth c H locs cells slots Q (F0 m 21 ls [])) :
    ∀ (n : Nat) (i : Nat) (ri' : Nat → Nat → Int32) (H : Heap) (locs : List Loc) (ls : Array Slot), (i ≤ 12720) → ((∀ j, j < i → ri' to j = ri fr j) ∧ ∀ b, b ≠ to → ri' b = ri b) → (12720 - i) < n → va_P D vwCl (pq_P t σ (I, J, ri', rj, rq)) H → va_D A (pq_P t σ (I, J, ri', rj, rq)) → va_S A s.heap H locs → lv_has ls 3 [(2, .int (nI i)), (0, .ref fr), (1, .ref to)] → W p l e ({ frames := 0, cells := 0, slots := 0, locals := 0 } : Room) s m args below meth c H locs cells slots Q (F0 m 2 ls []) := by
  obtain ⟨rfl, rfl⟩ := hcs
  intro n
  induction n with
  | zero => intro i ri' H locs ls hi hf hm; exact absurd hm (Nat.not_lt_zero _)
  | succ n ih =>
    intro i ri' H locs ls hi hf hm hP hD hS hl
    refine lv_iload_n hx hb dX12_copy_2 rfl (lv_at hl 0 rfl) ?_
    refine lv_sipush (v := 12720) hx hb dX12_copy_3 (by decide) ?_
    refine lv_icmp_ge (tgt := 21) hx hb dX12_copy_6 (by decide) (fun c_1 => ?_) (fun c_1 => ?_)
    · have nc_1 := nq_le (a := 12720) (b := i) (by omega) (by omega) c_1
      exact kk i ri' _ _ _ hi hf nc_1 hP hD hS (lv_sub hl [0, 1, 2] rfl)
    · have nc_1 := nq_nle (a := 12720) (b := i) (by omega) (by omega) c_1
      refine lv_aload_n hx hb dX12_copy_9 rfl (lv_at hl 2 rfl) ?_
      refine lv_iload_n hx hb dX12_copy_10 rfl (lv_at hl 0 rfl) ?_
      refine lv_aload_n hx hb dX12_copy_11 rfl (lv_at hl 1 rfl) ?_
      refine lv_iload_n hx hb dX12_copy_12 rfl (lv_at hl 0 rfl) ?_
      refine pl_i hx hb hK hP hL_fr hK_fr hN_fr (nI_in (c := i) (by omega) (by omega)) dX12_copy_13 ?_
      refine lv_topi (fun x_2 ex_2 => ?_)
      refine pt_i hx hb hK hP hD hS hL_to hK_to hN_to (nI_in (c := i) (by omega) (by omega)) dX12_copy_14 (fun r_3 H locs er_3 hP hD hS => ?_)
      refine lv_iinc (v := (nI (i + 1))) (lv' := [(2, .int (nI (i + 1))), (0, .ref fr), (1, .ref to)]) hx hb dX12_copy_15 hl (k := 0) rfl (nI_1 i) (by decide) rfl (fun ls hl => ?_)
      refine lv_goto (tgt := 2) hx hb dX12_copy_18 (by decide) ?_
      exact ih (i + 1) r_3 _ _ _ (by omega) (pq_c1 hab hf (by omega) (by rw [ex_2] at er_3; exact er_3)) (by omega) hP hD hS (lv_sub hl [0, 1, 2] rfl)

set_option maxHeartbeats 4000000 in
set_option maxRecDepth 100000 in
theorem c_X12_copy (l : Launch) (D : va_G) (t : pq_T) (σ : pq_S) (I : Nat → Nat → Int32) (J : Nat → Nat → Int64) (ri : Nat → Nat → Int32) (rj : Nat → Nat → Int64) (rq : Nat → Nat → Option Nat) (sz : Nat) (fr : Nat) (to : Nat) (n_a : Nat) (hL_fr : fr ∈ σ.1) (hK_fr : σ.2.1 fr = 13) (hN_fr : σ.2.2.2 fr = n_a) (hL_to : to ∈ σ.1) (hK_to : σ.2.1 to = 13) (hN_to : σ.2.2.2 to = n_a) (hn : n_a = 12720) (hab : fr ≠ to) : MetV l yX12_copy (wa yX12_copy cX12_copy 3 none) ({ frames := 0, cells := 0, slots := 0, locals := 0 }) [.ref fr, .ref to] D t σ (I, J, ri, rj, rq) sz 0 0 (fun (u : pq_S × pq_M) => ∃ ri' : Nat → Nat → Int32, u = (σ, I, J, ri', rj, rq) ∧ ((∀ j, j < 12720 → ri' to j = ri fr j) ∧ ∀ b, b ≠ to → ri' b = ri b)) := by
  refine Met.ofW (cc := cX12_copy) (maxL := 3) (ret := none) (by decide) rfl ?_
  intro p e s m args below meth c s₁ B hml hv
  obtain ⟨rfl, hsz, hP, hK, hD0, hN⟩ := hv
  have hx := B.exec
  have hb := B.bytes
  have hr := B.returns
  have hts := atoms_spec (ws := (wa yX12_copy cX12_copy 3 none)) B.pre
  have hown : s.vm.findClass RX12 = some m.cls := findClass_of_methodNamed B.named
  have hlocks := B.notSynchronized
  subst hsz
  have hD : va_D (pq_B t σ (I, J, ri, rj, rq) s.heap.size) (pq_P t σ (I, J, ri, rj, rq)) := hD0.self
  generalize hAe : pq_B t σ (I, J, ri, rj, rq) s.heap.size = A at hD ⊢
  have hA : ∀ q : Nat, s.heap.size ≤ q → A q := fun q h => by rw [← hAe]; exact Or.inr h
  have hS : va_S A s.heap s.heap [] := va_S.rf
  have hl := lv_entry ([.ref fr, .ref to]) (n := 3) (Nat.le_of_ble_eq_true rfl)
  rw [lg_entry_eq]
  generalize (lg_sl ([.ref fr, .ref to]) ++ List.replicate (3 - (lg_sl ([.ref fr, .ref to])).length) Slot.unset).toArray = ls at hl ⊢
  have hl : lv_has ls 3 [(0, .ref fr), (1, .ref to)] := hl
  refine lv_iconst (v := 0) hx hb dX12_copy_0 (by decide) ?_
  refine lv_istore_n (lv' := [(2, .int 0), (0, .ref fr), (1, .ref to)]) hx hb dX12_copy_1 rfl hl (by decide) rfl (fun ls hl => ?_)
  refine lp_X12_copy_2 l D t σ I J ri rj rq fr to n_a hL_fr hK_fr hN_fr hL_to hK_to hN_to hn hab hx hb hml hts hown hK hN hA ⟨rfl, rfl⟩ (fun i_2 ri_1 H locs ls hi_3 hf_4 hx1_5 hP hD hS hl => ?_) _ 0 ri _ _ _ (Nat.zero_le _) ⟨fun j hj => absurd hj (Nat.not_lt_zero _), fun _ _ => rfl⟩ (Nat.lt_succ_self _) hP hD hS (lv_sub hl [0, 1, 2] rfl)
  exact W.vret hx hb hr (fun t1 ht hW => ⟨⟨(σ, I, J, ri_1, rj, rq), rfl, ⟨ri_1, rfl, ⟨fun j hj => hf_4.1 j (by omega), hf_4.2⟩⟩, by rw [ht]; exact hP, va_K.moved hW.alike hK, hD⟩, hS.F ht⟩) hS.2.2 dX12_copy_21

set_option maxHeartbeats 4000000 in
set_option maxRecDepth 100000 in
theorem s_X12_isIn (l : Launch) (D : va_G) (t : pq_T) (σ : pq_S) (I : Nat → Nat → Int32) (J : Nat → Nat → Int64) (ri : Nat → Nat → Int32) (rj : Nat → Nat → Int64) (rq : Nat → Nat → Option Nat) (sz : Nat) (tg : Nat → Nat) (hSH : SH σ tg) (hG0 : GT tg I ri) (a0 : Int32) (a1 : Int32) (a2 : Int32) : MetI l yX12_isIn (wa yX12_isIn cX12_isIn 3 (some .boolean)) ({ frames := 0, cells := 0, slots := 0, locals := 0 }) [.int a0, .int a1, .int a2] D t σ (I, J, ri, rj, rq) sz 0 0 (fun (r : Int32) (u : pq_S × pq_M) => u = (σ, I, J, ri, rj, rq) ∧ ((r = 1 ∧ a1 ≤ a0 ∧ a0 ≤ a2) ∨ (r = 0 ∧ True))) := by
  refine Met.ofW (cc := cX12_isIn) (maxL := 3) (ret := (some .boolean)) (by decide) rfl ?_
  intro p e s m args below meth c s₁ B hml hv
  obtain ⟨rfl, hsz, hP, hK, hD0, hN⟩ := hv
  have hx := B.exec
  have hb := B.bytes
  have hr := B.returns
  have hts := atoms_spec (ws := (wa yX12_isIn cX12_isIn 3 (some .boolean))) B.pre
  have hown : s.vm.findClass RX12 = some m.cls := findClass_of_methodNamed B.named
  have hlocks := B.notSynchronized
  subst hsz
  have hD : va_D (pq_B t σ (I, J, ri, rj, rq) s.heap.size) (pq_P t σ (I, J, ri, rj, rq)) := hD0.self
  generalize hAe : pq_B t σ (I, J, ri, rj, rq) s.heap.size = A at hD ⊢
  have hA : ∀ q : Nat, s.heap.size ≤ q → A q := fun q h => by rw [← hAe]; exact Or.inr h
  have hS : va_S A s.heap s.heap [] := va_S.rf
  have hG : GM [] tg σ I ri I ri rq := ⟨hG0, fun _ _ _ => rfl, fun _ _ _ _ _ => rfl, fun _ _ _ _ _ _ => rfl⟩
  have hl := lv_entry ([.int a0, .int a1, .int a2]) (n := 3) (Nat.le_of_ble_eq_true rfl)
  rw [lg_entry_eq]
  generalize (lg_sl ([.int a0, .int a1, .int a2]) ++ List.replicate (3 - (lg_sl ([.int a0, .int a1, .int a2])).length) Slot.unset).toArray = ls at hl ⊢
  have hl : lv_has ls 3 [(0, .int a0), (1, .int a1), (2, .int a2)] := hl
  refine q_gen (fun Q hQ => ?_)
  have go : ∀ (H : Heap) (locs : List Loc) (ls : Array Slot), va_P D vwCl (pq_P t σ (I, J, ri, rj, rq)) H → va_D A (pq_P t σ (I, J, ri, rj, rq)) → va_S A s.heap H locs → lv_has ls 3 [(0, .int a0), (1, .int a1), (2, .int a2)] → W p l e ({ frames := 0, cells := 0, slots := 0, locals := 0 } : Room) s m (List.toArray ([.int a0, .int a1, .int a2] : List Value)) below meth c H locs 0 0 Q (F0 m 0 ls []) := by
    intro H locs ls hP hD hS hl
    refine lv_iload_n hx hb dX12_isIn_0 rfl (lv_at hl 0 rfl) ?_
    refine lv_iload_n hx hb dX12_isIn_1 rfl (lv_at hl 1 rfl) ?_
    have K_11 : ∀  (H : Heap) (locs : List Loc) (ls : Array Slot), GM [] tg σ I ri I ri rq → va_P D vwCl (pq_P t σ (I, J, ri, rj, rq)) H → va_D A (pq_P t σ (I, J, ri, rj, rq)) → va_S A s.heap H locs → lv_has ls 3 [] → W p l e ({ frames := 0, cells := 0, slots := 0, locals := 0 } : Room) s m (List.toArray ([.int a0, .int a1, .int a2] : List Value)) below meth c H locs 0 0 Q (F0 m 14 ls []) := by
      intro H locs ls hG hP hD hS hl
      refine lv_iconst (v := 0) hx hb dX12_isIn_14 (by decide) ?_
      subst hQ
      exact W.zret (v := 0) hx hb hr (by decide) (fun t1 ht hW => ⟨⟨0, (σ, I, J, ri, rj, rq), rfl, ⟨rfl, (Or.inr ⟨rfl, trivial⟩)⟩, by rw [ht]; exact hP, va_K.moved hW.alike hK, hD⟩, hS.F ht⟩) hS.2.2 dX12_isIn_15
    refine lv_icmp_lt (tgt := 14) hx hb dX12_isIn_2 (by decide) (fun c_12 => ?_) (fun c_12 => ?_)
    · have tc_13 : (a0).toInt < (a1).toInt := Int32.lt_iff_toInt_lt.mp c_12
      have h_14 : rg a0 (-2147483648) 2147483646 := rg_lt1 c_12 (rg_full _) (rg_full _) (by decide)
      have uh_14 := h_14.1
      have vh_14 := h_14.2
      have h_15 : rg a1 (-2147483647) 2147483647 := rg_lt2 c_12 (rg_full _) (rg_full _) (by decide)
      have uh_15 := h_15.1
      have vh_15 := h_15.2
      exact K_11 _ _ _ hG hP hD hS (lv_sub hl [] rfl)
    · have tc_16 : (a1).toInt ≤ (a0).toInt := Int32.le_iff_toInt_le.mp (nlt c_12)
      refine lv_iload_n hx hb dX12_isIn_5 rfl (lv_at hl 0 rfl) ?_
      refine lv_iload_n hx hb dX12_isIn_6 rfl (lv_at hl 2 rfl) ?_
      refine lv_icmp_gt (tgt := 14) hx hb dX12_isIn_7 (by decide) (fun c_17 => ?_) (fun c_17 => ?_)
      · have tc_18 : (a2).toInt < (a0).toInt := Int32.lt_iff_toInt_lt.mp c_17
        have h_19 : rg a2 (-2147483648) 2147483646 := rg_lt1 c_17 (rg_full _) (rg_full _) (by decide)
        have uh_19 := h_19.1
        have vh_19 := h_19.2
        have h_20 : rg a0 (-2147483647) 2147483647 := rg_lt2 c_17 (rg_full _) (rg_full _) (by decide)
        have uh_20 := h_20.1
        have vh_20 := h_20.2
        exact K_11 _ _ _ hG hP hD hS (lv_sub hl [] rfl)
      · have tc_21 : (a0).toInt ≤ (a2).toInt := Int32.le_iff_toInt_le.mp (nlt c_17)
        refine lv_iconst (v := 1) hx hb dX12_isIn_10 (by decide) ?_
        refine lv_goto (tgt := 15) hx hb dX12_isIn_11 (by decide) ?_
        subst hQ
        exact W.zret (v := 1) hx hb hr (by decide) (fun t1 ht hW => ⟨⟨1, (σ, I, J, ri, rj, rq), rfl, ⟨rfl, (Or.inl ⟨rfl, (nlt c_12), (nlt c_17)⟩)⟩, by rw [ht]; exact hP, va_K.moved hW.alike hK, hD⟩, hS.F ht⟩) hS.2.2 dX12_isIn_15
  exact go _ _ _ hP hD hS hl

set_option maxHeartbeats 4000000 in
set_option maxRecDepth 100000 in
theorem s_X12_isMonth (l : Launch) (D : va_G) (t : pq_T) (σ : pq_S) (I : Nat → Nat → Int32) (J : Nat → Nat → Int64) (ri : Nat → Nat → Int32) (rj : Nat → Nat → Int64) (rq : Nat → Nat → Option Nat) (sz : Nat) (tg : Nat → Nat) (hSH : SH σ tg) (hG0 : GT tg I ri) (a0 : Int32) : MetI l yX12_isMonth (wa yX12_isMonth cX12_isMonth 1 (some .boolean)) ({ frames := 1, cells := 0, slots := 0, locals := 22 }) [.int a0] D t σ (I, J, ri, rj, rq) sz 0 0 (fun (r : Int32) (u : pq_S × pq_M) => u = (σ, I, J, ri, rj, rq) ∧ ((r = 1 ∧ rg a0 0 599) ∨ (r = 0 ∧ True))) := by
  refine Met.ofW (cc := cX12_isMonth) (maxL := 1) (ret := (some .boolean)) (by decide) rfl ?_
  intro p e s m args below meth c s₁ B hml hv
  obtain ⟨rfl, hsz, hP, hK, hD0, hN⟩ := hv
  have hx := B.exec
  have hb := B.bytes
  have hr := B.returns
  have hts := atoms_spec (ws := (wa yX12_isMonth cX12_isMonth 1 (some .boolean))) B.pre
  have hown : s.vm.findClass RX12 = some m.cls := findClass_of_methodNamed B.named
  have hlocks := B.notSynchronized
  subst hsz
  have hD : va_D (pq_B t σ (I, J, ri, rj, rq) s.heap.size) (pq_P t σ (I, J, ri, rj, rq)) := hD0.self
  generalize hAe : pq_B t σ (I, J, ri, rj, rq) s.heap.size = A at hD ⊢
  have hA : ∀ q : Nat, s.heap.size ≤ q → A q := fun q h => by rw [← hAe]; exact Or.inr h
  have hS : va_S A s.heap s.heap [] := va_S.rf
  have hG : GM [] tg σ I ri I ri rq := ⟨hG0, fun _ _ _ => rfl, fun _ _ _ _ _ => rfl, fun _ _ _ _ _ _ => rfl⟩
  have hl := lv_entry ([.int a0]) (n := 1) (Nat.le_of_ble_eq_true rfl)
  rw [lg_entry_eq]
  generalize (lg_sl ([.int a0]) ++ List.replicate (1 - (lg_sl ([.int a0])).length) Slot.unset).toArray = ls at hl ⊢
  have hl : lv_has ls 1 [(0, .int a0)] := hl
  refine q_gen (fun Q hQ => ?_)
  have go : ∀ (H : Heap) (locs : List Loc) (ls : Array Slot), va_P D vwCl (pq_P t σ (I, J, ri, rj, rq)) H → va_D A (pq_P t σ (I, J, ri, rj, rq)) → va_S A s.heap H locs → lv_has ls 1 [(0, .int a0)] → W p l e ({ frames := 1, cells := 0, slots := 0, locals := 22 } : Room) s m (List.toArray ([.int a0] : List Value)) below meth c H locs 0 0 Q (F0 m 0 ls []) := by
    intro H locs ls hP hD hS hl
    refine lv_iload_n hx hb dX12_isMonth_0 rfl (lv_at hl 0 rfl) ?_
    refine lv_iconst (v := 0) hx hb dX12_isMonth_1 (by decide) ?_
    refine lv_sipush (v := 599) hx hb dX12_isMonth_2 (by decide) ?_
    refine pk_i (va_runS (As := [.int a0, .int 0, .int 599]) (rest := []) ⟨hx, hb, hml, hown, hts⟩ (s_X12_isIn l D t σ I J ri rj rq H.size tg hSH hG.1 a0 (0 : Int32) (599 : Int32)) (va_cwS 3 hts (tw_S tw_235 tw_236 tw_5 tw_237) rfl rfl rfl cd_yX12_isIn_3 ⟨Nat.le_of_ble_eq_true rfl, Nat.le_of_ble_eq_true rfl⟩) ⟨pq_blind, pq_pre hK hN hP hD⟩ rfl rfl hl.1 rfl (lv_room (Nat.le_of_ble_eq_true rfl)) dX12_isMonth_5 ⟨Nat.le_of_ble_eq_true rfl, Nat.le_of_ble_eq_true rfl⟩) hD hS hA (fun x_1 σ1 μ1 H locs hw_2 hP hD hS => ?_)
    obtain ⟨hu_3, hr_5⟩ := hw_2
    obtain ⟨hu_3a, hu_3b⟩ := Prod.mk.inj hu_3
    rw [hu_3a, hu_3b] at hP hD
    have h_6 : rg x_1 0 1 := by rcases hr_5 with ⟨q, -⟩ | ⟨q, -⟩ <;> rw [q] <;> exact ⟨by decide, by decide⟩
    have uh_6 := h_6.1
    have vh_6 := h_6.2
    rcases hr_5 with ⟨e_10, f_7, f_8⟩ | ⟨e_10, f_9⟩
    · refine lv_tov 1 e_10 ?_
      have tc_11 : 0 ≤ (a0).toInt := Int32.le_iff_toInt_le.mp f_7
      have h_12 : rg a0 0 2147483647 := rg_le2 f_7 (rg_k (0 : Int32) 0 rfl) (rg_full _) (by decide)
      have uh_12 := h_12.1
      have vh_12 := h_12.2
      have tc_13 : (a0).toInt ≤ 599 := Int32.le_iff_toInt_le.mp f_8
      have h_14 : rg a0 0 599 := rg_le1 f_8 h_12 (rg_k (599 : Int32) 599 rfl) (by decide)
      have uh_14 := h_14.1
      have vh_14 := h_14.2
      subst hQ
      exact W.zret (v := 1) hx hb hr (by decide) (fun t1 ht hW => ⟨⟨1, (σ, I, J, ri, rj, rq), rfl, ⟨rfl, (Or.inl ⟨rfl, (rg_w h_14 (by decide))⟩)⟩, by rw [ht]; exact hP, va_K.moved hW.alike hK, hD⟩, hS.F ht⟩) hS.2.2 dX12_isMonth_8
    · refine lv_tov 0 e_10 ?_
      subst hQ
      exact W.zret (v := 0) hx hb hr (by decide) (fun t1 ht hW => ⟨⟨0, (σ, I, J, ri, rj, rq), rfl, ⟨rfl, (Or.inr ⟨rfl, trivial⟩)⟩, by rw [ht]; exact hP, va_K.moved hW.alike hK, hD⟩, hS.F ht⟩) hS.2.2 dX12_isMonth_8
  exact go _ _ _ hP hD hS hl

set_option maxHeartbeats 4000000 in
set_option maxRecDepth 100000 in
theorem s_X12_isRing (l : Launch) (D : va_G) (t : pq_T) (σ : pq_S) (I : Nat → Nat → Int32) (J : Nat → Nat → Int64) (ri : Nat → Nat → Int32) (rj : Nat → Nat → Int64) (rq : Nat → Nat → Option Nat) (sz : Nat) (tg : Nat → Nat) (hSH : SH σ tg) (hG0 : GT tg I ri) (this : Nat) (a0 : Int32) (hL_this : this ∈ σ.1) (hK_this : σ.2.1 this = 12) : MetI l yX12_isRing (wa yX12_isRing cX12_isRing 2 (some .boolean)) ({ frames := 1, cells := 0, slots := 0, locals := 22 }) [.ref this, .int a0] D t σ (I, J, ri, rj, rq) sz 0 0 (fun (r : Int32) (u : pq_S × pq_M) => u = (σ, I, J, ri, rj, rq) ∧ ((r = 1 ∧ rg a0 0 4) ∨ (r = 0 ∧ True))) := by
  refine Met.ofW (cc := cX12_isRing) (maxL := 2) (ret := (some .boolean)) (by decide) rfl ?_
  intro p e s m args below meth c s₁ B hml hv
  obtain ⟨rfl, hsz, hP, hK, hD0, hN⟩ := hv
  have hx := B.exec
  have hb := B.bytes
  have hr := B.returns
  have hts := atoms_spec (ws := (wa yX12_isRing cX12_isRing 2 (some .boolean))) B.pre
  have hown : s.vm.findClass RX12 = some m.cls := findClass_of_methodNamed B.named
  have hlocks := B.notSynchronized
  subst hsz
  have hD : va_D (pq_B t σ (I, J, ri, rj, rq) s.heap.size) (pq_P t σ (I, J, ri, rj, rq)) := hD0.self
  generalize hAe : pq_B t σ (I, J, ri, rj, rq) s.heap.size = A at hD ⊢
  have hA : ∀ q : Nat, s.heap.size ≤ q → A q := fun q h => by rw [← hAe]; exact Or.inr h
  have hS : va_S A s.heap s.heap [] := va_S.rf
  have hG : GM [] tg σ I ri I ri rq := ⟨hG0, fun _ _ _ => rfl, fun _ _ _ _ _ => rfl, fun _ _ _ _ _ _ => rfl⟩
  have hl := lv_entry ([.ref this, .int a0]) (n := 2) (Nat.le_of_ble_eq_true rfl)
  rw [lg_entry_eq]
  generalize (lg_sl ([.ref this, .int a0]) ++ List.replicate (2 - (lg_sl ([.ref this, .int a0])).length) Slot.unset).toArray = ls at hl ⊢
  have hl : lv_has ls 2 [(0, .ref this), (1, .int a0)] := hl
  refine q_gen (fun Q hQ => ?_)
  have go : ∀ (H : Heap) (locs : List Loc) (ls : Array Slot), va_P D vwCl (pq_P t σ (I, J, ri, rj, rq)) H → va_D A (pq_P t σ (I, J, ri, rj, rq)) → va_S A s.heap H locs → lv_has ls 2 [(0, .ref this), (1, .int a0)] → W p l e ({ frames := 1, cells := 0, slots := 0, locals := 22 } : Room) s m (List.toArray ([.ref this, .int a0] : List Value)) below meth c H locs 0 0 Q (F0 m 0 ls []) := by
    intro H locs ls hP hD hS hl
    refine lv_iload_n hx hb dX12_isRing_0 rfl (lv_at hl 1 rfl) ?_
    refine lv_iconst (v := 0) hx hb dX12_isRing_1 (by decide) ?_
    refine lv_aload_n hx hb dX12_isRing_2 rfl (lv_at hl 0 rfl) ?_
    obtain ⟨w_1, hR_w_1, hL_w_1, hK_w_1, hN_w_1, hT_w_1⟩ := sh_a hSH 384 (ci := 12) (kd := 13) (len := 12720) rfl (by decide) hL_this hK_this
    refine pg_f (v := .ref w_1) (C := RX12) (T := TX12) (N := 31) hx hb hts (tw_i inlX12) hown hK hP hL_this hK_this (by decide) rfl 0 (by decide) (hts _ (tw_c tw_176)) (pq_hv rfl hR_w_1) dX12_isRing_3 ?_
    refine lv_iconst (v := 1) hx hb dX12_isRing_6 (by decide) ?_
    refine pl_i hx hb hK hP hL_w_1 hK_w_1 hN_w_1 (vp_in_iff.mpr (by decide)) dX12_isRing_7 ?_
    refine lv_tov (ri w_1 1) rfl ?_
    have h_2 : rg (ri w_1 1) 0 5 := GM.z0 hG0 (by rw [hT_w_1]; decide) (i := 1) (k := 1) (by decide) rfl
    have uh_2 := h_2.1
    have vh_2 := h_2.2
    refine lv_iconst (v := 1) hx hb dX12_isRing_8 (by decide) ?_
    refine lv_isub hx hb dX12_isRing_9 ?_
    refine lv_topi (fun x_3 ex_3 => ?_)
    have h_4 : rg x_3 (-1) 4 := rg_of_eq ex_3 (rg_sub h_2 (rg_k (1 : Int32) 1 rfl) (by decide))
    have uh_4 := h_4.1
    have vh_4 := h_4.2
    have tx_3 : (x_3).toInt = (ri w_1 1).toInt - 1 := by rw [ex_3]; exact i_sub_rg (a2 := (ri w_1 1).toInt) (b2 := 1) rfl rfl h_2 (rg_k (1 : Int32) 1 rfl) (by decide)
    refine pk_i (va_runS (As := [.int a0, .int 0, .int x_3]) (rest := []) ⟨hx, hb, hml, hown, hts⟩ (s_X12_isIn l D t σ I J ri rj rq H.size tg hSH hG.1 a0 (0 : Int32) x_3) (va_cwS 3 hts (tw_S tw_235 tw_236 tw_5 tw_237) rfl rfl rfl cd_yX12_isIn_3 ⟨Nat.le_of_ble_eq_true rfl, Nat.le_of_ble_eq_true rfl⟩) ⟨pq_blind, pq_pre hK hN hP hD⟩ rfl rfl hl.1 rfl (lv_room (Nat.le_of_ble_eq_true rfl)) dX12_isRing_10 ⟨Nat.le_of_ble_eq_true rfl, Nat.le_of_ble_eq_true rfl⟩) hD hS hA (fun x_5 σ1 μ1 H locs hw_6 hP hD hS => ?_)
    obtain ⟨hu_7, hr_9⟩ := hw_6
    obtain ⟨hu_7a, hu_7b⟩ := Prod.mk.inj hu_7
    rw [hu_7a, hu_7b] at hP hD
    have h_10 : rg x_5 0 1 := by rcases hr_9 with ⟨q, -⟩ | ⟨q, -⟩ <;> rw [q] <;> exact ⟨by decide, by decide⟩
    have uh_10 := h_10.1
    have vh_10 := h_10.2
    rcases hr_9 with ⟨e_14, f_11, f_12⟩ | ⟨e_14, f_13⟩
    · refine lv_tov 1 e_14 ?_
      have tc_15 : 0 ≤ (a0).toInt := Int32.le_iff_toInt_le.mp f_11
      have h_16 : rg a0 0 2147483647 := rg_le2 f_11 (rg_k (0 : Int32) 0 rfl) (rg_full _) (by decide)
      have uh_16 := h_16.1
      have vh_16 := h_16.2
      have tc_17 : (a0).toInt ≤ (x_3).toInt := Int32.le_iff_toInt_le.mp f_12
      have h_18 : rg a0 0 4 := rg_le1 f_12 h_16 h_4 (by decide)
      have uh_18 := h_18.1
      have vh_18 := h_18.2
      have h_19 : rg x_3 0 4 := rg_le2 f_12 h_16 h_4 (by decide)
      have uh_19 := h_19.1
      have vh_19 := h_19.2
      subst hQ
      exact W.zret (v := 1) hx hb hr (by decide) (fun t1 ht hW => ⟨⟨1, (σ, I, J, ri, rj, rq), rfl, ⟨rfl, (Or.inl ⟨rfl, (rg_w h_18 (by decide))⟩)⟩, by rw [ht]; exact hP, va_K.moved hW.alike hK, hD⟩, hS.F ht⟩) hS.2.2 dX12_isRing_13
    · refine lv_tov 0 e_14 ?_
      subst hQ
      exact W.zret (v := 0) hx hb hr (by decide) (fun t1 ht hW => ⟨⟨0, (σ, I, J, ri, rj, rq), rfl, ⟨rfl, (Or.inr ⟨rfl, trivial⟩)⟩, by rw [ht]; exact hP, va_K.moved hW.alike hK, hD⟩, hS.F ht⟩) hS.2.2 dX12_isRing_13
  exact go _ _ _ hP hD hS hl

set_option maxHeartbeats 4000000 in
set_option maxRecDepth 100000 in
theorem s_X12_isCell (l : Launch) (D : va_G) (t : pq_T) (σ : pq_S) (I : Nat → Nat → Int32) (J : Nat → Nat → Int64) (ri : Nat → Nat → Int32) (rj : Nat → Nat → Int64) (rq : Nat → Nat → Option Nat) (sz : Nat) (tg : Nat → Nat) (hSH : SH σ tg) (hG0 : GT tg I ri) (this : Nat) (a0 : Int32) (hL_this : this ∈ σ.1) (hK_this : σ.2.1 this = 12) : MetI l yX12_isCell (wa yX12_isCell cX12_isCell 2 (some .boolean)) ({ frames := 1, cells := 0, slots := 0, locals := 22 }) [.ref this, .int a0] D t σ (I, J, ri, rj, rq) sz 0 0 (fun (r : Int32) (u : pq_S × pq_M) => u = (σ, I, J, ri, rj, rq) ∧ ((r = 1 ∧ rg a0 0 39) ∨ (r = 0 ∧ True))) := by
  refine Met.ofW (cc := cX12_isCell) (maxL := 2) (ret := (some .boolean)) (by decide) rfl ?_
  intro p e s m args below meth c s₁ B hml hv
  obtain ⟨rfl, hsz, hP, hK, hD0, hN⟩ := hv
  have hx := B.exec
  have hb := B.bytes
  have hr := B.returns
  have hts := atoms_spec (ws := (wa yX12_isCell cX12_isCell 2 (some .boolean))) B.pre
  have hown : s.vm.findClass RX12 = some m.cls := findClass_of_methodNamed B.named
  have hlocks := B.notSynchronized
  subst hsz
  have hD : va_D (pq_B t σ (I, J, ri, rj, rq) s.heap.size) (pq_P t σ (I, J, ri, rj, rq)) := hD0.self
  generalize hAe : pq_B t σ (I, J, ri, rj, rq) s.heap.size = A at hD ⊢
  have hA : ∀ q : Nat, s.heap.size ≤ q → A q := fun q h => by rw [← hAe]; exact Or.inr h
  have hS : va_S A s.heap s.heap [] := va_S.rf
  have hG : GM [] tg σ I ri I ri rq := ⟨hG0, fun _ _ _ => rfl, fun _ _ _ _ _ => rfl, fun _ _ _ _ _ _ => rfl⟩
  have hl := lv_entry ([.ref this, .int a0]) (n := 2) (Nat.le_of_ble_eq_true rfl)
  rw [lg_entry_eq]
  generalize (lg_sl ([.ref this, .int a0]) ++ List.replicate (2 - (lg_sl ([.ref this, .int a0])).length) Slot.unset).toArray = ls at hl ⊢
  have hl : lv_has ls 2 [(0, .ref this), (1, .int a0)] := hl
  refine q_gen (fun Q hQ => ?_)
  have go : ∀ (H : Heap) (locs : List Loc) (ls : Array Slot), va_P D vwCl (pq_P t σ (I, J, ri, rj, rq)) H → va_D A (pq_P t σ (I, J, ri, rj, rq)) → va_S A s.heap H locs → lv_has ls 2 [(0, .ref this), (1, .int a0)] → W p l e ({ frames := 1, cells := 0, slots := 0, locals := 22 } : Room) s m (List.toArray ([.ref this, .int a0] : List Value)) below meth c H locs 0 0 Q (F0 m 0 ls []) := by
    intro H locs ls hP hD hS hl
    refine lv_iload_n hx hb dX12_isCell_0 rfl (lv_at hl 1 rfl) ?_
    refine lv_iconst (v := 0) hx hb dX12_isCell_1 (by decide) ?_
    refine lv_aload_n hx hb dX12_isCell_2 rfl (lv_at hl 0 rfl) ?_
    obtain ⟨w_1, hR_w_1, hL_w_1, hK_w_1, hN_w_1, hT_w_1⟩ := sh_a hSH 384 (ci := 12) (kd := 13) (len := 12720) rfl (by decide) hL_this hK_this
    refine pg_f (v := .ref w_1) (C := RX12) (T := TX12) (N := 31) hx hb hts (tw_i inlX12) hown hK hP hL_this hK_this (by decide) rfl 0 (by decide) (hts _ (tw_c tw_176)) (pq_hv rfl hR_w_1) dX12_isCell_3 ?_
    refine lv_iconst (v := 2) hx hb dX12_isCell_6 (by decide) ?_
    refine pl_i hx hb hK hP hL_w_1 hK_w_1 hN_w_1 (vp_in_iff.mpr (by decide)) dX12_isCell_7 ?_
    refine lv_tov (ri w_1 2) rfl ?_
    have h_2 : rg (ri w_1 2) 0 40 := GM.z0 hG0 (by rw [hT_w_1]; decide) (i := 2) (k := 2) (by decide) rfl
    have uh_2 := h_2.1
    have vh_2 := h_2.2
    refine lv_iconst (v := 1) hx hb dX12_isCell_8 (by decide) ?_
    refine lv_isub hx hb dX12_isCell_9 ?_
    refine lv_topi (fun x_3 ex_3 => ?_)
    have h_4 : rg x_3 (-1) 39 := rg_of_eq ex_3 (rg_sub h_2 (rg_k (1 : Int32) 1 rfl) (by decide))
    have uh_4 := h_4.1
    have vh_4 := h_4.2
    have tx_3 : (x_3).toInt = (ri w_1 2).toInt - 1 := by rw [ex_3]; exact i_sub_rg (a2 := (ri w_1 2).toInt) (b2 := 1) rfl rfl h_2 (rg_k (1 : Int32) 1 rfl) (by decide)
    refine pk_i (va_runS (As := [.int a0, .int 0, .int x_3]) (rest := []) ⟨hx, hb, hml, hown, hts⟩ (s_X12_isIn l D t σ I J ri rj rq H.size tg hSH hG.1 a0 (0 : Int32) x_3) (va_cwS 3 hts (tw_S tw_235 tw_236 tw_5 tw_237) rfl rfl rfl cd_yX12_isIn_3 ⟨Nat.le_of_ble_eq_true rfl, Nat.le_of_ble_eq_true rfl⟩) ⟨pq_blind, pq_pre hK hN hP hD⟩ rfl rfl hl.1 rfl (lv_room (Nat.le_of_ble_eq_true rfl)) dX12_isCell_10 ⟨Nat.le_of_ble_eq_true rfl, Nat.le_of_ble_eq_true rfl⟩) hD hS hA (fun x_5 σ1 μ1 H locs hw_6 hP hD hS => ?_)
    obtain ⟨hu_7, hr_9⟩ := hw_6
    obtain ⟨hu_7a, hu_7b⟩ := Prod.mk.inj hu_7
    rw [hu_7a, hu_7b] at hP hD
    have h_10 : rg x_5 0 1 := by rcases hr_9 with ⟨q, -⟩ | ⟨q, -⟩ <;> rw [q] <;> exact ⟨by decide, by decide⟩
    have uh_10 := h_10.1
    have vh_10 := h_10.2
    rcases hr_9 with ⟨e_14, f_11, f_12⟩ | ⟨e_14, f_13⟩
    · refine lv_tov 1 e_14 ?_
      have tc_15 : 0 ≤ (a0).toInt := Int32.le_iff_toInt_le.mp f_11
      have h_16 : rg a0 0 2147483647 := rg_le2 f_11 (rg_k (0 : Int32) 0 rfl) (rg_full _) (by decide)
      have uh_16 := h_16.1
      have vh_16 := h_16.2
      have tc_17 : (a0).toInt ≤ (x_3).toInt := Int32.le_iff_toInt_le.mp f_12
      have h_18 : rg a0 0 39 := rg_le1 f_12 h_16 h_4 (by decide)
      have uh_18 := h_18.1
      have vh_18 := h_18.2
      have h_19 : rg x_3 0 39 := rg_le2 f_12 h_16 h_4 (by decide)
      have uh_19 := h_19.1
      have vh_19 := h_19.2
      subst hQ
      exact W.zret (v := 1) hx hb hr (by decide) (fun t1 ht hW => ⟨⟨1, (σ, I, J, ri, rj, rq), rfl, ⟨rfl, (Or.inl ⟨rfl, (rg_w h_18 (by decide))⟩)⟩, by rw [ht]; exact hP, va_K.moved hW.alike hK, hD⟩, hS.F ht⟩) hS.2.2 dX12_isCell_13
    · refine lv_tov 0 e_14 ?_
      subst hQ
      exact W.zret (v := 0) hx hb hr (by decide) (fun t1 ht hW => ⟨⟨0, (σ, I, J, ri, rj, rq), rfl, ⟨rfl, (Or.inr ⟨rfl, trivial⟩)⟩, by rw [ht]; exact hP, va_K.moved hW.alike hK, hD⟩, hS.F ht⟩) hS.2.2 dX12_isCell_13
  exact go _ _ _ hP hD hS hl

set_option maxHeartbeats 4000000 in
set_option maxRecDepth 100000 in
theorem s_X12_isPerson (l : Launch) (D : va_G) (t : pq_T) (σ : pq_S) (I : Nat → Nat → Int32) (J : Nat → Nat → Int64) (ri : Nat → Nat → Int32) (rj : Nat → Nat → Int64) (rq : Nat → Nat → Option Nat) (sz : Nat) (tg : Nat → Nat) (hSH : SH σ tg) (hG0 : GT tg I ri) (this : Nat) (a0 : Int32) (hL_this : this ∈ σ.1) (hK_this : σ.2.1 this = 12) : MetI l yX12_isPerson (wa yX12_isPerson cX12_isPerson 2 (some .boolean)) ({ frames := 1, cells := 0, slots := 0, locals := 22 }) [.ref this, .int a0] D t σ (I, J, ri, rj, rq) sz 0 0 (fun (r : Int32) (u : pq_S × pq_M) => u = (σ, I, J, ri, rj, rq) ∧ ((r = 1 ∧ rg a0 0 39) ∨ (r = 0 ∧ True))) := by
  refine Met.ofW (cc := cX12_isPerson) (maxL := 2) (ret := (some .boolean)) (by decide) rfl ?_
  intro p e s m args below meth c s₁ B hml hv
  obtain ⟨rfl, hsz, hP, hK, hD0, hN⟩ := hv
  have hx := B.exec
  have hb := B.bytes
  have hr := B.returns
  have hts := atoms_spec (ws := (wa yX12_isPerson cX12_isPerson 2 (some .boolean))) B.pre
  have hown : s.vm.findClass RX12 = some m.cls := findClass_of_methodNamed B.named
  have hlocks := B.notSynchronized
  subst hsz
  have hD : va_D (pq_B t σ (I, J, ri, rj, rq) s.heap.size) (pq_P t σ (I, J, ri, rj, rq)) := hD0.self
  generalize hAe : pq_B t σ (I, J, ri, rj, rq) s.heap.size = A at hD ⊢
  have hA : ∀ q : Nat, s.heap.size ≤ q → A q := fun q h => by rw [← hAe]; exact Or.inr h
  have hS : va_S A s.heap s.heap [] := va_S.rf
  have hG : GM [] tg σ I ri I ri rq := ⟨hG0, fun _ _ _ => rfl, fun _ _ _ _ _ => rfl, fun _ _ _ _ _ _ => rfl⟩
  have hl := lv_entry ([.ref this, .int a0]) (n := 2) (Nat.le_of_ble_eq_true rfl)
  rw [lg_entry_eq]
  generalize (lg_sl ([.ref this, .int a0]) ++ List.replicate (2 - (lg_sl ([.ref this, .int a0])).length) Slot.unset).toArray = ls at hl ⊢
  have hl : lv_has ls 2 [(0, .ref this), (1, .int a0)] := hl
  refine q_gen (fun Q hQ => ?_)
  have go : ∀ (H : Heap) (locs : List Loc) (ls : Array Slot), va_P D vwCl (pq_P t σ (I, J, ri, rj, rq)) H → va_D A (pq_P t σ (I, J, ri, rj, rq)) → va_S A s.heap H locs → lv_has ls 2 [(0, .ref this), (1, .int a0)] → W p l e ({ frames := 1, cells := 0, slots := 0, locals := 22 } : Room) s m (List.toArray ([.ref this, .int a0] : List Value)) below meth c H locs 0 0 Q (F0 m 0 ls []) := by
    intro H locs ls hP hD hS hl
    refine lv_iload_n hx hb dX12_isPerson_0 rfl (lv_at hl 1 rfl) ?_
    refine lv_iconst (v := 0) hx hb dX12_isPerson_1 (by decide) ?_
    refine lv_aload_n hx hb dX12_isPerson_2 rfl (lv_at hl 0 rfl) ?_
    obtain ⟨w_1, hR_w_1, hL_w_1, hK_w_1, hN_w_1, hT_w_1⟩ := sh_a hSH 384 (ci := 12) (kd := 13) (len := 12720) rfl (by decide) hL_this hK_this
    refine pg_f (v := .ref w_1) (C := RX12) (T := TX12) (N := 31) hx hb hts (tw_i inlX12) hown hK hP hL_this hK_this (by decide) rfl 0 (by decide) (hts _ (tw_c tw_176)) (pq_hv rfl hR_w_1) dX12_isPerson_3 ?_
    refine lv_iconst (v := 5) hx hb dX12_isPerson_6 (by decide) ?_
    refine pl_i hx hb hK hP hL_w_1 hK_w_1 hN_w_1 (vp_in_iff.mpr (by decide)) dX12_isPerson_7 ?_
    refine lv_tov (ri w_1 5) rfl ?_
    have h_2 : rg (ri w_1 5) 0 40 := GM.z0 hG0 (by rw [hT_w_1]; decide) (i := 5) (k := 5) (by decide) rfl
    have uh_2 := h_2.1
    have vh_2 := h_2.2
    refine lv_iconst (v := 1) hx hb dX12_isPerson_8 (by decide) ?_
    refine lv_isub hx hb dX12_isPerson_9 ?_
    refine lv_topi (fun x_3 ex_3 => ?_)
    have h_4 : rg x_3 (-1) 39 := rg_of_eq ex_3 (rg_sub h_2 (rg_k (1 : Int32) 1 rfl) (by decide))
    have uh_4 := h_4.1
    have vh_4 := h_4.2
    have tx_3 : (x_3).toInt = (ri w_1 5).toInt - 1 := by rw [ex_3]; exact i_sub_rg (a2 := (ri w_1 5).toInt) (b2 := 1) rfl rfl h_2 (rg_k (1 : Int32) 1 rfl) (by decide)
    refine pk_i (va_runS (As := [.int a0, .int 0, .int x_3]) (rest := []) ⟨hx, hb, hml, hown, hts⟩ (s_X12_isIn l D t σ I J ri rj rq H.size tg hSH hG.1 a0 (0 : Int32) x_3) (va_cwS 3 hts (tw_S tw_235 tw_236 tw_5 tw_237) rfl rfl rfl cd_yX12_isIn_3 ⟨Nat.le_of_ble_eq_true rfl, Nat.le_of_ble_eq_true rfl⟩) ⟨pq_blind, pq_pre hK hN hP hD⟩ rfl rfl hl.1 rfl (lv_room (Nat.le_of_ble_eq_true rfl)) dX12_isPerson_10 ⟨Nat.le_of_ble_eq_true rfl, Nat.le_of_ble_eq_true rfl⟩) hD hS hA (fun x_5 σ1 μ1 H locs hw_6 hP hD hS => ?_)
    obtain ⟨hu_7, hr_9⟩ := hw_6
    obtain ⟨hu_7a, hu_7b⟩ := Prod.mk.inj hu_7
    rw [hu_7a, hu_7b] at hP hD
    have h_10 : rg x_5 0 1 := by rcases hr_9 with ⟨q, -⟩ | ⟨q, -⟩ <;> rw [q] <;> exact ⟨by decide, by decide⟩
    have uh_10 := h_10.1
    have vh_10 := h_10.2
    rcases hr_9 with ⟨e_14, f_11, f_12⟩ | ⟨e_14, f_13⟩
    · refine lv_tov 1 e_14 ?_
      have tc_15 : 0 ≤ (a0).toInt := Int32.le_iff_toInt_le.mp f_11
      have h_16 : rg a0 0 2147483647 := rg_le2 f_11 (rg_k (0 : Int32) 0 rfl) (rg_full _) (by decide)
      have uh_16 := h_16.1
      have vh_16 := h_16.2
      have tc_17 : (a0).toInt ≤ (x_3).toInt := Int32.le_iff_toInt_le.mp f_12
      have h_18 : rg a0 0 39 := rg_le1 f_12 h_16 h_4 (by decide)
      have uh_18 := h_18.1
      have vh_18 := h_18.2
      have h_19 : rg x_3 0 39 := rg_le2 f_12 h_16 h_4 (by decide)
      have uh_19 := h_19.1
      have vh_19 := h_19.2
      subst hQ
      exact W.zret (v := 1) hx hb hr (by decide) (fun t1 ht hW => ⟨⟨1, (σ, I, J, ri, rj, rq), rfl, ⟨rfl, (Or.inl ⟨rfl, (rg_w h_18 (by decide))⟩)⟩, by rw [ht]; exact hP, va_K.moved hW.alike hK, hD⟩, hS.F ht⟩) hS.2.2 dX12_isPerson_13
    · refine lv_tov 0 e_14 ?_
      subst hQ
      exact W.zret (v := 0) hx hb hr (by decide) (fun t1 ht hW => ⟨⟨0, (σ, I, J, ri, rj, rq), rfl, ⟨rfl, (Or.inr ⟨rfl, trivial⟩)⟩, by rw [ht]; exact hP, va_K.moved hW.alike hK, hD⟩, hS.F ht⟩) hS.2.2 dX12_isPerson_13
  exact go _ _ _ hP hD hS hl

set_option maxHeartbeats 4000000 in
set_option maxRecDepth 100000 in
theorem s_X12_isRise (l : Launch) (D : va_G) (t : pq_T) (σ : pq_S) (I : Nat → Nat → Int32) (J : Nat → Nat → Int64) (ri : Nat → Nat → Int32) (rj : Nat → Nat → Int64) (rq : Nat → Nat → Option Nat) (sz : Nat) (tg : Nat → Nat) (hSH : SH σ tg) (hG0 : GT tg I ri) (a0 : Int32) : MetI l yX12_isRise (wa yX12_isRise cX12_isRise 1 (some .boolean)) ({ frames := 1, cells := 0, slots := 0, locals := 22 }) [.int a0] D t σ (I, J, ri, rj, rq) sz 0 0 (fun (r : Int32) (u : pq_S × pq_M) => u = (σ, I, J, ri, rj, rq) ∧ ((r = 1 ∧ rg a0 0 2) ∨ (r = 0 ∧ True))) := by
  refine Met.ofW (cc := cX12_isRise) (maxL := 1) (ret := (some .boolean)) (by decide) rfl ?_
  intro p e s m args below meth c s₁ B hml hv
  obtain ⟨rfl, hsz, hP, hK, hD0, hN⟩ := hv
  have hx := B.exec
  have hb := B.bytes
  have hr := B.returns
  have hts := atoms_spec (ws := (wa yX12_isRise cX12_isRise 1 (some .boolean))) B.pre
  have hown : s.vm.findClass RX12 = some m.cls := findClass_of_methodNamed B.named
  have hlocks := B.notSynchronized
  subst hsz
  have hD : va_D (pq_B t σ (I, J, ri, rj, rq) s.heap.size) (pq_P t σ (I, J, ri, rj, rq)) := hD0.self
  generalize hAe : pq_B t σ (I, J, ri, rj, rq) s.heap.size = A at hD ⊢
  have hA : ∀ q : Nat, s.heap.size ≤ q → A q := fun q h => by rw [← hAe]; exact Or.inr h
  have hS : va_S A s.heap s.heap [] := va_S.rf
  have hG : GM [] tg σ I ri I ri rq := ⟨hG0, fun _ _ _ => rfl, fun _ _ _ _ _ => rfl, fun _ _ _ _ _ _ => rfl⟩
  have hl := lv_entry ([.int a0]) (n := 1) (Nat.le_of_ble_eq_true rfl)
  rw [lg_entry_eq]
  generalize (lg_sl ([.int a0]) ++ List.replicate (1 - (lg_sl ([.int a0])).length) Slot.unset).toArray = ls at hl ⊢
  have hl : lv_has ls 1 [(0, .int a0)] := hl
  refine q_gen (fun Q hQ => ?_)
  have go : ∀ (H : Heap) (locs : List Loc) (ls : Array Slot), va_P D vwCl (pq_P t σ (I, J, ri, rj, rq)) H → va_D A (pq_P t σ (I, J, ri, rj, rq)) → va_S A s.heap H locs → lv_has ls 1 [(0, .int a0)] → W p l e ({ frames := 1, cells := 0, slots := 0, locals := 22 } : Room) s m (List.toArray ([.int a0] : List Value)) below meth c H locs 0 0 Q (F0 m 0 ls []) := by
    intro H locs ls hP hD hS hl
    refine lv_iload_n hx hb dX12_isRise_0 rfl (lv_at hl 0 rfl) ?_
    refine lv_iconst (v := 0) hx hb dX12_isRise_1 (by decide) ?_
    refine lv_iconst (v := 2) hx hb dX12_isRise_2 (by decide) ?_
    refine pk_i (va_runS (As := [.int a0, .int 0, .int 2]) (rest := []) ⟨hx, hb, hml, hown, hts⟩ (s_X12_isIn l D t σ I J ri rj rq H.size tg hSH hG.1 a0 (0 : Int32) (2 : Int32)) (va_cwS 3 hts (tw_S tw_235 tw_236 tw_5 tw_237) rfl rfl rfl cd_yX12_isIn_3 ⟨Nat.le_of_ble_eq_true rfl, Nat.le_of_ble_eq_true rfl⟩) ⟨pq_blind, pq_pre hK hN hP hD⟩ rfl rfl hl.1 rfl (lv_room (Nat.le_of_ble_eq_true rfl)) dX12_isRise_3 ⟨Nat.le_of_ble_eq_true rfl, Nat.le_of_ble_eq_true rfl⟩) hD hS hA (fun x_1 σ1 μ1 H locs hw_2 hP hD hS => ?_)
    obtain ⟨hu_3, hr_5⟩ := hw_2
    obtain ⟨hu_3a, hu_3b⟩ := Prod.mk.inj hu_3
    rw [hu_3a, hu_3b] at hP hD
    have h_6 : rg x_1 0 1 := by rcases hr_5 with ⟨q, -⟩ | ⟨q, -⟩ <;> rw [q] <;> exact ⟨by decide, by decide⟩
    have uh_6 := h_6.1
    have vh_6 := h_6.2
    rcases hr_5 with ⟨e_10, f_7, f_8⟩ | ⟨e_10, f_9⟩
    · refine lv_tov 1 e_10 ?_
      have tc_11 : 0 ≤ (a0).toInt := Int32.le_iff_toInt_le.mp f_7
      have h_12 : rg a0 0 2147483647 := rg_le2 f_7 (rg_k (0 : Int32) 0 rfl) (rg_full _) (by decide)
      have uh_12 := h_12.1
      have vh_12 := h_12.2
      have tc_13 : (a0).toInt ≤ 2 := Int32.le_iff_toInt_le.mp f_8
      have h_14 : rg a0 0 2 := rg_le1 f_8 h_12 (rg_k (2 : Int32) 2 rfl) (by decide)
      have uh_14 := h_14.1
      have vh_14 := h_14.2
      subst hQ
      exact W.zret (v := 1) hx hb hr (by decide) (fun t1 ht hW => ⟨⟨1, (σ, I, J, ri, rj, rq), rfl, ⟨rfl, (Or.inl ⟨rfl, (rg_w h_14 (by decide))⟩)⟩, by rw [ht]; exact hP, va_K.moved hW.alike hK, hD⟩, hS.F ht⟩) hS.2.2 dX12_isRise_6
    · refine lv_tov 0 e_10 ?_
      subst hQ
      exact W.zret (v := 0) hx hb hr (by decide) (fun t1 ht hW => ⟨⟨0, (σ, I, J, ri, rj, rq), rfl, ⟨rfl, (Or.inr ⟨rfl, trivial⟩)⟩, by rw [ht]; exact hP, va_K.moved hW.alike hK, hD⟩, hS.F ht⟩) hS.2.2 dX12_isRise_6
  exact go _ _ _ hP hD hS hl

set_option maxHeartbeats 4000000 in
set_option maxRecDepth 100000 in
theorem s_X12_latest (l : Launch) (D : va_G) (t : pq_T) (σ : pq_S) (I : Nat → Nat → Int32) (J : Nat → Nat → Int64) (ri : Nat → Nat → Int32) (rj : Nat → Nat → Int64) (rq : Nat → Nat → Option Nat) (sz : Nat) (tg : Nat → Nat) (hSH : SH σ tg) (hG0 : GT tg I ri) (this : Nat) (a0 : Int32) (a1 : Int32) (a2 : Int32) (hL_this : this ∈ σ.1) (hK_this : σ.2.1 this = 12) : MetI l yX12_latest (wa yX12_latest cX12_latest 6 (some .int)) ({ frames := 0, cells := 0, slots := 0, locals := 0 }) [.ref this, .int a0, .int a1, .int a2] D t σ (I, J, ri, rj, rq) sz 0 0 (fun (r : Int32) (u : pq_S × pq_M) => u = (σ, I, J, ri, rj, rq) ∧ rg r (-1) 2215) := by
  refine Met.ofW (cc := cX12_latest) (maxL := 6) (ret := (some .int)) (by decide) rfl ?_
  intro p e s m args below meth c s₁ B hml hv
  obtain ⟨rfl, hsz, hP, hK, hD0, hN⟩ := hv
  have hx := B.exec
  have hb := B.bytes
  have hr := B.returns
  have hts := atoms_spec (ws := (wa yX12_latest cX12_latest 6 (some .int))) B.pre
  have hown : s.vm.findClass RX12 = some m.cls := findClass_of_methodNamed B.named
  have hlocks := B.notSynchronized
  subst hsz
  have hD : va_D (pq_B t σ (I, J, ri, rj, rq) s.heap.size) (pq_P t σ (I, J, ri, rj, rq)) := hD0.self
  generalize hAe : pq_B t σ (I, J, ri, rj, rq) s.heap.size = A at hD ⊢
  have hA : ∀ q : Nat, s.heap.size ≤ q → A q := fun q h => by rw [← hAe]; exact Or.inr h
  have hS : va_S A s.heap s.heap [] := va_S.rf
  have hG : GM [] tg σ I ri I ri rq := ⟨hG0, fun _ _ _ => rfl, fun _ _ _ _ _ => rfl, fun _ _ _ _ _ _ => rfl⟩
  have hl := lv_entry ([.ref this, .int a0, .int a1, .int a2]) (n := 6) (Nat.le_of_ble_eq_true rfl)
  rw [lg_entry_eq]
  generalize (lg_sl ([.ref this, .int a0, .int a1, .int a2]) ++ List.replicate (6 - (lg_sl ([.ref this, .int a0, .int a1, .int a2])).length) Slot.unset).toArray = ls at hl ⊢
  have hl : lv_has ls 6 [(0, .ref this), (1, .int a0), (2, .int a1), (3, .int a2)] := hl
  refine q_gen (fun Q hQ => ?_)
  have go : ∀ (H : Heap) (locs : List Loc) (ls : Array Slot), va_P D vwCl (pq_P t σ (I, J, ri, rj, rq)) H → va_D A (pq_P t σ (I, J, ri, rj, rq)) → va_S A s.heap H locs → lv_has ls 6 [(0, .ref this), (1, .int a0), (2, .int a1), (3, .int a2)] → W p l e ({ frames := 0, cells := 0, slots := 0, locals := 0 } : Room) s m (List.toArray ([.ref this, .int a0, .int a1, .int a2] : List Value)) below meth c H locs 0 0 Q (F0 m 0 ls []) := by
    intro H locs ls hP hD hS hl
    refine lv_aload_n hx hb dX12_latest_0 rfl (lv_at hl 0 rfl) ?_
    obtain ⟨w_1, hR_w_1, hL_w_1, hK_w_1, hN_w_1, hT_w_1⟩ := sh_a hSH 384 (ci := 12) (kd := 13) (len := 12720) rfl (by decide) hL_this hK_this
    refine pg_f (v := .ref w_1) (C := RX12) (T := TX12) (N := 31) hx hb hts (tw_i inlX12) hown hK hP hL_this hK_this (by decide) rfl 0 (by decide) (hts _ (tw_c tw_176)) (pq_hv rfl hR_w_1) dX12_latest_1 ?_
    refine lv_iconst (v := 3) hx hb dX12_latest_4 (by decide) ?_
    refine pl_i hx hb hK hP hL_w_1 hK_w_1 hN_w_1 (vp_in_iff.mpr (by decide)) dX12_latest_5 ?_
    refine lv_tov (ri w_1 3) rfl ?_
    have h_2 : rg (ri w_1 3) 0 200 := GM.z0 hG0 (by rw [hT_w_1]; decide) (i := 3) (k := 3) (by decide) rfl
    have uh_2 := h_2.1
    have vh_2 := h_2.2
    refine lv_iconst (v := 1) hx hb dX12_latest_6 (by decide) ?_
    refine lv_isub hx hb dX12_latest_7 ?_
    refine lv_topi (fun x_3 ex_3 => ?_)
    have h_4 : rg x_3 (-1) 199 := rg_of_eq ex_3 (rg_sub h_2 (rg_k (1 : Int32) 1 rfl) (by decide))
    have uh_4 := h_4.1
    have vh_4 := h_4.2
    have tx_3 : (x_3).toInt = (ri w_1 3).toInt - 1 := by rw [ex_3]; exact i_sub_rg (a2 := (ri w_1 3).toInt) (b2 := 1) rfl rfl h_2 (rg_k (1 : Int32) 1 rfl) (by decide)
    refine lv_istore (lv' := [(4, .int x_3), (0, .ref this), (1, .int a0), (2, .int a1), (3, .int a2)]) hx hb dX12_latest_8 hl (by decide) rfl (fun ls hl => ?_)
    have L_129 : ∀ (n_128 : Nat) (x_96 : Int32) (H : Heap) (locs : List Loc) (ls : Array Slot), rg x_96 (-1) 199 → ((x_96).toInt - (-1)).toNat < n_128 → GM [] tg σ I ri I ri rq → va_P D vwCl (pq_P t σ (I, J, ri, rj, rq)) H → va_D A (pq_P t σ (I, J, ri, rj, rq)) → va_S A s.heap H locs → lv_has ls 6 [(0, .ref this), (1, .int a0), (2, .int a1), (3, .int a2), (4, .int x_96)] → W p l e ({ frames := 0, cells := 0, slots := 0, locals := 0 } : Room) s m (List.toArray ([.ref this, .int a0, .int a1, .int a2] : List Value)) below meth c H locs 0 0 Q (F0 m 10 ls []) := by
      intro n_128
      induction n_128 with
      | zero => intro x_96 H locs ls h_132 hm_127 hG hP hD hS hl; exact absurd hm_127 (Nat.not_lt_zero _)
      | succ n_128 ih_130 =>
        intro x_96 H locs ls h_132 hm_127 hG hP hD hS hl
        have uh_132 := h_132.1
        have vh_132 := h_132.2
        refine lv_iload hx hb dX12_latest_10 (lv_at hl 4 rfl) ?_
        refine lv_if_lt (tgt := 71) hx hb dX12_latest_12 (by decide) (fun c_133 => ?_) (fun c_133 => ?_)
        · have tc_134 : (x_96).toInt < 0 := Int32.lt_iff_toInt_lt.mp c_133
          have h_135 : rg x_96 (-1) (-1) := rg_lt1 c_133 h_132 (rg_k (0 : Int32) 0 rfl) (by decide)
          have uh_135 := h_135.1
          have vh_135 := h_135.2
          refine lv_iconst (v := (-1)) hx hb dX12_latest_71 (by decide) ?_
          subst hQ
          exact W.iret (v := (-1)) hx hb hr (fun t1 ht hW => ⟨⟨(-1), (σ, I, J, ri, rj, rq), rfl, ⟨rfl, (rg_w (rg_k (-1 : Int32) (-1) rfl) (by decide))⟩, by rw [ht]; exact hP, va_K.moved hW.alike hK, hD⟩, hS.F ht⟩) hS.2.2 dX12_latest_72
        · have tc_136 : 0 ≤ (x_96).toInt := Int32.le_iff_toInt_le.mp (nlt c_133)
          have h_137 : rg x_96 0 199 := rg_le2 (nlt c_133) (rg_k (0 : Int32) 0 rfl) h_132 (by decide)
          have uh_137 := h_137.1
          have vh_137 := h_137.2
          refine lv_sipush (v := 1220) hx hb dX12_latest_15 (by decide) ?_
          refine lv_iconst (v := 5) hx hb dX12_latest_18 (by decide) ?_
          refine lv_iload hx hb dX12_latest_19 (lv_at hl 4 rfl) ?_
          refine lv_imul hx hb dX12_latest_21 ?_
          refine lv_topi (fun x_138 ex_138 => ?_)
          have h_139 : rg x_138 0 995 := rg_of_eq ex_138 (rg_mul (rg_k (5 : Int32) 5 rfl) h_137 (by decide))
          have uh_139 := h_139.1
          have vh_139 := h_139.2
          have tx_138 : (x_138).toInt = 5 * (x_96).toInt := by rw [ex_138]; exact i_mul_rg (a2 := 5) (b2 := (x_96).toInt) rfl rfl (rg_k (5 : Int32) 5 rfl) h_137 (by decide)
          refine lv_iadd hx hb dX12_latest_22 ?_
          refine lv_topi (fun x_140 ex_140 => ?_)
          have h_141 : rg x_140 1220 2215 := rg_of_eq ex_140 (rg_add (rg_k (1220 : Int32) 1220 rfl) h_139 (by decide))
          have uh_141 := h_141.1
          have vh_141 := h_141.2
          have tx_140 : (x_140).toInt = 1220 + (x_138).toInt := by rw [ex_140]; exact i_add_rg (a2 := 1220) (b2 := (x_138).toInt) rfl rfl (rg_k (1220 : Int32) 1220 rfl) h_139 (by decide)
          refine lv_istore (lv' := [(5, .int x_140), (0, .ref this), (1, .int a0), (2, .int a1), (3, .int a2), (4, .int x_96)]) hx hb dX12_latest_23 hl (by decide) rfl (fun ls hl => ?_)
          refine lv_aload_n hx hb dX12_latest_25 rfl (lv_at hl 1 rfl) ?_
          refine pg_f (v := .ref w_1) (C := RX12) (T := TX12) (N := 31) hx hb hts (tw_i inlX12) hown hK hP hL_this hK_this (by decide) rfl 0 (by decide) (hts _ (tw_c tw_176)) (pq_hv rfl hR_w_1) dX12_latest_26 ?_
          refine lv_iload hx hb dX12_latest_29 (lv_at hl 0 rfl) ?_
          refine pl_i hx hb hK hP hL_w_1 hK_w_1 hN_w_1 (rg_in h_141 (by decide)) dX12_latest_31 ?_
          refine lv_topi (fun x_142 ex_142 => ?_)
          refine lv_iload_n hx hb dX12_latest_32 rfl (lv_at hl 2 rfl) ?_
          have K_162 : ∀  (H : Heap) (locs : List Loc) (ls : Array Slot), GM [] tg σ I ri I ri rq → va_P D vwCl (pq_P t σ (I, J, ri, rj, rq)) H → va_D A (pq_P t σ (I, J, ri, rj, rq)) → va_S A s.heap H locs → lv_has ls 6 [(0, .ref this), (1, .int a0), (2, .int a1), (3, .int a2), (4, .int x_96)] → W p l e ({ frames := 0, cells := 0, slots := 0, locals := 0 } : Room) s m (List.toArray ([.ref this, .int a0, .int a1, .int a2] : List Value)) below meth c H locs 0 0 Q (F0 m 65 ls []) := by
            intro H locs ls hG hP hD hS hl
            obtain ⟨x_163, ex_163⟩ : ∃ y : Int32, y = x_96 + Int32.ofInt (-1) := ⟨_, rfl⟩
            have h_164 : rg x_163 (-1) 198 := rg_of_eq ex_163 (rg_add h_137 (rg_k (Int32.ofInt (-1)) (-1) rfl) (by decide))
            have uh_164 := h_164.1
            have vh_164 := h_164.2
            have tx_163 : (x_163).toInt = (x_96).toInt + (-1) := by rw [ex_163]; exact i_add_rg (a2 := (x_96).toInt) (b2 := (-1)) rfl rfl h_137 (rg_k (Int32.ofInt (-1)) (-1) rfl) (by decide)
            refine lv_iinc (v := x_163) (lv' := [(4, .int x_163), (0, .ref this), (1, .int a0), (2, .int a1), (3, .int a2)]) hx hb dX12_latest_65 hl (k := 4) rfl ex_163.symm (by decide) rfl (fun ls hl => ?_)
            refine lv_goto (tgt := 10) hx hb dX12_latest_68 (by decide) ?_
            exact ih_130 x_163 _ _ _ (rg_w h_164 (by decide)) (ms_dn 1 hm_127 ex_163 rfl (by decide) h_137 (by decide) (by decide)) hG hP hD hS (lv_sub hl [1, 2, 3, 4, 0] rfl)
          refine lv_icmp_ne (tgt := 65) hx hb dX12_latest_33 (by decide) (fun c_165 => ?_) (fun c_165 => ?_)
          · have tc_166 : (x_142).toInt ≠ (a0).toInt := fun q => c_165 (Int32.toInt_inj.mp q)
            exact K_162 _ _ _ hG hP hD hS (lv_sub hl [1, 2, 3, 4, 5] rfl)
          · have tc_167 : (x_142).toInt = (a0).toInt := congrArg Int32.toInt c_165
            refine lv_aload_n hx hb dX12_latest_36 rfl (lv_at hl 1 rfl) ?_
            refine pg_f (v := .ref w_1) (C := RX12) (T := TX12) (N := 31) hx hb hts (tw_i inlX12) hown hK hP hL_this hK_this (by decide) rfl 0 (by decide) (hts _ (tw_c tw_176)) (pq_hv rfl hR_w_1) dX12_latest_37 ?_
            refine lv_iload hx hb dX12_latest_40 (lv_at hl 0 rfl) ?_
            refine lv_iconst (v := 1) hx hb dX12_latest_42 (by decide) ?_
            refine lv_iadd hx hb dX12_latest_43 ?_
            refine lv_topi (fun x_168 ex_168 => ?_)
            have h_169 : rg x_168 1221 2216 := rg_of_eq ex_168 (rg_add h_141 (rg_k (1 : Int32) 1 rfl) (by decide))
            have uh_169 := h_169.1
            have vh_169 := h_169.2
            have tx_168 : (x_168).toInt = (x_140).toInt + 1 := by rw [ex_168]; exact i_add_rg (a2 := (x_140).toInt) (b2 := 1) rfl rfl h_141 (rg_k (1 : Int32) 1 rfl) (by decide)
            refine pl_i hx hb hK hP hL_w_1 hK_w_1 hN_w_1 (rg_in h_169 (by decide)) dX12_latest_44 ?_
            refine lv_topi (fun x_170 ex_170 => ?_)
            refine lv_iload_n hx hb dX12_latest_45 rfl (lv_at hl 3 rfl) ?_
            refine lv_icmp_ne (tgt := 65) hx hb dX12_latest_46 (by decide) (fun c_171 => ?_) (fun c_171 => ?_)
            · have tc_172 : (x_170).toInt ≠ (a1).toInt := fun q => c_171 (Int32.toInt_inj.mp q)
              exact K_162 _ _ _ hG hP hD hS (lv_sub hl [1, 2, 3, 4, 5] rfl)
            · have tc_173 : (x_170).toInt = (a1).toInt := congrArg Int32.toInt c_171
              refine lv_aload_n hx hb dX12_latest_49 rfl (lv_at hl 1 rfl) ?_
              refine pg_f (v := .ref w_1) (C := RX12) (T := TX12) (N := 31) hx hb hts (tw_i inlX12) hown hK hP hL_this hK_this (by decide) rfl 0 (by decide) (hts _ (tw_c tw_176)) (pq_hv rfl hR_w_1) dX12_latest_50 ?_
              refine lv_iload hx hb dX12_latest_53 (lv_at hl 0 rfl) ?_
              refine lv_iconst (v := 4) hx hb dX12_latest_55 (by decide) ?_
              refine lv_iadd hx hb dX12_latest_56 ?_
              refine lv_topi (fun x_174 ex_174 => ?_)
              have h_175 : rg x_174 1224 2219 := rg_of_eq ex_174 (rg_add h_141 (rg_k (4 : Int32) 4 rfl) (by decide))
              have uh_175 := h_175.1
              have vh_175 := h_175.2
              have tx_174 : (x_174).toInt = (x_140).toInt + 4 := by rw [ex_174]; exact i_add_rg (a2 := (x_140).toInt) (b2 := 4) rfl rfl h_141 (rg_k (4 : Int32) 4 rfl) (by decide)
              refine pl_i hx hb hK hP hL_w_1 hK_w_1 hN_w_1 (rg_in h_175 (by decide)) dX12_latest_57 ?_
              refine lv_topi (fun x_176 ex_176 => ?_)
              refine lv_iload_n hx hb dX12_latest_58 rfl (lv_at hl 4 rfl) ?_
              refine lv_icmp_gt (tgt := 65) hx hb dX12_latest_59 (by decide) (fun c_177 => ?_) (fun c_177 => ?_)
              · have tc_178 : (a2).toInt < (x_176).toInt := Int32.lt_iff_toInt_lt.mp c_177
                have h_179 : rg a2 (-2147483648) 2147483646 := rg_lt1 c_177 (rg_full _) (rg_full _) (by decide)
                have uh_179 := h_179.1
                have vh_179 := h_179.2
                have h_180 : rg x_176 (-2147483647) 2147483647 := rg_lt2 c_177 (rg_full _) (rg_full _) (by decide)
                have uh_180 := h_180.1
                have vh_180 := h_180.2
                exact K_162 _ _ _ hG hP hD hS (lv_sub hl [1, 2, 3, 4, 5] rfl)
              · have tc_181 : (x_176).toInt ≤ (a2).toInt := Int32.le_iff_toInt_le.mp (nlt c_177)
                refine lv_iload hx hb dX12_latest_62 (lv_at hl 0 rfl) ?_
                subst hQ
                exact W.iret (v := x_140) hx hb hr (fun t1 ht hW => ⟨⟨x_140, (σ, I, J, ri, rj, rq), rfl, ⟨rfl, (rg_w h_141 (by decide))⟩, by rw [ht]; exact hP, va_K.moved hW.alike hK, hD⟩, hS.F ht⟩) hS.2.2 dX12_latest_64
    exact L_129 _ x_3 _ _ _ (rg_w h_4 (by decide)) (Nat.lt_succ_self _) hG hP hD hS (lv_sub hl [1, 2, 3, 4, 0] rfl)
  exact go _ _ _ hP hD hS hl

set_option maxHeartbeats 4000000 in
set_option maxRecDepth 100000 in
theorem s_X12_worst (l : Launch) (D : va_G) (t : pq_T) (σ : pq_S) (I : Nat → Nat → Int32) (J : Nat → Nat → Int64) (ri : Nat → Nat → Int32) (rj : Nat → Nat → Int64) (rq : Nat → Nat → Option Nat) (sz : Nat) (tg : Nat → Nat) (hSH : SH σ tg) (hG0 : GT tg I ri) (this : Nat) (a0 : Int32) (a1 : Int32) (hL_this : this ∈ σ.1) (hK_this : σ.2.1 this = 12) : MetI l yX12_worst (wa yX12_worst cX12_worst 7 (some .int)) ({ frames := 0, cells := 0, slots := 0, locals := 0 }) [.ref this, .int a0, .int a1] D t σ (I, J, ri, rj, rq) sz 0 0 (fun (r : Int32) (u : pq_S × pq_M) => u = (σ, I, J, ri, rj, rq)) := by
  refine Met.ofW (cc := cX12_worst) (maxL := 7) (ret := (some .int)) (by decide) rfl ?_
  intro p e s m args below meth c s₁ B hml hv
  obtain ⟨rfl, hsz, hP, hK, hD0, hN⟩ := hv
  have hx := B.exec
  have hb := B.bytes
  have hr := B.returns
  have hts := atoms_spec (ws := (wa yX12_worst cX12_worst 7 (some .int))) B.pre
  have hown : s.vm.findClass RX12 = some m.cls := findClass_of_methodNamed B.named
  have hlocks := B.notSynchronized
  subst hsz
  have hD : va_D (pq_B t σ (I, J, ri, rj, rq) s.heap.size) (pq_P t σ (I, J, ri, rj, rq)) := hD0.self
  generalize hAe : pq_B t σ (I, J, ri, rj, rq) s.heap.size = A at hD ⊢
  have hA : ∀ q : Nat, s.heap.size ≤ q → A q := fun q h => by rw [← hAe]; exact Or.inr h
  have hS : va_S A s.heap s.heap [] := va_S.rf
  have hG : GM [] tg σ I ri I ri rq := ⟨hG0, fun _ _ _ => rfl, fun _ _ _ _ _ => rfl, fun _ _ _ _ _ _ => rfl⟩
  have hl := lv_entry ([.ref this, .int a0, .int a1]) (n := 7) (Nat.le_of_ble_eq_true rfl)
  rw [lg_entry_eq]
  generalize (lg_sl ([.ref this, .int a0, .int a1]) ++ List.replicate (7 - (lg_sl ([.ref this, .int a0, .int a1])).length) Slot.unset).toArray = ls at hl ⊢
  have hl : lv_has ls 7 [(0, .ref this), (1, .int a0), (2, .int a1)] := hl
  refine q_gen (fun Q hQ => ?_)
  have go : ∀ (H : Heap) (locs : List Loc) (ls : Array Slot), va_P D vwCl (pq_P t σ (I, J, ri, rj, rq)) H → va_D A (pq_P t σ (I, J, ri, rj, rq)) → va_S A s.heap H locs → lv_has ls 7 [(0, .ref this), (1, .int a0), (2, .int a1)] → W p l e ({ frames := 0, cells := 0, slots := 0, locals := 0 } : Room) s m (List.toArray ([.ref this, .int a0, .int a1] : List Value)) below meth c H locs 0 0 Q (F0 m 0 ls []) := by
    intro H locs ls hP hD hS hl
    refine lv_iconst (v := 0) hx hb dX12_worst_0 (by decide) ?_
    refine lv_istore_n (lv' := [(3, .int 0), (0, .ref this), (1, .int a0), (2, .int a1)]) hx hb dX12_worst_1 rfl hl (by decide) rfl (fun ls hl => ?_)
    refine lv_iconst (v := 0) hx hb dX12_worst_2 (by decide) ?_
    refine lv_istore (lv' := [(4, .int 0), (3, .int 0), (0, .ref this), (1, .int a0), (2, .int a1)]) hx hb dX12_worst_3 hl (by decide) rfl (fun ls hl => ?_)
    refine lv_iconst (v := 0) hx hb dX12_worst_5 (by decide) ?_
    refine lv_istore (lv' := [(5, .int 0), (4, .int 0), (3, .int 0), (0, .ref this), (1, .int a0), (2, .int a1)]) hx hb dX12_worst_6 hl (by decide) rfl (fun ls hl => ?_)
    have L_975 : ∀ (n_974 : Nat) (x_917 : Int32) (x_918 : Int32) (x_919 : Int32) (H : Heap) (locs : List Loc) (ls : Array Slot), rg x_918 0 1 → rg x_919 0 200 → (200 - (x_919).toInt).toNat < n_974 → GM [] tg σ I ri I ri rq → va_P D vwCl (pq_P t σ (I, J, ri, rj, rq)) H → va_D A (pq_P t σ (I, J, ri, rj, rq)) → va_S A s.heap H locs → lv_has ls 7 [(0, .ref this), (1, .int a0), (2, .int a1), (3, .int x_917), (4, .int x_918), (5, .int x_919)] → W p l e ({ frames := 0, cells := 0, slots := 0, locals := 0 } : Room) s m (List.toArray ([.ref this, .int a0, .int a1] : List Value)) below meth c H locs 0 0 Q (F0 m 8 ls []) := by
      intro n_974
      induction n_974 with
      | zero => intro x_917 x_918 x_919 H locs ls h_979 h_980 hm_973 hG hP hD hS hl; exact absurd hm_973 (Nat.not_lt_zero _)
      | succ n_974 ih_976 =>
        intro x_917 x_918 x_919 H locs ls h_979 h_980 hm_973 hG hP hD hS hl
        have uh_979 := h_979.1
        have vh_979 := h_979.2
        have uh_980 := h_980.1
        have vh_980 := h_980.2
        refine lv_iload hx hb dX12_worst_8 (lv_at hl 5 rfl) ?_
        refine lv_aload_n hx hb dX12_worst_10 rfl (lv_at hl 0 rfl) ?_
        obtain ⟨w_981, hR_w_981, hL_w_981, hK_w_981, hN_w_981, hT_w_981⟩ := sh_a hSH 384 (ci := 12) (kd := 13) (len := 12720) rfl (by decide) hL_this hK_this
        refine pg_f (v := .ref w_981) (C := RX12) (T := TX12) (N := 31) hx hb hts (tw_i inlX12) hown hK hP hL_this hK_this (by decide) rfl 0 (by decide) (hts _ (tw_c tw_176)) (pq_hv rfl hR_w_981) dX12_worst_11 ?_
        refine lv_iconst (v := 3) hx hb dX12_worst_14 (by decide) ?_
        refine pl_i hx hb hK hP hL_w_981 hK_w_981 hN_w_981 (vp_in_iff.mpr (by decide)) dX12_worst_15 ?_
        refine lv_tov (ri w_981 3) rfl ?_
        have h_982 : rg (ri w_981 3) 0 200 := GM.z0 hG0 (by rw [hT_w_981]; decide) (i := 3) (k := 3) (by decide) rfl
        have uh_982 := h_982.1
        have vh_982 := h_982.2
        refine lv_icmp_ge (tgt := 105) hx hb dX12_worst_16 (by decide) (fun c_983 => ?_) (fun c_983 => ?_)
        · have tc_984 : (ri w_981 3).toInt ≤ (x_919).toInt := Int32.le_iff_toInt_le.mp c_983
          refine lv_iload_n hx hb dX12_worst_105 rfl (lv_at hl 3 rfl) ?_
          subst hQ
          exact W.iret (v := x_917) hx hb hr (fun t1 ht hW => ⟨⟨x_917, (σ, I, J, ri, rj, rq), rfl, rfl, by rw [ht]; exact hP, va_K.moved hW.alike hK, hD⟩, hS.F ht⟩) hS.2.2 dX12_worst_106
        · have tc_985 : (x_919).toInt < (ri w_981 3).toInt := Int32.lt_iff_toInt_lt.mp (nle c_983)
          have h_986 : rg x_919 0 199 := rg_lt1 (nle c_983) h_980 h_982 (by decide)
          have uh_986 := h_986.1
          have vh_986 := h_986.2
          have h_987 : rg (ri w_981 3) 1 200 := rg_lt2 (nle c_983) h_980 h_982 (by decide)
          have uh_987 := h_987.1
          have vh_987 := h_987.2
          refine lv_sipush (v := 1220) hx hb dX12_worst_19 (by decide) ?_
          refine lv_iconst (v := 5) hx hb dX12_worst_22 (by decide) ?_
          refine lv_iload hx hb dX12_worst_23 (lv_at hl 5 rfl) ?_
          refine lv_imul hx hb dX12_worst_25 ?_
          refine lv_topi (fun x_988 ex_988 => ?_)
          have h_989 : rg x_988 0 995 := rg_of_eq ex_988 (rg_mul (rg_k (5 : Int32) 5 rfl) h_986 (by decide))
          have uh_989 := h_989.1
          have vh_989 := h_989.2
          have tx_988 : (x_988).toInt = 5 * (x_919).toInt := by rw [ex_988]; exact i_mul_rg (a2 := 5) (b2 := (x_919).toInt) rfl rfl (rg_k (5 : Int32) 5 rfl) h_986 (by decide)
          refine lv_iadd hx hb dX12_worst_26 ?_
          refine lv_topi (fun x_990 ex_990 => ?_)
          have h_991 : rg x_990 1220 2215 := rg_of_eq ex_990 (rg_add (rg_k (1220 : Int32) 1220 rfl) h_989 (by decide))
          have uh_991 := h_991.1
          have vh_991 := h_991.2
          have tx_990 : (x_990).toInt = 1220 + (x_988).toInt := by rw [ex_990]; exact i_add_rg (a2 := 1220) (b2 := (x_988).toInt) rfl rfl (rg_k (1220 : Int32) 1220 rfl) h_989 (by decide)
          refine lv_istore (lv' := [(6, .int x_990), (0, .ref this), (1, .int a0), (2, .int a1), (3, .int x_917), (4, .int x_918), (5, .int x_919)]) hx hb dX12_worst_27 hl (by decide) rfl (fun ls hl => ?_)
          refine lv_aload_n hx hb dX12_worst_29 rfl (lv_at hl 1 rfl) ?_
          refine pg_f (v := .ref w_981) (C := RX12) (T := TX12) (N := 31) hx hb hts (tw_i inlX12) hown hK hP hL_this hK_this (by decide) rfl 0 (by decide) (hts _ (tw_c tw_176)) (pq_hv rfl hR_w_981) dX12_worst_30 ?_
          refine lv_iload hx hb dX12_worst_33 (lv_at hl 0 rfl) ?_
          refine pl_i hx hb hK hP hL_w_981 hK_w_981 hN_w_981 (rg_in h_991 (by decide)) dX12_worst_35 ?_
          refine lv_topi (fun x_992 ex_992 => ?_)
          refine lv_iload_n hx hb dX12_worst_36 rfl (lv_at hl 2 rfl) ?_
          have K_1032 : ∀  (x_1027 : Int32) (x_1028 : Int32) (H : Heap) (locs : List Loc) (ls : Array Slot), rg x_1028 0 1 → GM [] tg σ I ri I ri rq → va_P D vwCl (pq_P t σ (I, J, ri, rj, rq)) H → va_D A (pq_P t σ (I, J, ri, rj, rq)) → va_S A s.heap H locs → lv_has ls 7 [(0, .ref this), (1, .int a0), (2, .int a1), (3, .int x_1027), (4, .int x_1028), (5, .int x_919)] → W p l e ({ frames := 0, cells := 0, slots := 0, locals := 0 } : Room) s m (List.toArray ([.ref this, .int a0, .int a1] : List Value)) below meth c H locs 0 0 Q (F0 m 99 ls []) := by
            intro x_1027 x_1028 H locs ls h_1034 hG hP hD hS hl
            have uh_1034 := h_1034.1
            have vh_1034 := h_1034.2
            obtain ⟨x_1035, ex_1035⟩ : ∃ y : Int32, y = x_919 + Int32.ofInt 1 := ⟨_, rfl⟩
            have h_1036 : rg x_1035 1 200 := rg_of_eq ex_1035 (rg_add h_986 (rg_k (Int32.ofInt 1) 1 rfl) (by decide))
            have uh_1036 := h_1036.1
            have vh_1036 := h_1036.2
            have tx_1035 : (x_1035).toInt = (x_919).toInt + 1 := by rw [ex_1035]; exact i_add_rg (a2 := (x_919).toInt) (b2 := 1) rfl rfl h_986 (rg_k (Int32.ofInt 1) 1 rfl) (by decide)
            refine lv_iinc (v := x_1035) (lv' := [(5, .int x_1035), (0, .ref this), (1, .int a0), (2, .int a1), (3, .int x_1027), (4, .int x_1028)]) hx hb dX12_worst_99 hl (k := 5) rfl ex_1035.symm (by decide) rfl (fun ls hl => ?_)
            refine lv_goto (tgt := 8) hx hb dX12_worst_102 (by decide) ?_
            exact ih_976 x_1027 x_1028 x_1035 _ _ _ (rg_w h_1034 (by decide)) (rg_w h_1036 (by decide)) (ms_up 1 hm_973 ex_1035 rfl (by decide) h_986 (by decide) (by decide)) hG hP hD hS (lv_sub hl [1, 2, 3, 4, 5, 0] rfl)
          refine lv_icmp_ne (tgt := 99) hx hb dX12_worst_37 (by decide) (fun c_1037 => ?_) (fun c_1037 => ?_)
          · have tc_1038 : (x_992).toInt ≠ (a0).toInt := fun q => c_1037 (Int32.toInt_inj.mp q)
            exact K_1032 x_917 x_918 _ _ _ (rg_w h_979 (by decide)) hG hP hD hS (lv_sub hl [1, 2, 3, 4, 5, 6] rfl)
          · have tc_1039 : (x_992).toInt = (a0).toInt := congrArg Int32.toInt c_1037
            refine lv_aload_n hx hb dX12_worst_40 rfl (lv_at hl 1 rfl) ?_
            refine pg_f (v := .ref w_981) (C := RX12) (T := TX12) (N := 31) hx hb hts (tw_i inlX12) hown hK hP hL_this hK_this (by decide) rfl 0 (by decide) (hts _ (tw_c tw_176)) (pq_hv rfl hR_w_981) dX12_worst_41 ?_
            refine lv_iload hx hb dX12_worst_44 (lv_at hl 0 rfl) ?_
            refine lv_iconst (v := 2) hx hb dX12_worst_46 (by decide) ?_
            refine lv_iadd hx hb dX12_worst_47 ?_
            refine lv_topi (fun x_1040 ex_1040 => ?_)
            have h_1041 : rg x_1040 1222 2217 := rg_of_eq ex_1040 (rg_add h_991 (rg_k (2 : Int32) 2 rfl) (by decide))
            have uh_1041 := h_1041.1
            have vh_1041 := h_1041.2
            have tx_1040 : (x_1040).toInt = (x_990).toInt + 2 := by rw [ex_1040]; exact i_add_rg (a2 := (x_990).toInt) (b2 := 2) rfl rfl h_991 (rg_k (2 : Int32) 2 rfl) (by decide)
            refine pl_i hx hb hK hP hL_w_981 hK_w_981 hN_w_981 (rg_in h_1041 (by decide)) dX12_worst_48 ?_
            refine lv_topi (fun x_1042 ex_1042 => ?_)
            refine lv_if_eq (tgt := 99) hx hb dX12_worst_49 (by decide) (fun c_1043 => ?_) (fun c_1043 => ?_)
            · have tc_1044 : (x_1042).toInt = 0 := congrArg Int32.toInt c_1043
              have h_1045 : rg x_1042 0 0 := rg_and (rg_full _) (rg_of_eq c_1043 (rg_k (0 : Int32) 0 rfl)) (by decide)
              have uh_1045 := h_1045.1
              have vh_1045 := h_1045.2
              exact K_1032 x_917 x_918 _ _ _ (rg_w h_979 (by decide)) hG hP hD hS (lv_sub hl [1, 2, 3, 4, 5, 6] rfl)
            · have tc_1046 : (x_1042).toInt ≠ 0 := fun q => c_1043 (Int32.toInt_inj.mp q)
              refine lv_aload_n hx hb dX12_worst_52 rfl (lv_at hl 1 rfl) ?_
              refine pg_f (v := .ref w_981) (C := RX12) (T := TX12) (N := 31) hx hb hts (tw_i inlX12) hown hK hP hL_this hK_this (by decide) rfl 0 (by decide) (hts _ (tw_c tw_176)) (pq_hv rfl hR_w_981) dX12_worst_53 ?_
              refine lv_iload hx hb dX12_worst_56 (lv_at hl 0 rfl) ?_
              refine lv_iconst (v := 4) hx hb dX12_worst_58 (by decide) ?_
              refine lv_iadd hx hb dX12_worst_59 ?_
              refine lv_topi (fun x_1047 ex_1047 => ?_)
              have h_1048 : rg x_1047 1224 2219 := rg_of_eq ex_1047 (rg_add h_991 (rg_k (4 : Int32) 4 rfl) (by decide))
              have uh_1048 := h_1048.1
              have vh_1048 := h_1048.2
              have tx_1047 : (x_1047).toInt = (x_990).toInt + 4 := by rw [ex_1047]; exact i_add_rg (a2 := (x_990).toInt) (b2 := 4) rfl rfl h_991 (rg_k (4 : Int32) 4 rfl) (by decide)
              refine pl_i hx hb hK hP hL_w_981 hK_w_981 hN_w_981 (rg_in h_1048 (by decide)) dX12_worst_60 ?_
              refine lv_topi (fun x_1049 ex_1049 => ?_)
              refine lv_iload_n hx hb dX12_worst_61 rfl (lv_at hl 3 rfl) ?_
              refine lv_icmp_gt (tgt := 99) hx hb dX12_worst_62 (by decide) (fun c_1050 => ?_) (fun c_1050 => ?_)
              · have tc_1051 : (a1).toInt < (x_1049).toInt := Int32.lt_iff_toInt_lt.mp c_1050
                have h_1052 : rg a1 (-2147483648) 2147483646 := rg_lt1 c_1050 (rg_full _) (rg_full _) (by decide)
                have uh_1052 := h_1052.1
                have vh_1052 := h_1052.2
                have h_1053 : rg x_1049 (-2147483647) 2147483647 := rg_lt2 c_1050 (rg_full _) (rg_full _) (by decide)
                have uh_1053 := h_1053.1
                have vh_1053 := h_1053.2
                exact K_1032 x_917 x_918 _ _ _ (rg_w h_979 (by decide)) hG hP hD hS (lv_sub hl [1, 2, 3, 4, 5, 6] rfl)
              · have tc_1054 : (x_1049).toInt ≤ (a1).toInt := Int32.le_iff_toInt_le.mp (nlt c_1050)
                refine lv_iload hx hb dX12_worst_65 (lv_at hl 5 rfl) ?_
                have K_1071 : ∀  (H : Heap) (locs : List Loc) (ls : Array Slot), GM [] tg σ I ri I ri rq → va_P D vwCl (pq_P t σ (I, J, ri, rj, rq)) H → va_D A (pq_P t σ (I, J, ri, rj, rq)) → va_S A s.heap H locs → lv_has ls 7 [(0, .ref this), (1, .int a0), (2, .int a1), (5, .int x_919), (6, .int x_990)] → W p l e ({ frames := 0, cells := 0, slots := 0, locals := 0 } : Room) s m (List.toArray ([.ref this, .int a0, .int a1] : List Value)) below meth c H locs 0 0 Q (F0 m 86 ls []) := by
                  intro H locs ls hG hP hD hS hl
                  refine lv_aload_n hx hb dX12_worst_86 rfl (lv_at hl 0 rfl) ?_
                  refine pg_f (v := .ref w_981) (C := RX12) (T := TX12) (N := 31) hx hb hts (tw_i inlX12) hown hK hP hL_this hK_this (by decide) rfl 0 (by decide) (hts _ (tw_c tw_176)) (pq_hv rfl hR_w_981) dX12_worst_87 ?_
                  refine lv_iload hx hb dX12_worst_90 (lv_at hl 4 rfl) ?_
                  refine lv_iconst (v := 3) hx hb dX12_worst_92 (by decide) ?_
                  refine lv_iadd hx hb dX12_worst_93 ?_
                  refine lv_topi (fun x_1072 ex_1072 => ?_)
                  have h_1073 : rg x_1072 1223 2218 := rg_of_eq ex_1072 (rg_add h_991 (rg_k (3 : Int32) 3 rfl) (by decide))
                  have uh_1073 := h_1073.1
                  have vh_1073 := h_1073.2
                  have tx_1072 : (x_1072).toInt = (x_990).toInt + 3 := by rw [ex_1072]; exact i_add_rg (a2 := (x_990).toInt) (b2 := 3) rfl rfl h_991 (rg_k (3 : Int32) 3 rfl) (by decide)
                  refine pl_i hx hb hK hP hL_w_981 hK_w_981 hN_w_981 (rg_in h_1073 (by decide)) dX12_worst_94 ?_
                  refine lv_topi (fun x_1074 ex_1074 => ?_)
                  refine lv_istore_n (lv' := [(3, .int x_1074), (0, .ref this), (1, .int a0), (2, .int a1), (5, .int x_919), (6, .int x_990)]) hx hb dX12_worst_95 rfl hl (by decide) rfl (fun ls hl => ?_)
                  refine lv_iconst (v := 1) hx hb dX12_worst_96 (by decide) ?_
                  refine lv_istore (lv' := [(4, .int 1), (3, .int x_1074), (0, .ref this), (1, .int a0), (2, .int a1), (5, .int x_919), (6, .int x_990)]) hx hb dX12_worst_97 hl (by decide) rfl (fun ls hl => ?_)
                  exact K_1032 x_1074 (1 : Int32) _ _ _ (rg_w (rg_k (1 : Int32) 1 rfl) (by decide)) hG hP hD hS (lv_sub hl [2, 3, 4, 1, 0, 5] rfl)
                refine lv_if_eq (tgt := 86) hx hb dX12_worst_67 (by decide) (fun c_1075 => ?_) (fun c_1075 => ?_)
                · have tc_1076 : (x_918).toInt = 0 := congrArg Int32.toInt c_1075
                  have h_1077 : rg x_918 0 0 := rg_and h_979 (rg_of_eq c_1075 (rg_k (0 : Int32) 0 rfl)) (by decide)
                  have uh_1077 := h_1077.1
                  have vh_1077 := h_1077.2
                  exact K_1071 _ _ _ hG hP hD hS (lv_sub hl [1, 2, 3, 6, 0] rfl)
                · have tc_1078 : (x_918).toInt ≠ 0 := fun q => c_1075 (Int32.toInt_inj.mp q)
                  have h_1079 : rg x_918 1 1 := rg_ne c_1075 h_979 0 rfl (by decide)
                  have uh_1079 := h_1079.1
                  have vh_1079 := h_1079.2
                  refine lv_aload_n hx hb dX12_worst_70 rfl (lv_at hl 1 rfl) ?_
                  refine pg_f (v := .ref w_981) (C := RX12) (T := TX12) (N := 31) hx hb hts (tw_i inlX12) hown hK hP hL_this hK_this (by decide) rfl 0 (by decide) (hts _ (tw_c tw_176)) (pq_hv rfl hR_w_981) dX12_worst_71 ?_
                  refine lv_iload hx hb dX12_worst_74 (lv_at hl 0 rfl) ?_
                  refine lv_iconst (v := 3) hx hb dX12_worst_76 (by decide) ?_
                  refine lv_iadd hx hb dX12_worst_77 ?_
                  refine lv_topi (fun x_1080 ex_1080 => ?_)
                  have h_1081 : rg x_1080 1223 2218 := rg_of_eq ex_1080 (rg_add h_991 (rg_k (3 : Int32) 3 rfl) (by decide))
                  have uh_1081 := h_1081.1
                  have vh_1081 := h_1081.2
                  have tx_1080 : (x_1080).toInt = (x_990).toInt + 3 := by rw [ex_1080]; exact i_add_rg (a2 := (x_990).toInt) (b2 := 3) rfl rfl h_991 (rg_k (3 : Int32) 3 rfl) (by decide)
                  refine pl_i hx hb hK hP hL_w_981 hK_w_981 hN_w_981 (rg_in h_1081 (by decide)) dX12_worst_78 ?_
                  refine lv_topi (fun x_1082 ex_1082 => ?_)
                  refine lv_iload_n hx hb dX12_worst_79 rfl (lv_at hl 4 rfl) ?_
                  refine lv_icmp_gt (tgt := 86) hx hb dX12_worst_80 (by decide) (fun c_1083 => ?_) (fun c_1083 => ?_)
                  · have tc_1084 : (x_917).toInt < (x_1082).toInt := Int32.lt_iff_toInt_lt.mp c_1083
                    have h_1085 : rg x_917 (-2147483648) 2147483646 := rg_lt1 c_1083 (rg_full _) (rg_full _) (by decide)
                    have uh_1085 := h_1085.1
                    have vh_1085 := h_1085.2
                    have h_1086 : rg x_1082 (-2147483647) 2147483647 := rg_lt2 c_1083 (rg_full _) (rg_full _) (by decide)
                    have uh_1086 := h_1086.1
                    have vh_1086 := h_1086.2
                    exact K_1071 _ _ _ hG hP hD hS (lv_sub hl [1, 2, 3, 6, 0] rfl)
                  · have tc_1087 : (x_1082).toInt ≤ (x_917).toInt := Int32.le_iff_toInt_le.mp (nlt c_1083)
                    refine lv_goto (tgt := 99) hx hb dX12_worst_83 (by decide) ?_
                    exact K_1032 x_917 x_918 _ _ _ (rg_w h_1079 (by decide)) hG hP hD hS (lv_sub hl [1, 2, 3, 4, 5, 6] rfl)
    exact L_975 _ (0 : Int32) (0 : Int32) (0 : Int32) _ _ _ (rg_w (rg_k (0 : Int32) 0 rfl) (by decide)) (rg_w (rg_k (0 : Int32) 0 rfl) (by decide)) (Nat.lt_succ_self _) hG hP hD hS (lv_sub hl [3, 4, 5, 2, 1, 0] rfl)
  exact go _ _ _ hP hD hS hl
