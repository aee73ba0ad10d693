theorem dX12_copy_2 : decode cX12_copy 2 = .ok (.iload_n 2, 1) := oc_28 (by decide +kernel)
theorem dX12_copy_3 : decode cX12_copy 3 = .ok (.sipush 12720, 3) := oc_17 (a := 49) (b := 176) (by decide +kernel)
theorem dX12_copy_6 : decode cX12_copy 6 = .ok (.if_icmp .ge 15, 3) := oc_162 (a := 0) (b := 15) (by decide +kernel)
theorem dX12_copy_9 : decode cX12_copy 9 = .ok (.aload_n 1, 1) := oc_43 (by decide +kernel)
theorem dX12_copy_10 : decode cX12_copy 10 = .ok (.iload_n 2, 1) := oc_28 (by decide +kernel)
theorem dX12_copy_11 : decode cX12_copy 11 = .ok (.aload_n 0, 1) := oc_42 (by decide +kernel)
theorem dX12_copy_12 : decode cX12_copy 12 = .ok (.iload_n 2, 1) := oc_28 (by decide +kernel)
theorem dX12_copy_13 : decode cX12_copy 13 = .ok (.iaload, 1) := oc_46 (by decide +kernel)
theorem dX12_copy_14 : decode cX12_copy 14 = .ok (.iastore, 1) := oc_79 (by decide +kernel)
theorem dX12_copy_15 : decode cX12_copy 15 = .ok (.iinc 2 1, 3) := oc_132 (b := 1) (by decide +kernel)
theorem dX12_copy_18 : decode cX12_copy 18 = .ok (.goto (-16), 3) := oc_167 (a := 255) (b := 240) (by decide +kernel)
theorem dX12_copy_0 : decode cX12_copy 0 = .ok (.iconst 0, 1) := oc_3 (by decide +kernel)
theorem dX12_copy_1 : decode cX12_copy 1 = .ok (.istore_n 2, 1) := oc_61 (by decide +kernel)
theorem dX12_copy_21 : decode cX12_copy 21 = .ok (.return_, 1) := oc_177 (by decide +kernel)
theorem dX12_isMonth_0 : decode cX12_isMonth 0 = .ok (.iload_n 0, 1) := oc_26 (by decide +kernel)
theorem dX12_isMonth_1 : decode cX12_isMonth 1 = .ok (.iconst 0, 1) := oc_3 (by decide +kernel)
theorem dX12_isMonth_2 : decode cX12_isMonth 2 = .ok (.sipush 599, 3) := oc_17 (a := 2) (b := 87) (by decide +kernel)
theorem dX12_isMonth_5 : decode cX12_isMonth 5 = .ok (.invokestatic 62, 3) := oc_184 (a := 0) (b := 62) (by decide +kernel)
theorem dX12_isMonth_8 : decode cX12_isMonth 8 = .ok (.ireturn, 1) := oc_172 (by decide +kernel)
theorem dX12_isRing_0 : decode cX12_isRing 0 = .ok (.iload_n 1, 1) := oc_27 (by decide +kernel)
theorem dX12_isRing_1 : decode cX12_isRing 1 = .ok (.iconst 0, 1) := oc_3 (by decide +kernel)
theorem dX12_isRing_2 : decode cX12_isRing 2 = .ok (.aload_n 0, 1) := oc_42 (by decide +kernel)
theorem dX12_isRing_3 : decode cX12_isRing 3 = .ok (.getfield 7, 3) := oc_180 (a := 0) (b := 7) (by decide +kernel)
theorem dX12_isRing_6 : decode cX12_isRing 6 = .ok (.iconst 1, 1) := oc_4 (by decide +kernel)
theorem dX12_isRing_7 : decode cX12_isRing 7 = .ok (.iaload, 1) := oc_46 (by decide +kernel)
theorem dX12_isRing_8 : decode cX12_isRing 8 = .ok (.iconst 1, 1) := oc_4 (by decide +kernel)
theorem dX12_isRing_9 : decode cX12_isRing 9 = .ok (.isub, 1) := oc_100 (by decide +kernel)
theorem dX12_isRing_10 : decode cX12_isRing 10 = .ok (.invokestatic 62, 3) := oc_184 (a := 0) (b := 62) (by decide +kernel)
theorem dX12_isRing_13 : decode cX12_isRing 13 = .ok (.ireturn, 1) := oc_172 (by decide +kernel)
theorem dX12_isCell_0 : decode cX12_isCell 0 = .ok (.iload_n 1, 1) := oc_27 (by decide +kernel)
theorem dX12_isCell_1 : decode cX12_isCell 1 = .ok (.iconst 0, 1) := oc_3 (by decide +kernel)
theorem dX12_isCell_2 : decode cX12_isCell 2 = .ok (.aload_n 0, 1) := oc_42 (by decide +kernel)
theorem dX12_isCell_3 : decode cX12_isCell 3 = .ok (.getfield 7, 3) := oc_180 (a := 0) (b := 7) (by decide +kernel)
theorem dX12_isCell_6 : decode cX12_isCell 6 = .ok (.iconst 2, 1) := oc_5 (by decide +kernel)
theorem dX12_isCell_7 : decode cX12_isCell 7 = .ok (.iaload, 1) := oc_46 (by decide +kernel)
theorem dX12_isCell_8 : decode cX12_isCell 8 = .ok (.iconst 1, 1) := oc_4 (by decide +kernel)
theorem dX12_isCell_9 : decode cX12_isCell 9 = .ok (.isub, 1) := oc_100 (by decide +kernel)
theorem dX12_isCell_10 : decode cX12_isCell 10 = .ok (.invokestatic 62, 3) := oc_184 (a := 0) (b := 62) (by decide +kernel)
theorem dX12_isCell_13 : decode cX12_isCell 13 = .ok (.ireturn, 1) := oc_172 (by decide +kernel)
theorem dX12_isPerson_0 : decode cX12_isPerson 0 = .ok (.iload_n 1, 1) := oc_27 (by decide +kernel)
theorem dX12_isPerson_1 : decode cX12_isPerson 1 = .ok (.iconst 0, 1) := oc_3 (by decide +kernel)
theorem dX12_isPerson_2 : decode cX12_isPerson 2 = .ok (.aload_n 0, 1) := oc_42 (by decide +kernel)
theorem dX12_isPerson_3 : decode cX12_isPerson 3 = .ok (.getfield 7, 3) := oc_180 (a := 0) (b := 7) (by decide +kernel)
theorem dX12_isPerson_6 : decode cX12_isPerson 6 = .ok (.iconst 5, 1) := oc_8 (by decide +kernel)
theorem dX12_isPerson_7 : decode cX12_isPerson 7 = .ok (.iaload, 1) := oc_46 (by decide +kernel)
theorem dX12_isPerson_8 : decode cX12_isPerson 8 = .ok (.iconst 1, 1) := oc_4 (by decide +kernel)
theorem dX12_isPerson_9 : decode cX12_isPerson 9 = .ok (.isub, 1) := oc_100 (by decide +kernel)
theorem dX12_isPerson_10 : decode cX12_isPerson 10 = .ok (.invokestatic 62, 3) := oc_184 (a := 0) (b := 62) (by decide +kernel)
theorem dX12_isPerson_13 : decode cX12_isPerson 13 = .ok (.ireturn, 1) := oc_172 (by decide +kernel)
theorem dX12_isRise_0 : decode cX12_isRise 0 = .ok (.iload_n 0, 1) := oc_26 (by decide +kernel)
theorem dX12_isRise_1 : decode cX12_isRise 1 = .ok (.iconst 0, 1) := oc_3 (by decide +kernel)
theorem dX12_isRise_2 : decode cX12_isRise 2 = .ok (.iconst 2, 1) := oc_5 (by decide +kernel)
theorem dX12_isRise_3 : decode cX12_isRise 3 = .ok (.invokestatic 62, 3) := oc_184 (a := 0) (b := 62) (by decide +kernel)
theorem dX12_isRise_6 : decode cX12_isRise 6 = .ok (.ireturn, 1) := oc_172 (by decide +kernel)
theorem dX12_ring_0 : decode cX12_ring 0 = .ok (.aload_n 0, 1) := oc_42 (by decide +kernel)
theorem dX12_ring_1 : decode cX12_ring 1 = .ok (.getfield 7, 3) := oc_180 (a := 0) (b := 7) (by decide +kernel)
theorem dX12_ring_4 : decode cX12_ring 4 = .ok (.iconst 1, 1) := oc_4 (by decide +kernel)
theorem dX12_ring_5 : decode cX12_ring 5 = .ok (.iaload, 1) := oc_46 (by decide +kernel)
theorem dX12_ring_6 : decode cX12_ring 6 = .ok (.iconst 5, 1) := oc_8 (by decide +kernel)
theorem dX12_ring_7 : decode cX12_ring 7 = .ok (.if_icmp .ne 5, 3) := oc_160 (a := 0) (b := 5) (by decide +kernel)
theorem dX12_ring_12 : decode cX12_ring 12 = .ok (.aload_n 0, 1) := oc_42 (by decide +kernel)
theorem dX12_ring_13 : decode cX12_ring 13 = .ok (.getfield 7, 3) := oc_180 (a := 0) (b := 7) (by decide +kernel)
theorem dX12_ring_16 : decode cX12_ring 16 = .ok (.iconst 1, 1) := oc_4 (by decide +kernel)
theorem dX12_ring_17 : decode cX12_ring 17 = .ok (.dup2, 1) := oc_92 (by decide +kernel)
theorem dX12_ring_18 : decode cX12_ring 18 = .ok (.iaload, 1) := oc_46 (by decide +kernel)
theorem dX12_ring_19 : decode cX12_ring 19 = .ok (.iconst 1, 1) := oc_4 (by decide +kernel)
theorem dX12_ring_20 : decode cX12_ring 20 = .ok (.iadd, 1) := oc_96 (by decide +kernel)
theorem dX12_ring_21 : decode cX12_ring 21 = .ok (.iastore, 1) := oc_79 (by decide +kernel)
theorem dX12_ring_22 : decode cX12_ring 22 = .ok (.aload_n 0, 1) := oc_42 (by decide +kernel)
theorem dX12_ring_23 : decode cX12_ring 23 = .ok (.getfield 7, 3) := oc_180 (a := 0) (b := 7) (by decide +kernel)
theorem dX12_ring_26 : decode cX12_ring 26 = .ok (.iconst 1, 1) := oc_4 (by decide +kernel)
theorem dX12_ring_27 : decode cX12_ring 27 = .ok (.iaload, 1) := oc_46 (by decide +kernel)
theorem dX12_ring_28 : decode cX12_ring 28 = .ok (.iconst 1, 1) := oc_4 (by decide +kernel)
theorem dX12_ring_29 : decode cX12_ring 29 = .ok (.isub, 1) := oc_100 (by decide +kernel)
theorem dX12_ring_30 : decode cX12_ring 30 = .ok (.ireturn, 1) := oc_172 (by decide +kernel)
theorem dX12_ring_10 : decode cX12_ring 10 = .ok (.iconst (-1), 1) := oc_2 (by decide +kernel)
theorem dX12_ring_11 : decode cX12_ring 11 = .ok (.ireturn, 1) := oc_172 (by decide +kernel)
theorem dX12_cell_0 : decode cX12_cell 0 = .ok (.aload_n 0, 1) := oc_42 (by decide +kernel)
theorem dX12_cell_1 : decode cX12_cell 1 = .ok (.iload_n 1, 1) := oc_27 (by decide +kernel)
theorem tw_231 : Cond.methodLink RX12 66 yX12_isRing ∈ wsL_law := sg_10 _ (List.mem_of_getElem? (i := 15) rfl)
theorem tw_232 : Cond.instanceMethod yX12_isRing ∈ wsL_law := sg_10 _ (List.mem_of_getElem? (i := 16) rfl)
theorem tw_233 : Cond.selects RX12 yX12_isRing yX12_isRing ∈ wsL_law := sg_10 _ (List.mem_of_getElem? (i := 17) rfl)
theorem tw_234 : Cond.code yX12_isRing cX12_isRing 2 (some .boolean) ∈ wsL_law := sg_10 _ (List.mem_of_getElem? (i := 18) rfl)
theorem dX12_cell_2 : decode cX12_cell 2 = .ok (.invokevirtual 66, 3) := oc_182 (a := 0) (b := 66) (by decide +kernel)
theorem dX12_cell_86 : decode cX12_cell 86 = .ok (.iconst (-1), 1) := oc_2 (by decide +kernel)
theorem dX12_cell_87 : decode cX12_cell 87 = .ok (.ireturn, 1) := oc_172 (by decide +kernel)
theorem dX12_cell_5 : decode cX12_cell 5 = .ok (.ifCond .eq 81, 3) := oc_153 (a := 0) (b := 81) (by decide +kernel)
theorem dX12_cell_8 : decode cX12_cell 8 = .ok (.iload_n 2, 1) := oc_28 (by decide +kernel)
theorem dX12_cell_9 : decode cX12_cell 9 = .ok (.sipush (-500), 3) := oc_17 (a := 254) (b := 12) (by decide +kernel)
theorem dX12_cell_12 : decode cX12_cell 12 = .ok (.sipush 3000, 3) := oc_17 (a := 11) (b := 184) (by decide +kernel)
theorem dX12_cell_15 : decode cX12_cell 15 = .ok (.invokestatic 62, 3) := oc_184 (a := 0) (b := 62) (by decide +kernel)
theorem dX12_cell_18 : decode cX12_cell 18 = .ok (.ifCond .eq 68, 3) := oc_153 (a := 0) (b := 68) (by decide +kernel)
theorem dX12_cell_21 : decode cX12_cell 21 = .ok (.iload_n 3, 1) := oc_29 (by decide +kernel)
theorem dX12_cell_22 : decode cX12_cell 22 = .ok (.iconst 0, 1) := oc_3 (by decide +kernel)
theorem dX12_cell_23 : decode cX12_cell 23 = .ok (.bipush 31, 2) := oc_16 (a := 31) (by decide +kernel)
theorem dX12_cell_25 : decode cX12_cell 25 = .ok (.invokestatic 62, 3) := oc_184 (a := 0) (b := 62) (by decide +kernel)
theorem dX12_cell_28 : decode cX12_cell 28 = .ok (.ifCond .eq 58, 3) := oc_153 (a := 0) (b := 58) (by decide +kernel)
theorem dX12_cell_31 : decode cX12_cell 31 = .ok (.iload 4, 2) := oc_21 (by decide +kernel)
theorem dX12_cell_33 : decode cX12_cell 33 = .ok (.iconst 0, 1) := oc_3 (by decide +kernel)
theorem dX12_cell_34 : decode cX12_cell 34 = .ok (.bipush 31, 2) := oc_16 (a := 31) (by decide +kernel)
theorem dX12_cell_36 : decode cX12_cell 36 = .ok (.invokestatic 62, 3) := oc_184 (a := 0) (b := 62) (by decide +kernel)
theorem dX12_cell_39 : decode cX12_cell 39 = .ok (.ifCond .eq 47, 3) := oc_153 (a := 0) (b := 47) (by decide +kernel)
theorem dX12_cell_42 : decode cX12_cell 42 = .ok (.iload 5, 2) := oc_21 (by decide +kernel)
theorem dX12_cell_44 : decode cX12_cell 44 = .ok (.iconst 0, 1) := oc_3 (by decide +kernel)
theorem dX12_cell_45 : decode cX12_cell 45 = .ok (.sipush 500, 3) := oc_17 (a := 1) (b := 244) (by decide +kernel)
theorem dX12_cell_48 : decode cX12_cell 48 = .ok (.invokestatic 62, 3) := oc_184 (a := 0) (b := 62) (by decide +kernel)
theorem dX12_cell_51 : decode cX12_cell 51 = .ok (.ifCond .eq 35, 3) := oc_153 (a := 0) (b := 35) (by decide +kernel)
theorem dX12_cell_54 : decode cX12_cell 54 = .ok (.iload 6, 2) := oc_21 (by decide +kernel)
theorem dX12_cell_56 : decode cX12_cell 56 = .ok (.iconst 0, 1) := oc_3 (by decide +kernel)
theorem dX12_cell_57 : decode cX12_cell 57 = .ok (.sipush 400, 3) := oc_17 (a := 1) (b := 144) (by decide +kernel)
theorem dX12_cell_60 : decode cX12_cell 60 = .ok (.invokestatic 62, 3) := oc_184 (a := 0) (b := 62) (by decide +kernel)
theorem dX12_cell_63 : decode cX12_cell 63 = .ok (.ifCond .eq 23, 3) := oc_153 (a := 0) (b := 23) (by decide +kernel)
theorem dX12_cell_66 : decode cX12_cell 66 = .ok (.aload_n 0, 1) := oc_42 (by decide +kernel)
theorem dX12_cell_67 : decode cX12_cell 67 = .ok (.getfield 7, 3) := oc_180 (a := 0) (b := 7) (by decide +kernel)
theorem dX12_cell_70 : decode cX12_cell 70 = .ok (.iconst 0, 1) := oc_3 (by decide +kernel)
theorem dX12_cell_71 : decode cX12_cell 71 = .ok (.iaload, 1) := oc_46 (by decide +kernel)
theorem dX12_cell_72 : decode cX12_cell 72 = .ok (.ifCond .gt 14, 3) := oc_157 (a := 0) (b := 14) (by decide +kernel)
theorem dX12_cell_75 : decode cX12_cell 75 = .ok (.aload_n 0, 1) := oc_42 (by decide +kernel)
theorem dX12_cell_76 : decode cX12_cell 76 = .ok (.getfield 7, 3) := oc_180 (a := 0) (b := 7) (by decide +kernel)
theorem dX12_cell_79 : decode cX12_cell 79 = .ok (.iconst 2, 1) := oc_5 (by decide +kernel)
theorem dX12_cell_80 : decode cX12_cell 80 = .ok (.iaload, 1) := oc_46 (by decide +kernel)
theorem dX12_cell_81 : decode cX12_cell 81 = .ok (.bipush 40, 2) := oc_16 (a := 40) (by decide +kernel)
theorem dX12_cell_83 : decode cX12_cell 83 = .ok (.if_icmp .ne 5, 3) := oc_160 (a := 0) (b := 5) (by decide +kernel)
theorem dX12_cell_88 : decode cX12_cell 88 = .ok (.bipush 100, 2) := oc_16 (a := 100) (by decide +kernel)
theorem dX12_cell_90 : decode cX12_cell 90 = .ok (.bipush 16, 2) := oc_16 (a := 16) (by decide +kernel)
theorem dX12_cell_92 : decode cX12_cell 92 = .ok (.aload_n 0, 1) := oc_42 (by decide +kernel)
theorem dX12_cell_93 : decode cX12_cell 93 = .ok (.getfield 7, 3) := oc_180 (a := 0) (b := 7) (by decide +kernel)
theorem dX12_cell_96 : decode cX12_cell 96 = .ok (.iconst 2, 1) := oc_5 (by decide +kernel)
theorem dX12_cell_97 : decode cX12_cell 97 = .ok (.iaload, 1) := oc_46 (by decide +kernel)
theorem dX12_cell_98 : decode cX12_cell 98 = .ok (.imul, 1) := oc_104 (by decide +kernel)
theorem dX12_cell_99 : decode cX12_cell 99 = .ok (.iadd, 1) := oc_96 (by decide +kernel)
theorem dX12_cell_100 : decode cX12_cell 100 = .ok (.istore 7, 2) := oc_54 (by decide +kernel)
theorem dX12_cell_102 : decode cX12_cell 102 = .ok (.aload_n 0, 1) := oc_42 (by decide +kernel)
theorem dX12_cell_103 : decode cX12_cell 103 = .ok (.getfield 7, 3) := oc_180 (a := 0) (b := 7) (by decide +kernel)
theorem dX12_cell_106 : decode cX12_cell 106 = .ok (.iload 7, 2) := oc_21 (by decide +kernel)
theorem dX12_cell_108 : decode cX12_cell 108 = .ok (.iconst 0, 1) := oc_3 (by decide +kernel)
theorem dX12_cell_109 : decode cX12_cell 109 = .ok (.iadd, 1) := oc_96 (by decide +kernel)
theorem dX12_cell_110 : decode cX12_cell 110 = .ok (.iload_n 1, 1) := oc_27 (by decide +kernel)
theorem dX12_cell_111 : decode cX12_cell 111 = .ok (.iastore, 1) := oc_79 (by decide +kernel)
theorem dX12_cell_112 : decode cX12_cell 112 = .ok (.aload_n 0, 1) := oc_42 (by decide +kernel)
theorem dX12_cell_113 : decode cX12_cell 113 = .ok (.getfield 7, 3) := oc_180 (a := 0) (b := 7) (by decide +kernel)
theorem dX12_cell_116 : decode cX12_cell 116 = .ok (.iload 7, 2) := oc_21 (by decide +kernel)
theorem dX12_cell_118 : decode cX12_cell 118 = .ok (.iconst 1, 1) := oc_4 (by decide +kernel)
theorem dX12_cell_119 : decode cX12_cell 119 = .ok (.iadd, 1) := oc_96 (by decide +kernel)
theorem dX12_cell_120 : decode cX12_cell 120 = .ok (.iload_n 2, 1) := oc_28 (by decide +kernel)
theorem dX12_cell_121 : decode cX12_cell 121 = .ok (.iastore, 1) := oc_79 (by decide +kernel)
theorem dX12_cell_122 : decode cX12_cell 122 = .ok (.aload_n 0, 1) := oc_42 (by decide +kernel)
theorem dX12_cell_123 : decode cX12_cell 123 = .ok (.getfield 7, 3) := oc_180 (a := 0) (b := 7) (by decide +kernel)
theorem dX12_cell_126 : decode cX12_cell 126 = .ok (.iload 7, 2) := oc_21 (by decide +kernel)
theorem dX12_cell_128 : decode cX12_cell 128 = .ok (.iconst 2, 1) := oc_5 (by decide +kernel)
theorem dX12_cell_129 : decode cX12_cell 129 = .ok (.iadd, 1) := oc_96 (by decide +kernel)
theorem dX12_cell_130 : decode cX12_cell 130 = .ok (.iload_n 3, 1) := oc_29 (by decide +kernel)
theorem dX12_cell_131 : decode cX12_cell 131 = .ok (.iastore, 1) := oc_79 (by decide +kernel)
theorem dX12_cell_132 : decode cX12_cell 132 = .ok (.aload_n 0, 1) := oc_42 (by decide +kernel)
theorem dX12_cell_133 : decode cX12_cell 133 = .ok (.getfield 7, 3) := oc_180 (a := 0) (b := 7) (by decide +kernel)
theorem dX12_cell_136 : decode cX12_cell 136 = .ok (.iload 7, 2) := oc_21 (by decide +kernel)
theorem dX12_cell_138 : decode cX12_cell 138 = .ok (.iconst 3, 1) := oc_6 (by decide +kernel)
theorem dX12_cell_139 : decode cX12_cell 139 = .ok (.iadd, 1) := oc_96 (by decide +kernel)
theorem dX12_cell_140 : decode cX12_cell 140 = .ok (.iload 4, 2) := oc_21 (by decide +kernel)
theorem dX12_cell_142 : decode cX12_cell 142 = .ok (.iastore, 1) := oc_79 (by decide +kernel)
theorem dX12_cell_143 : decode cX12_cell 143 = .ok (.aload_n 0, 1) := oc_42 (by decide +kernel)
theorem dX12_cell_144 : decode cX12_cell 144 = .ok (.getfield 7, 3) := oc_180 (a := 0) (b := 7) (by decide +kernel)
theorem dX12_cell_147 : decode cX12_cell 147 = .ok (.iload 7, 2) := oc_21 (by decide +kernel)
theorem dX12_cell_149 : decode cX12_cell 149 = .ok (.iconst 4, 1) := oc_7 (by decide +kernel)
theorem dX12_cell_150 : decode cX12_cell 150 = .ok (.iadd, 1) := oc_96 (by decide +kernel)
theorem dX12_cell_151 : decode cX12_cell 151 = .ok (.iload 5, 2) := oc_21 (by decide +kernel)
theorem dX12_cell_153 : decode cX12_cell 153 = .ok (.iastore, 1) := oc_79 (by decide +kernel)
theorem dX12_cell_154 : decode cX12_cell 154 = .ok (.aload_n 0, 1) := oc_42 (by decide +kernel)
theorem dX12_cell_155 : decode cX12_cell 155 = .ok (.getfield 7, 3) := oc_180 (a := 0) (b := 7) (by decide +kernel)
theorem dX12_cell_158 : decode cX12_cell 158 = .ok (.iload 7, 2) := oc_21 (by decide +kernel)
theorem dX12_cell_160 : decode cX12_cell 160 = .ok (.iconst 5, 1) := oc_8 (by decide +kernel)
theorem dX12_cell_161 : decode cX12_cell 161 = .ok (.iadd, 1) := oc_96 (by decide +kernel)
theorem dX12_cell_162 : decode cX12_cell 162 = .ok (.iload 6, 2) := oc_21 (by decide +kernel)
theorem dX12_cell_164 : decode cX12_cell 164 = .ok (.iastore, 1) := oc_79 (by decide +kernel)
theorem dX12_cell_165 : decode cX12_cell 165 = .ok (.aload_n 0, 1) := oc_42 (by decide +kernel)
theorem dX12_cell_166 : decode cX12_cell 166 = .ok (.getfield 7, 3) := oc_180 (a := 0) (b := 7) (by decide +kernel)
theorem dX12_cell_169 : decode cX12_cell 169 = .ok (.iload 7, 2) := oc_21 (by decide +kernel)
theorem dX12_cell_171 : decode cX12_cell 171 = .ok (.bipush 14, 2) := oc_16 (a := 14) (by decide +kernel)
theorem dX12_cell_173 : decode cX12_cell 173 = .ok (.iadd, 1) := oc_96 (by decide +kernel)
theorem dX12_cell_174 : decode cX12_cell 174 = .ok (.iconst (-1), 1) := oc_2 (by decide +kernel)
theorem dX12_cell_175 : decode cX12_cell 175 = .ok (.iastore, 1) := oc_79 (by decide +kernel)
theorem dX12_cell_176 : decode cX12_cell 176 = .ok (.aload_n 0, 1) := oc_42 (by decide +kernel)
theorem dX12_cell_177 : decode cX12_cell 177 = .ok (.getfield 7, 3) := oc_180 (a := 0) (b := 7) (by decide +kernel)
theorem dX12_cell_180 : decode cX12_cell 180 = .ok (.iconst 2, 1) := oc_5 (by decide +kernel)
theorem dX12_cell_181 : decode cX12_cell 181 = .ok (.dup2, 1) := oc_92 (by decide +kernel)
theorem dX12_cell_182 : decode cX12_cell 182 = .ok (.iaload, 1) := oc_46 (by decide +kernel)
theorem dX12_cell_183 : decode cX12_cell 183 = .ok (.iconst 1, 1) := oc_4 (by decide +kernel)
theorem dX12_cell_184 : decode cX12_cell 184 = .ok (.iadd, 1) := oc_96 (by decide +kernel)
theorem dX12_cell_185 : decode cX12_cell 185 = .ok (.iastore, 1) := oc_79 (by decide +kernel)
theorem dX12_cell_186 : decode cX12_cell 186 = .ok (.aload_n 0, 1) := oc_42 (by decide +kernel)
theorem dX12_cell_187 : decode cX12_cell 187 = .ok (.getfield 7, 3) := oc_180 (a := 0) (b := 7) (by decide +kernel)
theorem dX12_cell_190 : decode cX12_cell 190 = .ok (.iconst 2, 1) := oc_5 (by decide +kernel)
theorem dX12_cell_191 : decode cX12_cell 191 = .ok (.iaload, 1) := oc_46 (by decide +kernel)
theorem dX12_cell_192 : decode cX12_cell 192 = .ok (.iconst 1, 1) := oc_4 (by decide +kernel)
theorem dX12_cell_193 : decode cX12_cell 193 = .ok (.isub, 1) := oc_100 (by decide +kernel)
theorem dX12_cell_194 : decode cX12_cell 194 = .ok (.ireturn, 1) := oc_172 (by decide +kernel)
theorem dX12_level_0 : decode cX12_level 0 = .ok (.iload_n 1, 1) := oc_27 (by decide +kernel)
theorem tw_259 : Cond.methodLink RX12 70 yX12_isRise ∈ wsL_law := sg_11 _ (List.mem_of_getElem? (i := 19) rfl)
theorem tw_260 : Cond.static yX12_isRise ∈ wsL_law := sg_11 _ (List.mem_of_getElem? (i := 20) rfl)
theorem tw_261 : Cond.code yX12_isRise cX12_isRise 1 (some .boolean) ∈ wsL_law := sg_11 _ (List.mem_of_getElem? (i := 21) rfl)
theorem dX12_level_1 : decode cX12_level 1 = .ok (.invokestatic 70, 3) := oc_184 (a := 0) (b := 70) (by decide +kernel)
theorem dX12_level_44 : decode cX12_level 44 = .ok (.iconst (-1), 1) := oc_2 (by decide +kernel)
theorem dX12_level_45 : decode cX12_level 45 = .ok (.ireturn, 1) := oc_172 (by decide +kernel)
theorem dX12_level_4 : decode cX12_level 4 = .ok (.ifCond .eq 40, 3) := oc_153 (a := 0) (b := 40) (by decide +kernel)
theorem dX12_level_7 : decode cX12_level 7 = .ok (.iload_n 2, 1) := oc_28 (by decide +kernel)
theorem tw_262 : Cond.methodLink RX12 73 yX12_isMonth ∈ wsL_law := sg_11 _ (List.mem_of_getElem? (i := 22) rfl)
theorem tw_263 : Cond.static yX12_isMonth ∈ wsL_law := sg_11 _ (List.mem_of_getElem? (i := 23) rfl)
theorem tw_264 : Cond.code yX12_isMonth cX12_isMonth 1 (some .boolean) ∈ wsL_law := sg_12 _ (List.mem_of_getElem? (i := 0) rfl)
theorem dX12_level_8 : decode cX12_level 8 = .ok (.invokestatic 73, 3) := oc_184 (a := 0) (b := 73) (by decide +kernel)
theorem dX12_level_11 : decode cX12_level 11 = .ok (.ifCond .eq 33, 3) := oc_153 (a := 0) (b := 33) (by decide +kernel)
theorem dX12_level_14 : decode cX12_level 14 = .ok (.iload_n 3, 1) := oc_29 (by decide +kernel)
theorem dX12_level_32 : decode cX12_level 32 = .ok (.aload_n 0, 1) := oc_42 (by decide +kernel)
theorem dX12_level_33 : decode cX12_level 33 = .ok (.getfield 7, 3) := oc_180 (a := 0) (b := 7) (by decide +kernel)
theorem dX12_level_36 : decode cX12_level 36 = .ok (.iconst 3, 1) := oc_6 (by decide +kernel)
theorem dX12_level_37 : decode cX12_level 37 = .ok (.iaload, 1) := oc_46 (by decide +kernel)
theorem dX12_level_38 : decode cX12_level 38 = .ok (.sipush 200, 3) := oc_17 (a := 0) (b := 200) (by decide +kernel)
theorem dX12_level_41 : decode cX12_level 41 = .ok (.if_icmp .ne 5, 3) := oc_160 (a := 0) (b := 5) (by decide +kernel)
theorem dX12_level_46 : decode cX12_level 46 = .ok (.sipush 1220, 3) := oc_17 (a := 4) (b := 196) (by decide +kernel)
theorem dX12_level_49 : decode cX12_level 49 = .ok (.iconst 5, 1) := oc_8 (by decide +kernel)
theorem dX12_level_50 : decode cX12_level 50 = .ok (.aload_n 0, 1) := oc_42 (by decide +kernel)
theorem dX12_level_51 : decode cX12_level 51 = .ok (.getfield 7, 3) := oc_180 (a := 0) (b := 7) (by decide +kernel)
theorem dX12_level_54 : decode cX12_level 54 = .ok (.iconst 3, 1) := oc_6 (by decide +kernel)
theorem dX12_level_55 : decode cX12_level 55 = .ok (.iaload, 1) := oc_46 (by decide +kernel)
theorem dX12_level_56 : decode cX12_level 56 = .ok (.imul, 1) := oc_104 (by decide +kernel)
theorem dX12_level_57 : decode cX12_level 57 = .ok (.iadd, 1) := oc_96 (by decide +kernel)
theorem dX12_level_58 : decode cX12_level 58 = .ok (.istore 5, 2) := oc_54 (by decide +kernel)
theorem dX12_level_60 : decode cX12_level 60 = .ok (.aload_n 0, 1) := oc_42 (by decide +kernel)
theorem dX12_level_61 : decode cX12_level 61 = .ok (.getfield 7, 3) := oc_180 (a := 0) (b := 7) (by decide +kernel)
theorem dX12_level_64 : decode cX12_level 64 = .ok (.iload 5, 2) := oc_21 (by decide +kernel)
theorem dX12_level_66 : decode cX12_level 66 = .ok (.iload_n 1, 1) := oc_27 (by decide +kernel)
theorem dX12_level_67 : decode cX12_level 67 = .ok (.iastore, 1) := oc_79 (by decide +kernel)
theorem dX12_level_68 : decode cX12_level 68 = .ok (.aload_n 0, 1) := oc_42 (by decide +kernel)
theorem dX12_level_69 : decode cX12_level 69 = .ok (.getfield 7, 3) := oc_180 (a := 0) (b := 7) (by decide +kernel)
theorem dX12_level_72 : decode cX12_level 72 = .ok (.iload 5, 2) := oc_21 (by decide +kernel)
theorem dX12_level_74 : decode cX12_level 74 = .ok (.iconst 1, 1) := oc_4 (by decide +kernel)
theorem dX12_level_75 : decode cX12_level 75 = .ok (.iadd, 1) := oc_96 (by decide +kernel)
theorem dX12_level_76 : decode cX12_level 76 = .ok (.iload_n 2, 1) := oc_28 (by decide +kernel)
theorem dX12_level_77 : decode cX12_level 77 = .ok (.iastore, 1) := oc_79 (by decide +kernel)
theorem dX12_level_78 : decode cX12_level 78 = .ok (.aload_n 0, 1) := oc_42 (by decide +kernel)
theorem dX12_level_79 : decode cX12_level 79 = .ok (.getfield 7, 3) := oc_180 (a := 0) (b := 7) (by decide +kernel)
theorem dX12_level_82 : decode cX12_level 82 = .ok (.iload 5, 2) := oc_21 (by decide +kernel)
theorem dX12_level_84 : decode cX12_level 84 = .ok (.iconst 2, 1) := oc_5 (by decide +kernel)
theorem dX12_level_85 : decode cX12_level 85 = .ok (.iadd, 1) := oc_96 (by decide +kernel)
theorem dX12_level_86 : decode cX12_level 86 = .ok (.iload_n 3, 1) := oc_29 (by decide +kernel)
theorem dX12_level_95 : decode cX12_level 95 = .ok (.iastore, 1) := oc_79 (by decide +kernel)
theorem dX12_level_96 : decode cX12_level 96 = .ok (.aload_n 0, 1) := oc_42 (by decide +kernel)
theorem dX12_level_97 : decode cX12_level 97 = .ok (.getfield 7, 3) := oc_180 (a := 0) (b := 7) (by decide +kernel)
theorem dX12_level_100 : decode cX12_level 100 = .ok (.iload 5, 2) := oc_21 (by decide +kernel)
theorem dX12_level_102 : decode cX12_level 102 = .ok (.iconst 3, 1) := oc_6 (by decide +kernel)
theorem dX12_level_103 : decode cX12_level 103 = .ok (.iadd, 1) := oc_96 (by decide +kernel)
theorem dX12_level_104 : decode cX12_level 104 = .ok (.iload_n 3, 1) := oc_29 (by decide +kernel)
theorem dX12_level_114 : decode cX12_level 114 = .ok (.iastore, 1) := oc_79 (by decide +kernel)
theorem dX12_level_115 : decode cX12_level 115 = .ok (.aload_n 0, 1) := oc_42 (by decide +kernel)
theorem dX12_level_116 : decode cX12_level 116 = .ok (.getfield 7, 3) := oc_180 (a := 0) (b := 7) (by decide +kernel)
theorem dX12_level_119 : decode cX12_level 119 = .ok (.iload 5, 2) := oc_21 (by decide +kernel)
theorem dX12_level_121 : decode cX12_level 121 = .ok (.iconst 4, 1) := oc_7 (by decide +kernel)
theorem dX12_level_122 : decode cX12_level 122 = .ok (.iadd, 1) := oc_96 (by decide +kernel)
theorem dX12_level_123 : decode cX12_level 123 = .ok (.aload_n 0, 1) := oc_42 (by decide +kernel)
theorem dX12_level_124 : decode cX12_level 124 = .ok (.getfield 7, 3) := oc_180 (a := 0) (b := 7) (by decide +kernel)
theorem dX12_level_127 : decode cX12_level 127 = .ok (.iconst 0, 1) := oc_3 (by decide +kernel)
theorem dX12_level_128 : decode cX12_level 128 = .ok (.iaload, 1) := oc_46 (by decide +kernel)
theorem dX12_level_129 : decode cX12_level 129 = .ok (.iastore, 1) := oc_79 (by decide +kernel)
theorem dX12_level_130 : decode cX12_level 130 = .ok (.aload_n 0, 1) := oc_42 (by decide +kernel)
theorem dX12_level_131 : decode cX12_level 131 = .ok (.getfield 7, 3) := oc_180 (a := 0) (b := 7) (by decide +kernel)
theorem dX12_level_134 : decode cX12_level 134 = .ok (.iconst 3, 1) := oc_6 (by decide +kernel)
theorem dX12_level_135 : decode cX12_level 135 = .ok (.dup2, 1) := oc_92 (by decide +kernel)
theorem dX12_level_136 : decode cX12_level 136 = .ok (.iaload, 1) := oc_46 (by decide +kernel)
theorem dX12_level_137 : decode cX12_level 137 = .ok (.iconst 1, 1) := oc_4 (by decide +kernel)
theorem dX12_level_138 : decode cX12_level 138 = .ok (.iadd, 1) := oc_96 (by decide +kernel)
theorem dX12_level_139 : decode cX12_level 139 = .ok (.iastore, 1) := oc_79 (by decide +kernel)
theorem dX12_level_140 : decode cX12_level 140 = .ok (.aload_n 0, 1) := oc_42 (by decide +kernel)
theorem dX12_level_141 : decode cX12_level 141 = .ok (.getfield 7, 3) := oc_180 (a := 0) (b := 7) (by decide +kernel)
theorem dX12_level_144 : decode cX12_level 144 = .ok (.iconst 3, 1) := oc_6 (by decide +kernel)
theorem dX12_level_145 : decode cX12_level 145 = .ok (.iaload, 1) := oc_46 (by decide +kernel)
theorem dX12_level_146 : decode cX12_level 146 = .ok (.ireturn, 1) := oc_172 (by decide +kernel)
theorem dX12_level_105 : decode cX12_level 105 = .ok (.ifCond .eq 8, 3) := oc_153 (a := 0) (b := 8) (by decide +kernel)
theorem dX12_level_113 : decode cX12_level 113 = .ok (.iconst 0, 1) := oc_3 (by decide +kernel)
theorem dX12_level_108 : decode cX12_level 108 = .ok (.iload 4, 2) := oc_21 (by decide +kernel)
theorem dX12_level_110 : decode cX12_level 110 = .ok (.goto 4, 3) := oc_167 (a := 0) (b := 4) (by decide +kernel)
theorem dX12_level_87 : decode cX12_level 87 = .ok (.ifCond .eq 7, 3) := oc_153 (a := 0) (b := 7) (by decide +kernel)
theorem dX12_level_94 : decode cX12_level 94 = .ok (.iconst 0, 1) := oc_3 (by decide +kernel)
theorem dX12_level_90 : decode cX12_level 90 = .ok (.iconst 1, 1) := oc_4 (by decide +kernel)
theorem dX12_level_91 : decode cX12_level 91 = .ok (.goto 4, 3) := oc_167 (a := 0) (b := 4) (by decide +kernel)
theorem dX12_level_15 : decode cX12_level 15 = .ok (.ifCond .eq 17, 3) := oc_153 (a := 0) (b := 17) (by decide +kernel)
theorem dX12_level_18 : decode cX12_level 18 = .ok (.iload 4, 2) := oc_21 (by decide +kernel)
theorem dX12_level_20 : decode cX12_level 20 = .ok (.sipush (-1000), 3) := oc_17 (a := 252) (b := 24) (by decide +kernel)
theorem dX12_level_23 : decode cX12_level 23 = .ok (.sipush 5000, 3) := oc_17 (a := 19) (b := 136) (by decide +kernel)
theorem dX12_level_26 : decode cX12_level 26 = .ok (.invokestatic 62, 3) := oc_184 (a := 0) (b := 62) (by decide +kernel)
theorem dX12_level_29 : decode cX12_level 29 = .ok (.ifCond .eq 15, 3) := oc_153 (a := 0) (b := 15) (by decide +kernel)
theorem pq_c0 {r : Nat → Nat → Int32} {a b : Nat} : r = va_up r a (va_cpy (r b) (r a) 0 0 0) := by
  funext q
  by_cases h : q = a
  · subst h; rw [va_up_self]; funext j; unfold va_cpy; rw [if_neg (by omega)]
  · rw [va_up_ne _ _ h]
theorem pq_c2 {r0 r r1 : Nat → Nat → Int32} {a b i : Nat} (hab : b ≠ a) (h : r = va_up r0 a (va_cpy (r0 b) (r0 a) 0 0 i)) (hi : i < 2 ^ 31) (e : r1 = va_up r a (upd (r a) (nI i).toNatClampNeg (r b (nI i).toNatClampNeg))) : r1 = va_up r0 a (va_cpy (r0 b) (r0 a) 0 0 (i + 1)) := by
  subst e
  rw [nI_clamp hi]
  funext q
  by_cases hq : q = a
  · subst hq
    rw [va_up_self, va_up_self, h, va_up_self, va_up_ne _ _ hab]
    funext j
    unfold upd va_cpy
    by_cases hj : j = i
    · rw [if_pos hj, if_pos (by omega), hj]; congr 1; omega
    · rw [if_neg hj]
      by_cases h2 : j < i
      · rw [if_pos (by omega), if_pos (by omega)]
      · rw [if_neg (by omega), if_neg (by omega)]
  · rw [va_up_ne _ _ hq, va_up_ne _ _ hq, h, va_up_ne _ _ hq]
set_option maxHeartbeats 4000000 in
set_option maxRecDepth 100000 in
theorem lp_X12_copy_2 (l : Launch) (D : va_G) (t : pq_T) (σ : pq_S) (I : Nat → Nat → Int32) (J : Nat → Nat → Int64) (ri : Nat → Nat → Int32) (rj : Nat → Nat → Int64) (rq : Nat → Nat → Option Nat) (fr : Nat) (to : Nat) (n_a : Nat) (hL_fr : fr ∈ σ.1) (hK_fr : σ.2.1 fr = 13) (hN_fr : σ.2.2.2 fr = n_a) (hL_to : to ∈ σ.1) (hK_to : σ.2.1 to = 13) (hN_to : σ.2.2.2 to = n_a) (hn : n_a = 12720) (hab : fr ≠ to) {p : Program} {e : Env} {s : State} {m : MethodId} {args : Array Value} {below : List Frame} {meth : Method} {c : Code} {cells slots : Nat} {Q : State → Prop} {A : Nat → Prop} (hx : p.tables.exec = Jvm.exec) (hb : c.code = cX12_copy) (hml : c.maxLocals = 3) (hts : ∀ w ∈ (wa yX12_copy cX12_copy 3 none), w.before args s = true) (hown : s.vm.findClass RX12 = some m.cls) (hK : va_K D vwCl (pq_ty t) s) (hN : pq_N s) (hA : ∀ q : Nat, s.heap.size ≤ q → A q) (hcs : cells = 0 ∧ slots = 0)
    (kk : ∀ (i : Nat) (ri' : Nat → Nat → Int32) (H : Heap) (locs : List Loc) (ls : Array Slot), (i ≤ 12720) → (ri' = va_up ri to (va_cpy (ri fr) (ri to) 0 0 i)) → (12720 ≤ i) → va_P D vwCl (pq_P t σ (I, J, ri', rj, rq)) H → va_D A (pq_P t σ (I, J, ri', rj, rq)) → va_S A s.heap H locs → lv_has ls 3 [(2, .int (nI i)), (0, .ref fr), (1, .ref to)] → W p l e ({ frames := 0, cells := 0, slots := 0, locals := 0 } : Room) s m args below meth c H locs cells slots Q (F0 m 21 ls [])) :
    ∀ (n : Nat) (i : Nat) (ri' : Nat → Nat → Int32) (H : Heap) (locs : List Loc) (ls : Array Slot), (i ≤ 12720) → (ri' = va_up ri to (va_cpy (ri fr) (ri to) 0 0 i)) → (12720 - i) < n → va_P D vwCl (pq_P t σ (I, J, ri', rj, rq)) H → va_D A (pq_P t σ (I, J, ri', rj, rq)) → va_S A s.heap H locs → lv_has ls 3 [(2, .int (nI i)), (0, .ref fr), (1, .ref to)] → W p l e ({ frames := 0, cells := 0, slots := 0, locals := 0 } : Room) s m args below meth c H locs cells slots Q (F0 m 2 ls []) := by
  obtain ⟨rfl, rfl⟩ := hcs
  intro n
  induction n with
  | zero => intro i ri' H locs ls hi hf hm; exact absurd hm (Nat.not_lt_zero _)
  | succ n ih =>
    intro i ri' H locs ls hi hf hm hP hD hS hl
    refine lv_iload_n hx hb dX12_copy_2 rfl (lv_at hl 0 rfl) ?_
    refine lv_sipush (v := 12720) hx hb dX12_copy_3 (by decide +kernel) ?_
    refine lv_icmp_ge (tgt := 21) hx hb dX12_copy_6 (by decide +kernel) (fun c_1 => ?_) (fun c_1 => ?_)
    · have nc_1 := nq_le (a := 12720) (b := i) (by omega) (by omega) c_1
      exact kk i ri' _ _ _ hi hf nc_1 hP hD hS (lv_sub hl [0, 1, 2] rfl)
    · have nc_1 := nq_nle (a := 12720) (b := i) (by omega) (by omega) c_1
      refine lv_aload_n hx hb dX12_copy_9 rfl (lv_at hl 2 rfl) ?_
      refine lv_iload_n hx hb dX12_copy_10 rfl (lv_at hl 0 rfl) ?_
      refine lv_aload_n hx hb dX12_copy_11 rfl (lv_at hl 1 rfl) ?_
      refine lv_iload_n hx hb dX12_copy_12 rfl (lv_at hl 0 rfl) ?_
      refine pl_i hx hb hK hP hL_fr hK_fr hN_fr (nI_in (c := i) (by omega) (by omega)) dX12_copy_13 ?_
      refine lv_topi (fun x_2 ex_2 => ?_)
      refine pt_i hx hb hK hP hD hS hL_to hK_to hN_to (nI_in (c := i) (by omega) (by omega)) dX12_copy_14 (fun r_3 H locs er_3 hP hD hS => ?_)
      refine lv_iinc (v := (nI (i + 1))) (lv' := [(2, .int (nI (i + 1))), (0, .ref fr), (1, .ref to)]) hx hb dX12_copy_15 hl (k := 0) rfl (nI_1 i) (by decide +kernel) rfl (fun ls hl => ?_)
      refine lv_goto (tgt := 2) hx hb dX12_copy_18 (by decide +kernel) ?_
      exact ih (i + 1) r_3 _ _ _ (by omega) (pq_c2 hab hf (by omega) (by rw [ex_2] at er_3; exact er_3)) (by omega) hP hD hS (lv_sub hl [0, 1, 2] rfl)

set_option maxHeartbeats 4000000 in
set_option maxRecDepth 100000 in
theorem c_X12_copy (l : Launch) (D : va_G) (t : pq_T) (σ : pq_S) (I : Nat → Nat → Int32) (J : Nat → Nat → Int64) (ri : Nat → Nat → Int32) (rj : Nat → Nat → Int64) (rq : Nat → Nat → Option Nat) (sz : Nat) (fr : Nat) (to : Nat) (n_a : Nat) (hL_fr : fr ∈ σ.1) (hK_fr : σ.2.1 fr = 13) (hN_fr : σ.2.2.2 fr = n_a) (hL_to : to ∈ σ.1) (hK_to : σ.2.1 to = 13) (hN_to : σ.2.2.2 to = n_a) (hn : n_a = 12720) (hab : fr ≠ to) : MetV l yX12_copy (wa yX12_copy cX12_copy 3 none) ({ frames := 0, cells := 0, slots := 0, locals := 0 }) [.ref fr, .ref to] D t σ (I, J, ri, rj, rq) sz 0 0 (fun (u : pq_S × pq_M) => ∃ ri' : Nat → Nat → Int32, u = (σ, I, J, ri', rj, rq) ∧ (∀ j, j < 12720 → ri' to j = ri fr j) ∧ (∀ b, b ≠ to → ri' b = ri b) ∧ ri' = va_up ri to (va_cpy (ri fr) (ri to) 0 0 12720)) := by
  refine Met.ofW (cc := cX12_copy) (maxL := 3) (ret := none) (by decide +kernel) rfl ?_
  intro p e s m args below meth c s₁ B hml hv
  obtain ⟨rfl, hsz, hP, hK, hD0, hN⟩ := hv
  have hx := B.exec
  have hb := B.bytes
  have hr := B.returns
  have hts := atoms_spec (ws := (wa yX12_copy cX12_copy 3 none)) B.pre
  have hown : s.vm.findClass RX12 = some m.cls := findClass_of_methodNamed B.named
  have hlocks := B.notSynchronized
  subst hsz
  have hD : va_D (pq_B t σ (I, J, ri, rj, rq) s.heap.size) (pq_P t σ (I, J, ri, rj, rq)) := hD0.self
  generalize hAe : pq_B t σ (I, J, ri, rj, rq) s.heap.size = A at hD ⊢
  have hA : ∀ q : Nat, s.heap.size ≤ q → A q := fun q h => by rw [← hAe]; exact Or.inr h
  have hS : va_S A s.heap s.heap [] := va_S.rf
  have hl := lv_entry ([.ref fr, .ref to]) (n := 3) (Nat.le_of_ble_eq_true rfl)
  rw [lg_entry_eq]
  generalize (lg_sl ([.ref fr, .ref to]) ++ List.replicate (3 - (lg_sl ([.ref fr, .ref to])).length) Slot.unset).toArray = ls at hl ⊢
  have hl : lv_has ls 3 [(0, .ref fr), (1, .ref to)] := hl
  refine lv_iconst (v := 0) hx hb dX12_copy_0 (by decide +kernel) ?_
  refine lv_istore_n (lv' := [(2, .int 0), (0, .ref fr), (1, .ref to)]) hx hb dX12_copy_1 rfl hl (by decide +kernel) rfl (fun ls hl => ?_)
  refine lp_X12_copy_2 l D t σ I J ri rj rq fr to n_a hL_fr hK_fr hN_fr hL_to hK_to hN_to hn hab hx hb hml hts hown hK hN hA ⟨rfl, rfl⟩ (fun i_2 ri_1 H locs ls hi_3 hf_4 hx1_5 hP hD hS hl => ?_) _ 0 ri _ _ _ (Nat.zero_le _) pq_c0 (Nat.lt_succ_self _) hP hD hS (lv_sub hl [0, 1, 2] rfl)
  exact W.vret hx hb hr (fun t1 ht hW => ⟨⟨(σ, I, J, ri_1, rj, rq), rfl, ⟨ri_1, rfl, fun j hj => by rw [hf_4, va_up_self]; unfold va_cpy; rw [if_pos (by omega)]; congr 1; omega, fun b hb => by rw [hf_4, va_up_ne _ _ hb], by rw [hf_4, show i_2 = 12720 from by omega]⟩, by rw [ht]; exact hP, va_K.moved hW.alike hK, hD⟩, hS.F ht⟩) hS.2.2 dX12_copy_21

set_option maxRecDepth 100000 in
def g_X12_isIn_K14 : Int32 := (0 : Int32)
set_option maxRecDepth 100000 in
theorem g_X12_isIn_K14_e : g_X12_isIn_K14   = (0 : Int32) := rfl
set_option maxRecDepth 100000 in
def g_X12_isIn (a0 : Int32) (a1 : Int32) (a2 : Int32) : Int32 := (if a0 < a1 then (g_X12_isIn_K14  ) else (if a2 < a0 then (g_X12_isIn_K14  ) else (1 : Int32)))
set_option maxRecDepth 100000 in
theorem g_X12_isIn_e {a0 : Int32} {a1 : Int32} {a2 : Int32} : g_X12_isIn a0 a1 a2 = (if a0 < a1 then (g_X12_isIn_K14  ) else (if a2 < a0 then (g_X12_isIn_K14  ) else (1 : Int32))) := rfl
set_option maxHeartbeats 4000000 in
set_option maxRecDepth 100000 in
theorem s_X12_isIn (l : Launch) (D : va_G) (t : pq_T) (σ : pq_S) (I : Nat → Nat → Int32) (J : Nat → Nat → Int64) (ri : Nat → Nat → Int32) (rj : Nat → Nat → Int64) (rq : Nat → Nat → Option Nat) (sz : Nat) (tg : Nat → Nat) (hSH : SH σ tg) (hG0 : GT tg I ri) (a0 : Int32) (a1 : Int32) (a2 : Int32) : MetI l yX12_isIn (wa yX12_isIn cX12_isIn 3 (some .boolean)) ({ frames := 0, cells := 0, slots := 0, locals := 0 }) [.int a0, .int a1, .int a2] D t σ (I, J, ri, rj, rq) sz 0 0 (fun (r : Int32) (u : pq_S × pq_M) => u = (σ, I, J, ri, rj, rq) ∧ g_X12_isIn a0 a1 a2 = r ∧ ((r = 1 ∧ a1 ≤ a0 ∧ a0 ≤ a2) ∨ (r = 0 ∧ True))) := by
  refine Met.ofW (cc := cX12_isIn) (maxL := 3) (ret := (some .boolean)) (by decide +kernel) rfl ?_
  intro p e s m args below meth c s₁ B hml hv
  obtain ⟨rfl, hsz, hP, hK, hD0, hN⟩ := hv
  have hx := B.exec
  have hb := B.bytes
  have hr := B.returns
  have hts := atoms_spec (ws := (wa yX12_isIn cX12_isIn 3 (some .boolean))) B.pre
  have hown : s.vm.findClass RX12 = some m.cls := findClass_of_methodNamed B.named
  have hlocks := B.notSynchronized
  subst hsz
  have hD : va_D (pq_B t σ (I, J, ri, rj, rq) s.heap.size) (pq_P t σ (I, J, ri, rj, rq)) := hD0.self
  generalize hAe : pq_B t σ (I, J, ri, rj, rq) s.heap.size = A at hD ⊢
  have hA : ∀ q : Nat, s.heap.size ≤ q → A q := fun q h => by rw [← hAe]; exact Or.inr h
  have hS : va_S A s.heap s.heap [] := va_S.rf
  have hG : GM [] tg σ I ri I ri rq := ⟨hG0, fun _ _ _ => rfl, fun _ _ _ _ _ => rfl, fun _ _ _ _ _ _ => rfl⟩
  have hl := lv_entry ([.int a0, .int a1, .int a2]) (n := 3) (Nat.le_of_ble_eq_true rfl)
  rw [lg_entry_eq]
  generalize (lg_sl ([.int a0, .int a1, .int a2]) ++ List.replicate (3 - (lg_sl ([.int a0, .int a1, .int a2])).length) Slot.unset).toArray = ls at hl ⊢
  have hl : lv_has ls 3 [(0, .int a0), (1, .int a1), (2, .int a2)] := hl
  refine q_gen (fun Q hQ => ?_)
  have go : ∀ (H : Heap) (locs : List Loc) (ls : Array Slot), va_P D vwCl (pq_P t σ (I, J, ri, rj, rq)) H → va_D A (pq_P t σ (I, J, ri, rj, rq)) → va_S A s.heap H locs → lv_has ls 3 [(0, .int a0), (1, .int a1), (2, .int a2)] → W p l e ({ frames := 0, cells := 0, slots := 0, locals := 0 } : Room) s m (List.toArray ([.int a0, .int a1, .int a2] : List Value)) below meth c H locs 0 0 Q (F0 m 0 ls []) := by
    intro H locs ls hP hD hS hl
    obtain ⟨F, hF0⟩ : ∃ F, F = g_X12_isIn a0 a1 a2 := ⟨_, rfl⟩
    have hF := hF0.trans g_X12_isIn_e
    refine lv_iload_n hx hb dX12_isIn_0 rfl (lv_at hl 0 rfl) ?_
    refine lv_iload_n hx hb dX12_isIn_1 rfl (lv_at hl 1 rfl) ?_
    have K_11 : ∀  (H : Heap) (locs : List Loc) (ls : Array Slot), F = g_X12_isIn_K14   → GM [] tg σ I ri I ri rq → va_P D vwCl (pq_P t σ (I, J, ri, rj, rq)) H → va_D A (pq_P t σ (I, J, ri, rj, rq)) → va_S A s.heap H locs → lv_has ls 3 [] → W p l e ({ frames := 0, cells := 0, slots := 0, locals := 0 } : Room) s m (List.toArray ([.int a0, .int a1, .int a2] : List Value)) below meth c H locs 0 0 Q (F0 m 14 ls []) := by
      intro H locs ls hF hG hP hD hS hl
      replace hF := hF.trans g_X12_isIn_K14_e
      refine lv_iconst (v := 0) hx hb dX12_isIn_14 (by decide +kernel) ?_
      subst hQ
      exact W.zret (v := 0) hx hb hr (by decide +kernel) (fun t1 ht hW => ⟨⟨0, (σ, I, J, ri, rj, rq), rfl, ⟨rfl, (hF0.symm.trans hF), (Or.inr ⟨rfl, trivial⟩)⟩, by rw [ht]; exact hP, va_K.moved hW.alike hK, hD⟩, hS.F ht⟩) hS.2.2 dX12_isIn_15
    refine lv_icmp_lt (tgt := 14) hx hb dX12_isIn_2 (by decide +kernel) (fun c_12 => ?_) (fun c_12 => ?_)
    · replace hF := hF.trans (if_pos c_12)
      have tc_17 : (a0).toInt < (a1).toInt := Int32.lt_iff_toInt_lt.mp c_12
      have h_18 : rg a0 (-2147483648) 2147483646 := rg_lt1 c_12 (rg_full _) (rg_full _) (by decide +kernel)
      have uh_18 := h_18.1
      have vh_18 := h_18.2
      have h_19 : rg a1 (-2147483647) 2147483647 := rg_lt2 c_12 (rg_full _) (rg_full _) (by decide +kernel)
      have uh_19 := h_19.1
      have vh_19 := h_19.2
      exact K_11 _ _ _ hF hG hP hD hS (lv_sub hl [] rfl)
    · replace hF := hF.trans (if_neg c_12)
      have tc_20 : (a1).toInt ≤ (a0).toInt := Int32.le_iff_toInt_le.mp (nlt c_12)
      refine lv_iload_n hx hb dX12_isIn_5 rfl (lv_at hl 0 rfl) ?_
      refine lv_iload_n hx hb dX12_isIn_6 rfl (lv_at hl 2 rfl) ?_
      refine lv_icmp_gt (tgt := 14) hx hb dX12_isIn_7 (by decide +kernel) (fun c_21 => ?_) (fun c_21 => ?_)
      · replace hF := hF.trans (if_pos c_21)
        have tc_26 : (a2).toInt < (a0).toInt := Int32.lt_iff_toInt_lt.mp c_21
        have h_27 : rg a2 (-2147483648) 2147483646 := rg_lt1 c_21 (rg_full _) (rg_full _) (by decide +kernel)
        have uh_27 := h_27.1
        have vh_27 := h_27.2
        have h_28 : rg a0 (-2147483647) 2147483647 := rg_lt2 c_21 (rg_full _) (rg_full _) (by decide +kernel)
        have uh_28 := h_28.1
        have vh_28 := h_28.2
        exact K_11 _ _ _ hF hG hP hD hS (lv_sub hl [] rfl)
      · replace hF := hF.trans (if_neg c_21)
        have tc_29 : (a0).toInt ≤ (a2).toInt := Int32.le_iff_toInt_le.mp (nlt c_21)
        refine lv_iconst (v := 1) hx hb dX12_isIn_10 (by decide +kernel) ?_
        refine lv_goto (tgt := 15) hx hb dX12_isIn_11 (by decide +kernel) ?_
        subst hQ
        exact W.zret (v := 1) hx hb hr (by decide +kernel) (fun t1 ht hW => ⟨⟨1, (σ, I, J, ri, rj, rq), rfl, ⟨rfl, (hF0.symm.trans hF), (Or.inl ⟨rfl, (nlt c_12), (nlt c_21)⟩)⟩, by rw [ht]; exact hP, va_K.moved hW.alike hK, hD⟩, hS.F ht⟩) hS.2.2 dX12_isIn_15
  exact go _ _ _ hP hD hS hl

set_option maxRecDepth 100000 in
def g_X12_isMonth (a0 : Int32) : Int32 := (ap1 (g_X12_isIn a0 (0 : Int32) (599 : Int32)) fun (x_1 : Int32) => x_1)
set_option maxRecDepth 100000 in
theorem g_X12_isMonth_e {a0 : Int32} : g_X12_isMonth a0 = (ap1 (g_X12_isIn a0 (0 : Int32) (599 : Int32)) fun (x_1 : Int32) => x_1) := rfl
set_option maxHeartbeats 4000000 in
set_option maxRecDepth 100000 in
theorem s_X12_isMonth (l : Launch) (D : va_G) (t : pq_T) (σ : pq_S) (I : Nat → Nat → Int32) (J : Nat → Nat → Int64) (ri : Nat → Nat → Int32) (rj : Nat → Nat → Int64) (rq : Nat → Nat → Option Nat) (sz : Nat) (tg : Nat → Nat) (hSH : SH σ tg) (hG0 : GT tg I ri) (a0 : Int32) : MetI l yX12_isMonth (wa yX12_isMonth cX12_isMonth 1 (some .boolean)) ({ frames := 1, cells := 0, slots := 0, locals := 22 }) [.int a0] D t σ (I, J, ri, rj, rq) sz 0 0 (fun (r : Int32) (u : pq_S × pq_M) => u = (σ, I, J, ri, rj, rq) ∧ g_X12_isMonth a0 = r ∧ ((r = 1 ∧ rg a0 0 599) ∨ (r = 0 ∧ True))) := by
  refine Met.ofW (cc := cX12_isMonth) (maxL := 1) (ret := (some .boolean)) (by decide +kernel) rfl ?_
  intro p e s m args below meth c s₁ B hml hv
  obtain ⟨rfl, hsz, hP, hK, hD0, hN⟩ := hv
  have hx := B.exec
  have hb := B.bytes
  have hr := B.returns
  have hts := atoms_spec (ws := (wa yX12_isMonth cX12_isMonth 1 (some .boolean))) B.pre
  have hown : s.vm.findClass RX12 = some m.cls := findClass_of_methodNamed B.named
  have hlocks := B.notSynchronized
  subst hsz
  have hD : va_D (pq_B t σ (I, J, ri, rj, rq) s.heap.size) (pq_P t σ (I, J, ri, rj, rq)) := hD0.self
  generalize hAe : pq_B t σ (I, J, ri, rj, rq) s.heap.size = A at hD ⊢
  have hA : ∀ q : Nat, s.heap.size ≤ q → A q := fun q h => by rw [← hAe]; exact Or.inr h
  have hS : va_S A s.heap s.heap [] := va_S.rf
  have hG : GM [] tg σ I ri I ri rq := ⟨hG0, fun _ _ _ => rfl, fun _ _ _ _ _ => rfl, fun _ _ _ _ _ _ => rfl⟩
  have hl := lv_entry ([.int a0]) (n := 1) (Nat.le_of_ble_eq_true rfl)
  rw [lg_entry_eq]
  generalize (lg_sl ([.int a0]) ++ List.replicate (1 - (lg_sl ([.int a0])).length) Slot.unset).toArray = ls at hl ⊢
  have hl : lv_has ls 1 [(0, .int a0)] := hl
  refine q_gen (fun Q hQ => ?_)
  have go : ∀ (H : Heap) (locs : List Loc) (ls : Array Slot), va_P D vwCl (pq_P t σ (I, J, ri, rj, rq)) H → va_D A (pq_P t σ (I, J, ri, rj, rq)) → va_S A s.heap H locs → lv_has ls 1 [(0, .int a0)] → W p l e ({ frames := 1, cells := 0, slots := 0, locals := 22 } : Room) s m (List.toArray ([.int a0] : List Value)) below meth c H locs 0 0 Q (F0 m 0 ls []) := by
    intro H locs ls hP hD hS hl
    obtain ⟨F, hF0⟩ : ∃ F, F = g_X12_isMonth a0 := ⟨_, rfl⟩
    have hF := hF0.trans g_X12_isMonth_e
    refine lv_iload_n hx hb dX12_isMonth_0 rfl (lv_at hl 0 rfl) ?_
    refine lv_iconst (v := 0) hx hb dX12_isMonth_1 (by decide +kernel) ?_
    refine lv_sipush (v := 599) hx hb dX12_isMonth_2 (by decide +kernel) ?_
    refine pk_i (va_runS (As := [.int a0, .int 0, .int 599]) (rest := []) ⟨hx, hb, hml, hown, hts⟩ (s_X12_isIn l D t σ I J ri rj rq H.size tg hSH hG.1 a0 (0 : Int32) (599 : Int32)) (va_cwS 3 hts (tw_S tw_235 tw_236 tw_5 tw_237) rfl rfl rfl cd_yX12_isIn_3 ⟨Nat.le_of_ble_eq_true rfl, Nat.le_of_ble_eq_true rfl⟩) ⟨pq_blind, pq_pre hK hN hP hD⟩ rfl rfl hl.1 rfl (lv_room (Nat.le_of_ble_eq_true rfl)) dX12_isMonth_5 ⟨Nat.le_of_ble_eq_true rfl, Nat.le_of_ble_eq_true rfl⟩) hD hS hA (fun x_1 σ1 μ1 H locs hw_2 hP hD hS => ?_)
    obtain ⟨hu_3, hfn_6, hr_5⟩ := hw_2
    obtain ⟨hu_3a, hu_3b⟩ := Prod.mk.inj hu_3
    rw [hu_3a, hu_3b] at hP hD
    replace hF := hF.trans (ap_n hfn_6.symm)
    have h_8 : rg x_1 0 1 := by rcases hr_5 with ⟨q, -⟩ | ⟨q, -⟩ <;> rw [q] <;> exact ⟨by decide +kernel, by decide +kernel⟩
    have uh_8 := h_8.1
    have vh_8 := h_8.2
    rcases hr_5 with ⟨e_12, f_9, f_10⟩ | ⟨e_12, f_11⟩
    · refine lv_tov 1 e_12 ?_
      have tc_13 : 0 ≤ (a0).toInt := Int32.le_iff_toInt_le.mp f_9
      have h_14 : rg a0 0 2147483647 := rg_le2 f_9 (rg_k (0 : Int32) 0 rfl) (rg_full _) (by decide +kernel)
      have uh_14 := h_14.1
      have vh_14 := h_14.2
      have tc_15 : (a0).toInt ≤ 599 := Int32.le_iff_toInt_le.mp f_10
      have h_16 : rg a0 0 599 := rg_le1 f_10 h_14 (rg_k (599 : Int32) 599 rfl) (by decide +kernel)
      have uh_16 := h_16.1
      have vh_16 := h_16.2
      subst hQ
      exact W.zret (v := 1) hx hb hr (by decide +kernel) (fun t1 ht hW => ⟨⟨1, (σ, I, J, ri, rj, rq), rfl, ⟨rfl, (hF0.symm.trans (hF.trans (by rw [e_12]))), (Or.inl ⟨rfl, (rg_w h_16 (by decide +kernel))⟩)⟩, by rw [ht]; exact hP, va_K.moved hW.alike hK, hD⟩, hS.F ht⟩) hS.2.2 dX12_isMonth_8
    · refine lv_tov 0 e_12 ?_
      subst hQ
      exact W.zret (v := 0) hx hb hr (by decide +kernel) (fun t1 ht hW => ⟨⟨0, (σ, I, J, ri, rj, rq), rfl, ⟨rfl, (hF0.symm.trans (hF.trans (by rw [e_12]))), (Or.inr ⟨rfl, trivial⟩)⟩, by rw [ht]; exact hP, va_K.moved hW.alike hK, hD⟩, hS.F ht⟩) hS.2.2 dX12_isMonth_8
  exact go _ _ _ hP hD hS hl

set_option maxRecDepth 100000 in
def g_X12_isRing (a0 : Int32) (I : Nat → Int32) (J : Nat → Int64) (ri : Nat → Nat → Int32) (rj : Nat → Nat → Int64) (rq : Nat → Nat → Option Nat) : Int32 × vM := (ap1 (ri 384 1) fun (y_3 : Int32) => (ap1 ((y_3) - (1 : Int32)) fun (x_4 : Int32) => (ap1 (g_X12_isIn a0 (0 : Int32) x_4) fun (x_6 : Int32) => (x_6, I, J, ri, rj, rq))))
set_option maxRecDepth 100000 in
theorem g_X12_isRing_e {a0 : Int32} {I : Nat → Int32} {J : Nat → Int64} {ri : Nat → Nat → Int32} {rj : Nat → Nat → Int64} {rq : Nat → Nat → Option Nat} : g_X12_isRing a0 I J ri rj rq = (ap1 (ri 384 1) fun (y_3 : Int32) => (ap1 ((y_3) - (1 : Int32)) fun (x_4 : Int32) => (ap1 (g_X12_isIn a0 (0 : Int32) x_4) fun (x_6 : Int32) => (x_6, I, J, ri, rj, rq)))) := rfl
set_option maxHeartbeats 4000000 in
set_option maxRecDepth 100000 in
theorem s_X12_isRing (l : Launch) (D : va_G) (t : pq_T) (σ : pq_S) (I : Nat → Nat → Int32) (J : Nat → Nat → Int64) (ri : Nat → Nat → Int32) (rj : Nat → Nat → Int64) (rq : Nat → Nat → Option Nat) (sz : Nat) (tg : Nat → Nat) (hSH : SH σ tg) (hG0 : GT tg I ri) (this : Nat) (a0 : Int32) (hL_this : this ∈ σ.1) (hK_this : σ.2.1 this = 12) : MetI l yX12_isRing (wa yX12_isRing cX12_isRing 2 (some .boolean)) ({ frames := 1, cells := 0, slots := 0, locals := 22 }) [.ref this, .int a0] D t σ (I, J, ri, rj, rq) sz 0 0 (fun (r : Int32) (u : pq_S × pq_M) => u = (σ, I, J, ri, rj, rq) ∧ g_X12_isRing a0 (vI 12 σ this I) (vJ 12 σ this J) (vR 12 σ this ri) (vL 12 σ this rj) (vQ 12 σ this rq) = (r, (vI 12 σ this I), (vJ 12 σ this J), (vR 12 σ this ri), (vL 12 σ this rj), (vQ 12 σ this rq)) ∧ ((r = 1 ∧ rg a0 0 4) ∨ (r = 0 ∧ True))) := by
  refine Met.ofW (cc := cX12_isRing) (maxL := 2) (ret := (some .boolean)) (by decide +kernel) rfl ?_
  intro p e s m args below meth c s₁ B hml hv
  obtain ⟨rfl, hsz, hP, hK, hD0, hN⟩ := hv
  have hx := B.exec
  have hb := B.bytes
  have hr := B.returns
  have hts := atoms_spec (ws := (wa yX12_isRing cX12_isRing 2 (some .boolean))) B.pre
  have hown : s.vm.findClass RX12 = some m.cls := findClass_of_methodNamed B.named
  have hlocks := B.notSynchronized
  subst hsz
  have hD : va_D (pq_B t σ (I, J, ri, rj, rq) s.heap.size) (pq_P t σ (I, J, ri, rj, rq)) := hD0.self
  generalize hAe : pq_B t σ (I, J, ri, rj, rq) s.heap.size = A at hD ⊢
  have hA : ∀ q : Nat, s.heap.size ≤ q → A q := fun q h => by rw [← hAe]; exact Or.inr h
  have hS : va_S A s.heap s.heap [] := va_S.rf
  have hG : GM [] tg σ I ri I ri rq := ⟨hG0, fun _ _ _ => rfl, fun _ _ _ _ _ => rfl, fun _ _ _ _ _ _ => rfl⟩
  have hl := lv_entry ([.ref this, .int a0]) (n := 2) (Nat.le_of_ble_eq_true rfl)
  rw [lg_entry_eq]
  generalize (lg_sl ([.ref this, .int a0]) ++ List.replicate (2 - (lg_sl ([.ref this, .int a0])).length) Slot.unset).toArray = ls at hl ⊢
  have hl : lv_has ls 2 [(0, .ref this), (1, .int a0)] := hl
  refine q_gen (fun Q hQ => ?_)
  have go : ∀ (H : Heap) (locs : List Loc) (ls : Array Slot), va_P D vwCl (pq_P t σ (I, J, ri, rj, rq)) H → va_D A (pq_P t σ (I, J, ri, rj, rq)) → va_S A s.heap H locs → lv_has ls 2 [(0, .ref this), (1, .int a0)] → W p l e ({ frames := 1, cells := 0, slots := 0, locals := 22 } : Room) s m (List.toArray ([.ref this, .int a0] : List Value)) below meth c H locs 0 0 Q (F0 m 0 ls []) := by
    intro H locs ls hP hD hS hl
    have hO_this : this = vo σ 12 this := rfl
    have hVT : VT 12 σ tg this := vt_12 hSH hL_this hK_this
    have hFr : FR 12 tg σ this (I, J, ri, rj, rq) (I, J, ri, rj, rq) := fr_rf
    obtain ⟨F, hF0⟩ : ∃ F, F = g_X12_isRing a0 (vI 12 σ this I) (vJ 12 σ this J) (vR 12 σ this ri) (vL 12 σ this rj) (vQ 12 σ this rq) := ⟨_, rfl⟩
    have hF := hF0.trans g_X12_isRing_e
    refine lv_iload_n hx hb dX12_isRing_0 rfl (lv_at hl 1 rfl) ?_
    refine lv_iconst (v := 0) hx hb dX12_isRing_1 (by decide +kernel) ?_
    refine lv_aload_n hx hb dX12_isRing_2 rfl (lv_at hl 0 rfl) ?_
    obtain ⟨w_1, hR_w_1, hL_w_1, hK_w_1, hN_w_1, hT_w_1⟩ := sh_a hSH 384 (ci := 12) (kd := 13) (len := 12720) rfl (by decide +kernel) hL_this hK_this
    have hO_w_1 : w_1 = vrow σ 384 this := vo_k (c := 12) hO_this hR_w_1
    refine pg_f (v := .ref w_1) (C := RX12) (T := TX12) (N := 31) hx hb hts (tw_i inlX12) hown hK hP hL_this hK_this (by decide +kernel) rfl 0 (by decide +kernel) (hts _ (tw_c tw_176)) (pq_hv rfl hR_w_1) dX12_isRing_3 ?_
    refine lv_iconst (v := 1) hx hb dX12_isRing_6 (by decide +kernel) ?_
    refine pl_i hx hb hK hP hL_w_1 hK_w_1 hN_w_1 (vp_in_iff.mpr (by decide +kernel)) dX12_isRing_7 ?_
    refine lv_tov (ri w_1 1) rfl ?_
    have h_2 : rg (ri w_1 1) 0 5 := GM.z0 hG0 (by rw [hT_w_1]; decide) (i := 1) (k := 1) (by decide +kernel) rfl
    have uh_2 := h_2.1
    have vh_2 := h_2.2
    replace hF := hF.trans (ap_n (vR_r hO_w_1 (by decide +kernel) rfl))
    refine lv_iconst (v := 1) hx hb dX12_isRing_8 (by decide +kernel) ?_
    refine lv_isub hx hb dX12_isRing_9 ?_
    refine lv_topi (fun x_4 ex_4 => ?_)
    replace hF := hF.trans (ap_n ex_4)
    have h_5 : rg x_4 (-1) 4 := rg_of_eq ex_4 (rg_sub h_2 (rg_k (1 : Int32) 1 rfl) (by decide +kernel))
    have uh_5 := h_5.1
    have vh_5 := h_5.2
    have tx_4 : (x_4).toInt = (ri w_1 1).toInt - 1 := by rw [ex_4]; exact i_sub_rg (a2 := (ri w_1 1).toInt) (b2 := 1) rfl rfl h_2 (rg_k (1 : Int32) 1 rfl) (by decide +kernel)
    refine pk_i (va_runS (As := [.int a0, .int 0, .int x_4]) (rest := []) ⟨hx, hb, hml, hown, hts⟩ (s_X12_isIn l D t σ I J ri rj rq H.size tg hSH hG.1 a0 (0 : Int32) x_4) (va_cwS 3 hts (tw_S tw_235 tw_236 tw_5 tw_237) rfl rfl rfl cd_yX12_isIn_3 ⟨Nat.le_of_ble_eq_true rfl, Nat.le_of_ble_eq_true rfl⟩) ⟨pq_blind, pq_pre hK hN hP hD⟩ rfl rfl hl.1 rfl (lv_room (Nat.le_of_ble_eq_true rfl)) dX12_isRing_10 ⟨Nat.le_of_ble_eq_true rfl, Nat.le_of_ble_eq_true rfl⟩) hD hS hA (fun x_6 σ1 μ1 H locs hw_7 hP hD hS => ?_)
    obtain ⟨hu_8, hfn_11, hr_10⟩ := hw_7
    obtain ⟨hu_8a, hu_8b⟩ := Prod.mk.inj hu_8
    rw [hu_8a, hu_8b] at hP hD
    replace hF := hF.trans (ap_n hfn_11.symm)
    have h_13 : rg x_6 0 1 := by rcases hr_10 with ⟨q, -⟩ | ⟨q, -⟩ <;> rw [q] <;> exact ⟨by decide +kernel, by decide +kernel⟩
    have uh_13 := h_13.1
    have vh_13 := h_13.2
    rcases hr_10 with ⟨e_17, f_14, f_15⟩ | ⟨e_17, f_16⟩
    · refine lv_tov 1 e_17 ?_
      have tc_18 : 0 ≤ (a0).toInt := Int32.le_iff_toInt_le.mp f_14
      have h_19 : rg a0 0 2147483647 := rg_le2 f_14 (rg_k (0 : Int32) 0 rfl) (rg_full _) (by decide +kernel)
      have uh_19 := h_19.1
      have vh_19 := h_19.2
      have tc_20 : (a0).toInt ≤ (x_4).toInt := Int32.le_iff_toInt_le.mp f_15
      have h_21 : rg a0 0 4 := rg_le1 f_15 h_19 h_5 (by decide +kernel)
      have uh_21 := h_21.1
      have vh_21 := h_21.2
      have h_22 : rg x_4 0 4 := rg_le2 f_15 h_19 h_5 (by decide +kernel)
      have uh_22 := h_22.1
      have vh_22 := h_22.2
      subst hQ
      exact W.zret (v := 1) hx hb hr (by decide +kernel) (fun t1 ht hW => ⟨⟨1, (σ, I, J, ri, rj, rq), rfl, ⟨rfl, (hF0.symm.trans (hF.trans (by rw [e_17]))), (Or.inl ⟨rfl, (rg_w h_21 (by decide +kernel))⟩)⟩, by rw [ht]; exact hP, va_K.moved hW.alike hK, hD⟩, hS.F ht⟩) hS.2.2 dX12_isRing_13
    · refine lv_tov 0 e_17 ?_
      subst hQ
      exact W.zret (v := 0) hx hb hr (by decide +kernel) (fun t1 ht hW => ⟨⟨0, (σ, I, J, ri, rj, rq), rfl, ⟨rfl, (hF0.symm.trans (hF.trans (by rw [e_17]))), (Or.inr ⟨rfl, trivial⟩)⟩, by rw [ht]; exact hP, va_K.moved hW.alike hK, hD⟩, hS.F ht⟩) hS.2.2 dX12_isRing_13
  exact go _ _ _ hP hD hS hl

set_option maxRecDepth 100000 in
def g_X12_isCell (a0 : Int32) (I : Nat → Int32) (J : Nat → Int64) (ri : Nat → Nat → Int32) (rj : Nat → Nat → Int64) (rq : Nat → Nat → Option Nat) : Int32 × vM := (ap1 (ri 384 2) fun (y_3 : Int32) => (ap1 ((y_3) - (1 : Int32)) fun (x_4 : Int32) => (ap1 (g_X12_isIn a0 (0 : Int32) x_4) fun (x_6 : Int32) => (x_6, I, J, ri, rj, rq))))
set_option maxRecDepth 100000 in
theorem g_X12_isCell_e {a0 : Int32} {I : Nat → Int32} {J : Nat → Int64} {ri : Nat → Nat → Int32} {rj : Nat → Nat → Int64} {rq : Nat → Nat → Option Nat} : g_X12_isCell a0 I J ri rj rq = (ap1 (ri 384 2) fun (y_3 : Int32) => (ap1 ((y_3) - (1 : Int32)) fun (x_4 : Int32) => (ap1 (g_X12_isIn a0 (0 : Int32) x_4) fun (x_6 : Int32) => (x_6, I, J, ri, rj, rq)))) := rfl
set_option maxHeartbeats 4000000 in
set_option maxRecDepth 100000 in
theorem s_X12_isCell (l : Launch) (D : va_G) (t : pq_T) (σ : pq_S) (I : Nat → Nat → Int32) (J : Nat → Nat → Int64) (ri : Nat → Nat → Int32) (rj : Nat → Nat → Int64) (rq : Nat → Nat → Option Nat) (sz : Nat) (tg : Nat → Nat) (hSH : SH σ tg) (hG0 : GT tg I ri) (this : Nat) (a0 : Int32) (hL_this : this ∈ σ.1) (hK_this : σ.2.1 this = 12) : MetI l yX12_isCell (wa yX12_isCell cX12_isCell 2 (some .boolean)) ({ frames := 1, cells := 0, slots := 0, locals := 22 }) [.ref this, .int a0] D t σ (I, J, ri, rj, rq) sz 0 0 (fun (r : Int32) (u : pq_S × pq_M) => u = (σ, I, J, ri, rj, rq) ∧ g_X12_isCell a0 (vI 12 σ this I) (vJ 12 σ this J) (vR 12 σ this ri) (vL 12 σ this rj) (vQ 12 σ this rq) = (r, (vI 12 σ this I), (vJ 12 σ this J), (vR 12 σ this ri), (vL 12 σ this rj), (vQ 12 σ this rq)) ∧ ((r = 1 ∧ rg a0 0 39) ∨ (r = 0 ∧ True))) := by
  refine Met.ofW (cc := cX12_isCell) (maxL := 2) (ret := (some .boolean)) (by decide +kernel) rfl ?_
  intro p e s m args below meth c s₁ B hml hv
  obtain ⟨rfl, hsz, hP, hK, hD0, hN⟩ := hv
  have hx := B.exec
  have hb := B.bytes
  have hr := B.returns
  have hts := atoms_spec (ws := (wa yX12_isCell cX12_isCell 2 (some .boolean))) B.pre
  have hown : s.vm.findClass RX12 = some m.cls := findClass_of_methodNamed B.named
  have hlocks := B.notSynchronized
  subst hsz
  have hD : va_D (pq_B t σ (I, J, ri, rj, rq) s.heap.size) (pq_P t σ (I, J, ri, rj, rq)) := hD0.self
  generalize hAe : pq_B t σ (I, J, ri, rj, rq) s.heap.size = A at hD ⊢
  have hA : ∀ q : Nat, s.heap.size ≤ q → A q := fun q h => by rw [← hAe]; exact Or.inr h
  have hS : va_S A s.heap s.heap [] := va_S.rf
  have hG : GM [] tg σ I ri I ri rq := ⟨hG0, fun _ _ _ => rfl, fun _ _ _ _ _ => rfl, fun _ _ _ _ _ _ => rfl⟩
  have hl := lv_entry ([.ref this, .int a0]) (n := 2) (Nat.le_of_ble_eq_true rfl)
  rw [lg_entry_eq]
  generalize (lg_sl ([.ref this, .int a0]) ++ List.replicate (2 - (lg_sl ([.ref this, .int a0])).length) Slot.unset).toArray = ls at hl ⊢
  have hl : lv_has ls 2 [(0, .ref this), (1, .int a0)] := hl
  refine q_gen (fun Q hQ => ?_)
  have go : ∀ (H : Heap) (locs : List Loc) (ls : Array Slot), va_P D vwCl (pq_P t σ (I, J, ri, rj, rq)) H → va_D A (pq_P t σ (I, J, ri, rj, rq)) → va_S A s.heap H locs → lv_has ls 2 [(0, .ref this), (1, .int a0)] → W p l e ({ frames := 1, cells := 0, slots := 0, locals := 22 } : Room) s m (List.toArray ([.ref this, .int a0] : List Value)) below meth c H locs 0 0 Q (F0 m 0 ls []) := by
    intro H locs ls hP hD hS hl
    have hO_this : this = vo σ 12 this := rfl
    have hVT : VT 12 σ tg this := vt_12 hSH hL_this hK_this
    have hFr : FR 12 tg σ this (I, J, ri, rj, rq) (I, J, ri, rj, rq) := fr_rf
    obtain ⟨F, hF0⟩ : ∃ F, F = g_X12_isCell a0 (vI 12 σ this I) (vJ 12 σ this J) (vR 12 σ this ri) (vL 12 σ this rj) (vQ 12 σ this rq) := ⟨_, rfl⟩
    have hF := hF0.trans g_X12_isCell_e
    refine lv_iload_n hx hb dX12_isCell_0 rfl (lv_at hl 1 rfl) ?_
    refine lv_iconst (v := 0) hx hb dX12_isCell_1 (by decide +kernel) ?_
    refine lv_aload_n hx hb dX12_isCell_2 rfl (lv_at hl 0 rfl) ?_
    obtain ⟨w_1, hR_w_1, hL_w_1, hK_w_1, hN_w_1, hT_w_1⟩ := sh_a hSH 384 (ci := 12) (kd := 13) (len := 12720) rfl (by decide +kernel) hL_this hK_this
    have hO_w_1 : w_1 = vrow σ 384 this := vo_k (c := 12) hO_this hR_w_1
    refine pg_f (v := .ref w_1) (C := RX12) (T := TX12) (N := 31) hx hb hts (tw_i inlX12) hown hK hP hL_this hK_this (by decide +kernel) rfl 0 (by decide +kernel) (hts _ (tw_c tw_176)) (pq_hv rfl hR_w_1) dX12_isCell_3 ?_
    refine lv_iconst (v := 2) hx hb dX12_isCell_6 (by decide +kernel) ?_
    refine pl_i hx hb hK hP hL_w_1 hK_w_1 hN_w_1 (vp_in_iff.mpr (by decide +kernel)) dX12_isCell_7 ?_
    refine lv_tov (ri w_1 2) rfl ?_
    have h_2 : rg (ri w_1 2) 0 40 := GM.z0 hG0 (by rw [hT_w_1]; decide) (i := 2) (k := 2) (by decide +kernel) rfl
    have uh_2 := h_2.1
    have vh_2 := h_2.2
    replace hF := hF.trans (ap_n (vR_r hO_w_1 (by decide +kernel) rfl))
    refine lv_iconst (v := 1) hx hb dX12_isCell_8 (by decide +kernel) ?_
    refine lv_isub hx hb dX12_isCell_9 ?_
    refine lv_topi (fun x_4 ex_4 => ?_)
    replace hF := hF.trans (ap_n ex_4)
    have h_5 : rg x_4 (-1) 39 := rg_of_eq ex_4 (rg_sub h_2 (rg_k (1 : Int32) 1 rfl) (by decide +kernel))
    have uh_5 := h_5.1
    have vh_5 := h_5.2
    have tx_4 : (x_4).toInt = (ri w_1 2).toInt - 1 := by rw [ex_4]; exact i_sub_rg (a2 := (ri w_1 2).toInt) (b2 := 1) rfl rfl h_2 (rg_k (1 : Int32) 1 rfl) (by decide +kernel)
    refine pk_i (va_runS (As := [.int a0, .int 0, .int x_4]) (rest := []) ⟨hx, hb, hml, hown, hts⟩ (s_X12_isIn l D t σ I J ri rj rq H.size tg hSH hG.1 a0 (0 : Int32) x_4) (va_cwS 3 hts (tw_S tw_235 tw_236 tw_5 tw_237) rfl rfl rfl cd_yX12_isIn_3 ⟨Nat.le_of_ble_eq_true rfl, Nat.le_of_ble_eq_true rfl⟩) ⟨pq_blind, pq_pre hK hN hP hD⟩ rfl rfl hl.1 rfl (lv_room (Nat.le_of_ble_eq_true rfl)) dX12_isCell_10 ⟨Nat.le_of_ble_eq_true rfl, Nat.le_of_ble_eq_true rfl⟩) hD hS hA (fun x_6 σ1 μ1 H locs hw_7 hP hD hS => ?_)
    obtain ⟨hu_8, hfn_11, hr_10⟩ := hw_7
    obtain ⟨hu_8a, hu_8b⟩ := Prod.mk.inj hu_8
    rw [hu_8a, hu_8b] at hP hD
    replace hF := hF.trans (ap_n hfn_11.symm)
    have h_13 : rg x_6 0 1 := by rcases hr_10 with ⟨q, -⟩ | ⟨q, -⟩ <;> rw [q] <;> exact ⟨by decide +kernel, by decide +kernel⟩
    have uh_13 := h_13.1
    have vh_13 := h_13.2
    rcases hr_10 with ⟨e_17, f_14, f_15⟩ | ⟨e_17, f_16⟩
    · refine lv_tov 1 e_17 ?_
      have tc_18 : 0 ≤ (a0).toInt := Int32.le_iff_toInt_le.mp f_14
      have h_19 : rg a0 0 2147483647 := rg_le2 f_14 (rg_k (0 : Int32) 0 rfl) (rg_full _) (by decide +kernel)
      have uh_19 := h_19.1
      have vh_19 := h_19.2
      have tc_20 : (a0).toInt ≤ (x_4).toInt := Int32.le_iff_toInt_le.mp f_15
      have h_21 : rg a0 0 39 := rg_le1 f_15 h_19 h_5 (by decide +kernel)
      have uh_21 := h_21.1
      have vh_21 := h_21.2
      have h_22 : rg x_4 0 39 := rg_le2 f_15 h_19 h_5 (by decide +kernel)
      have uh_22 := h_22.1
      have vh_22 := h_22.2
      subst hQ
      exact W.zret (v := 1) hx hb hr (by decide +kernel) (fun t1 ht hW => ⟨⟨1, (σ, I, J, ri, rj, rq), rfl, ⟨rfl, (hF0.symm.trans (hF.trans (by rw [e_17]))), (Or.inl ⟨rfl, (rg_w h_21 (by decide +kernel))⟩)⟩, by rw [ht]; exact hP, va_K.moved hW.alike hK, hD⟩, hS.F ht⟩) hS.2.2 dX12_isCell_13
    · refine lv_tov 0 e_17 ?_
      subst hQ
      exact W.zret (v := 0) hx hb hr (by decide +kernel) (fun t1 ht hW => ⟨⟨0, (σ, I, J, ri, rj, rq), rfl, ⟨rfl, (hF0.symm.trans (hF.trans (by rw [e_17]))), (Or.inr ⟨rfl, trivial⟩)⟩, by rw [ht]; exact hP, va_K.moved hW.alike hK, hD⟩, hS.F ht⟩) hS.2.2 dX12_isCell_13
  exact go _ _ _ hP hD hS hl

set_option maxRecDepth 100000 in
def g_X12_isPerson (a0 : Int32) (I : Nat → Int32) (J : Nat → Int64) (ri : Nat → Nat → Int32) (rj : Nat → Nat → Int64) (rq : Nat → Nat → Option Nat) : Int32 × vM := (ap1 (ri 384 5) fun (y_3 : Int32) => (ap1 ((y_3) - (1 : Int32)) fun (x_4 : Int32) => (ap1 (g_X12_isIn a0 (0 : Int32) x_4) fun (x_6 : Int32) => (x_6, I, J, ri, rj, rq))))
set_option maxRecDepth 100000 in
theorem g_X12_isPerson_e {a0 : Int32} {I : Nat → Int32} {J : Nat → Int64} {ri : Nat → Nat → Int32} {rj : Nat → Nat → Int64} {rq : Nat → Nat → Option Nat} : g_X12_isPerson a0 I J ri rj rq = (ap1 (ri 384 5) fun (y_3 : Int32) => (ap1 ((y_3) - (1 : Int32)) fun (x_4 : Int32) => (ap1 (g_X12_isIn a0 (0 : Int32) x_4) fun (x_6 : Int32) => (x_6, I, J, ri, rj, rq)))) := rfl
set_option maxHeartbeats 4000000 in
set_option maxRecDepth 100000 in
theorem s_X12_isPerson (l : Launch) (D : va_G) (t : pq_T) (σ : pq_S) (I : Nat → Nat → Int32) (J : Nat → Nat → Int64) (ri : Nat → Nat → Int32) (rj : Nat → Nat → Int64) (rq : Nat → Nat → Option Nat) (sz : Nat) (tg : Nat → Nat) (hSH : SH σ tg) (hG0 : GT tg I ri) (this : Nat) (a0 : Int32) (hL_this : this ∈ σ.1) (hK_this : σ.2.1 this = 12) : MetI l yX12_isPerson (wa yX12_isPerson cX12_isPerson 2 (some .boolean)) ({ frames := 1, cells := 0, slots := 0, locals := 22 }) [.ref this, .int a0] D t σ (I, J, ri, rj, rq) sz 0 0 (fun (r : Int32) (u : pq_S × pq_M) => u = (σ, I, J, ri, rj, rq) ∧ g_X12_isPerson a0 (vI 12 σ this I) (vJ 12 σ this J) (vR 12 σ this ri) (vL 12 σ this rj) (vQ 12 σ this rq) = (r, (vI 12 σ this I), (vJ 12 σ this J), (vR 12 σ this ri), (vL 12 σ this rj), (vQ 12 σ this rq)) ∧ ((r = 1 ∧ rg a0 0 39) ∨ (r = 0 ∧ True))) := by
  refine Met.ofW (cc := cX12_isPerson) (maxL := 2) (ret := (some .boolean)) (by decide +kernel) rfl ?_
  intro p e s m args below meth c s₁ B hml hv
  obtain ⟨rfl, hsz, hP, hK, hD0, hN⟩ := hv
  have hx := B.exec
  have hb := B.bytes
  have hr := B.returns
  have hts := atoms_spec (ws := (wa yX12_isPerson cX12_isPerson 2 (some .boolean))) B.pre
  have hown : s.vm.findClass RX12 = some m.cls := findClass_of_methodNamed B.named
  have hlocks := B.notSynchronized
  subst hsz
  have hD : va_D (pq_B t σ (I, J, ri, rj, rq) s.heap.size) (pq_P t σ (I, J, ri, rj, rq)) := hD0.self
  generalize hAe : pq_B t σ (I, J, ri, rj, rq) s.heap.size = A at hD ⊢
  have hA : ∀ q : Nat, s.heap.size ≤ q → A q := fun q h => by rw [← hAe]; exact Or.inr h
  have hS : va_S A s.heap s.heap [] := va_S.rf
  have hG : GM [] tg σ I ri I ri rq := ⟨hG0, fun _ _ _ => rfl, fun _ _ _ _ _ => rfl, fun _ _ _ _ _ _ => rfl⟩
  have hl := lv_entry ([.ref this, .int a0]) (n := 2) (Nat.le_of_ble_eq_true rfl)
  rw [lg_entry_eq]
  generalize (lg_sl ([.ref this, .int a0]) ++ List.replicate (2 - (lg_sl ([.ref this, .int a0])).length) Slot.unset).toArray = ls at hl ⊢
  have hl : lv_has ls 2 [(0, .ref this), (1, .int a0)] := hl
  refine q_gen (fun Q hQ => ?_)
  have go : ∀ (H : Heap) (locs : List Loc) (ls : Array Slot), va_P D vwCl (pq_P t σ (I, J, ri, rj, rq)) H → va_D A (pq_P t σ (I, J, ri, rj, rq)) → va_S A s.heap H locs → lv_has ls 2 [(0, .ref this), (1, .int a0)] → W p l e ({ frames := 1, cells := 0, slots := 0, locals := 22 } : Room) s m (List.toArray ([.ref this, .int a0] : List Value)) below meth c H locs 0 0 Q (F0 m 0 ls []) := by
    intro H locs ls hP hD hS hl
    have hO_this : this = vo σ 12 this := rfl
    have hVT : VT 12 σ tg this := vt_12 hSH hL_this hK_this
    have hFr : FR 12 tg σ this (I, J, ri, rj, rq) (I, J, ri, rj, rq) := fr_rf
    obtain ⟨F, hF0⟩ : ∃ F, F = g_X12_isPerson a0 (vI 12 σ this I) (vJ 12 σ this J) (vR 12 σ this ri) (vL 12 σ this rj) (vQ 12 σ this rq) := ⟨_, rfl⟩
    have hF := hF0.trans g_X12_isPerson_e
    refine lv_iload_n hx hb dX12_isPerson_0 rfl (lv_at hl 1 rfl) ?_
    refine lv_iconst (v := 0) hx hb dX12_isPerson_1 (by decide +kernel) ?_
    refine lv_aload_n hx hb dX12_isPerson_2 rfl (lv_at hl 0 rfl) ?_
    obtain ⟨w_1, hR_w_1, hL_w_1, hK_w_1, hN_w_1, hT_w_1⟩ := sh_a hSH 384 (ci := 12) (kd := 13) (len := 12720) rfl (by decide +kernel) hL_this hK_this
    have hO_w_1 : w_1 = vrow σ 384 this := vo_k (c := 12) hO_this hR_w_1
    refine pg_f (v := .ref w_1) (C := RX12) (T := TX12) (N := 31) hx hb hts (tw_i inlX12) hown hK hP hL_this hK_this (by decide +kernel) rfl 0 (by decide +kernel) (hts _ (tw_c tw_176)) (pq_hv rfl hR_w_1) dX12_isPerson_3 ?_
    refine lv_iconst (v := 5) hx hb dX12_isPerson_6 (by decide +kernel) ?_
    refine pl_i hx hb hK hP hL_w_1 hK_w_1 hN_w_1 (vp_in_iff.mpr (by decide +kernel)) dX12_isPerson_7 ?_
    refine lv_tov (ri w_1 5) rfl ?_
    have h_2 : rg (ri w_1 5) 0 40 := GM.z0 hG0 (by rw [hT_w_1]; decide) (i := 5) (k := 5) (by decide +kernel) rfl
    have uh_2 := h_2.1
    have vh_2 := h_2.2
    replace hF := hF.trans (ap_n (vR_r hO_w_1 (by decide +kernel) rfl))
    refine lv_iconst (v := 1) hx hb dX12_isPerson_8 (by decide +kernel) ?_
    refine lv_isub hx hb dX12_isPerson_9 ?_
    refine lv_topi (fun x_4 ex_4 => ?_)
    replace hF := hF.trans (ap_n ex_4)
    have h_5 : rg x_4 (-1) 39 := rg_of_eq ex_4 (rg_sub h_2 (rg_k (1 : Int32) 1 rfl) (by decide +kernel))
    have uh_5 := h_5.1
    have vh_5 := h_5.2
    have tx_4 : (x_4).toInt = (ri w_1 5).toInt - 1 := by rw [ex_4]; exact i_sub_rg (a2 := (ri w_1 5).toInt) (b2 := 1) rfl rfl h_2 (rg_k (1 : Int32) 1 rfl) (by decide +kernel)
    refine pk_i (va_runS (As := [.int a0, .int 0, .int x_4]) (rest := []) ⟨hx, hb, hml, hown, hts⟩ (s_X12_isIn l D t σ I J ri rj rq H.size tg hSH hG.1 a0 (0 : Int32) x_4) (va_cwS 3 hts (tw_S tw_235 tw_236 tw_5 tw_237) rfl rfl rfl cd_yX12_isIn_3 ⟨Nat.le_of_ble_eq_true rfl, Nat.le_of_ble_eq_true rfl⟩) ⟨pq_blind, pq_pre hK hN hP hD⟩ rfl rfl hl.1 rfl (lv_room (Nat.le_of_ble_eq_true rfl)) dX12_isPerson_10 ⟨Nat.le_of_ble_eq_true rfl, Nat.le_of_ble_eq_true rfl⟩) hD hS hA (fun x_6 σ1 μ1 H locs hw_7 hP hD hS => ?_)
    obtain ⟨hu_8, hfn_11, hr_10⟩ := hw_7
    obtain ⟨hu_8a, hu_8b⟩ := Prod.mk.inj hu_8
    rw [hu_8a, hu_8b] at hP hD
    replace hF := hF.trans (ap_n hfn_11.symm)
    have h_13 : rg x_6 0 1 := by rcases hr_10 with ⟨q, -⟩ | ⟨q, -⟩ <;> rw [q] <;> exact ⟨by decide +kernel, by decide +kernel⟩
    have uh_13 := h_13.1
    have vh_13 := h_13.2
    rcases hr_10 with ⟨e_17, f_14, f_15⟩ | ⟨e_17, f_16⟩
    · refine lv_tov 1 e_17 ?_
      have tc_18 : 0 ≤ (a0).toInt := Int32.le_iff_toInt_le.mp f_14
      have h_19 : rg a0 0 2147483647 := rg_le2 f_14 (rg_k (0 : Int32) 0 rfl) (rg_full _) (by decide +kernel)
      have uh_19 := h_19.1
      have vh_19 := h_19.2
      have tc_20 : (a0).toInt ≤ (x_4).toInt := Int32.le_iff_toInt_le.mp f_15
      have h_21 : rg a0 0 39 := rg_le1 f_15 h_19 h_5 (by decide +kernel)
      have uh_21 := h_21.1
      have vh_21 := h_21.2
      have h_22 : rg x_4 0 39 := rg_le2 f_15 h_19 h_5 (by decide +kernel)
      have uh_22 := h_22.1
      have vh_22 := h_22.2
      subst hQ
      exact W.zret (v := 1) hx hb hr (by decide +kernel) (fun t1 ht hW => ⟨⟨1, (σ, I, J, ri, rj, rq), rfl, ⟨rfl, (hF0.symm.trans (hF.trans (by rw [e_17]))), (Or.inl ⟨rfl, (rg_w h_21 (by decide +kernel))⟩)⟩, by rw [ht]; exact hP, va_K.moved hW.alike hK, hD⟩, hS.F ht⟩) hS.2.2 dX12_isPerson_13
    · refine lv_tov 0 e_17 ?_
      subst hQ
      exact W.zret (v := 0) hx hb hr (by decide +kernel) (fun t1 ht hW => ⟨⟨0, (σ, I, J, ri, rj, rq), rfl, ⟨rfl, (hF0.symm.trans (hF.trans (by rw [e_17]))), (Or.inr ⟨rfl, trivial⟩)⟩, by rw [ht]; exact hP, va_K.moved hW.alike hK, hD⟩, hS.F ht⟩) hS.2.2 dX12_isPerson_13
  exact go _ _ _ hP hD hS hl

set_option maxRecDepth 100000 in
def g_X12_isRise (a0 : Int32) : Int32 := (ap1 (g_X12_isIn a0 (0 : Int32) (2 : Int32)) fun (x_1 : Int32) => x_1)
set_option maxRecDepth 100000 in
theorem g_X12_isRise_e {a0 : Int32} : g_X12_isRise a0 = (ap1 (g_X12_isIn a0 (0 : Int32) (2 : Int32)) fun (x_1 : Int32) => x_1) := rfl
set_option maxHeartbeats 4000000 in
set_option maxRecDepth 100000 in
theorem s_X12_isRise (l : Launch) (D : va_G) (t : pq_T) (σ : pq_S) (I : Nat → Nat → Int32) (J : Nat → Nat → Int64) (ri : Nat → Nat → Int32) (rj : Nat → Nat → Int64) (rq : Nat → Nat → Option Nat) (sz : Nat) (tg : Nat → Nat) (hSH : SH σ tg) (hG0 : GT tg I ri) (a0 : Int32) : MetI l yX12_isRise (wa yX12_isRise cX12_isRise 1 (some .boolean)) ({ frames := 1, cells := 0, slots := 0, locals := 22 }) [.int a0] D t σ (I, J, ri, rj, rq) sz 0 0 (fun (r : Int32) (u : pq_S × pq_M) => u = (σ, I, J, ri, rj, rq) ∧ g_X12_isRise a0 = r ∧ ((r = 1 ∧ rg a0 0 2) ∨ (r = 0 ∧ True))) := by
  refine Met.ofW (cc := cX12_isRise) (maxL := 1) (ret := (some .boolean)) (by decide +kernel) rfl ?_
  intro p e s m args below meth c s₁ B hml hv
  obtain ⟨rfl, hsz, hP, hK, hD0, hN⟩ := hv
  have hx := B.exec
  have hb := B.bytes
  have hr := B.returns
  have hts := atoms_spec (ws := (wa yX12_isRise cX12_isRise 1 (some .boolean))) B.pre
  have hown : s.vm.findClass RX12 = some m.cls := findClass_of_methodNamed B.named
  have hlocks := B.notSynchronized
  subst hsz
  have hD : va_D (pq_B t σ (I, J, ri, rj, rq) s.heap.size) (pq_P t σ (I, J, ri, rj, rq)) := hD0.self
  generalize hAe : pq_B t σ (I, J, ri, rj, rq) s.heap.size = A at hD ⊢
  have hA : ∀ q : Nat, s.heap.size ≤ q → A q := fun q h => by rw [← hAe]; exact Or.inr h
  have hS : va_S A s.heap s.heap [] := va_S.rf
  have hG : GM [] tg σ I ri I ri rq := ⟨hG0, fun _ _ _ => rfl, fun _ _ _ _ _ => rfl, fun _ _ _ _ _ _ => rfl⟩
  have hl := lv_entry ([.int a0]) (n := 1) (Nat.le_of_ble_eq_true rfl)
  rw [lg_entry_eq]
  generalize (lg_sl ([.int a0]) ++ List.replicate (1 - (lg_sl ([.int a0])).length) Slot.unset).toArray = ls at hl ⊢
  have hl : lv_has ls 1 [(0, .int a0)] := hl
  refine q_gen (fun Q hQ => ?_)
  have go : ∀ (H : Heap) (locs : List Loc) (ls : Array Slot), va_P D vwCl (pq_P t σ (I, J, ri, rj, rq)) H → va_D A (pq_P t σ (I, J, ri, rj, rq)) → va_S A s.heap H locs → lv_has ls 1 [(0, .int a0)] → W p l e ({ frames := 1, cells := 0, slots := 0, locals := 22 } : Room) s m (List.toArray ([.int a0] : List Value)) below meth c H locs 0 0 Q (F0 m 0 ls []) := by
    intro H locs ls hP hD hS hl
    obtain ⟨F, hF0⟩ : ∃ F, F = g_X12_isRise a0 := ⟨_, rfl⟩
    have hF := hF0.trans g_X12_isRise_e
    refine lv_iload_n hx hb dX12_isRise_0 rfl (lv_at hl 0 rfl) ?_
    refine lv_iconst (v := 0) hx hb dX12_isRise_1 (by decide +kernel) ?_
    refine lv_iconst (v := 2) hx hb dX12_isRise_2 (by decide +kernel) ?_
    refine pk_i (va_runS (As := [.int a0, .int 0, .int 2]) (rest := []) ⟨hx, hb, hml, hown, hts⟩ (s_X12_isIn l D t σ I J ri rj rq H.size tg hSH hG.1 a0 (0 : Int32) (2 : Int32)) (va_cwS 3 hts (tw_S tw_235 tw_236 tw_5 tw_237) rfl rfl rfl cd_yX12_isIn_3 ⟨Nat.le_of_ble_eq_true rfl, Nat.le_of_ble_eq_true rfl⟩) ⟨pq_blind, pq_pre hK hN hP hD⟩ rfl rfl hl.1 rfl (lv_room (Nat.le_of_ble_eq_true rfl)) dX12_isRise_3 ⟨Nat.le_of_ble_eq_true rfl, Nat.le_of_ble_eq_true rfl⟩) hD hS hA (fun x_1 σ1 μ1 H locs hw_2 hP hD hS => ?_)
    obtain ⟨hu_3, hfn_6, hr_5⟩ := hw_2
    obtain ⟨hu_3a, hu_3b⟩ := Prod.mk.inj hu_3
    rw [hu_3a, hu_3b] at hP hD
    replace hF := hF.trans (ap_n hfn_6.symm)
    have h_8 : rg x_1 0 1 := by rcases hr_5 with ⟨q, -⟩ | ⟨q, -⟩ <;> rw [q] <;> exact ⟨by decide +kernel, by decide +kernel⟩
    have uh_8 := h_8.1
    have vh_8 := h_8.2
    rcases hr_5 with ⟨e_12, f_9, f_10⟩ | ⟨e_12, f_11⟩
    · refine lv_tov 1 e_12 ?_
      have tc_13 : 0 ≤ (a0).toInt := Int32.le_iff_toInt_le.mp f_9
      have h_14 : rg a0 0 2147483647 := rg_le2 f_9 (rg_k (0 : Int32) 0 rfl) (rg_full _) (by decide +kernel)
      have uh_14 := h_14.1
      have vh_14 := h_14.2
      have tc_15 : (a0).toInt ≤ 2 := Int32.le_iff_toInt_le.mp f_10
      have h_16 : rg a0 0 2 := rg_le1 f_10 h_14 (rg_k (2 : Int32) 2 rfl) (by decide +kernel)
      have uh_16 := h_16.1
      have vh_16 := h_16.2
      subst hQ
      exact W.zret (v := 1) hx hb hr (by decide +kernel) (fun t1 ht hW => ⟨⟨1, (σ, I, J, ri, rj, rq), rfl, ⟨rfl, (hF0.symm.trans (hF.trans (by rw [e_12]))), (Or.inl ⟨rfl, (rg_w h_16 (by decide +kernel))⟩)⟩, by rw [ht]; exact hP, va_K.moved hW.alike hK, hD⟩, hS.F ht⟩) hS.2.2 dX12_isRise_6
    · refine lv_tov 0 e_12 ?_
      subst hQ
      exact W.zret (v := 0) hx hb hr (by decide +kernel) (fun t1 ht hW => ⟨⟨0, (σ, I, J, ri, rj, rq), rfl, ⟨rfl, (hF0.symm.trans (hF.trans (by rw [e_12]))), (Or.inr ⟨rfl, trivial⟩)⟩, by rw [ht]; exact hP, va_K.moved hW.alike hK, hD⟩, hS.F ht⟩) hS.2.2 dX12_isRise_6
  exact go _ _ _ hP hD hS hl

set_option maxRecDepth 100000 in
def g_X12_ring (I : Nat → Int32) (J : Nat → Int64) (ri : Nat → Nat → Int32) (rj : Nat → Nat → Int64) (rq : Nat → Nat → Option Nat) : Int32 × vM := (ap1 (ri 384 ((1 : Int32)).toNatClampNeg) fun (x_2 : Int32) => (if x_2 = (5 : Int32) then ((-1 : Int32), I, J, ri, rj, rq) else (ap1 (x_2 + (1 : Int32)) fun (x_11 : Int32) => (ap1 (va_up ri 384 (upd (ri 384) ((1 : Int32)).toNatClampNeg x_11)) fun (r_13 : Nat → Nat → Int32) => (ap1 (x_11 - (1 : Int32)) fun (x_15 : Int32) => (x_15, I, J, r_13, rj, rq))))))
set_option maxRecDepth 100000 in
theorem g_X12_ring_e {I : Nat → Int32} {J : Nat → Int64} {ri : Nat → Nat → Int32} {rj : Nat → Nat → Int64} {rq : Nat → Nat → Option Nat} : g_X12_ring I J ri rj rq = (ap1 (ri 384 ((1 : Int32)).toNatClampNeg) fun (x_2 : Int32) => (if x_2 = (5 : Int32) then ((-1 : Int32), I, J, ri, rj, rq) else (ap1 (x_2 + (1 : Int32)) fun (x_11 : Int32) => (ap1 (va_up ri 384 (upd (ri 384) ((1 : Int32)).toNatClampNeg x_11)) fun (r_13 : Nat → Nat → Int32) => (ap1 (x_11 - (1 : Int32)) fun (x_15 : Int32) => (x_15, I, J, r_13, rj, rq)))))) := rfl
set_option maxHeartbeats 4000000 in
set_option maxRecDepth 100000 in
theorem s_X12_ring (l : Launch) (D : va_G) (t : pq_T) (σ : pq_S) (I : Nat → Nat → Int32) (J : Nat → Nat → Int64) (ri : Nat → Nat → Int32) (rj : Nat → Nat → Int64) (rq : Nat → Nat → Option Nat) (sz : Nat) (tg : Nat → Nat) (hSH : SH σ tg) (hG0 : GT tg I ri) (this : Nat) (hL_this : this ∈ σ.1) (hK_this : σ.2.1 this = 12) : MetI l yX12_ring (wa yX12_ring cX12_ring 1 (some .int)) ({ frames := 0, cells := 0, slots := 0, locals := 0 }) [.ref this] D t σ (I, J, ri, rj, rq) sz 0 0 (fun (r : Int32) (u : pq_S × pq_M) => ∃ ri' : Nat → Nat → Int32, u = (σ, I, J, ri', rj, rq) ∧ GM [1001] tg σ I ri I ri' rq ∧ g_X12_ring (vI 12 σ this I) (vJ 12 σ this J) (vR 12 σ this ri) (vL 12 σ this rj) (vQ 12 σ this rq) = (r, (vI 12 σ this I), (vJ 12 σ this J), (vR 12 σ this ri'), (vL 12 σ this rj), (vQ 12 σ this rq)) ∧ FR 12 tg σ this (I, J, ri, rj, rq) (I, J, ri', rj, rq) ∧ rg r (-1) 4) := by
  refine Met.ofW (cc := cX12_ring) (maxL := 1) (ret := (some .int)) (by decide +kernel) rfl ?_
  intro p e s m args below meth c s₁ B hml hv
  obtain ⟨rfl, hsz, hP, hK, hD0, hN⟩ := hv
  have hx := B.exec
  have hb := B.bytes
  have hr := B.returns
  have hts := atoms_spec (ws := (wa yX12_ring cX12_ring 1 (some .int))) B.pre
  have hown : s.vm.findClass RX12 = some m.cls := findClass_of_methodNamed B.named
  have hlocks := B.notSynchronized
  subst hsz
  have hD : va_D (pq_B t σ (I, J, ri, rj, rq) s.heap.size) (pq_P t σ (I, J, ri, rj, rq)) := hD0.self
  generalize hAe : pq_B t σ (I, J, ri, rj, rq) s.heap.size = A at hD ⊢
  have hA : ∀ q : Nat, s.heap.size ≤ q → A q := fun q h => by rw [← hAe]; exact Or.inr h
  have hS : va_S A s.heap s.heap [] := va_S.rf
  have hG : GM [1001] tg σ I ri I ri rq := ⟨hG0, fun _ _ _ => rfl, fun _ _ _ _ _ => rfl, fun _ _ _ _ _ _ => rfl⟩
  have hl := lv_entry ([.ref this]) (n := 1) (Nat.le_of_ble_eq_true rfl)
  rw [lg_entry_eq]
  generalize (lg_sl ([.ref this]) ++ List.replicate (1 - (lg_sl ([.ref this])).length) Slot.unset).toArray = ls at hl ⊢
  have hl : lv_has ls 1 [(0, .ref this)] := hl
  refine q_gen (fun Q hQ => ?_)
  have go : ∀ (H : Heap) (locs : List Loc) (ls : Array Slot), va_P D vwCl (pq_P t σ (I, J, ri, rj, rq)) H → va_D A (pq_P t σ (I, J, ri, rj, rq)) → va_S A s.heap H locs → lv_has ls 1 [(0, .ref this)] → W p l e ({ frames := 0, cells := 0, slots := 0, locals := 0 } : Room) s m (List.toArray ([.ref this] : List Value)) below meth c H locs 0 0 Q (F0 m 0 ls []) := by
    intro H locs ls hP hD hS hl
    have hO_this : this = vo σ 12 this := rfl
    have hVT : VT 12 σ tg this := vt_12 hSH hL_this hK_this
    have hFr : FR 12 tg σ this (I, J, ri, rj, rq) (I, J, ri, rj, rq) := fr_rf
    obtain ⟨F, hF0⟩ : ∃ F, F = g_X12_ring (vI 12 σ this I) (vJ 12 σ this J) (vR 12 σ this ri) (vL 12 σ this rj) (vQ 12 σ this rq) := ⟨_, rfl⟩
    have hF := hF0.trans g_X12_ring_e
    refine lv_aload_n hx hb dX12_ring_0 rfl (lv_at hl 0 rfl) ?_
    obtain ⟨w_1, hR_w_1, hL_w_1, hK_w_1, hN_w_1, hT_w_1⟩ := sh_a hSH 384 (ci := 12) (kd := 13) (len := 12720) rfl (by decide +kernel) hL_this hK_this
    have hO_w_1 : w_1 = vrow σ 384 this := vo_k (c := 12) hO_this hR_w_1
    refine pg_f (v := .ref w_1) (C := RX12) (T := TX12) (N := 31) hx hb hts (tw_i inlX12) hown hK hP hL_this hK_this (by decide +kernel) rfl 0 (by decide +kernel) (hts _ (tw_c tw_176)) (pq_hv rfl hR_w_1) dX12_ring_1 ?_
    refine lv_iconst (v := 1) hx hb dX12_ring_4 (by decide +kernel) ?_
    refine pl_i hx hb hK hP hL_w_1 hK_w_1 hN_w_1 (vp_in_iff.mpr (by decide +kernel)) dX12_ring_5 ?_
    refine lv_topi (fun x_2 ex_2 => ?_)
    replace hF := hF.trans (ap_n (vR_r hO_w_1 (by decide +kernel) ex_2))
    have h_3 : rg x_2 0 5 := rg_of_eq ex_2 (GM.z hG (by rw [hT_w_1]; decide) (show zn ((1 : Int32)).toNatClampNeg = 1 from by decide +kernel) rfl)
    have uh_3 := h_3.1
    have vh_3 := h_3.2
    refine lv_iconst (v := 5) hx hb dX12_ring_6 (by decide +kernel) ?_
    refine lv_icmp_ne (tgt := 12) hx hb dX12_ring_7 (by decide +kernel) (fun c_4 => ?_) (fun c_4 => ?_)
    · replace hF := hF.trans (if_neg c_4)
      have tc_9 : (x_2).toInt ≠ 5 := fun q => c_4 (Int32.toInt_inj.mp q)
      have h_10 : rg x_2 0 4 := rg_ne c_4 h_3 5 rfl (by decide +kernel)
      have uh_10 := h_10.1
      have vh_10 := h_10.2
      refine lv_aload_n hx hb dX12_ring_12 rfl (lv_at hl 0 rfl) ?_
      refine pg_f (v := .ref w_1) (C := RX12) (T := TX12) (N := 31) hx hb hts (tw_i inlX12) hown hK hP hL_this hK_this (by decide +kernel) rfl 0 (by decide +kernel) (hts _ (tw_c tw_176)) (pq_hv rfl hR_w_1) dX12_ring_13 ?_
      refine lv_iconst (v := 1) hx hb dX12_ring_16 (by decide +kernel) ?_
      refine lv_dup2_11 hx hb dX12_ring_17 rfl rfl ?_
      refine pl_i hx hb hK hP hL_w_1 hK_w_1 hN_w_1 (vp_in_iff.mpr (by decide +kernel)) dX12_ring_18 ?_
      refine lv_tov x_2 ex_2.symm ?_
      refine lv_iconst (v := 1) hx hb dX12_ring_19 (by decide +kernel) ?_
      refine lv_iadd hx hb dX12_ring_20 ?_
      refine lv_topi (fun x_11 ex_11 => ?_)
      replace hF := hF.trans (ap_n ex_11)
      have h_12 : rg x_11 1 5 := rg_of_eq ex_11 (rg_add h_10 (rg_k (1 : Int32) 1 rfl) (by decide +kernel))
      have uh_12 := h_12.1
      have vh_12 := h_12.2
      have tx_11 : (x_11).toInt = (x_2).toInt + 1 := by rw [ex_11]; exact i_add_rg (a2 := (x_2).toInt) (b2 := 1) rfl rfl h_10 (rg_k (1 : Int32) 1 rfl) (by decide +kernel)
      refine pt_i hx hb hK hP hD hS hL_w_1 hK_w_1 hN_w_1 (vp_in_iff.mpr (by decide +kernel)) dX12_ring_21 (fun r_13 H locs er_13 hP hD hS => ?_)
      replace hFr := fr_R hFr hO_w_1 (by decide +kernel) er_13
      replace hF := hF.trans (ap_n (vR_st hVT hO_w_1 (by decide +kernel) er_13))
      have hG := GM.wz hG hT_w_1 (by decide +kernel) er_13 (show zn ((1 : Int32)).toNatClampNeg = 1 from by decide +kernel) rfl (rg_w h_12 (by decide +kernel)) (by decide +kernel)
      have h_14 : r_13 w_1 1 = x_11 := cz_eq er_13
      refine lv_aload_n hx hb dX12_ring_22 rfl (lv_at hl 0 rfl) ?_
      refine pg_f (v := .ref w_1) (C := RX12) (T := TX12) (N := 31) hx hb hts (tw_i inlX12) hown hK hP hL_this hK_this (by decide +kernel) rfl 0 (by decide +kernel) (hts _ (tw_c tw_176)) (pq_hv rfl hR_w_1) dX12_ring_23 ?_
      refine lv_iconst (v := 1) hx hb dX12_ring_26 (by decide +kernel) ?_
      refine pl_i hx hb hK hP hL_w_1 hK_w_1 hN_w_1 (vp_in_iff.mpr (by decide +kernel)) dX12_ring_27 ?_
      refine lv_tov x_11 h_14 ?_
      refine lv_iconst (v := 1) hx hb dX12_ring_28 (by decide +kernel) ?_
      refine lv_isub hx hb dX12_ring_29 ?_
      refine lv_topi (fun x_15 ex_15 => ?_)
      replace hF := hF.trans (ap_n ex_15)
      have h_16 : rg x_15 0 4 := rg_of_eq ex_15 (rg_sub h_12 (rg_k (1 : Int32) 1 rfl) (by decide +kernel))
      have uh_16 := h_16.1
      have vh_16 := h_16.2
      have tx_15 : (x_15).toInt = (x_11).toInt - 1 := by rw [ex_15]; exact i_sub_rg (a2 := (x_11).toInt) (b2 := 1) rfl rfl h_12 (rg_k (1 : Int32) 1 rfl) (by decide +kernel)
      subst hQ
      exact W.iret (v := x_15) hx hb hr (fun t1 ht hW => ⟨⟨x_15, (σ, I, J, r_13, rj, rq), rfl, ⟨r_13, rfl, hG, (hF0.symm.trans hF), hFr, (rg_w h_16 (by decide +kernel))⟩, by rw [ht]; exact hP, va_K.moved hW.alike hK, hD⟩, hS.F ht⟩) hS.2.2 dX12_ring_30
    · replace hF := hF.trans (if_pos c_4)
      have tc_17 : (x_2).toInt = 5 := congrArg Int32.toInt c_4
      have h_18 : rg x_2 5 5 := rg_and h_3 (rg_of_eq c_4 (rg_k (5 : Int32) 5 rfl)) (by decide +kernel)
      have uh_18 := h_18.1
      have vh_18 := h_18.2
      refine lv_iconst (v := (-1)) hx hb dX12_ring_10 (by decide +kernel) ?_
      subst hQ
      exact W.iret (v := (-1)) hx hb hr (fun t1 ht hW => ⟨⟨(-1), (σ, I, J, ri, rj, rq), rfl, ⟨ri, rfl, hG, (hF0.symm.trans hF), hFr, (rg_w (rg_k (-1 : Int32) (-1) rfl) (by decide +kernel))⟩, by rw [ht]; exact hP, va_K.moved hW.alike hK, hD⟩, hS.F ht⟩) hS.2.2 dX12_ring_11
  exact go _ _ _ hP hD hS hl

set_option maxRecDepth 100000 in
def g_X12_cell_K86 (I : Nat → Int32) (J : Nat → Int64) (ri : Nat → Nat → Int32) (rj : Nat → Nat → Int64) (rq : Nat → Nat → Option Nat) : Int32 × vM := ((-1 : Int32), I, J, ri, rj, rq)
set_option maxRecDepth 100000 in
theorem g_X12_cell_K86_e {I : Nat → Int32} {J : Nat → Int64} {ri : Nat → Nat → Int32} {rj : Nat → Nat → Int64} {rq : Nat → Nat → Option Nat} : g_X12_cell_K86 I J ri rj rq  = ((-1 : Int32), I, J, ri, rj, rq) := rfl
set_option maxRecDepth 100000 in
def g_X12_cell (a0 : Int32) (a1 : Int32) (a2 : Int32) (a3 : Int32) (a4 : Int32) (a5 : Int32) (I : Nat → Int32) (J : Nat → Int64) (ri : Nat → Nat → Int32) (rj : Nat → Nat → Int64) (rq : Nat → Nat → Option Nat) : Int32 × vM := (bnI (g_X12_isRing a0 I J ri rj rq) fun (x_1 : Int32) (_ : Nat → Int32) (_ : Nat → Int64) (_ : Nat → Nat → Int32) (_ : Nat → Nat → Int64) (_ : Nat → Nat → Option Nat) => (if x_1 = (0 : Int32) then (g_X12_cell_K86 I J ri rj rq ) else (ap1 (g_X12_isIn a1 (-500 : Int32) (3000 : Int32)) fun (x_183 : Int32) => (if x_183 = (0 : Int32) then (g_X12_cell_K86 I J ri rj rq ) else (ap1 (g_X12_isIn a2 (0 : Int32) (31 : Int32)) fun (x_214 : Int32) => (if x_214 = (0 : Int32) then (g_X12_cell_K86 I J ri rj rq ) else (ap1 (g_X12_isIn a3 (0 : Int32) (31 : Int32)) fun (x_245 : Int32) => (if x_245 = (0 : Int32) then (g_X12_cell_K86 I J ri rj rq ) else (ap1 (g_X12_isIn a4 (0 : Int32) (500 : Int32)) fun (x_276 : Int32) => (if x_276 = (0 : Int32) then (g_X12_cell_K86 I J ri rj rq ) else (ap1 (g_X12_isIn a5 (0 : Int32) (400 : Int32)) fun (x_307 : Int32) => (if x_307 = (0 : Int32) then (g_X12_cell_K86 I J ri rj rq ) else (ap1 (ri 384 0) fun (y_340 : Int32) => (if (0 : Int32) < (y_340) then (g_X12_cell_K86 I J ri rj rq ) else (ap1 (ri 384 ((2 : Int32)).toNatClampNeg) fun (x_350 : Int32) => (if x_350 = (40 : Int32) then (g_X12_cell_K86 I J ri rj rq ) else (ap1 ((16 : Int32) * x_350) fun (x_359 : Int32) => (ap1 ((100 : Int32) + x_359) fun (x_361 : Int32) => (ap1 (x_361 + (0 : Int32)) fun (x_363 : Int32) => (ap1 (va_up ri 384 (upd (ri 384) (x_363).toNatClampNeg a0)) fun (r_365 : Nat → Nat → Int32) => (ap1 (x_361 + (1 : Int32)) fun (x_367 : Int32) => (ap1 (va_up r_365 384 (upd (r_365 384) (x_367).toNatClampNeg a1)) fun (r_369 : Nat → Nat → Int32) => (ap1 (x_361 + (2 : Int32)) fun (x_371 : Int32) => (ap1 (va_up r_369 384 (upd (r_369 384) (x_371).toNatClampNeg a2)) fun (r_373 : Nat → Nat → Int32) => (ap1 (x_361 + (3 : Int32)) fun (x_375 : Int32) => (ap1 (va_up r_373 384 (upd (r_373 384) (x_375).toNatClampNeg a3)) fun (r_377 : Nat → Nat → Int32) => (ap1 (x_361 + (4 : Int32)) fun (x_379 : Int32) => (ap1 (va_up r_377 384 (upd (r_377 384) (x_379).toNatClampNeg a4)) fun (r_381 : Nat → Nat → Int32) => (ap1 (x_361 + (5 : Int32)) fun (x_383 : Int32) => (ap1 (va_up r_381 384 (upd (r_381 384) (x_383).toNatClampNeg a5)) fun (r_385 : Nat → Nat → Int32) => (ap1 (x_361 + (14 : Int32)) fun (x_387 : Int32) => (ap1 (va_up r_385 384 (upd (r_385 384) (x_387).toNatClampNeg (-1 : Int32))) fun (r_389 : Nat → Nat → Int32) => (ap1 (x_350 + (1 : Int32)) fun (x_391 : Int32) => (ap1 (va_up r_389 384 (upd (r_389 384) ((2 : Int32)).toNatClampNeg x_391)) fun (r_393 : Nat → Nat → Int32) => (ap1 (x_391 - (1 : Int32)) fun (x_395 : Int32) => (x_395, I, J, r_393, rj, rq))))))))))))))))))))))))))))))))))))
set_option maxRecDepth 100000 in
theorem g_X12_cell_e {a0 : Int32} {a1 : Int32} {a2 : Int32} {a3 : Int32} {a4 : Int32} {a5 : Int32} {I : Nat → Int32} {J : Nat → Int64} {ri : Nat → Nat → Int32} {rj : Nat → Nat → Int64} {rq : Nat → Nat → Option Nat} : g_X12_cell a0 a1 a2 a3 a4 a5 I J ri rj rq = (bnI (g_X12_isRing a0 I J ri rj rq) fun (x_1 : Int32) (_ : Nat → Int32) (_ : Nat → Int64) (_ : Nat → Nat → Int32) (_ : Nat → Nat → Int64) (_ : Nat → Nat → Option Nat) => (if x_1 = (0 : Int32) then (g_X12_cell_K86 I J ri rj rq ) else (ap1 (g_X12_isIn a1 (-500 : Int32) (3000 : Int32)) fun (x_183 : Int32) => (if x_183 = (0 : Int32) then (g_X12_cell_K86 I J ri rj rq ) else (ap1 (g_X12_isIn a2 (0 : Int32) (31 : Int32)) fun (x_214 : Int32) => (if x_214 = (0 : Int32) then (g_X12_cell_K86 I J ri rj rq ) else (ap1 (g_X12_isIn a3 (0 : Int32) (31 : Int32)) fun (x_245 : Int32) => (if x_245 = (0 : Int32) then (g_X12_cell_K86 I J ri rj rq ) else (ap1 (g_X12_isIn a4 (0 : Int32) (500 : Int32)) fun (x_276 : Int32) => (if x_276 = (0 : Int32) then (g_X12_cell_K86 I J ri rj rq ) else (ap1 (g_X12_isIn a5 (0 : Int32) (400 : Int32)) fun (x_307 : Int32) => (if x_307 = (0 : Int32) then (g_X12_cell_K86 I J ri rj rq ) else (ap1 (ri 384 0) fun (y_340 : Int32) => (if (0 : Int32) < (y_340) then (g_X12_cell_K86 I J ri rj rq ) else (ap1 (ri 384 ((2 : Int32)).toNatClampNeg) fun (x_350 : Int32) => (if x_350 = (40 : Int32) then (g_X12_cell_K86 I J ri rj rq ) else (ap1 ((16 : Int32) * x_350) fun (x_359 : Int32) => (ap1 ((100 : Int32) + x_359) fun (x_361 : Int32) => (ap1 (x_361 + (0 : Int32)) fun (x_363 : Int32) => (ap1 (va_up ri 384 (upd (ri 384) (x_363).toNatClampNeg a0)) fun (r_365 : Nat → Nat → Int32) => (ap1 (x_361 + (1 : Int32)) fun (x_367 : Int32) => (ap1 (va_up r_365 384 (upd (r_365 384) (x_367).toNatClampNeg a1)) fun (r_369 : Nat → Nat → Int32) => (ap1 (x_361 + (2 : Int32)) fun (x_371 : Int32) => (ap1 (va_up r_369 384 (upd (r_369 384) (x_371).toNatClampNeg a2)) fun (r_373 : Nat → Nat → Int32) => (ap1 (x_361 + (3 : Int32)) fun (x_375 : Int32) => (ap1 (va_up r_373 384 (upd (r_373 384) (x_375).toNatClampNeg a3)) fun (r_377 : Nat → Nat → Int32) => (ap1 (x_361 + (4 : Int32)) fun (x_379 : Int32) => (ap1 (va_up r_377 384 (upd (r_377 384) (x_379).toNatClampNeg a4)) fun (r_381 : Nat → Nat → Int32) => (ap1 (x_361 + (5 : Int32)) fun (x_383 : Int32) => (ap1 (va_up r_381 384 (upd (r_381 384) (x_383).toNatClampNeg a5)) fun (r_385 : Nat → Nat → Int32) => (ap1 (x_361 + (14 : Int32)) fun (x_387 : Int32) => (ap1 (va_up r_385 384 (upd (r_385 384) (x_387).toNatClampNeg (-1 : Int32))) fun (r_389 : Nat → Nat → Int32) => (ap1 (x_350 + (1 : Int32)) fun (x_391 : Int32) => (ap1 (va_up r_389 384 (upd (r_389 384) ((2 : Int32)).toNatClampNeg x_391)) fun (r_393 : Nat → Nat → Int32) => (ap1 (x_391 - (1 : Int32)) fun (x_395 : Int32) => (x_395, I, J, r_393, rj, rq)))))))))))))))))))))))))))))))))))) := rfl
set_option maxHeartbeats 4000000 in
set_option maxRecDepth 100000 in
theorem s_X12_cell (l : Launch) (D : va_G) (t : pq_T) (σ : pq_S) (I : Nat → Nat → Int32) (J : Nat → Nat → Int64) (ri : Nat → Nat → Int32) (rj : Nat → Nat → Int64) (rq : Nat → Nat → Option Nat) (sz : Nat) (tg : Nat → Nat) (hSH : SH σ tg) (hG0 : GT tg I ri) (this : Nat) (a0 : Int32) (a1 : Int32) (a2 : Int32) (a3 : Int32) (a4 : Int32) (a5 : Int32) (hL_this : this ∈ σ.1) (hK_this : σ.2.1 this = 12) : MetI l yX12_cell (wa yX12_cell cX12_cell 8 (some .int)) ({ frames := 2, cells := 0, slots := 0, locals := 43 }) [.ref this, .int a0, .int a1, .int a2, .int a3, .int a4, .int a5] D t σ (I, J, ri, rj, rq) sz 0 0 (fun (r : Int32) (u : pq_S × pq_M) => ∃ ri' : Nat → Nat → Int32, u = (σ, I, J, ri', rj, rq) ∧ GM [1300, 1301, 1304, 1305, 1002] tg σ I ri I ri' rq ∧ g_X12_cell a0 a1 a2 a3 a4 a5 (vI 12 σ this I) (vJ 12 σ this J) (vR 12 σ this ri) (vL 12 σ this rj) (vQ 12 σ this rq) = (r, (vI 12 σ this I), (vJ 12 σ this J), (vR 12 σ this ri'), (vL 12 σ this rj), (vQ 12 σ this rq)) ∧ FR 12 tg σ this (I, J, ri, rj, rq) (I, J, ri', rj, rq) ∧ rg r (-1) 39) := by
  refine Met.ofW (cc := cX12_cell) (maxL := 8) (ret := (some .int)) (by decide +kernel) rfl ?_
  intro p e s m args below meth c s₁ B hml hv
  obtain ⟨rfl, hsz, hP, hK, hD0, hN⟩ := hv
  have hx := B.exec
  have hb := B.bytes
  have hr := B.returns
  have hts := atoms_spec (ws := (wa yX12_cell cX12_cell 8 (some .int))) B.pre
  have hown : s.vm.findClass RX12 = some m.cls := findClass_of_methodNamed B.named
  have hlocks := B.notSynchronized
  subst hsz
  have hD : va_D (pq_B t σ (I, J, ri, rj, rq) s.heap.size) (pq_P t σ (I, J, ri, rj, rq)) := hD0.self
  generalize hAe : pq_B t σ (I, J, ri, rj, rq) s.heap.size = A at hD ⊢
  have hA : ∀ q : Nat, s.heap.size ≤ q → A q := fun q h => by rw [← hAe]; exact Or.inr h
  have hS : va_S A s.heap s.heap [] := va_S.rf
  have hG : GM [1300, 1301, 1304, 1305, 1002] tg σ I ri I ri rq := ⟨hG0, fun _ _ _ => rfl, fun _ _ _ _ _ => rfl, fun _ _ _ _ _ _ => rfl⟩
  have hl := lv_entry ([.ref this, .int a0, .int a1, .int a2, .int a3, .int a4, .int a5]) (n := 8) (Nat.le_of_ble_eq_true rfl)
  rw [lg_entry_eq]
  generalize (lg_sl ([.ref this, .int a0, .int a1, .int a2, .int a3, .int a4, .int a5]) ++ List.replicate (8 - (lg_sl ([.ref this, .int a0, .int a1, .int a2, .int a3, .int a4, .int a5])).length) Slot.unset).toArray = ls at hl ⊢
  have hl : lv_has ls 8 [(0, .ref this), (1, .int a0), (2, .int a1), (3, .int a2), (4, .int a3), (5, .int a4), (6, .int a5)] := hl
  refine q_gen (fun Q hQ => ?_)
  have go : ∀ (H : Heap) (locs : List Loc) (ls : Array Slot), va_P D vwCl (pq_P t σ (I, J, ri, rj, rq)) H → va_D A (pq_P t σ (I, J, ri, rj, rq)) → va_S A s.heap H locs → lv_has ls 8 [(0, .ref this), (1, .int a0), (2, .int a1), (3, .int a2), (4, .int a3), (5, .int a4), (6, .int a5)] → W p l e ({ frames := 2, cells := 0, slots := 0, locals := 43 } : Room) s m (List.toArray ([.ref this, .int a0, .int a1, .int a2, .int a3, .int a4, .int a5] : List Value)) below meth c H locs 0 0 Q (F0 m 0 ls []) := by
    intro H locs ls hP hD hS hl
    have hO_this : this = vo σ 12 this := rfl
    have hVT : VT 12 σ tg this := vt_12 hSH hL_this hK_this
    have hFr : FR 12 tg σ this (I, J, ri, rj, rq) (I, J, ri, rj, rq) := fr_rf
    obtain ⟨F, hF0⟩ : ∃ F, F = g_X12_cell a0 a1 a2 a3 a4 a5 (vI 12 σ this I) (vJ 12 σ this J) (vR 12 σ this ri) (vL 12 σ this rj) (vQ 12 σ this rq) := ⟨_, rfl⟩
    have hF := hF0.trans g_X12_cell_e
    refine lv_aload_n hx hb dX12_cell_0 rfl (lv_at hl 0 rfl) ?_
    refine lv_iload_n hx hb dX12_cell_1 rfl (lv_at hl 1 rfl) ?_
    refine pk_i (va_runV (As := [.int a0]) (rest := []) ⟨hx, hb, hml, hown, hts⟩ (s_X12_isRing l D t σ I J ri rj rq H.size tg hSH hG.1 this a0 hL_this hK_this) (cwV 1 hts (tw_V tw_231 tw_232 tw_233 tw_5 tw_234) rfl rfl rfl cv_yX12_isRing_1 ⟨Nat.le_of_ble_eq_true rfl, Nat.le_of_ble_eq_true rfl⟩) ⟨pq_blind, pq_recv hK hP hL_this hK_this (by decide +kernel) rfl, pq_pre hK hN hP hD⟩ rfl rfl hl.1 rfl (lv_room (Nat.le_of_ble_eq_true rfl)) dX12_cell_2 ⟨Nat.le_of_ble_eq_true rfl, Nat.le_of_ble_eq_true rfl⟩) hD hS hA (fun x_1 σ1 μ1 H locs hw_2 hP hD hS => ?_)
    obtain ⟨hu_3, hfn_6, hr_5⟩ := hw_2
    obtain ⟨hu_3a, hu_3b⟩ := Prod.mk.inj hu_3
    rw [hu_3a, hu_3b] at hP hD
    replace hF := hF.trans (bn_n hfn_6)
    have h_8 : rg x_1 0 1 := by rcases hr_5 with ⟨q, -⟩ | ⟨q, -⟩ <;> rw [q] <;> exact ⟨by decide +kernel, by decide +kernel⟩
    have uh_8 := h_8.1
    have vh_8 := h_8.2
    have K_169 : ∀  (H : Heap) (locs : List Loc) (ls : Array Slot), F = g_X12_cell_K86 (vI 12 σ this I) (vJ 12 σ this J) (vR 12 σ this ri) (vL 12 σ this rj) (vQ 12 σ this rq)  → FR 12 tg σ this (I, J, ri, rj, rq) (I, J, ri, rj, rq) → GM [1300, 1301, 1304, 1305, 1002] tg σ I ri I ri rq → va_P D vwCl (pq_P t σ (I, J, ri, rj, rq)) H → va_D A (pq_P t σ (I, J, ri, rj, rq)) → va_S A s.heap H locs → lv_has ls 8 [] → W p l e ({ frames := 2, cells := 0, slots := 0, locals := 43 } : Room) s m (List.toArray ([.ref this, .int a0, .int a1, .int a2, .int a3, .int a4, .int a5] : List Value)) below meth c H locs 0 0 Q (F0 m 86 ls []) := by
      intro H locs ls hF hFr hG hP hD hS hl
      replace hF := hF.trans g_X12_cell_K86_e
      refine lv_iconst (v := (-1)) hx hb dX12_cell_86 (by decide +kernel) ?_
      subst hQ
      exact W.iret (v := (-1)) hx hb hr (fun t1 ht hW => ⟨⟨(-1), (σ, I, J, ri, rj, rq), rfl, ⟨ri, rfl, hG, (hF0.symm.trans hF), hFr, (rg_w (rg_k (-1 : Int32) (-1) rfl) (by decide +kernel))⟩, by rw [ht]; exact hP, va_K.moved hW.alike hK, hD⟩, hS.F ht⟩) hS.2.2 dX12_cell_87
    refine lv_if_eq (tgt := 86) hx hb dX12_cell_5 (by decide +kernel) (fun c_170 => ?_) (fun c_170 => ?_)
    · replace hF := hF.trans (if_pos c_170)
      have f_177 := (hr_5.resolve_left (fun q => absurd (q.1.symm.trans c_170) (by decide +kernel))).2
      have tc_178 : (x_1).toInt = 0 := congrArg Int32.toInt c_170
      have h_179 : rg x_1 0 0 := rg_and h_8 (rg_of_eq c_170 (rg_k (0 : Int32) 0 rfl)) (by decide +kernel)
      have uh_179 := h_179.1
      have vh_179 := h_179.2
      exact K_169 _ _ _ hF hFr hG hP hD hS (lv_sub hl [] rfl)
    · replace hF := hF.trans (if_neg c_170)
      have f_180 := (hr_5.resolve_right (fun q => c_170 q.1)).2
      have uf_180 := f_180.1
      have vf_180 := f_180.2
      have tc_181 : (x_1).toInt ≠ 0 := fun q => c_170 (Int32.toInt_inj.mp q)
      have h_182 : rg x_1 1 1 := rg_ne c_170 h_8 0 rfl (by decide +kernel)
      have uh_182 := h_182.1
      have vh_182 := h_182.2
      refine lv_iload_n hx hb dX12_cell_8 rfl (lv_at hl 2 rfl) ?_
      refine lv_sipush (v := (-500)) hx hb dX12_cell_9 (by decide +kernel) ?_
      refine lv_sipush (v := 3000) hx hb dX12_cell_12 (by decide +kernel) ?_
      refine pk_i (va_runS (As := [.int a1, .int (-500), .int 3000]) (rest := []) ⟨hx, hb, hml, hown, hts⟩ (s_X12_isIn l D t σ I J ri rj rq H.size tg hSH hG.1 a1 (-500 : Int32) (3000 : Int32)) (va_cwS 3 hts (tw_S tw_235 tw_236 tw_5 tw_237) rfl rfl rfl cd_yX12_isIn_3 ⟨Nat.le_of_ble_eq_true rfl, Nat.le_of_ble_eq_true rfl⟩) ⟨pq_blind, pq_pre hK hN hP hD⟩ rfl rfl hl.1 rfl (lv_room (Nat.le_of_ble_eq_true rfl)) dX12_cell_15 ⟨Nat.le_of_ble_eq_true rfl, Nat.le_of_ble_eq_true rfl⟩) hD hS hA (fun x_183 σ1 μ1 H locs hw_184 hP hD hS => ?_)
      obtain ⟨hu_185, hfn_188, hr_187⟩ := hw_184
      obtain ⟨hu_185a, hu_185b⟩ := Prod.mk.inj hu_185
      rw [hu_185a, hu_185b] at hP hD
      replace hF := hF.trans (ap_n hfn_188.symm)
      have h_190 : rg x_183 0 1 := by rcases hr_187 with ⟨q, -⟩ | ⟨q, -⟩ <;> rw [q] <;> exact ⟨by decide +kernel, by decide +kernel⟩
      have uh_190 := h_190.1
      have vh_190 := h_190.2
      refine lv_if_eq (tgt := 86) hx hb dX12_cell_18 (by decide +kernel) (fun c_191 => ?_) (fun c_191 => ?_)
      · replace hF := hF.trans (if_pos c_191)
        have f_203 := (hr_187.resolve_left (fun q => absurd (q.1.symm.trans c_191) (by decide +kernel))).2
        have tc_204 : (x_183).toInt = 0 := congrArg Int32.toInt c_191
        have h_205 : rg x_183 0 0 := rg_and h_190 (rg_of_eq c_191 (rg_k (0 : Int32) 0 rfl)) (by decide +kernel)
        have uh_205 := h_205.1
        have vh_205 := h_205.2
        exact K_169 _ _ _ hF hFr hG hP hD hS (lv_sub hl [] rfl)
      · replace hF := hF.trans (if_neg c_191)
        obtain ⟨f_206, f_207⟩ := (hr_187.resolve_right (fun q => c_191 q.1)).2
        have tc_208 : (-500) ≤ (a1).toInt := Int32.le_iff_toInt_le.mp f_206
        have h_209 : rg a1 (-500) 2147483647 := rg_le2 f_206 (rg_k (-500 : Int32) (-500) rfl) (rg_full _) (by decide +kernel)
        have uh_209 := h_209.1
        have vh_209 := h_209.2
        have tc_210 : (a1).toInt ≤ 3000 := Int32.le_iff_toInt_le.mp f_207
        have h_211 : rg a1 (-500) 3000 := rg_le1 f_207 h_209 (rg_k (3000 : Int32) 3000 rfl) (by decide +kernel)
        have uh_211 := h_211.1
        have vh_211 := h_211.2
        have tc_212 : (x_183).toInt ≠ 0 := fun q => c_191 (Int32.toInt_inj.mp q)
        have h_213 : rg x_183 1 1 := rg_ne c_191 h_190 0 rfl (by decide +kernel)
        have uh_213 := h_213.1
        have vh_213 := h_213.2
        refine lv_iload_n hx hb dX12_cell_21 rfl (lv_at hl 3 rfl) ?_
        refine lv_iconst (v := 0) hx hb dX12_cell_22 (by decide +kernel) ?_
        refine lv_bipush (v := 31) hx hb dX12_cell_23 (by decide +kernel) ?_
        refine pk_i (va_runS (As := [.int a2, .int 0, .int 31]) (rest := []) ⟨hx, hb, hml, hown, hts⟩ (s_X12_isIn l D t σ I J ri rj rq H.size tg hSH hG.1 a2 (0 : Int32) (31 : Int32)) (va_cwS 3 hts (tw_S tw_235 tw_236 tw_5 tw_237) rfl rfl rfl cd_yX12_isIn_3 ⟨Nat.le_of_ble_eq_true rfl, Nat.le_of_ble_eq_true rfl⟩) ⟨pq_blind, pq_pre hK hN hP hD⟩ rfl rfl hl.1 rfl (lv_room (Nat.le_of_ble_eq_true rfl)) dX12_cell_25 ⟨Nat.le_of_ble_eq_true rfl, Nat.le_of_ble_eq_true rfl⟩) hD hS hA (fun x_214 σ1 μ1 H locs hw_215 hP hD hS => ?_)
        obtain ⟨hu_216, hfn_219, hr_218⟩ := hw_215
        obtain ⟨hu_216a, hu_216b⟩ := Prod.mk.inj hu_216
        rw [hu_216a, hu_216b] at hP hD
        replace hF := hF.trans (ap_n hfn_219.symm)
        have h_221 : rg x_214 0 1 := by rcases hr_218 with ⟨q, -⟩ | ⟨q, -⟩ <;> rw [q] <;> exact ⟨by decide +kernel, by decide +kernel⟩
        have uh_221 := h_221.1
        have vh_221 := h_221.2
        refine lv_if_eq (tgt := 86) hx hb dX12_cell_28 (by decide +kernel) (fun c_222 => ?_) (fun c_222 => ?_)
        · replace hF := hF.trans (if_pos c_222)
          have f_234 := (hr_218.resolve_left (fun q => absurd (q.1.symm.trans c_222) (by decide +kernel))).2
          have tc_235 : (x_214).toInt = 0 := congrArg Int32.toInt c_222
          have h_236 : rg x_214 0 0 := rg_and h_221 (rg_of_eq c_222 (rg_k (0 : Int32) 0 rfl)) (by decide +kernel)
          have uh_236 := h_236.1
          have vh_236 := h_236.2
          exact K_169 _ _ _ hF hFr hG hP hD hS (lv_sub hl [] rfl)
        · replace hF := hF.trans (if_neg c_222)
          obtain ⟨f_237, f_238⟩ := (hr_218.resolve_right (fun q => c_222 q.1)).2
          have tc_239 : 0 ≤ (a2).toInt := Int32.le_iff_toInt_le.mp f_237
          have h_240 : rg a2 0 2147483647 := rg_le2 f_237 (rg_k (0 : Int32) 0 rfl) (rg_full _) (by decide +kernel)
          have uh_240 := h_240.1
          have vh_240 := h_240.2
          have tc_241 : (a2).toInt ≤ 31 := Int32.le_iff_toInt_le.mp f_238
          have h_242 : rg a2 0 31 := rg_le1 f_238 h_240 (rg_k (31 : Int32) 31 rfl) (by decide +kernel)
          have uh_242 := h_242.1
          have vh_242 := h_242.2
          have tc_243 : (x_214).toInt ≠ 0 := fun q => c_222 (Int32.toInt_inj.mp q)
          have h_244 : rg x_214 1 1 := rg_ne c_222 h_221 0 rfl (by decide +kernel)
          have uh_244 := h_244.1
          have vh_244 := h_244.2
          refine lv_iload hx hb dX12_cell_31 (lv_at hl 4 rfl) ?_
          refine lv_iconst (v := 0) hx hb dX12_cell_33 (by decide +kernel) ?_
          refine lv_bipush (v := 31) hx hb dX12_cell_34 (by decide +kernel) ?_
          refine pk_i (va_runS (As := [.int a3, .int 0, .int 31]) (rest := []) ⟨hx, hb, hml, hown, hts⟩ (s_X12_isIn l D t σ I J ri rj rq H.size tg hSH hG.1 a3 (0 : Int32) (31 : Int32)) (va_cwS 3 hts (tw_S tw_235 tw_236 tw_5 tw_237) rfl rfl rfl cd_yX12_isIn_3 ⟨Nat.le_of_ble_eq_true rfl, Nat.le_of_ble_eq_true rfl⟩) ⟨pq_blind, pq_pre hK hN hP hD⟩ rfl rfl hl.1 rfl (lv_room (Nat.le_of_ble_eq_true rfl)) dX12_cell_36 ⟨Nat.le_of_ble_eq_true rfl, Nat.le_of_ble_eq_true rfl⟩) hD hS hA (fun x_245 σ1 μ1 H locs hw_246 hP hD hS => ?_)
          obtain ⟨hu_247, hfn_250, hr_249⟩ := hw_246
          obtain ⟨hu_247a, hu_247b⟩ := Prod.mk.inj hu_247
          rw [hu_247a, hu_247b] at hP hD
          replace hF := hF.trans (ap_n hfn_250.symm)
          have h_252 : rg x_245 0 1 := by rcases hr_249 with ⟨q, -⟩ | ⟨q, -⟩ <;> rw [q] <;> exact ⟨by decide +kernel, by decide +kernel⟩
          have uh_252 := h_252.1
          have vh_252 := h_252.2
          refine lv_if_eq (tgt := 86) hx hb dX12_cell_39 (by decide +kernel) (fun c_253 => ?_) (fun c_253 => ?_)
          · replace hF := hF.trans (if_pos c_253)
            have f_265 := (hr_249.resolve_left (fun q => absurd (q.1.symm.trans c_253) (by decide +kernel))).2
            have tc_266 : (x_245).toInt = 0 := congrArg Int32.toInt c_253
            have h_267 : rg x_245 0 0 := rg_and h_252 (rg_of_eq c_253 (rg_k (0 : Int32) 0 rfl)) (by decide +kernel)
            have uh_267 := h_267.1
            have vh_267 := h_267.2
            exact K_169 _ _ _ hF hFr hG hP hD hS (lv_sub hl [] rfl)
          · replace hF := hF.trans (if_neg c_253)
            obtain ⟨f_268, f_269⟩ := (hr_249.resolve_right (fun q => c_253 q.1)).2
            have tc_270 : 0 ≤ (a3).toInt := Int32.le_iff_toInt_le.mp f_268
            have h_271 : rg a3 0 2147483647 := rg_le2 f_268 (rg_k (0 : Int32) 0 rfl) (rg_full _) (by decide +kernel)
            have uh_271 := h_271.1
            have vh_271 := h_271.2
            have tc_272 : (a3).toInt ≤ 31 := Int32.le_iff_toInt_le.mp f_269
            have h_273 : rg a3 0 31 := rg_le1 f_269 h_271 (rg_k (31 : Int32) 31 rfl) (by decide +kernel)
            have uh_273 := h_273.1
            have vh_273 := h_273.2
            have tc_274 : (x_245).toInt ≠ 0 := fun q => c_253 (Int32.toInt_inj.mp q)
            have h_275 : rg x_245 1 1 := rg_ne c_253 h_252 0 rfl (by decide +kernel)
            have uh_275 := h_275.1
            have vh_275 := h_275.2
            refine lv_iload hx hb dX12_cell_42 (lv_at hl 5 rfl) ?_
            refine lv_iconst (v := 0) hx hb dX12_cell_44 (by decide +kernel) ?_
            refine lv_sipush (v := 500) hx hb dX12_cell_45 (by decide +kernel) ?_
            refine pk_i (va_runS (As := [.int a4, .int 0, .int 500]) (rest := []) ⟨hx, hb, hml, hown, hts⟩ (s_X12_isIn l D t σ I J ri rj rq H.size tg hSH hG.1 a4 (0 : Int32) (500 : Int32)) (va_cwS 3 hts (tw_S tw_235 tw_236 tw_5 tw_237) rfl rfl rfl cd_yX12_isIn_3 ⟨Nat.le_of_ble_eq_true rfl, Nat.le_of_ble_eq_true rfl⟩) ⟨pq_blind, pq_pre hK hN hP hD⟩ rfl rfl hl.1 rfl (lv_room (Nat.le_of_ble_eq_true rfl)) dX12_cell_48 ⟨Nat.le_of_ble_eq_true rfl, Nat.le_of_ble_eq_true rfl⟩) hD hS hA (fun x_276 σ1 μ1 H locs hw_277 hP hD hS => ?_)
            obtain ⟨hu_278, hfn_281, hr_280⟩ := hw_277
            obtain ⟨hu_278a, hu_278b⟩ := Prod.mk.inj hu_278
            rw [hu_278a, hu_278b] at hP hD
            replace hF := hF.trans (ap_n hfn_281.symm)
            have h_283 : rg x_276 0 1 := by rcases hr_280 with ⟨q, -⟩ | ⟨q, -⟩ <;> rw [q] <;> exact ⟨by decide +kernel, by decide +kernel⟩
            have uh_283 := h_283.1
            have vh_283 := h_283.2
            refine lv_if_eq (tgt := 86) hx hb dX12_cell_51 (by decide +kernel) (fun c_284 => ?_) (fun c_284 => ?_)
            · replace hF := hF.trans (if_pos c_284)
              have f_296 := (hr_280.resolve_left (fun q => absurd (q.1.symm.trans c_284) (by decide +kernel))).2
              have tc_297 : (x_276).toInt = 0 := congrArg Int32.toInt c_284
              have h_298 : rg x_276 0 0 := rg_and h_283 (rg_of_eq c_284 (rg_k (0 : Int32) 0 rfl)) (by decide +kernel)
              have uh_298 := h_298.1
              have vh_298 := h_298.2
              exact K_169 _ _ _ hF hFr hG hP hD hS (lv_sub hl [] rfl)
            · replace hF := hF.trans (if_neg c_284)
              obtain ⟨f_299, f_300⟩ := (hr_280.resolve_right (fun q => c_284 q.1)).2
              have tc_301 : 0 ≤ (a4).toInt := Int32.le_iff_toInt_le.mp f_299
              have h_302 : rg a4 0 2147483647 := rg_le2 f_299 (rg_k (0 : Int32) 0 rfl) (rg_full _) (by decide +kernel)
              have uh_302 := h_302.1
              have vh_302 := h_302.2
              have tc_303 : (a4).toInt ≤ 500 := Int32.le_iff_toInt_le.mp f_300
              have h_304 : rg a4 0 500 := rg_le1 f_300 h_302 (rg_k (500 : Int32) 500 rfl) (by decide +kernel)
              have uh_304 := h_304.1
              have vh_304 := h_304.2
              have tc_305 : (x_276).toInt ≠ 0 := fun q => c_284 (Int32.toInt_inj.mp q)
              have h_306 : rg x_276 1 1 := rg_ne c_284 h_283 0 rfl (by decide +kernel)
              have uh_306 := h_306.1
              have vh_306 := h_306.2
              refine lv_iload hx hb dX12_cell_54 (lv_at hl 6 rfl) ?_
              refine lv_iconst (v := 0) hx hb dX12_cell_56 (by decide +kernel) ?_
              refine lv_sipush (v := 400) hx hb dX12_cell_57 (by decide +kernel) ?_
              refine pk_i (va_runS (As := [.int a5, .int 0, .int 400]) (rest := []) ⟨hx, hb, hml, hown, hts⟩ (s_X12_isIn l D t σ I J ri rj rq H.size tg hSH hG.1 a5 (0 : Int32) (400 : Int32)) (va_cwS 3 hts (tw_S tw_235 tw_236 tw_5 tw_237) rfl rfl rfl cd_yX12_isIn_3 ⟨Nat.le_of_ble_eq_true rfl, Nat.le_of_ble_eq_true rfl⟩) ⟨pq_blind, pq_pre hK hN hP hD⟩ rfl rfl hl.1 rfl (lv_room (Nat.le_of_ble_eq_true rfl)) dX12_cell_60 ⟨Nat.le_of_ble_eq_true rfl, Nat.le_of_ble_eq_true rfl⟩) hD hS hA (fun x_307 σ1 μ1 H locs hw_308 hP hD hS => ?_)
              obtain ⟨hu_309, hfn_312, hr_311⟩ := hw_308
              obtain ⟨hu_309a, hu_309b⟩ := Prod.mk.inj hu_309
              rw [hu_309a, hu_309b] at hP hD
              replace hF := hF.trans (ap_n hfn_312.symm)
              have h_314 : rg x_307 0 1 := by rcases hr_311 with ⟨q, -⟩ | ⟨q, -⟩ <;> rw [q] <;> exact ⟨by decide +kernel, by decide +kernel⟩
              have uh_314 := h_314.1
              have vh_314 := h_314.2
              refine lv_if_eq (tgt := 86) hx hb dX12_cell_63 (by decide +kernel) (fun c_315 => ?_) (fun c_315 => ?_)
              · replace hF := hF.trans (if_pos c_315)
                have f_327 := (hr_311.resolve_left (fun q => absurd (q.1.symm.trans c_315) (by decide +kernel))).2
                have tc_328 : (x_307).toInt = 0 := congrArg Int32.toInt c_315
                have h_329 : rg x_307 0 0 := rg_and h_314 (rg_of_eq c_315 (rg_k (0 : Int32) 0 rfl)) (by decide +kernel)
                have uh_329 := h_329.1
                have vh_329 := h_329.2
                exact K_169 _ _ _ hF hFr hG hP hD hS (lv_sub hl [] rfl)
              · replace hF := hF.trans (if_neg c_315)
                obtain ⟨f_330, f_331⟩ := (hr_311.resolve_right (fun q => c_315 q.1)).2
                have tc_332 : 0 ≤ (a5).toInt := Int32.le_iff_toInt_le.mp f_330
                have h_333 : rg a5 0 2147483647 := rg_le2 f_330 (rg_k (0 : Int32) 0 rfl) (rg_full _) (by decide +kernel)
                have uh_333 := h_333.1
                have vh_333 := h_333.2
                have tc_334 : (a5).toInt ≤ 400 := Int32.le_iff_toInt_le.mp f_331
                have h_335 : rg a5 0 400 := rg_le1 f_331 h_333 (rg_k (400 : Int32) 400 rfl) (by decide +kernel)
                have uh_335 := h_335.1
                have vh_335 := h_335.2
                have tc_336 : (x_307).toInt ≠ 0 := fun q => c_315 (Int32.toInt_inj.mp q)
                have h_337 : rg x_307 1 1 := rg_ne c_315 h_314 0 rfl (by decide +kernel)
                have uh_337 := h_337.1
                have vh_337 := h_337.2
                refine lv_aload_n hx hb dX12_cell_66 rfl (lv_at hl 0 rfl) ?_
                obtain ⟨w_338, hR_w_338, hL_w_338, hK_w_338, hN_w_338, hT_w_338⟩ := sh_a hSH 384 (ci := 12) (kd := 13) (len := 12720) rfl (by decide +kernel) hL_this hK_this
                have hO_w_338 : w_338 = vrow σ 384 this := vo_k (c := 12) hO_this hR_w_338
                refine pg_f (v := .ref w_338) (C := RX12) (T := TX12) (N := 31) hx hb hts (tw_i inlX12) hown hK hP hL_this hK_this (by decide +kernel) rfl 0 (by decide +kernel) (hts _ (tw_c tw_176)) (pq_hv rfl hR_w_338) dX12_cell_67 ?_
                refine lv_iconst (v := 0) hx hb dX12_cell_70 (by decide +kernel) ?_
                refine pl_i hx hb hK hP hL_w_338 hK_w_338 hN_w_338 (vp_in_iff.mpr (by decide +kernel)) dX12_cell_71 ?_
                refine lv_tov (ri w_338 0) rfl ?_
                have h_339 : rg (ri w_338 0) 0 600 := GM.z0 hG0 (by rw [hT_w_338]; decide) (i := 0) (k := 0) (by decide +kernel) rfl
                have uh_339 := h_339.1
                have vh_339 := h_339.2
                replace hF := hF.trans (ap_n (vR_r hO_w_338 (by decide +kernel) rfl))
                refine lv_if_gt (tgt := 86) hx hb dX12_cell_72 (by decide +kernel) (fun c_341 => ?_) (fun c_341 => ?_)
                · replace hF := hF.trans (if_pos c_341)
                  have tc_346 : 0 < (ri w_338 0).toInt := Int32.lt_iff_toInt_lt.mp c_341
                  have h_347 : rg (ri w_338 0) 1 600 := rg_lt2 c_341 (rg_k (0 : Int32) 0 rfl) h_339 (by decide +kernel)
                  have uh_347 := h_347.1
                  have vh_347 := h_347.2
                  exact K_169 _ _ _ hF hFr hG hP hD hS (lv_sub hl [] rfl)
                · replace hF := hF.trans (if_neg c_341)
                  have tc_348 : (ri w_338 0).toInt ≤ 0 := Int32.le_iff_toInt_le.mp (nlt c_341)
                  have h_349 : rg (ri w_338 0) 0 0 := rg_le1 (nlt c_341) h_339 (rg_k (0 : Int32) 0 rfl) (by decide +kernel)
                  have uh_349 := h_349.1
                  have vh_349 := h_349.2
                  refine lv_aload_n hx hb dX12_cell_75 rfl (lv_at hl 0 rfl) ?_
                  refine pg_f (v := .ref w_338) (C := RX12) (T := TX12) (N := 31) hx hb hts (tw_i inlX12) hown hK hP hL_this hK_this (by decide +kernel) rfl 0 (by decide +kernel) (hts _ (tw_c tw_176)) (pq_hv rfl hR_w_338) dX12_cell_76 ?_
                  refine lv_iconst (v := 2) hx hb dX12_cell_79 (by decide +kernel) ?_
                  refine pl_i hx hb hK hP hL_w_338 hK_w_338 hN_w_338 (vp_in_iff.mpr (by decide +kernel)) dX12_cell_80 ?_
                  refine lv_topi (fun x_350 ex_350 => ?_)
                  replace hF := hF.trans (ap_n (vR_r hO_w_338 (by decide +kernel) ex_350))
                  have h_351 : rg x_350 0 40 := rg_of_eq ex_350 (GM.z hG (by rw [hT_w_338]; decide) (show zn ((2 : Int32)).toNatClampNeg = 2 from by decide +kernel) rfl)
                  have uh_351 := h_351.1
                  have vh_351 := h_351.2
                  refine lv_bipush (v := 40) hx hb dX12_cell_81 (by decide +kernel) ?_
                  refine lv_icmp_ne (tgt := 88) hx hb dX12_cell_83 (by decide +kernel) (fun c_352 => ?_) (fun c_352 => ?_)
                  · replace hF := hF.trans (if_neg c_352)
                    have tc_357 : (x_350).toInt ≠ 40 := fun q => c_352 (Int32.toInt_inj.mp q)
                    have h_358 : rg x_350 0 39 := rg_ne c_352 h_351 40 rfl (by decide +kernel)
                    have uh_358 := h_358.1
                    have vh_358 := h_358.2
                    refine lv_bipush (v := 100) hx hb dX12_cell_88 (by decide +kernel) ?_
                    refine lv_bipush (v := 16) hx hb dX12_cell_90 (by decide +kernel) ?_
                    refine lv_aload_n hx hb dX12_cell_92 rfl (lv_at hl 0 rfl) ?_
                    refine pg_f (v := .ref w_338) (C := RX12) (T := TX12) (N := 31) hx hb hts (tw_i inlX12) hown hK hP hL_this hK_this (by decide +kernel) rfl 0 (by decide +kernel) (hts _ (tw_c tw_176)) (pq_hv rfl hR_w_338) dX12_cell_93 ?_
                    refine lv_iconst (v := 2) hx hb dX12_cell_96 (by decide +kernel) ?_
                    refine pl_i hx hb hK hP hL_w_338 hK_w_338 hN_w_338 (vp_in_iff.mpr (by decide +kernel)) dX12_cell_97 ?_
                    refine lv_tov x_350 ex_350.symm ?_
                    refine lv_imul hx hb dX12_cell_98 ?_
                    refine lv_topi (fun x_359 ex_359 => ?_)
                    replace hF := hF.trans (ap_n ex_359)
                    have h_360 : rg x_359 0 624 := rg_of_eq ex_359 (rg_mul (rg_k (16 : Int32) 16 rfl) h_358 (by decide +kernel))
                    have uh_360 := h_360.1
                    have vh_360 := h_360.2
                    have tx_359 : (x_359).toInt = 16 * (x_350).toInt := by rw [ex_359]; exact i_mul_rg (a2 := 16) (b2 := (x_350).toInt) rfl rfl (rg_k (16 : Int32) 16 rfl) h_358 (by decide +kernel)
                    refine lv_iadd hx hb dX12_cell_99 ?_
                    refine lv_topi (fun x_361 ex_361 => ?_)
                    replace hF := hF.trans (ap_n ex_361)
                    have h_362 : rg x_361 100 724 := rg_of_eq ex_361 (rg_add (rg_k (100 : Int32) 100 rfl) h_360 (by decide +kernel))
                    have uh_362 := h_362.1
                    have vh_362 := h_362.2
                    have tx_361 : (x_361).toInt = 100 + (x_359).toInt := by rw [ex_361]; exact i_add_rg (a2 := 100) (b2 := (x_359).toInt) rfl rfl (rg_k (100 : Int32) 100 rfl) h_360 (by decide +kernel)
                    refine lv_istore (lv' := [(7, .int x_361), (0, .ref this), (1, .int a0), (2, .int a1), (3, .int a2), (4, .int a3), (5, .int a4), (6, .int a5)]) hx hb dX12_cell_100 hl (by decide +kernel) rfl (fun ls hl => ?_)
                    refine lv_aload_n hx hb dX12_cell_102 rfl (lv_at hl 1 rfl) ?_
                    refine pg_f (v := .ref w_338) (C := RX12) (T := TX12) (N := 31) hx hb hts (tw_i inlX12) hown hK hP hL_this hK_this (by decide +kernel) rfl 0 (by decide +kernel) (hts _ (tw_c tw_176)) (pq_hv rfl hR_w_338) dX12_cell_103 ?_
                    refine lv_iload hx hb dX12_cell_106 (lv_at hl 0 rfl) ?_
                    refine lv_iconst (v := 0) hx hb dX12_cell_108 (by decide +kernel) ?_
                    refine lv_iadd hx hb dX12_cell_109 ?_
                    refine lv_topi (fun x_363 ex_363 => ?_)
                    replace hF := hF.trans (ap_n ex_363)
                    have h_364 : rg x_363 100 724 := rg_of_eq ex_363 (rg_add h_362 (rg_k (0 : Int32) 0 rfl) (by decide +kernel))
                    have uh_364 := h_364.1
                    have vh_364 := h_364.2
                    have tx_363 : (x_363).toInt = (x_361).toInt + 0 := by rw [ex_363]; exact i_add_rg (a2 := (x_361).toInt) (b2 := 0) rfl rfl h_362 (rg_k (0 : Int32) 0 rfl) (by decide +kernel)
                    refine lv_iload_n hx hb dX12_cell_110 rfl (lv_at hl 2 rfl) ?_
                    refine pt_i hx hb hK hP hD hS hL_w_338 hK_w_338 hN_w_338 (rg_in h_364 (by decide +kernel)) dX12_cell_111 (fun r_365 H locs er_365 hP hD hS => ?_)
                    replace hFr := fr_R hFr hO_w_338 (by decide +kernel) er_365
                    replace hF := hF.trans (ap_n (vR_st hVT hO_w_338 (by decide +kernel) er_365))
                    have hG := GM.wz hG hT_w_338 (by decide +kernel) er_365 (zn_CELL (c := x_350.toNatClampNeg) (k := 0) (by have z_i := clampE x_363; have z_0 := clampE x_350; omega) (rg_cl1 h_358 (by decide +kernel)) (by decide +kernel)) rfl (rg_w f_180 (by decide +kernel)) (by decide +kernel)
                    have h_366 : r_365 w_338 2 = x_350 := cz_ne er_365 (zn_CELL (c := x_350.toNatClampNeg) (k := 0) (by have z_i := clampE x_363; have z_0 := clampE x_350; omega) (rg_cl1 h_358 (by decide +kernel)) (by decide +kernel)) (by decide +kernel) (by decide +kernel) ex_350.symm
                    refine lv_aload_n hx hb dX12_cell_112 rfl (lv_at hl 1 rfl) ?_
                    refine pg_f (v := .ref w_338) (C := RX12) (T := TX12) (N := 31) hx hb hts (tw_i inlX12) hown hK hP hL_this hK_this (by decide +kernel) rfl 0 (by decide +kernel) (hts _ (tw_c tw_176)) (pq_hv rfl hR_w_338) dX12_cell_113 ?_
                    refine lv_iload hx hb dX12_cell_116 (lv_at hl 0 rfl) ?_
                    refine lv_iconst (v := 1) hx hb dX12_cell_118 (by decide +kernel) ?_
                    refine lv_iadd hx hb dX12_cell_119 ?_
                    refine lv_topi (fun x_367 ex_367 => ?_)
                    replace hF := hF.trans (ap_n ex_367)
                    have h_368 : rg x_367 101 725 := rg_of_eq ex_367 (rg_add h_362 (rg_k (1 : Int32) 1 rfl) (by decide +kernel))
                    have uh_368 := h_368.1
                    have vh_368 := h_368.2
                    have tx_367 : (x_367).toInt = (x_361).toInt + 1 := by rw [ex_367]; exact i_add_rg (a2 := (x_361).toInt) (b2 := 1) rfl rfl h_362 (rg_k (1 : Int32) 1 rfl) (by decide +kernel)
                    refine lv_iload_n hx hb dX12_cell_120 rfl (lv_at hl 3 rfl) ?_
                    refine pt_i hx hb hK hP hD hS hL_w_338 hK_w_338 hN_w_338 (rg_in h_368 (by decide +kernel)) dX12_cell_121 (fun r_369 H locs er_369 hP hD hS => ?_)
                    replace hFr := fr_R hFr hO_w_338 (by decide +kernel) er_369
                    replace hF := hF.trans (ap_n (vR_st hVT hO_w_338 (by decide +kernel) er_369))
                    have hG := GM.wz hG hT_w_338 (by decide +kernel) er_369 (zn_CELL (c := x_350.toNatClampNeg) (k := 1) (by have z_i := clampE x_367; have z_0 := clampE x_350; omega) (rg_cl1 h_358 (by decide +kernel)) (by decide +kernel)) rfl (rg_w h_211 (by decide +kernel)) (by decide +kernel)
                    have h_370 : r_369 w_338 2 = x_350 := cz_ne er_369 (zn_CELL (c := x_350.toNatClampNeg) (k := 1) (by have z_i := clampE x_367; have z_0 := clampE x_350; omega) (rg_cl1 h_358 (by decide +kernel)) (by decide +kernel)) (by decide +kernel) (by decide +kernel) h_366
                    refine lv_aload_n hx hb dX12_cell_122 rfl (lv_at hl 1 rfl) ?_
                    refine pg_f (v := .ref w_338) (C := RX12) (T := TX12) (N := 31) hx hb hts (tw_i inlX12) hown hK hP hL_this hK_this (by decide +kernel) rfl 0 (by decide +kernel) (hts _ (tw_c tw_176)) (pq_hv rfl hR_w_338) dX12_cell_123 ?_
                    refine lv_iload hx hb dX12_cell_126 (lv_at hl 0 rfl) ?_
                    refine lv_iconst (v := 2) hx hb dX12_cell_128 (by decide +kernel) ?_
                    refine lv_iadd hx hb dX12_cell_129 ?_
                    refine lv_topi (fun x_371 ex_371 => ?_)
                    replace hF := hF.trans (ap_n ex_371)
                    have h_372 : rg x_371 102 726 := rg_of_eq ex_371 (rg_add h_362 (rg_k (2 : Int32) 2 rfl) (by decide +kernel))
                    have uh_372 := h_372.1
                    have vh_372 := h_372.2
                    have tx_371 : (x_371).toInt = (x_361).toInt + 2 := by rw [ex_371]; exact i_add_rg (a2 := (x_361).toInt) (b2 := 2) rfl rfl h_362 (rg_k (2 : Int32) 2 rfl) (by decide +kernel)
                    refine lv_iload_n hx hb dX12_cell_130 rfl (lv_at hl 4 rfl) ?_
                    refine pt_i hx hb hK hP hD hS hL_w_338 hK_w_338 hN_w_338 (rg_in h_372 (by decide +kernel)) dX12_cell_131 (fun r_373 H locs er_373 hP hD hS => ?_)
                    replace hFr := fr_R hFr hO_w_338 (by decide +kernel) er_373
                    replace hF := hF.trans (ap_n (vR_st hVT hO_w_338 (by decide +kernel) er_373))
                    have hG := GM.wz hG hT_w_338 (by decide +kernel) er_373 (zn_CELL (c := x_350.toNatClampNeg) (k := 2) (by have z_i := clampE x_371; have z_0 := clampE x_350; omega) (rg_cl1 h_358 (by decide +kernel)) (by decide +kernel)) rfl (rg_w h_242 (by decide +kernel)) (by decide +kernel)
                    have h_374 : r_373 w_338 2 = x_350 := cz_ne er_373 (zn_CELL (c := x_350.toNatClampNeg) (k := 2) (by have z_i := clampE x_371; have z_0 := clampE x_350; omega) (rg_cl1 h_358 (by decide +kernel)) (by decide +kernel)) (by decide +kernel) (by decide +kernel) h_370
                    refine lv_aload_n hx hb dX12_cell_132 rfl (lv_at hl 1 rfl) ?_
                    refine pg_f (v := .ref w_338) (C := RX12) (T := TX12) (N := 31) hx hb hts (tw_i inlX12) hown hK hP hL_this hK_this (by decide +kernel) rfl 0 (by decide +kernel) (hts _ (tw_c tw_176)) (pq_hv rfl hR_w_338) dX12_cell_133 ?_
                    refine lv_iload hx hb dX12_cell_136 (lv_at hl 0 rfl) ?_
                    refine lv_iconst (v := 3) hx hb dX12_cell_138 (by decide +kernel) ?_
                    refine lv_iadd hx hb dX12_cell_139 ?_
                    refine lv_topi (fun x_375 ex_375 => ?_)
                    replace hF := hF.trans (ap_n ex_375)
                    have h_376 : rg x_375 103 727 := rg_of_eq ex_375 (rg_add h_362 (rg_k (3 : Int32) 3 rfl) (by decide +kernel))
                    have uh_376 := h_376.1
                    have vh_376 := h_376.2
                    have tx_375 : (x_375).toInt = (x_361).toInt + 3 := by rw [ex_375]; exact i_add_rg (a2 := (x_361).toInt) (b2 := 3) rfl rfl h_362 (rg_k (3 : Int32) 3 rfl) (by decide +kernel)
                    refine lv_iload hx hb dX12_cell_140 (lv_at hl 5 rfl) ?_
                    refine pt_i hx hb hK hP hD hS hL_w_338 hK_w_338 hN_w_338 (rg_in h_376 (by decide +kernel)) dX12_cell_142 (fun r_377 H locs er_377 hP hD hS => ?_)
                    replace hFr := fr_R hFr hO_w_338 (by decide +kernel) er_377
                    replace hF := hF.trans (ap_n (vR_st hVT hO_w_338 (by decide +kernel) er_377))
                    have hG := GM.wz hG hT_w_338 (by decide +kernel) er_377 (zn_CELL (c := x_350.toNatClampNeg) (k := 3) (by have z_i := clampE x_375; have z_0 := clampE x_350; omega) (rg_cl1 h_358 (by decide +kernel)) (by decide +kernel)) rfl (rg_w h_273 (by decide +kernel)) (by decide +kernel)
                    have h_378 : r_377 w_338 2 = x_350 := cz_ne er_377 (zn_CELL (c := x_350.toNatClampNeg) (k := 3) (by have z_i := clampE x_375; have z_0 := clampE x_350; omega) (rg_cl1 h_358 (by decide +kernel)) (by decide +kernel)) (by decide +kernel) (by decide +kernel) h_374
                    refine lv_aload_n hx hb dX12_cell_143 rfl (lv_at hl 1 rfl) ?_
                    refine pg_f (v := .ref w_338) (C := RX12) (T := TX12) (N := 31) hx hb hts (tw_i inlX12) hown hK hP hL_this hK_this (by decide +kernel) rfl 0 (by decide +kernel) (hts _ (tw_c tw_176)) (pq_hv rfl hR_w_338) dX12_cell_144 ?_
                    refine lv_iload hx hb dX12_cell_147 (lv_at hl 0 rfl) ?_
                    refine lv_iconst (v := 4) hx hb dX12_cell_149 (by decide +kernel) ?_
                    refine lv_iadd hx hb dX12_cell_150 ?_
                    refine lv_topi (fun x_379 ex_379 => ?_)
                    replace hF := hF.trans (ap_n ex_379)
                    have h_380 : rg x_379 104 728 := rg_of_eq ex_379 (rg_add h_362 (rg_k (4 : Int32) 4 rfl) (by decide +kernel))
                    have uh_380 := h_380.1
                    have vh_380 := h_380.2
                    have tx_379 : (x_379).toInt = (x_361).toInt + 4 := by rw [ex_379]; exact i_add_rg (a2 := (x_361).toInt) (b2 := 4) rfl rfl h_362 (rg_k (4 : Int32) 4 rfl) (by decide +kernel)
                    refine lv_iload hx hb dX12_cell_151 (lv_at hl 6 rfl) ?_
                    refine pt_i hx hb hK hP hD hS hL_w_338 hK_w_338 hN_w_338 (rg_in h_380 (by decide +kernel)) dX12_cell_153 (fun r_381 H locs er_381 hP hD hS => ?_)
                    replace hFr := fr_R hFr hO_w_338 (by decide +kernel) er_381
                    replace hF := hF.trans (ap_n (vR_st hVT hO_w_338 (by decide +kernel) er_381))
                    have hG := GM.wz hG hT_w_338 (by decide +kernel) er_381 (zn_CELL (c := x_350.toNatClampNeg) (k := 4) (by have z_i := clampE x_379; have z_0 := clampE x_350; omega) (rg_cl1 h_358 (by decide +kernel)) (by decide +kernel)) rfl (rg_w h_304 (by decide +kernel)) (by decide +kernel)
                    have h_382 : r_381 w_338 2 = x_350 := cz_ne er_381 (zn_CELL (c := x_350.toNatClampNeg) (k := 4) (by have z_i := clampE x_379; have z_0 := clampE x_350; omega) (rg_cl1 h_358 (by decide +kernel)) (by decide +kernel)) (by decide +kernel) (by decide +kernel) h_378
                    refine lv_aload_n hx hb dX12_cell_154 rfl (lv_at hl 1 rfl) ?_
                    refine pg_f (v := .ref w_338) (C := RX12) (T := TX12) (N := 31) hx hb hts (tw_i inlX12) hown hK hP hL_this hK_this (by decide +kernel) rfl 0 (by decide +kernel) (hts _ (tw_c tw_176)) (pq_hv rfl hR_w_338) dX12_cell_155 ?_
                    refine lv_iload hx hb dX12_cell_158 (lv_at hl 0 rfl) ?_
                    refine lv_iconst (v := 5) hx hb dX12_cell_160 (by decide +kernel) ?_
                    refine lv_iadd hx hb dX12_cell_161 ?_
                    refine lv_topi (fun x_383 ex_383 => ?_)
                    replace hF := hF.trans (ap_n ex_383)
                    have h_384 : rg x_383 105 729 := rg_of_eq ex_383 (rg_add h_362 (rg_k (5 : Int32) 5 rfl) (by decide +kernel))
                    have uh_384 := h_384.1
                    have vh_384 := h_384.2
                    have tx_383 : (x_383).toInt = (x_361).toInt + 5 := by rw [ex_383]; exact i_add_rg (a2 := (x_361).toInt) (b2 := 5) rfl rfl h_362 (rg_k (5 : Int32) 5 rfl) (by decide +kernel)
                    refine lv_iload hx hb dX12_cell_162 (lv_at hl 7 rfl) ?_
                    refine pt_i hx hb hK hP hD hS hL_w_338 hK_w_338 hN_w_338 (rg_in h_384 (by decide +kernel)) dX12_cell_164 (fun r_385 H locs er_385 hP hD hS => ?_)
                    replace hFr := fr_R hFr hO_w_338 (by decide +kernel) er_385
                    replace hF := hF.trans (ap_n (vR_st hVT hO_w_338 (by decide +kernel) er_385))
                    have hG := GM.wz hG hT_w_338 (by decide +kernel) er_385 (zn_CELL (c := x_350.toNatClampNeg) (k := 5) (by have z_i := clampE x_383; have z_0 := clampE x_350; omega) (rg_cl1 h_358 (by decide +kernel)) (by decide +kernel)) rfl (rg_w h_335 (by decide +kernel)) (by decide +kernel)
                    have h_386 : r_385 w_338 2 = x_350 := cz_ne er_385 (zn_CELL (c := x_350.toNatClampNeg) (k := 5) (by have z_i := clampE x_383; have z_0 := clampE x_350; omega) (rg_cl1 h_358 (by decide +kernel)) (by decide +kernel)) (by decide +kernel) (by decide +kernel) h_382
                    refine lv_aload_n hx hb dX12_cell_165 rfl (lv_at hl 1 rfl) ?_
                    refine pg_f (v := .ref w_338) (C := RX12) (T := TX12) (N := 31) hx hb hts (tw_i inlX12) hown hK hP hL_this hK_this (by decide +kernel) rfl 0 (by decide +kernel) (hts _ (tw_c tw_176)) (pq_hv rfl hR_w_338) dX12_cell_166 ?_
                    refine lv_iload hx hb dX12_cell_169 (lv_at hl 0 rfl) ?_
                    refine lv_bipush (v := 14) hx hb dX12_cell_171 (by decide +kernel) ?_
                    refine lv_iadd hx hb dX12_cell_173 ?_
                    refine lv_topi (fun x_387 ex_387 => ?_)
                    replace hF := hF.trans (ap_n ex_387)
                    have h_388 : rg x_387 114 738 := rg_of_eq ex_387 (rg_add h_362 (rg_k (14 : Int32) 14 rfl) (by decide +kernel))
                    have uh_388 := h_388.1
                    have vh_388 := h_388.2
                    have tx_387 : (x_387).toInt = (x_361).toInt + 14 := by rw [ex_387]; exact i_add_rg (a2 := (x_361).toInt) (b2 := 14) rfl rfl h_362 (rg_k (14 : Int32) 14 rfl) (by decide +kernel)
                    refine lv_iconst (v := (-1)) hx hb dX12_cell_174 (by decide +kernel) ?_
                    refine pt_i hx hb hK hP hD hS hL_w_338 hK_w_338 hN_w_338 (rg_in h_388 (by decide +kernel)) dX12_cell_175 (fun r_389 H locs er_389 hP hD hS => ?_)
                    replace hFr := fr_R hFr hO_w_338 (by decide +kernel) er_389
                    replace hF := hF.trans (ap_n (vR_st hVT hO_w_338 (by decide +kernel) er_389))
                    have hG := GM.wz hG hT_w_338 (by decide +kernel) er_389 (zn_CELL (c := x_350.toNatClampNeg) (k := 14) (by have z_i := clampE x_387; have z_0 := clampE x_350; omega) (rg_cl1 h_358 (by decide +kernel)) (by decide +kernel)) rfl (rg_w (rg_k (-1 : Int32) (-1) rfl) (by decide +kernel)) (by decide +kernel)
                    have h_390 : r_389 w_338 2 = x_350 := cz_ne er_389 (zn_CELL (c := x_350.toNatClampNeg) (k := 14) (by have z_i := clampE x_387; have z_0 := clampE x_350; omega) (rg_cl1 h_358 (by decide +kernel)) (by decide +kernel)) (by decide +kernel) (by decide +kernel) h_386
                    refine lv_aload_n hx hb dX12_cell_176 rfl (lv_at hl 1 rfl) ?_
                    refine pg_f (v := .ref w_338) (C := RX12) (T := TX12) (N := 31) hx hb hts (tw_i inlX12) hown hK hP hL_this hK_this (by decide +kernel) rfl 0 (by decide +kernel) (hts _ (tw_c tw_176)) (pq_hv rfl hR_w_338) dX12_cell_177 ?_
                    refine lv_iconst (v := 2) hx hb dX12_cell_180 (by decide +kernel) ?_
                    refine lv_dup2_11 hx hb dX12_cell_181 rfl rfl ?_
                    refine pl_i hx hb hK hP hL_w_338 hK_w_338 hN_w_338 (vp_in_iff.mpr (by decide +kernel)) dX12_cell_182 ?_
                    refine lv_tov x_350 h_390 ?_
                    refine lv_iconst (v := 1) hx hb dX12_cell_183 (by decide +kernel) ?_
                    refine lv_iadd hx hb dX12_cell_184 ?_
                    refine lv_topi (fun x_391 ex_391 => ?_)
                    replace hF := hF.trans (ap_n ex_391)
                    have h_392 : rg x_391 1 40 := rg_of_eq ex_391 (rg_add h_358 (rg_k (1 : Int32) 1 rfl) (by decide +kernel))
                    have uh_392 := h_392.1
                    have vh_392 := h_392.2
                    have tx_391 : (x_391).toInt = (x_350).toInt + 1 := by rw [ex_391]; exact i_add_rg (a2 := (x_350).toInt) (b2 := 1) rfl rfl h_358 (rg_k (1 : Int32) 1 rfl) (by decide +kernel)
                    refine pt_i hx hb hK hP hD hS hL_w_338 hK_w_338 hN_w_338 (vp_in_iff.mpr (by decide +kernel)) dX12_cell_185 (fun r_393 H locs er_393 hP hD hS => ?_)
                    replace hFr := fr_R hFr hO_w_338 (by decide +kernel) er_393
                    replace hF := hF.trans (ap_n (vR_st hVT hO_w_338 (by decide +kernel) er_393))
                    have hG := GM.wz hG hT_w_338 (by decide +kernel) er_393 (show zn ((2 : Int32)).toNatClampNeg = 2 from by decide +kernel) rfl (rg_w h_392 (by decide +kernel)) (by decide +kernel)
                    have h_394 : r_393 w_338 2 = x_391 := cz_eq er_393
                    refine lv_aload_n hx hb dX12_cell_186 rfl (lv_at hl 1 rfl) ?_
                    refine pg_f (v := .ref w_338) (C := RX12) (T := TX12) (N := 31) hx hb hts (tw_i inlX12) hown hK hP hL_this hK_this (by decide +kernel) rfl 0 (by decide +kernel) (hts _ (tw_c tw_176)) (pq_hv rfl hR_w_338) dX12_cell_187 ?_
                    refine lv_iconst (v := 2) hx hb dX12_cell_190 (by decide +kernel) ?_
                    refine pl_i hx hb hK hP hL_w_338 hK_w_338 hN_w_338 (vp_in_iff.mpr (by decide +kernel)) dX12_cell_191 ?_
                    refine lv_tov x_391 h_394 ?_
                    refine lv_iconst (v := 1) hx hb dX12_cell_192 (by decide +kernel) ?_
                    refine lv_isub hx hb dX12_cell_193 ?_
                    refine lv_topi (fun x_395 ex_395 => ?_)
                    replace hF := hF.trans (ap_n ex_395)
                    have h_396 : rg x_395 0 39 := rg_of_eq ex_395 (rg_sub h_392 (rg_k (1 : Int32) 1 rfl) (by decide +kernel))
                    have uh_396 := h_396.1
                    have vh_396 := h_396.2
                    have tx_395 : (x_395).toInt = (x_391).toInt - 1 := by rw [ex_395]; exact i_sub_rg (a2 := (x_391).toInt) (b2 := 1) rfl rfl h_392 (rg_k (1 : Int32) 1 rfl) (by decide +kernel)
                    subst hQ
                    exact W.iret (v := x_395) hx hb hr (fun t1 ht hW => ⟨⟨x_395, (σ, I, J, r_393, rj, rq), rfl, ⟨r_393, rfl, hG, (hF0.symm.trans hF), hFr, (rg_w h_396 (by decide +kernel))⟩, by rw [ht]; exact hP, va_K.moved hW.alike hK, hD⟩, hS.F ht⟩) hS.2.2 dX12_cell_194
                  · replace hF := hF.trans (if_pos c_352)
                    have tc_397 : (x_350).toInt = 40 := congrArg Int32.toInt c_352
                    have h_398 : rg x_350 40 40 := rg_and h_351 (rg_of_eq c_352 (rg_k (40 : Int32) 40 rfl)) (by decide +kernel)
                    have uh_398 := h_398.1
                    have vh_398 := h_398.2
                    exact K_169 _ _ _ hF hFr hG hP hD hS (lv_sub hl [] rfl)
  exact go _ _ _ hP hD hS hl

set_option maxRecDepth 100000 in
def g_X12_level_K44 (I : Nat → Int32) (J : Nat → Int64) (ri : Nat → Nat → Int32) (rj : Nat → Nat → Int64) (rq : Nat → Nat → Option Nat) : Int32 × vM := ((-1 : Int32), I, J, ri, rj, rq)
set_option maxRecDepth 100000 in
theorem g_X12_level_K44_e {I : Nat → Int32} {J : Nat → Int64} {ri : Nat → Nat → Int32} {rj : Nat → Nat → Int64} {rq : Nat → Nat → Option Nat} : g_X12_level_K44 I J ri rj rq  = ((-1 : Int32), I, J, ri, rj, rq) := rfl
set_option maxRecDepth 100000 in
def g_X12_level_K114 (I : Nat → Int32) (J : Nat → Int64) (ri : Nat → Nat → Int32) (rj : Nat → Nat → Int64) (rq : Nat → Nat → Option Nat) (x_248 : Int32) (x_259 : Int32) (r_317 : Nat → Nat → Int32) (x_319 : Int32) : Int32 × vM := (ap1 (va_up r_317 384 (upd (r_317 384) (x_319).toNatClampNeg (0 : Int32))) fun (r_337 : Nat → Nat → Int32) => (ap1 (x_259 + (4 : Int32)) fun (x_339 : Int32) => (ap1 (ri 384 0) fun (y_342 : Int32) => (ap1 (va_up r_337 384 (upd (r_337 384) (x_339).toNatClampNeg (y_342))) fun (r_343 : Nat → Nat → Int32) => (ap1 (x_248 + (1 : Int32)) fun (x_345 : Int32) => (ap1 (va_up r_343 384 (upd (r_343 384) ((3 : Int32)).toNatClampNeg x_345)) fun (r_347 : Nat → Nat → Int32) => (x_345, I, J, r_347, rj, rq)))))))
set_option maxRecDepth 100000 in
theorem g_X12_level_K114_e {I : Nat → Int32} {J : Nat → Int64} {ri : Nat → Nat → Int32} {rj : Nat → Nat → Int64} {rq : Nat → Nat → Option Nat} {x_248 : Int32} {x_259 : Int32} {r_317 : Nat → Nat → Int32} {x_319 : Int32} : g_X12_level_K114 I J ri rj rq x_248 x_259 r_317 x_319  = (ap1 (va_up r_317 384 (upd (r_317 384) (x_319).toNatClampNeg (0 : Int32))) fun (r_337 : Nat → Nat → Int32) => (ap1 (x_259 + (4 : Int32)) fun (x_339 : Int32) => (ap1 (ri 384 0) fun (y_342 : Int32) => (ap1 (va_up r_337 384 (upd (r_337 384) (x_339).toNatClampNeg (y_342))) fun (r_343 : Nat → Nat → Int32) => (ap1 (x_248 + (1 : Int32)) fun (x_345 : Int32) => (ap1 (va_up r_343 384 (upd (r_343 384) ((3 : Int32)).toNatClampNeg x_345)) fun (r_347 : Nat → Nat → Int32) => (x_345, I, J, r_347, rj, rq))))))) := rfl
set_option maxRecDepth 100000 in
def g_X12_level_K95 (I : Nat → Int32) (J : Nat → Int64) (ri : Nat → Nat → Int32) (rj : Nat → Nat → Int64) (rq : Nat → Nat → Option Nat) (x_248 : Int32) (x_259 : Int32) (r_265 : Nat → Nat → Int32) (x_267 : Int32) : Int32 × vM := (ap1 (va_up r_265 384 (upd (r_265 384) (x_267).toNatClampNeg (0 : Int32))) fun (r_317 : Nat → Nat → Int32) => (ap1 (x_259 + (3 : Int32)) fun (x_319 : Int32) => (g_X12_level_K114 I J ri rj rq x_248 x_259 r_317 x_319 )))
set_option maxRecDepth 100000 in
theorem g_X12_level_K95_e {I : Nat → Int32} {J : Nat → Int64} {ri : Nat → Nat → Int32} {rj : Nat → Nat → Int64} {rq : Nat → Nat → Option Nat} {x_248 : Int32} {x_259 : Int32} {r_265 : Nat → Nat → Int32} {x_267 : Int32} : g_X12_level_K95 I J ri rj rq x_248 x_259 r_265 x_267  = (ap1 (va_up r_265 384 (upd (r_265 384) (x_267).toNatClampNeg (0 : Int32))) fun (r_317 : Nat → Nat → Int32) => (ap1 (x_259 + (3 : Int32)) fun (x_319 : Int32) => (g_X12_level_K114 I J ri rj rq x_248 x_259 r_317 x_319 ))) := rfl
set_option maxRecDepth 100000 in
def g_X12_level_K114_2 (a3 : Int32) (I : Nat → Int32) (J : Nat → Int64) (ri : Nat → Nat → Int32) (rj : Nat → Nat → Int64) (rq : Nat → Nat → Option Nat) (x_248 : Int32) (x_259 : Int32) (r_357 : Nat → Nat → Int32) (x_359 : Int32) : Int32 × vM := (ap1 (va_up r_357 384 (upd (r_357 384) (x_359).toNatClampNeg a3)) fun (r_377 : Nat → Nat → Int32) => (ap1 (x_259 + (4 : Int32)) fun (x_379 : Int32) => (ap1 (ri 384 0) fun (y_382 : Int32) => (ap1 (va_up r_377 384 (upd (r_377 384) (x_379).toNatClampNeg (y_382))) fun (r_383 : Nat → Nat → Int32) => (ap1 (x_248 + (1 : Int32)) fun (x_385 : Int32) => (ap1 (va_up r_383 384 (upd (r_383 384) ((3 : Int32)).toNatClampNeg x_385)) fun (r_387 : Nat → Nat → Int32) => (x_385, I, J, r_387, rj, rq)))))))
set_option maxRecDepth 100000 in
theorem g_X12_level_K114_2_e {a3 : Int32} {I : Nat → Int32} {J : Nat → Int64} {ri : Nat → Nat → Int32} {rj : Nat → Nat → Int64} {rq : Nat → Nat → Option Nat} {x_248 : Int32} {x_259 : Int32} {r_357 : Nat → Nat → Int32} {x_359 : Int32} : g_X12_level_K114_2 a3 I J ri rj rq x_248 x_259 r_357 x_359  = (ap1 (va_up r_357 384 (upd (r_357 384) (x_359).toNatClampNeg a3)) fun (r_377 : Nat → Nat → Int32) => (ap1 (x_259 + (4 : Int32)) fun (x_379 : Int32) => (ap1 (ri 384 0) fun (y_382 : Int32) => (ap1 (va_up r_377 384 (upd (r_377 384) (x_379).toNatClampNeg (y_382))) fun (r_383 : Nat → Nat → Int32) => (ap1 (x_248 + (1 : Int32)) fun (x_385 : Int32) => (ap1 (va_up r_383 384 (upd (r_383 384) ((3 : Int32)).toNatClampNeg x_385)) fun (r_387 : Nat → Nat → Int32) => (x_385, I, J, r_387, rj, rq))))))) := rfl
set_option maxRecDepth 100000 in
def g_X12_level_K95_2 (a3 : Int32) (I : Nat → Int32) (J : Nat → Int64) (ri : Nat → Nat → Int32) (rj : Nat → Nat → Int64) (rq : Nat → Nat → Option Nat) (x_248 : Int32) (x_259 : Int32) (r_265 : Nat → Nat → Int32) (x_267 : Int32) : Int32 × vM := (ap1 (va_up r_265 384 (upd (r_265 384) (x_267).toNatClampNeg (1 : Int32))) fun (r_357 : Nat → Nat → Int32) => (ap1 (x_259 + (3 : Int32)) fun (x_359 : Int32) => (g_X12_level_K114_2 a3 I J ri rj rq x_248 x_259 r_357 x_359 )))
set_option maxRecDepth 100000 in
theorem g_X12_level_K95_2_e {a3 : Int32} {I : Nat → Int32} {J : Nat → Int64} {ri : Nat → Nat → Int32} {rj : Nat → Nat → Int64} {rq : Nat → Nat → Option Nat} {x_248 : Int32} {x_259 : Int32} {r_265 : Nat → Nat → Int32} {x_267 : Int32} : g_X12_level_K95_2 a3 I J ri rj rq x_248 x_259 r_265 x_267  = (ap1 (va_up r_265 384 (upd (r_265 384) (x_267).toNatClampNeg (1 : Int32))) fun (r_357 : Nat → Nat → Int32) => (ap1 (x_259 + (3 : Int32)) fun (x_359 : Int32) => (g_X12_level_K114_2 a3 I J ri rj rq x_248 x_259 r_357 x_359 ))) := rfl
set_option maxRecDepth 100000 in
def g_X12_level_K32 (a0 : Int32) (a1 : Int32) (a2 : Int32) (a3 : Int32) (I : Nat → Int32) (J : Nat → Int64) (ri : Nat → Nat → Int32) (rj : Nat → Nat → Int64) (rq : Nat → Nat → Option Nat) : Int32 × vM := (ap1 (ri 384 ((3 : Int32)).toNatClampNeg) fun (x_248 : Int32) => (if x_248 = (200 : Int32) then (g_X12_level_K44 I J ri rj rq ) else (ap1 ((5 : Int32) * x_248) fun (x_257 : Int32) => (ap1 ((1220 : Int32) + x_257) fun (x_259 : Int32) => (ap1 (va_up ri 384 (upd (ri 384) (x_259).toNatClampNeg a0)) fun (r_261 : Nat → Nat → Int32) => (ap1 (x_259 + (1 : Int32)) fun (x_263 : Int32) => (ap1 (va_up r_261 384 (upd (r_261 384) (x_263).toNatClampNeg a1)) fun (r_265 : Nat → Nat → Int32) => (ap1 (x_259 + (2 : Int32)) fun (x_267 : Int32) => (if a2 = (0 : Int32) then (g_X12_level_K95 I J ri rj rq x_248 x_259 r_265 x_267 ) else (g_X12_level_K95_2 a3 I J ri rj rq x_248 x_259 r_265 x_267 ))))))))))
set_option maxRecDepth 100000 in
theorem g_X12_level_K32_e {a0 : Int32} {a1 : Int32} {a2 : Int32} {a3 : Int32} {I : Nat → Int32} {J : Nat → Int64} {ri : Nat → Nat → Int32} {rj : Nat → Nat → Int64} {rq : Nat → Nat → Option Nat} : g_X12_level_K32 a0 a1 a2 a3 I J ri rj rq  = (ap1 (ri 384 ((3 : Int32)).toNatClampNeg) fun (x_248 : Int32) => (if x_248 = (200 : Int32) then (g_X12_level_K44 I J ri rj rq ) else (ap1 ((5 : Int32) * x_248) fun (x_257 : Int32) => (ap1 ((1220 : Int32) + x_257) fun (x_259 : Int32) => (ap1 (va_up ri 384 (upd (ri 384) (x_259).toNatClampNeg a0)) fun (r_261 : Nat → Nat → Int32) => (ap1 (x_259 + (1 : Int32)) fun (x_263 : Int32) => (ap1 (va_up r_261 384 (upd (r_261 384) (x_263).toNatClampNeg a1)) fun (r_265 : Nat → Nat → Int32) => (ap1 (x_259 + (2 : Int32)) fun (x_267 : Int32) => (if a2 = (0 : Int32) then (g_X12_level_K95 I J ri rj rq x_248 x_259 r_265 x_267 ) else (g_X12_level_K95_2 a3 I J ri rj rq x_248 x_259 r_265 x_267 )))))))))) := rfl
set_option maxRecDepth 100000 in
def g_X12_level (a0 : Int32) (a1 : Int32) (a2 : Int32) (a3 : Int32) (I : Nat → Int32) (J : Nat → Int64) (ri : Nat → Nat → Int32) (rj : Nat → Nat → Int64) (rq : Nat → Nat → Option Nat) : Int32 × vM := (ap1 (g_X12_isRise a0) fun (x_1 : Int32) => (if x_1 = (0 : Int32) then (g_X12_level_K44 I J ri rj rq ) else (ap1 (g_X12_isMonth a1) fun (x_135 : Int32) => (if x_135 = (0 : Int32) then (g_X12_level_K44 I J ri rj rq ) else (if a2 = (0 : Int32) then (g_X12_level_K32 a0 a1 a2 a3 I J ri rj rq ) else (ap1 (g_X12_isIn a3 (-1000 : Int32) (5000 : Int32)) fun (x_414 : Int32) => (if x_414 = (0 : Int32) then (g_X12_level_K44 I J ri rj rq ) else (g_X12_level_K32 a0 a1 a2 a3 I J ri rj rq ))))))))
set_option maxRecDepth 100000 in
theorem g_X12_level_e {a0 : Int32} {a1 : Int32} {a2 : Int32} {a3 : Int32} {I : Nat → Int32} {J : Nat → Int64} {ri : Nat → Nat → Int32} {rj : Nat → Nat → Int64} {rq : Nat → Nat → Option Nat} : g_X12_level a0 a1 a2 a3 I J ri rj rq = (ap1 (g_X12_isRise a0) fun (x_1 : Int32) => (if x_1 = (0 : Int32) then (g_X12_level_K44 I J ri rj rq ) else (ap1 (g_X12_isMonth a1) fun (x_135 : Int32) => (if x_135 = (0 : Int32) then (g_X12_level_K44 I J ri rj rq ) else (if a2 = (0 : Int32) then (g_X12_level_K32 a0 a1 a2 a3 I J ri rj rq ) else (ap1 (g_X12_isIn a3 (-1000 : Int32) (5000 : Int32)) fun (x_414 : Int32) => (if x_414 = (0 : Int32) then (g_X12_level_K44 I J ri rj rq ) else (g_X12_level_K32 a0 a1 a2 a3 I J ri rj rq )))))))) := rfl
set_option maxHeartbeats 4000000 in
set_option maxRecDepth 100000 in
theorem s_X12_level (l : Launch) (D : va_G) (t : pq_T) (σ : pq_S) (I : Nat → Nat → Int32) (J : Nat → Nat → Int64) (ri : Nat → Nat → Int32) (rj : Nat → Nat → Int64) (rq : Nat → Nat → Option Nat) (sz : Nat) (tg : Nat → Nat) (hSH : SH σ tg) (hG0 : GT tg I ri) (this : Nat) (a0 : Int32) (a1 : Int32) (a2 : Int32) (a3 : Int32) (hL_this : this ∈ σ.1) (hK_this : σ.2.1 this = 12) (h_a2 : rg a2 0 1) : MetI l yX12_level (wa yX12_level cX12_level 6 (some .int)) ({ frames := 2, cells := 0, slots := 0, locals := 42 }) [.ref this, .int a0, .int a1, .int a2, .int a3] D t σ (I, J, ri, rj, rq) sz 0 0 (fun (r : Int32) (u : pq_S × pq_M) => ∃ ri' : Nat → Nat → Int32, u = (σ, I, J, ri', rj, rq) ∧ GM [1500, 1501, 1502, 1503, 1504, 1003] tg σ I ri I ri' rq ∧ g_X12_level a0 a1 a2 a3 (vI 12 σ this I) (vJ 12 σ this J) (vR 12 σ this ri) (vL 12 σ this rj) (vQ 12 σ this rq) = (r, (vI 12 σ this I), (vJ 12 σ this J), (vR 12 σ this ri'), (vL 12 σ this rj), (vQ 12 σ this rq)) ∧ FR 12 tg σ this (I, J, ri, rj, rq) (I, J, ri', rj, rq) ∧ rg r (-1) 200) := by
  refine Met.ofW (cc := cX12_level) (maxL := 6) (ret := (some .int)) (by decide +kernel) rfl ?_
  intro p e s m args below meth c s₁ B hml hv
  obtain ⟨rfl, hsz, hP, hK, hD0, hN⟩ := hv
  have hx := B.exec
  have hb := B.bytes
  have hr := B.returns
  have hts := atoms_spec (ws := (wa yX12_level cX12_level 6 (some .int))) B.pre
  have hown : s.vm.findClass RX12 = some m.cls := findClass_of_methodNamed B.named
  have hlocks := B.notSynchronized
  subst hsz
  have hD : va_D (pq_B t σ (I, J, ri, rj, rq) s.heap.size) (pq_P t σ (I, J, ri, rj, rq)) := hD0.self
  generalize hAe : pq_B t σ (I, J, ri, rj, rq) s.heap.size = A at hD ⊢
  have hA : ∀ q : Nat, s.heap.size ≤ q → A q := fun q h => by rw [← hAe]; exact Or.inr h
  have hS : va_S A s.heap s.heap [] := va_S.rf
  have hG : GM [1500, 1501, 1502, 1503, 1504, 1003] tg σ I ri I ri rq := ⟨hG0, fun _ _ _ => rfl, fun _ _ _ _ _ => rfl, fun _ _ _ _ _ _ => rfl⟩
  have hl := lv_entry ([.ref this, .int a0, .int a1, .int a2, .int a3]) (n := 6) (Nat.le_of_ble_eq_true rfl)
  rw [lg_entry_eq]
  generalize (lg_sl ([.ref this, .int a0, .int a1, .int a2, .int a3]) ++ List.replicate (6 - (lg_sl ([.ref this, .int a0, .int a1, .int a2, .int a3])).length) Slot.unset).toArray = ls at hl ⊢
  have hl : lv_has ls 6 [(0, .ref this), (1, .int a0), (2, .int a1), (3, .int a2), (4, .int a3)] := hl
  refine q_gen (fun Q hQ => ?_)
  have go : ∀ (H : Heap) (locs : List Loc) (ls : Array Slot), va_P D vwCl (pq_P t σ (I, J, ri, rj, rq)) H → va_D A (pq_P t σ (I, J, ri, rj, rq)) → va_S A s.heap H locs → lv_has ls 6 [(0, .ref this), (1, .int a0), (2, .int a1), (3, .int a2), (4, .int a3)] → W p l e ({ frames := 2, cells := 0, slots := 0, locals := 42 } : Room) s m (List.toArray ([.ref this, .int a0, .int a1, .int a2, .int a3] : List Value)) below meth c H locs 0 0 Q (F0 m 0 ls []) := by
    intro H locs ls hP hD hS hl
    have hO_this : this = vo σ 12 this := rfl
    have hVT : VT 12 σ tg this := vt_12 hSH hL_this hK_this
    have hFr : FR 12 tg σ this (I, J, ri, rj, rq) (I, J, ri, rj, rq) := fr_rf
    obtain ⟨F, hF0⟩ : ∃ F, F = g_X12_level a0 a1 a2 a3 (vI 12 σ this I) (vJ 12 σ this J) (vR 12 σ this ri) (vL 12 σ this rj) (vQ 12 σ this rq) := ⟨_, rfl⟩
    have hF := hF0.trans g_X12_level_e
    refine lv_iload_n hx hb dX12_level_0 rfl (lv_at hl 1 rfl) ?_
    refine pk_i (va_runS (As := [.int a0]) (rest := []) ⟨hx, hb, hml, hown, hts⟩ (s_X12_isRise l D t σ I J ri rj rq H.size tg hSH hG.1 a0) (va_cwS 1 hts (tw_S tw_259 tw_260 tw_5 tw_261) rfl rfl rfl cd_yX12_isRise_1 ⟨Nat.le_of_ble_eq_true rfl, Nat.le_of_ble_eq_true rfl⟩) ⟨pq_blind, pq_pre hK hN hP hD⟩ rfl rfl hl.1 rfl (lv_room (Nat.le_of_ble_eq_true rfl)) dX12_level_1 ⟨Nat.le_of_ble_eq_true rfl, Nat.le_of_ble_eq_true rfl⟩) hD hS hA (fun x_1 σ1 μ1 H locs hw_2 hP hD hS => ?_)
    obtain ⟨hu_3, hfn_6, hr_5⟩ := hw_2
    obtain ⟨hu_3a, hu_3b⟩ := Prod.mk.inj hu_3
    rw [hu_3a, hu_3b] at hP hD
    replace hF := hF.trans (ap_n hfn_6.symm)
    have h_8 : rg x_1 0 1 := by rcases hr_5 with ⟨q, -⟩ | ⟨q, -⟩ <;> rw [q] <;> exact ⟨by decide +kernel, by decide +kernel⟩
    have uh_8 := h_8.1
    have vh_8 := h_8.2
    have K_121 : ∀  (H : Heap) (locs : List Loc) (ls : Array Slot), F = g_X12_level_K44 (vI 12 σ this I) (vJ 12 σ this J) (vR 12 σ this ri) (vL 12 σ this rj) (vQ 12 σ this rq)  → FR 12 tg σ this (I, J, ri, rj, rq) (I, J, ri, rj, rq) → GM [1500, 1501, 1502, 1503, 1504, 1003] tg σ I ri I ri rq → va_P D vwCl (pq_P t σ (I, J, ri, rj, rq)) H → va_D A (pq_P t σ (I, J, ri, rj, rq)) → va_S A s.heap H locs → lv_has ls 6 [] → W p l e ({ frames := 2, cells := 0, slots := 0, locals := 42 } : Room) s m (List.toArray ([.ref this, .int a0, .int a1, .int a2, .int a3] : List Value)) below meth c H locs 0 0 Q (F0 m 44 ls []) := by
      intro H locs ls hF hFr hG hP hD hS hl
      replace hF := hF.trans g_X12_level_K44_e
      refine lv_iconst (v := (-1)) hx hb dX12_level_44 (by decide +kernel) ?_
      subst hQ
      exact W.iret (v := (-1)) hx hb hr (fun t1 ht hW => ⟨⟨(-1), (σ, I, J, ri, rj, rq), rfl, ⟨ri, rfl, hG, (hF0.symm.trans hF), hFr, (rg_w (rg_k (-1 : Int32) (-1) rfl) (by decide +kernel))⟩, by rw [ht]; exact hP, va_K.moved hW.alike hK, hD⟩, hS.F ht⟩) hS.2.2 dX12_level_45
    refine lv_if_eq (tgt := 44) hx hb dX12_level_4 (by decide +kernel) (fun c_122 => ?_) (fun c_122 => ?_)
    · replace hF := hF.trans (if_pos c_122)
      have f_129 := (hr_5.resolve_left (fun q => absurd (q.1.symm.trans c_122) (by decide +kernel))).2
      have tc_130 : (x_1).toInt = 0 := congrArg Int32.toInt c_122
      have h_131 : rg x_1 0 0 := rg_and h_8 (rg_of_eq c_122 (rg_k (0 : Int32) 0 rfl)) (by decide +kernel)
      have uh_131 := h_131.1
      have vh_131 := h_131.2
      exact K_121 _ _ _ hF hFr hG hP hD hS (lv_sub hl [] rfl)
    · replace hF := hF.trans (if_neg c_122)
      have f_132 := (hr_5.resolve_right (fun q => c_122 q.1)).2
      have uf_132 := f_132.1
      have vf_132 := f_132.2
      have tc_133 : (x_1).toInt ≠ 0 := fun q => c_122 (Int32.toInt_inj.mp q)
      have h_134 : rg x_1 1 1 := rg_ne c_122 h_8 0 rfl (by decide +kernel)
      have uh_134 := h_134.1
      have vh_134 := h_134.2
      refine lv_iload_n hx hb dX12_level_7 rfl (lv_at hl 2 rfl) ?_
      refine pk_i (va_runS (As := [.int a1]) (rest := []) ⟨hx, hb, hml, hown, hts⟩ (s_X12_isMonth l D t σ I J ri rj rq H.size tg hSH hG.1 a1) (va_cwS 1 hts (tw_S tw_262 tw_263 tw_5 tw_264) rfl rfl rfl cd_yX12_isMonth_1 ⟨Nat.le_of_ble_eq_true rfl, Nat.le_of_ble_eq_true rfl⟩) ⟨pq_blind, pq_pre hK hN hP hD⟩ rfl rfl hl.1 rfl (lv_room (Nat.le_of_ble_eq_true rfl)) dX12_level_8 ⟨Nat.le_of_ble_eq_true rfl, Nat.le_of_ble_eq_true rfl⟩) hD hS hA (fun x_135 σ1 μ1 H locs hw_136 hP hD hS => ?_)
      obtain ⟨hu_137, hfn_140, hr_139⟩ := hw_136
      obtain ⟨hu_137a, hu_137b⟩ := Prod.mk.inj hu_137
      rw [hu_137a, hu_137b] at hP hD
      replace hF := hF.trans (ap_n hfn_140.symm)
      have h_142 : rg x_135 0 1 := by rcases hr_139 with ⟨q, -⟩ | ⟨q, -⟩ <;> rw [q] <;> exact ⟨by decide +kernel, by decide +kernel⟩
      have uh_142 := h_142.1
      have vh_142 := h_142.2
      refine lv_if_eq (tgt := 44) hx hb dX12_level_11 (by decide +kernel) (fun c_143 => ?_) (fun c_143 => ?_)
      · replace hF := hF.trans (if_pos c_143)
        have f_150 := (hr_139.resolve_left (fun q => absurd (q.1.symm.trans c_143) (by decide +kernel))).2
        have tc_151 : (x_135).toInt = 0 := congrArg Int32.toInt c_143
        have h_152 : rg x_135 0 0 := rg_and h_142 (rg_of_eq c_143 (rg_k (0 : Int32) 0 rfl)) (by decide +kernel)
        have uh_152 := h_152.1
        have vh_152 := h_152.2
        exact K_121 _ _ _ hF hFr hG hP hD hS (lv_sub hl [] rfl)
      · replace hF := hF.trans (if_neg c_143)
        have f_153 := (hr_139.resolve_right (fun q => c_143 q.1)).2
        have uf_153 := f_153.1
        have vf_153 := f_153.2
        have tc_154 : (x_135).toInt ≠ 0 := fun q => c_143 (Int32.toInt_inj.mp q)
        have h_155 : rg x_135 1 1 := rg_ne c_143 h_142 0 rfl (by decide +kernel)
        have uh_155 := h_155.1
        have vh_155 := h_155.2
        refine lv_iload_n hx hb dX12_level_14 rfl (lv_at hl 3 rfl) ?_
        have K_246 : ∀  (H : Heap) (locs : List Loc) (ls : Array Slot), F = g_X12_level_K32 a0 a1 a2 a3 (vI 12 σ this I) (vJ 12 σ this J) (vR 12 σ this ri) (vL 12 σ this rj) (vQ 12 σ this rq)  → FR 12 tg σ this (I, J, ri, rj, rq) (I, J, ri, rj, rq) → GM [1500, 1501, 1502, 1503, 1504, 1003] tg σ I ri I ri rq → va_P D vwCl (pq_P t σ (I, J, ri, rj, rq)) H → va_D A (pq_P t σ (I, J, ri, rj, rq)) → va_S A s.heap H locs → lv_has ls 6 [(0, .ref this), (1, .int a0), (2, .int a1), (3, .int a2), (4, .int a3)] → W p l e ({ frames := 2, cells := 0, slots := 0, locals := 42 } : Room) s m (List.toArray ([.ref this, .int a0, .int a1, .int a2, .int a3] : List Value)) below meth c H locs 0 0 Q (F0 m 32 ls []) := by
          intro H locs ls hF hFr hG hP hD hS hl
          replace hF := hF.trans g_X12_level_K32_e
          refine lv_aload_n hx hb dX12_level_32 rfl (lv_at hl 0 rfl) ?_
          obtain ⟨w_247, hR_w_247, hL_w_247, hK_w_247, hN_w_247, hT_w_247⟩ := sh_a hSH 384 (ci := 12) (kd := 13) (len := 12720) rfl (by decide +kernel) hL_this hK_this
          have hO_w_247 : w_247 = vrow σ 384 this := vo_k (c := 12) hO_this hR_w_247
          refine pg_f (v := .ref w_247) (C := RX12) (T := TX12) (N := 31) hx hb hts (tw_i inlX12) hown hK hP hL_this hK_this (by decide +kernel) rfl 0 (by decide +kernel) (hts _ (tw_c tw_176)) (pq_hv rfl hR_w_247) dX12_level_33 ?_
          refine lv_iconst (v := 3) hx hb dX12_level_36 (by decide +kernel) ?_
          refine pl_i hx hb hK hP hL_w_247 hK_w_247 hN_w_247 (vp_in_iff.mpr (by decide +kernel)) dX12_level_37 ?_
          refine lv_topi (fun x_248 ex_248 => ?_)
          replace hF := hF.trans (ap_n (vR_r hO_w_247 (by decide +kernel) ex_248))
          have h_249 : rg x_248 0 200 := rg_of_eq ex_248 (GM.z hG (by rw [hT_w_247]; decide) (show zn ((3 : Int32)).toNatClampNeg = 3 from by decide +kernel) rfl)
          have uh_249 := h_249.1
          have vh_249 := h_249.2
          refine lv_sipush (v := 200) hx hb dX12_level_38 (by decide +kernel) ?_
          refine lv_icmp_ne (tgt := 46) hx hb dX12_level_41 (by decide +kernel) (fun c_250 => ?_) (fun c_250 => ?_)
          · replace hF := hF.trans (if_neg c_250)
            have tc_255 : (x_248).toInt ≠ 200 := fun q => c_250 (Int32.toInt_inj.mp q)
            have h_256 : rg x_248 0 199 := rg_ne c_250 h_249 200 rfl (by decide +kernel)
            have uh_256 := h_256.1
            have vh_256 := h_256.2
            refine lv_sipush (v := 1220) hx hb dX12_level_46 (by decide +kernel) ?_
            refine lv_iconst (v := 5) hx hb dX12_level_49 (by decide +kernel) ?_
            refine lv_aload_n hx hb dX12_level_50 rfl (lv_at hl 0 rfl) ?_
            refine pg_f (v := .ref w_247) (C := RX12) (T := TX12) (N := 31) hx hb hts (tw_i inlX12) hown hK hP hL_this hK_this (by decide +kernel) rfl 0 (by decide +kernel) (hts _ (tw_c tw_176)) (pq_hv rfl hR_w_247) dX12_level_51 ?_
            refine lv_iconst (v := 3) hx hb dX12_level_54 (by decide +kernel) ?_
            refine pl_i hx hb hK hP hL_w_247 hK_w_247 hN_w_247 (vp_in_iff.mpr (by decide +kernel)) dX12_level_55 ?_
            refine lv_tov x_248 ex_248.symm ?_
            refine lv_imul hx hb dX12_level_56 ?_
            refine lv_topi (fun x_257 ex_257 => ?_)
            replace hF := hF.trans (ap_n ex_257)
            have h_258 : rg x_257 0 995 := rg_of_eq ex_257 (rg_mul (rg_k (5 : Int32) 5 rfl) h_256 (by decide +kernel))
            have uh_258 := h_258.1
            have vh_258 := h_258.2
            have tx_257 : (x_257).toInt = 5 * (x_248).toInt := by rw [ex_257]; exact i_mul_rg (a2 := 5) (b2 := (x_248).toInt) rfl rfl (rg_k (5 : Int32) 5 rfl) h_256 (by decide +kernel)
            refine lv_iadd hx hb dX12_level_57 ?_
            refine lv_topi (fun x_259 ex_259 => ?_)
            replace hF := hF.trans (ap_n ex_259)
            have h_260 : rg x_259 1220 2215 := rg_of_eq ex_259 (rg_add (rg_k (1220 : Int32) 1220 rfl) h_258 (by decide +kernel))
            have uh_260 := h_260.1
            have vh_260 := h_260.2
            have tx_259 : (x_259).toInt = 1220 + (x_257).toInt := by rw [ex_259]; exact i_add_rg (a2 := 1220) (b2 := (x_257).toInt) rfl rfl (rg_k (1220 : Int32) 1220 rfl) h_258 (by decide +kernel)
            refine lv_istore (lv' := [(5, .int x_259), (0, .ref this), (1, .int a0), (2, .int a1), (3, .int a2), (4, .int a3)]) hx hb dX12_level_58 hl (by decide +kernel) rfl (fun ls hl => ?_)
            refine lv_aload_n hx hb dX12_level_60 rfl (lv_at hl 1 rfl) ?_
            refine pg_f (v := .ref w_247) (C := RX12) (T := TX12) (N := 31) hx hb hts (tw_i inlX12) hown hK hP hL_this hK_this (by decide +kernel) rfl 0 (by decide +kernel) (hts _ (tw_c tw_176)) (pq_hv rfl hR_w_247) dX12_level_61 ?_
            refine lv_iload hx hb dX12_level_64 (lv_at hl 0 rfl) ?_
            refine lv_iload_n hx hb dX12_level_66 rfl (lv_at hl 2 rfl) ?_
            refine pt_i hx hb hK hP hD hS hL_w_247 hK_w_247 hN_w_247 (rg_in h_260 (by decide +kernel)) dX12_level_67 (fun r_261 H locs er_261 hP hD hS => ?_)
            replace hFr := fr_R hFr hO_w_247 (by decide +kernel) er_261
            replace hF := hF.trans (ap_n (vR_st hVT hO_w_247 (by decide +kernel) er_261))
            have hG := GM.wz hG hT_w_247 (by decide +kernel) er_261 (zn_LEVEL (c := x_248.toNatClampNeg) (k := 0) (by have z_i := clampE x_259; have z_0 := clampE x_248; omega) (rg_cl1 h_256 (by decide +kernel)) (by decide +kernel)) rfl (rg_w f_132 (by decide +kernel)) (by decide +kernel)
            have h_262 : r_261 w_247 3 = x_248 := cz_ne er_261 (zn_LEVEL (c := x_248.toNatClampNeg) (k := 0) (by have z_i := clampE x_259; have z_0 := clampE x_248; omega) (rg_cl1 h_256 (by decide +kernel)) (by decide +kernel)) (by decide +kernel) (by decide +kernel) ex_248.symm
            refine lv_aload_n hx hb dX12_level_68 rfl (lv_at hl 1 rfl) ?_
            refine pg_f (v := .ref w_247) (C := RX12) (T := TX12) (N := 31) hx hb hts (tw_i inlX12) hown hK hP hL_this hK_this (by decide +kernel) rfl 0 (by decide +kernel) (hts _ (tw_c tw_176)) (pq_hv rfl hR_w_247) dX12_level_69 ?_
            refine lv_iload hx hb dX12_level_72 (lv_at hl 0 rfl) ?_
            refine lv_iconst (v := 1) hx hb dX12_level_74 (by decide +kernel) ?_
            refine lv_iadd hx hb dX12_level_75 ?_
            refine lv_topi (fun x_263 ex_263 => ?_)
            replace hF := hF.trans (ap_n ex_263)
            have h_264 : rg x_263 1221 2216 := rg_of_eq ex_263 (rg_add h_260 (rg_k (1 : Int32) 1 rfl) (by decide +kernel))
            have uh_264 := h_264.1
            have vh_264 := h_264.2
            have tx_263 : (x_263).toInt = (x_259).toInt + 1 := by rw [ex_263]; exact i_add_rg (a2 := (x_259).toInt) (b2 := 1) rfl rfl h_260 (rg_k (1 : Int32) 1 rfl) (by decide +kernel)
            refine lv_iload_n hx hb dX12_level_76 rfl (lv_at hl 3 rfl) ?_
            refine pt_i hx hb hK hP hD hS hL_w_247 hK_w_247 hN_w_247 (rg_in h_264 (by decide +kernel)) dX12_level_77 (fun r_265 H locs er_265 hP hD hS => ?_)
            replace hFr := fr_R hFr hO_w_247 (by decide +kernel) er_265
            replace hF := hF.trans (ap_n (vR_st hVT hO_w_247 (by decide +kernel) er_265))
            have hG := GM.wz hG hT_w_247 (by decide +kernel) er_265 (zn_LEVEL (c := x_248.toNatClampNeg) (k := 1) (by have z_i := clampE x_263; have z_0 := clampE x_248; omega) (rg_cl1 h_256 (by decide +kernel)) (by decide +kernel)) rfl (rg_w f_153 (by decide +kernel)) (by decide +kernel)
            have h_266 : r_265 w_247 3 = x_248 := cz_ne er_265 (zn_LEVEL (c := x_248.toNatClampNeg) (k := 1) (by have z_i := clampE x_263; have z_0 := clampE x_248; omega) (rg_cl1 h_256 (by decide +kernel)) (by decide +kernel)) (by decide +kernel) (by decide +kernel) h_262
            refine lv_aload_n hx hb dX12_level_78 rfl (lv_at hl 1 rfl) ?_
            refine pg_f (v := .ref w_247) (C := RX12) (T := TX12) (N := 31) hx hb hts (tw_i inlX12) hown hK hP hL_this hK_this (by decide +kernel) rfl 0 (by decide +kernel) (hts _ (tw_c tw_176)) (pq_hv rfl hR_w_247) dX12_level_79 ?_
            refine lv_iload hx hb dX12_level_82 (lv_at hl 0 rfl) ?_
            refine lv_iconst (v := 2) hx hb dX12_level_84 (by decide +kernel) ?_
            refine lv_iadd hx hb dX12_level_85 ?_
            refine lv_topi (fun x_267 ex_267 => ?_)
            replace hF := hF.trans (ap_n ex_267)
            have h_268 : rg x_267 1222 2217 := rg_of_eq ex_267 (rg_add h_260 (rg_k (2 : Int32) 2 rfl) (by decide +kernel))
            have uh_268 := h_268.1
            have vh_268 := h_268.2
            have tx_267 : (x_267).toInt = (x_259).toInt + 2 := by rw [ex_267]; exact i_add_rg (a2 := (x_259).toInt) (b2 := 2) rfl rfl h_260 (rg_k (2 : Int32) 2 rfl) (by decide +kernel)
            refine lv_iload_n hx hb dX12_level_86 rfl (lv_at hl 4 rfl) ?_
            have K_314 : ∀  (H : Heap) (locs : List Loc) (ls : Array Slot), rg (a2) 0 0 → F = g_X12_level_K95 (vI 12 σ this I) (vJ 12 σ this J) (vR 12 σ this ri) (vL 12 σ this rj) (vQ 12 σ this rq) x_248 x_259 (vR 12 σ this r_265) x_267  → FR 12 tg σ this (I, J, ri, rj, rq) (I, J, r_265, rj, rq) → GM [1500, 1501, 1502, 1503, 1504, 1003] tg σ I ri I r_265 rq → va_P D vwCl (pq_P t σ (I, J, r_265, rj, rq)) H → va_D A (pq_P t σ (I, J, r_265, rj, rq)) → va_S A s.heap H locs → lv_has ls 6 [(0, .ref this), (3, .int a2), (4, .int a3), (5, .int x_259)] → W p l e ({ frames := 2, cells := 0, slots := 0, locals := 42 } : Room) s m (List.toArray ([.ref this, .int a0, .int a1, .int a2, .int a3] : List Value)) below meth c H locs 0 0 Q (F0 m 95 ls [.int 0, .int x_267, .ref w_247]) := by
              intro H locs ls h_316 hF hFr hG hP hD hS hl
              have uh_316 := h_316.1
              have vh_316 := h_316.2
              replace hF := hF.trans g_X12_level_K95_e
              refine pt_i hx hb hK hP hD hS hL_w_247 hK_w_247 hN_w_247 (rg_in h_268 (by decide +kernel)) dX12_level_95 (fun r_317 H locs er_317 hP hD hS => ?_)
              replace hFr := fr_R hFr hO_w_247 (by decide +kernel) er_317
              replace hF := hF.trans (ap_n (vR_st hVT hO_w_247 (by decide +kernel) er_317))
              have hG := GM.wz hG hT_w_247 (by decide +kernel) er_317 (zn_LEVEL (c := x_248.toNatClampNeg) (k := 2) (by have z_i := clampE x_267; have z_0 := clampE x_248; omega) (rg_cl1 h_256 (by decide +kernel)) (by decide +kernel)) rfl (rg_w (rg_k (0 : Int32) 0 rfl) (by decide +kernel)) (by decide +kernel)
              have h_318 : r_317 w_247 3 = x_248 := cz_ne er_317 (zn_LEVEL (c := x_248.toNatClampNeg) (k := 2) (by have z_i := clampE x_267; have z_0 := clampE x_248; omega) (rg_cl1 h_256 (by decide +kernel)) (by decide +kernel)) (by decide +kernel) (by decide +kernel) h_266
              refine lv_aload_n hx hb dX12_level_96 rfl (lv_at hl 0 rfl) ?_
              refine pg_f (v := .ref w_247) (C := RX12) (T := TX12) (N := 31) hx hb hts (tw_i inlX12) hown hK hP hL_this hK_this (by decide +kernel) rfl 0 (by decide +kernel) (hts _ (tw_c tw_176)) (pq_hv rfl hR_w_247) dX12_level_97 ?_
              refine lv_iload hx hb dX12_level_100 (lv_at hl 3 rfl) ?_
              refine lv_iconst (v := 3) hx hb dX12_level_102 (by decide +kernel) ?_
              refine lv_iadd hx hb dX12_level_103 ?_
              refine lv_topi (fun x_319 ex_319 => ?_)
              replace hF := hF.trans (ap_n ex_319)
              have h_320 : rg x_319 1223 2218 := rg_of_eq ex_319 (rg_add h_260 (rg_k (3 : Int32) 3 rfl) (by decide +kernel))
              have uh_320 := h_320.1
              have vh_320 := h_320.2
              have tx_319 : (x_319).toInt = (x_259).toInt + 3 := by rw [ex_319]; exact i_add_rg (a2 := (x_259).toInt) (b2 := 3) rfl rfl h_260 (rg_k (3 : Int32) 3 rfl) (by decide +kernel)
              refine lv_iload_n hx hb dX12_level_104 rfl (lv_at hl 1 rfl) ?_
              have K_336 : ∀  (H : Heap) (locs : List Loc) (ls : Array Slot), F = g_X12_level_K114 (vI 12 σ this I) (vJ 12 σ this J) (vR 12 σ this ri) (vL 12 σ this rj) (vQ 12 σ this rq) x_248 x_259 (vR 12 σ this r_317) x_319  → FR 12 tg σ this (I, J, ri, rj, rq) (I, J, r_317, rj, rq) → GM [1500, 1501, 1502, 1503, 1504, 1003] tg σ I ri I r_317 rq → va_P D vwCl (pq_P t σ (I, J, r_317, rj, rq)) H → va_D A (pq_P t σ (I, J, r_317, rj, rq)) → va_S A s.heap H locs → lv_has ls 6 [(0, .ref this), (5, .int x_259)] → W p l e ({ frames := 2, cells := 0, slots := 0, locals := 42 } : Room) s m (List.toArray ([.ref this, .int a0, .int a1, .int a2, .int a3] : List Value)) below meth c H locs 0 0 Q (F0 m 114 ls [.int 0, .int x_319, .ref w_247]) := by
                intro H locs ls hF hFr hG hP hD hS hl
                replace hF := hF.trans g_X12_level_K114_e
                refine pt_i hx hb hK hP hD hS hL_w_247 hK_w_247 hN_w_247 (rg_in h_320 (by decide +kernel)) dX12_level_114 (fun r_337 H locs er_337 hP hD hS => ?_)
                replace hFr := fr_R hFr hO_w_247 (by decide +kernel) er_337
                replace hF := hF.trans (ap_n (vR_st hVT hO_w_247 (by decide +kernel) er_337))
                have hG := GM.wz hG hT_w_247 (by decide +kernel) er_337 (zn_LEVEL (c := x_248.toNatClampNeg) (k := 3) (by have z_i := clampE x_319; have z_0 := clampE x_248; omega) (rg_cl1 h_256 (by decide +kernel)) (by decide +kernel)) rfl (rg_w (rg_k (0 : Int32) 0 rfl) (by decide +kernel)) (by decide +kernel)
                have h_338 : r_337 w_247 3 = x_248 := cz_ne er_337 (zn_LEVEL (c := x_248.toNatClampNeg) (k := 3) (by have z_i := clampE x_319; have z_0 := clampE x_248; omega) (rg_cl1 h_256 (by decide +kernel)) (by decide +kernel)) (by decide +kernel) (by decide +kernel) h_318
                refine lv_aload_n hx hb dX12_level_115 rfl (lv_at hl 0 rfl) ?_
                refine pg_f (v := .ref w_247) (C := RX12) (T := TX12) (N := 31) hx hb hts (tw_i inlX12) hown hK hP hL_this hK_this (by decide +kernel) rfl 0 (by decide +kernel) (hts _ (tw_c tw_176)) (pq_hv rfl hR_w_247) dX12_level_116 ?_
                refine lv_iload hx hb dX12_level_119 (lv_at hl 1 rfl) ?_
                refine lv_iconst (v := 4) hx hb dX12_level_121 (by decide +kernel) ?_
                refine lv_iadd hx hb dX12_level_122 ?_
                refine lv_topi (fun x_339 ex_339 => ?_)
                replace hF := hF.trans (ap_n ex_339)
                have h_340 : rg x_339 1224 2219 := rg_of_eq ex_339 (rg_add h_260 (rg_k (4 : Int32) 4 rfl) (by decide +kernel))
                have uh_340 := h_340.1
                have vh_340 := h_340.2
                have tx_339 : (x_339).toInt = (x_259).toInt + 4 := by rw [ex_339]; exact i_add_rg (a2 := (x_259).toInt) (b2 := 4) rfl rfl h_260 (rg_k (4 : Int32) 4 rfl) (by decide +kernel)
                refine lv_aload_n hx hb dX12_level_123 rfl (lv_at hl 0 rfl) ?_
                refine pg_f (v := .ref w_247) (C := RX12) (T := TX12) (N := 31) hx hb hts (tw_i inlX12) hown hK hP hL_this hK_this (by decide +kernel) rfl 0 (by decide +kernel) (hts _ (tw_c tw_176)) (pq_hv rfl hR_w_247) dX12_level_124 ?_
                refine lv_iconst (v := 0) hx hb dX12_level_127 (by decide +kernel) ?_
                refine pl_i hx hb hK hP hL_w_247 hK_w_247 hN_w_247 (vp_in_iff.mpr (by decide +kernel)) dX12_level_128 ?_
                refine lv_tov (ri w_247 0) (hG.2.2.1 w_247 hT_w_247 0 (by decide +kernel) (by decide +kernel)) ?_
                have h_341 : rg (ri w_247 0) 0 600 := GM.z0 hG0 (by rw [hT_w_247]; decide) (i := 0) (k := 0) (by decide +kernel) rfl
                have uh_341 := h_341.1
                have vh_341 := h_341.2
                replace hF := hF.trans (ap_n (vR_r hO_w_247 (by decide +kernel) rfl))
                refine pt_i hx hb hK hP hD hS hL_w_247 hK_w_247 hN_w_247 (rg_in h_340 (by decide +kernel)) dX12_level_129 (fun r_343 H locs er_343 hP hD hS => ?_)
                replace hFr := fr_R hFr hO_w_247 (by decide +kernel) er_343
                replace hF := hF.trans (ap_n (vR_st hVT hO_w_247 (by decide +kernel) er_343))
                have hG := GM.wz hG hT_w_247 (by decide +kernel) er_343 (zn_LEVEL (c := x_248.toNatClampNeg) (k := 4) (by have z_i := clampE x_339; have z_0 := clampE x_248; omega) (rg_cl1 h_256 (by decide +kernel)) (by decide +kernel)) rfl (rg_w h_341 (by decide +kernel)) (by decide +kernel)
                have h_344 : r_343 w_247 3 = x_248 := cz_ne er_343 (zn_LEVEL (c := x_248.toNatClampNeg) (k := 4) (by have z_i := clampE x_339; have z_0 := clampE x_248; omega) (rg_cl1 h_256 (by decide +kernel)) (by decide +kernel)) (by decide +kernel) (by decide +kernel) h_338
                refine lv_aload_n hx hb dX12_level_130 rfl (lv_at hl 0 rfl) ?_
                refine pg_f (v := .ref w_247) (C := RX12) (T := TX12) (N := 31) hx hb hts (tw_i inlX12) hown hK hP hL_this hK_this (by decide +kernel) rfl 0 (by decide +kernel) (hts _ (tw_c tw_176)) (pq_hv rfl hR_w_247) dX12_level_131 ?_
                refine lv_iconst (v := 3) hx hb dX12_level_134 (by decide +kernel) ?_
                refine lv_dup2_11 hx hb dX12_level_135 rfl rfl ?_
                refine pl_i hx hb hK hP hL_w_247 hK_w_247 hN_w_247 (vp_in_iff.mpr (by decide +kernel)) dX12_level_136 ?_
                refine lv_tov x_248 h_344 ?_
                refine lv_iconst (v := 1) hx hb dX12_level_137 (by decide +kernel) ?_
                refine lv_iadd hx hb dX12_level_138 ?_
                refine lv_topi (fun x_345 ex_345 => ?_)
                replace hF := hF.trans (ap_n ex_345)
                have h_346 : rg x_345 1 200 := rg_of_eq ex_345 (rg_add h_256 (rg_k (1 : Int32) 1 rfl) (by decide +kernel))
                have uh_346 := h_346.1
                have vh_346 := h_346.2
                have tx_345 : (x_345).toInt = (x_248).toInt + 1 := by rw [ex_345]; exact i_add_rg (a2 := (x_248).toInt) (b2 := 1) rfl rfl h_256 (rg_k (1 : Int32) 1 rfl) (by decide +kernel)
                refine pt_i hx hb hK hP hD hS hL_w_247 hK_w_247 hN_w_247 (vp_in_iff.mpr (by decide +kernel)) dX12_level_139 (fun r_347 H locs er_347 hP hD hS => ?_)
                replace hFr := fr_R hFr hO_w_247 (by decide +kernel) er_347
                replace hF := hF.trans (ap_n (vR_st hVT hO_w_247 (by decide +kernel) er_347))
                have hG := GM.wz hG hT_w_247 (by decide +kernel) er_347 (show zn ((3 : Int32)).toNatClampNeg = 3 from by decide +kernel) rfl (rg_w h_346 (by decide +kernel)) (by decide +kernel)
                have h_348 : r_347 w_247 3 = x_345 := cz_eq er_347
                refine lv_aload_n hx hb dX12_level_140 rfl (lv_at hl 0 rfl) ?_
                refine pg_f (v := .ref w_247) (C := RX12) (T := TX12) (N := 31) hx hb hts (tw_i inlX12) hown hK hP hL_this hK_this (by decide +kernel) rfl 0 (by decide +kernel) (hts _ (tw_c tw_176)) (pq_hv rfl hR_w_247) dX12_level_141 ?_
                refine lv_iconst (v := 3) hx hb dX12_level_144 (by decide +kernel) ?_
                refine pl_i hx hb hK hP hL_w_247 hK_w_247 hN_w_247 (vp_in_iff.mpr (by decide +kernel)) dX12_level_145 ?_
                refine lv_tov x_345 h_348 ?_
                subst hQ
                exact W.iret (v := x_345) hx hb hr (fun t1 ht hW => ⟨⟨x_345, (σ, I, J, r_347, rj, rq), rfl, ⟨r_347, rfl, hG, (hF0.symm.trans hF), hFr, (rg_w h_346 (by decide +kernel))⟩, by rw [ht]; exact hP, va_K.moved hW.alike hK, hD⟩, hS.F ht⟩) hS.2.2 dX12_level_146
              refine lv_if_eq (tgt := 113) hx hb dX12_level_105 (by decide +kernel) (fun c_349 => ?_) (fun c_349 => ?_)
              · have tc_352 : (a2).toInt = 0 := congrArg Int32.toInt c_349
                refine lv_iconst (v := 0) hx hb dX12_level_113 (by decide +kernel) ?_
                exact K_336 _ _ _ hF hFr hG hP hD hS (lv_sub hl [0, 3] rfl)
              · have tc_353 : (a2).toInt ≠ 0 := fun q => c_349 (Int32.toInt_inj.mp q)
                exact (rg_empty (rg_ne c_349 h_316 0 rfl (lo := 1) (hi := (-1)) (by decide +kernel)) (by decide +kernel)).elim
            have K_354 : ∀  (H : Heap) (locs : List Loc) (ls : Array Slot), rg (a2) 1 1 → F = g_X12_level_K95_2 a3 (vI 12 σ this I) (vJ 12 σ this J) (vR 12 σ this ri) (vL 12 σ this rj) (vQ 12 σ this rq) x_248 x_259 (vR 12 σ this r_265) x_267  → FR 12 tg σ this (I, J, ri, rj, rq) (I, J, r_265, rj, rq) → GM [1500, 1501, 1502, 1503, 1504, 1003] tg σ I ri I r_265 rq → va_P D vwCl (pq_P t σ (I, J, r_265, rj, rq)) H → va_D A (pq_P t σ (I, J, r_265, rj, rq)) → va_S A s.heap H locs → lv_has ls 6 [(0, .ref this), (3, .int a2), (4, .int a3), (5, .int x_259)] → W p l e ({ frames := 2, cells := 0, slots := 0, locals := 42 } : Room) s m (List.toArray ([.ref this, .int a0, .int a1, .int a2, .int a3] : List Value)) below meth c H locs 0 0 Q (F0 m 95 ls [.int 1, .int x_267, .ref w_247]) := by
              intro H locs ls h_356 hF hFr hG hP hD hS hl
              have uh_356 := h_356.1
              have vh_356 := h_356.2
              replace hF := hF.trans g_X12_level_K95_2_e
              refine pt_i hx hb hK hP hD hS hL_w_247 hK_w_247 hN_w_247 (rg_in h_268 (by decide +kernel)) dX12_level_95 (fun r_357 H locs er_357 hP hD hS => ?_)
              replace hFr := fr_R hFr hO_w_247 (by decide +kernel) er_357
              replace hF := hF.trans (ap_n (vR_st hVT hO_w_247 (by decide +kernel) er_357))
              have hG := GM.wz hG hT_w_247 (by decide +kernel) er_357 (zn_LEVEL (c := x_248.toNatClampNeg) (k := 2) (by have z_i := clampE x_267; have z_0 := clampE x_248; omega) (rg_cl1 h_256 (by decide +kernel)) (by decide +kernel)) rfl (rg_w (rg_k (1 : Int32) 1 rfl) (by decide +kernel)) (by decide +kernel)
              have h_358 : r_357 w_247 3 = x_248 := cz_ne er_357 (zn_LEVEL (c := x_248.toNatClampNeg) (k := 2) (by have z_i := clampE x_267; have z_0 := clampE x_248; omega) (rg_cl1 h_256 (by decide +kernel)) (by decide +kernel)) (by decide +kernel) (by decide +kernel) h_266
              refine lv_aload_n hx hb dX12_level_96 rfl (lv_at hl 0 rfl) ?_
              refine pg_f (v := .ref w_247) (C := RX12) (T := TX12) (N := 31) hx hb hts (tw_i inlX12) hown hK hP hL_this hK_this (by decide +kernel) rfl 0 (by decide +kernel) (hts _ (tw_c tw_176)) (pq_hv rfl hR_w_247) dX12_level_97 ?_
              refine lv_iload hx hb dX12_level_100 (lv_at hl 3 rfl) ?_
              refine lv_iconst (v := 3) hx hb dX12_level_102 (by decide +kernel) ?_
              refine lv_iadd hx hb dX12_level_103 ?_
              refine lv_topi (fun x_359 ex_359 => ?_)
              replace hF := hF.trans (ap_n ex_359)
              have h_360 : rg x_359 1223 2218 := rg_of_eq ex_359 (rg_add h_260 (rg_k (3 : Int32) 3 rfl) (by decide +kernel))
              have uh_360 := h_360.1
              have vh_360 := h_360.2
              have tx_359 : (x_359).toInt = (x_259).toInt + 3 := by rw [ex_359]; exact i_add_rg (a2 := (x_259).toInt) (b2 := 3) rfl rfl h_260 (rg_k (3 : Int32) 3 rfl) (by decide +kernel)
              refine lv_iload_n hx hb dX12_level_104 rfl (lv_at hl 1 rfl) ?_
              have K_376 : ∀  (H : Heap) (locs : List Loc) (ls : Array Slot), F = g_X12_level_K114_2 a3 (vI 12 σ this I) (vJ 12 σ this J) (vR 12 σ this ri) (vL 12 σ this rj) (vQ 12 σ this rq) x_248 x_259 (vR 12 σ this r_357) x_359  → FR 12 tg σ this (I, J, ri, rj, rq) (I, J, r_357, rj, rq) → GM [1500, 1501, 1502, 1503, 1504, 1003] tg σ I ri I r_357 rq → va_P D vwCl (pq_P t σ (I, J, r_357, rj, rq)) H → va_D A (pq_P t σ (I, J, r_357, rj, rq)) → va_S A s.heap H locs → lv_has ls 6 [(0, .ref this), (5, .int x_259)] → W p l e ({ frames := 2, cells := 0, slots := 0, locals := 42 } : Room) s m (List.toArray ([.ref this, .int a0, .int a1, .int a2, .int a3] : List Value)) below meth c H locs 0 0 Q (F0 m 114 ls [.int a3, .int x_359, .ref w_247]) := by
                intro H locs ls hF hFr hG hP hD hS hl
                replace hF := hF.trans g_X12_level_K114_2_e
                refine pt_i hx hb hK hP hD hS hL_w_247 hK_w_247 hN_w_247 (rg_in h_360 (by decide +kernel)) dX12_level_114 (fun r_377 H locs er_377 hP hD hS => ?_)
                replace hFr := fr_R hFr hO_w_247 (by decide +kernel) er_377
                replace hF := hF.trans (ap_n (vR_st hVT hO_w_247 (by decide +kernel) er_377))
                have hG := GM.wz hG hT_w_247 (by decide +kernel) er_377 (zn_LEVEL (c := x_248.toNatClampNeg) (k := 3) (by have z_i := clampE x_359; have z_0 := clampE x_248; omega) (rg_cl1 h_256 (by decide +kernel)) (by decide +kernel)) rfl (rg_w (rg_full _) (by decide +kernel)) (by decide +kernel)
                have h_378 : r_377 w_247 3 = x_248 := cz_ne er_377 (zn_LEVEL (c := x_248.toNatClampNeg) (k := 3) (by have z_i := clampE x_359; have z_0 := clampE x_248; omega) (rg_cl1 h_256 (by decide +kernel)) (by decide +kernel)) (by decide +kernel) (by decide +kernel) h_358
                refine lv_aload_n hx hb dX12_level_115 rfl (lv_at hl 0 rfl) ?_
                refine pg_f (v := .ref w_247) (C := RX12) (T := TX12) (N := 31) hx hb hts (tw_i inlX12) hown hK hP hL_this hK_this (by decide +kernel) rfl 0 (by decide +kernel) (hts _ (tw_c tw_176)) (pq_hv rfl hR_w_247) dX12_level_116 ?_
                refine lv_iload hx hb dX12_level_119 (lv_at hl 1 rfl) ?_
                refine lv_iconst (v := 4) hx hb dX12_level_121 (by decide +kernel) ?_
                refine lv_iadd hx hb dX12_level_122 ?_
                refine lv_topi (fun x_379 ex_379 => ?_)
                replace hF := hF.trans (ap_n ex_379)
                have h_380 : rg x_379 1224 2219 := rg_of_eq ex_379 (rg_add h_260 (rg_k (4 : Int32) 4 rfl) (by decide +kernel))
                have uh_380 := h_380.1
                have vh_380 := h_380.2
                have tx_379 : (x_379).toInt = (x_259).toInt + 4 := by rw [ex_379]; exact i_add_rg (a2 := (x_259).toInt) (b2 := 4) rfl rfl h_260 (rg_k (4 : Int32) 4 rfl) (by decide +kernel)
                refine lv_aload_n hx hb dX12_level_123 rfl (lv_at hl 0 rfl) ?_
                refine pg_f (v := .ref w_247) (C := RX12) (T := TX12) (N := 31) hx hb hts (tw_i inlX12) hown hK hP hL_this hK_this (by decide +kernel) rfl 0 (by decide +kernel) (hts _ (tw_c tw_176)) (pq_hv rfl hR_w_247) dX12_level_124 ?_
                refine lv_iconst (v := 0) hx hb dX12_level_127 (by decide +kernel) ?_
                refine pl_i hx hb hK hP hL_w_247 hK_w_247 hN_w_247 (vp_in_iff.mpr (by decide +kernel)) dX12_level_128 ?_
                refine lv_tov (ri w_247 0) (hG.2.2.1 w_247 hT_w_247 0 (by decide +kernel) (by decide +kernel)) ?_
                have h_381 : rg (ri w_247 0) 0 600 := GM.z0 hG0 (by rw [hT_w_247]; decide) (i := 0) (k := 0) (by decide +kernel) rfl
                have uh_381 := h_381.1
                have vh_381 := h_381.2
                replace hF := hF.trans (ap_n (vR_r hO_w_247 (by decide +kernel) rfl))
                refine pt_i hx hb hK hP hD hS hL_w_247 hK_w_247 hN_w_247 (rg_in h_380 (by decide +kernel)) dX12_level_129 (fun r_383 H locs er_383 hP hD hS => ?_)
                replace hFr := fr_R hFr hO_w_247 (by decide +kernel) er_383
                replace hF := hF.trans (ap_n (vR_st hVT hO_w_247 (by decide +kernel) er_383))
                have hG := GM.wz hG hT_w_247 (by decide +kernel) er_383 (zn_LEVEL (c := x_248.toNatClampNeg) (k := 4) (by have z_i := clampE x_379; have z_0 := clampE x_248; omega) (rg_cl1 h_256 (by decide +kernel)) (by decide +kernel)) rfl (rg_w h_381 (by decide +kernel)) (by decide +kernel)
                have h_384 : r_383 w_247 3 = x_248 := cz_ne er_383 (zn_LEVEL (c := x_248.toNatClampNeg) (k := 4) (by have z_i := clampE x_379; have z_0 := clampE x_248; omega) (rg_cl1 h_256 (by decide +kernel)) (by decide +kernel)) (by decide +kernel) (by decide +kernel) h_378
                refine lv_aload_n hx hb dX12_level_130 rfl (lv_at hl 0 rfl) ?_
                refine pg_f (v := .ref w_247) (C := RX12) (T := TX12) (N := 31) hx hb hts (tw_i inlX12) hown hK hP hL_this hK_this (by decide +kernel) rfl 0 (by decide +kernel) (hts _ (tw_c tw_176)) (pq_hv rfl hR_w_247) dX12_level_131 ?_
                refine lv_iconst (v := 3) hx hb dX12_level_134 (by decide +kernel) ?_
                refine lv_dup2_11 hx hb dX12_level_135 rfl rfl ?_
                refine pl_i hx hb hK hP hL_w_247 hK_w_247 hN_w_247 (vp_in_iff.mpr (by decide +kernel)) dX12_level_136 ?_
                refine lv_tov x_248 h_384 ?_
                refine lv_iconst (v := 1) hx hb dX12_level_137 (by decide +kernel) ?_
                refine lv_iadd hx hb dX12_level_138 ?_
                refine lv_topi (fun x_385 ex_385 => ?_)
                replace hF := hF.trans (ap_n ex_385)
                have h_386 : rg x_385 1 200 := rg_of_eq ex_385 (rg_add h_256 (rg_k (1 : Int32) 1 rfl) (by decide +kernel))
                have uh_386 := h_386.1
                have vh_386 := h_386.2
                have tx_385 : (x_385).toInt = (x_248).toInt + 1 := by rw [ex_385]; exact i_add_rg (a2 := (x_248).toInt) (b2 := 1) rfl rfl h_256 (rg_k (1 : Int32) 1 rfl) (by decide +kernel)
                refine pt_i hx hb hK hP hD hS hL_w_247 hK_w_247 hN_w_247 (vp_in_iff.mpr (by decide +kernel)) dX12_level_139 (fun r_387 H locs er_387 hP hD hS => ?_)
                replace hFr := fr_R hFr hO_w_247 (by decide +kernel) er_387
                replace hF := hF.trans (ap_n (vR_st hVT hO_w_247 (by decide +kernel) er_387))
                have hG := GM.wz hG hT_w_247 (by decide +kernel) er_387 (show zn ((3 : Int32)).toNatClampNeg = 3 from by decide +kernel) rfl (rg_w h_386 (by decide +kernel)) (by decide +kernel)
                have h_388 : r_387 w_247 3 = x_385 := cz_eq er_387
                refine lv_aload_n hx hb dX12_level_140 rfl (lv_at hl 0 rfl) ?_
                refine pg_f (v := .ref w_247) (C := RX12) (T := TX12) (N := 31) hx hb hts (tw_i inlX12) hown hK hP hL_this hK_this (by decide +kernel) rfl 0 (by decide +kernel) (hts _ (tw_c tw_176)) (pq_hv rfl hR_w_247) dX12_level_141 ?_
                refine lv_iconst (v := 3) hx hb dX12_level_144 (by decide +kernel) ?_
                refine pl_i hx hb hK hP hL_w_247 hK_w_247 hN_w_247 (vp_in_iff.mpr (by decide +kernel)) dX12_level_145 ?_
                refine lv_tov x_385 h_388 ?_
                subst hQ
                exact W.iret (v := x_385) hx hb hr (fun t1 ht hW => ⟨⟨x_385, (σ, I, J, r_387, rj, rq), rfl, ⟨r_387, rfl, hG, (hF0.symm.trans hF), hFr, (rg_w h_386 (by decide +kernel))⟩, by rw [ht]; exact hP, va_K.moved hW.alike hK, hD⟩, hS.F ht⟩) hS.2.2 dX12_level_146
              refine lv_if_eq (tgt := 113) hx hb dX12_level_105 (by decide +kernel) (fun c_389 => ?_) (fun c_389 => ?_)
              · have tc_392 : (a2).toInt = 0 := congrArg Int32.toInt c_389
                exact (rg_empty (rg_and h_356 (rg_of_eq c_389 (rg_k (0 : Int32) 0 rfl)) (lo := 1) (hi := 0) (by decide +kernel)) (by decide +kernel)).elim
              · have tc_393 : (a2).toInt ≠ 0 := fun q => c_389 (Int32.toInt_inj.mp q)
                refine lv_iload hx hb dX12_level_108 (lv_at hl 2 rfl) ?_
                refine lv_goto (tgt := 114) hx hb dX12_level_110 (by decide +kernel) ?_
                exact K_376 _ _ _ hF hFr hG hP hD hS (lv_sub hl [0, 3] rfl)
            refine lv_if_eq (tgt := 94) hx hb dX12_level_87 (by decide +kernel) (fun c_394 => ?_) (fun c_394 => ?_)
            · replace hF := hF.trans (if_pos c_394)
              have tc_399 : (a2).toInt = 0 := congrArg Int32.toInt c_394
              have h_400 : rg a2 0 0 := rg_and h_a2 (rg_of_eq c_394 (rg_k (0 : Int32) 0 rfl)) (by decide +kernel)
              have uh_400 := h_400.1
              have vh_400 := h_400.2
              refine lv_iconst (v := 0) hx hb dX12_level_94 (by decide +kernel) ?_
              exact K_314 _ _ _ (rg_w h_400 (by decide +kernel)) hF hFr hG hP hD hS (lv_sub hl [1, 4, 5, 0] rfl)
            · replace hF := hF.trans (if_neg c_394)
              have tc_401 : (a2).toInt ≠ 0 := fun q => c_394 (Int32.toInt_inj.mp q)
              have h_402 : rg a2 1 1 := rg_ne c_394 h_a2 0 rfl (by decide +kernel)
              have uh_402 := h_402.1
              have vh_402 := h_402.2
              refine lv_iconst (v := 1) hx hb dX12_level_90 (by decide +kernel) ?_
              refine lv_goto (tgt := 95) hx hb dX12_level_91 (by decide +kernel) ?_
              exact K_354 _ _ _ (rg_w h_402 (by decide +kernel)) hF hFr hG hP hD hS (lv_sub hl [1, 4, 5, 0] rfl)
          · replace hF := hF.trans (if_pos c_250)
            have tc_403 : (x_248).toInt = 200 := congrArg Int32.toInt c_250
            have h_404 : rg x_248 200 200 := rg_and h_249 (rg_of_eq c_250 (rg_k (200 : Int32) 200 rfl)) (by decide +kernel)
            have uh_404 := h_404.1
            have vh_404 := h_404.2
            exact K_121 _ _ _ hF hFr hG hP hD hS (lv_sub hl [] rfl)
        refine lv_if_eq (tgt := 32) hx hb dX12_level_15 (by decide +kernel) (fun c_405 => ?_) (fun c_405 => ?_)
        · replace hF := hF.trans (if_pos c_405)
          have tc_410 : (a2).toInt = 0 := congrArg Int32.toInt c_405
          have h_411 : rg a2 0 0 := rg_and h_a2 (rg_of_eq c_405 (rg_k (0 : Int32) 0 rfl)) (by decide +kernel)
          have uh_411 := h_411.1
          have vh_411 := h_411.2
          exact K_246 _ _ _ hF hFr hG hP hD hS (lv_sub hl [0, 1, 2, 3, 4] rfl)
        · replace hF := hF.trans (if_neg c_405)
          have tc_412 : (a2).toInt ≠ 0 := fun q => c_405 (Int32.toInt_inj.mp q)
          have h_413 : rg a2 1 1 := rg_ne c_405 h_a2 0 rfl (by decide +kernel)
          have uh_413 := h_413.1
          have vh_413 := h_413.2
          refine lv_iload hx hb dX12_level_18 (lv_at hl 4 rfl) ?_
          refine lv_sipush (v := (-1000)) hx hb dX12_level_20 (by decide +kernel) ?_
          refine lv_sipush (v := 5000) hx hb dX12_level_23 (by decide +kernel) ?_
          refine pk_i (va_runS (As := [.int a3, .int (-1000), .int 5000]) (rest := []) ⟨hx, hb, hml, hown, hts⟩ (s_X12_isIn l D t σ I J ri rj rq H.size tg hSH hG.1 a3 (-1000 : Int32) (5000 : Int32)) (va_cwS 3 hts (tw_S tw_235 tw_236 tw_5 tw_237) rfl rfl rfl cd_yX12_isIn_3 ⟨Nat.le_of_ble_eq_true rfl, Nat.le_of_ble_eq_true rfl⟩) ⟨pq_blind, pq_pre hK hN hP hD⟩ rfl rfl hl.1 rfl (lv_room (Nat.le_of_ble_eq_true rfl)) dX12_level_26 ⟨Nat.le_of_ble_eq_true rfl, Nat.le_of_ble_eq_true rfl⟩) hD hS hA (fun x_414 σ1 μ1 H locs hw_415 hP hD hS => ?_)
          obtain ⟨hu_416, hfn_419, hr_418⟩ := hw_415
          obtain ⟨hu_416a, hu_416b⟩ := Prod.mk.inj hu_416
          rw [hu_416a, hu_416b] at hP hD
          replace hF := hF.trans (ap_n hfn_419.symm)
          have h_421 : rg x_414 0 1 := by rcases hr_418 with ⟨q, -⟩ | ⟨q, -⟩ <;> rw [q] <;> exact ⟨by decide +kernel, by decide +kernel⟩
          have uh_421 := h_421.1
          have vh_421 := h_421.2
          refine lv_if_eq (tgt := 44) hx hb dX12_level_29 (by decide +kernel) (fun c_422 => ?_) (fun c_422 => ?_)
          · replace hF := hF.trans (if_pos c_422)
            have f_434 := (hr_418.resolve_left (fun q => absurd (q.1.symm.trans c_422) (by decide +kernel))).2
            have tc_435 : (x_414).toInt = 0 := congrArg Int32.toInt c_422
            have h_436 : rg x_414 0 0 := rg_and h_421 (rg_of_eq c_422 (rg_k (0 : Int32) 0 rfl)) (by decide +kernel)
            have uh_436 := h_436.1
            have vh_436 := h_436.2
            exact K_121 _ _ _ hF hFr hG hP hD hS (lv_sub hl [] rfl)
          · replace hF := hF.trans (if_neg c_422)
            obtain ⟨f_437, f_438⟩ := (hr_418.resolve_right (fun q => c_422 q.1)).2
            have tc_439 : (-1000) ≤ (a3).toInt := Int32.le_iff_toInt_le.mp f_437
            have h_440 : rg a3 (-1000) 2147483647 := rg_le2 f_437 (rg_k (-1000 : Int32) (-1000) rfl) (rg_full _) (by decide +kernel)
            have uh_440 := h_440.1
            have vh_440 := h_440.2
            have tc_441 : (a3).toInt ≤ 5000 := Int32.le_iff_toInt_le.mp f_438
            have h_442 : rg a3 (-1000) 5000 := rg_le1 f_438 h_440 (rg_k (5000 : Int32) 5000 rfl) (by decide +kernel)
            have uh_442 := h_442.1
            have vh_442 := h_442.2
            have tc_443 : (x_414).toInt ≠ 0 := fun q => c_422 (Int32.toInt_inj.mp q)
            have h_444 : rg x_414 1 1 := rg_ne c_422 h_421 0 rfl (by decide +kernel)
            have uh_444 := h_444.1
            have vh_444 := h_444.2
            exact K_246 _ _ _ hF hFr hG hP hD hS (lv_sub hl [0, 1, 2, 3, 4] rfl)
  exact go _ _ _ hP hD hS hl
