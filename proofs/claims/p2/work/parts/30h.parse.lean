theorem dX12_keys_0 : decode cX12_keys 0 = .ok (.aload_n 0, 1) := by decide +kernel
theorem dX12_keys_1 : decode cX12_keys 1 = .ok (.getfield 7, 3) := by decide +kernel
theorem dX12_keys_4 : decode cX12_keys 4 = .ok (.iload_n 1, 1) := by decide +kernel
theorem dX12_keys_5 : decode cX12_keys 5 = .ok (.iconst 4, 1) := by decide +kernel
theorem dX12_keys_6 : decode cX12_keys 6 = .ok (.iadd, 1) := by decide +kernel
theorem dX12_keys_7 : decode cX12_keys 7 = .ok (.iconst 0, 1) := by decide +kernel
theorem dX12_keys_8 : decode cX12_keys 8 = .ok (.iastore, 1) := by decide +kernel
theorem dX12_keys_9 : decode cX12_keys 9 = .ok (.iconst 1, 1) := by decide +kernel
theorem dX12_keys_10 : decode cX12_keys 10 = .ok (.istore_n 2, 1) := by decide +kernel
theorem dX12_keys_11 : decode cX12_keys 11 = .ok (.iload_n 2, 1) := by decide +kernel
theorem dX12_keys_12 : decode cX12_keys 12 = .ok (.ifCond .eq 136, 3) := by decide +kernel
theorem dX12_keys_148 : decode cX12_keys 148 = .ok (.iconst 0, 1) := by decide +kernel
theorem dX12_keys_149 : decode cX12_keys 149 = .ok (.ireturn, 1) := by decide +kernel
theorem dX12_keys_15 : decode cX12_keys 15 = .ok (.aload_n 0, 1) := by decide +kernel
theorem dX12_keys_16 : decode cX12_keys 16 = .ok (.getfield 143, 3) := by decide +kernel
theorem dX12_keys_19 : decode cX12_keys 19 = .ok (.bipush 45, 2) := by decide +kernel
theorem dX12_keys_21 : decode cX12_keys 21 = .ok (.if_icmp .ne 7, 3) := by decide +kernel
theorem dX12_keys_28 : decode cX12_keys 28 = .ok (.iconst 0, 1) := by decide +kernel
theorem dX12_keys_29 : decode cX12_keys 29 = .ok (.istore_n 3, 1) := by decide +kernel
theorem dX12_keys_30 : decode cX12_keys 30 = .ok (.iload_n 3, 1) := by decide +kernel
theorem dX12_keys_31 : decode cX12_keys 31 = .ok (.ifCond .ne 10, 3) := by decide +kernel
theorem dX12_keys_34 : decode cX12_keys 34 = .ok (.aload_n 0, 1) := by decide +kernel
theorem dX12_keys_35 : decode cX12_keys 35 = .ok (.invokevirtual 192, 3) := by decide +kernel
theorem dX12_keys_38 : decode cX12_keys 38 = .ok (.ifCond .lt 17, 3) := by decide +kernel
theorem dX12_keys_55 : decode cX12_keys 55 = .ok (.iload_n 3, 1) := by decide +kernel
theorem dX12_keys_56 : decode cX12_keys 56 = .ok (.ifCond .eq 7, 3) := by decide +kernel
theorem dX12_keys_63 : decode cX12_keys 63 = .ok (.aload_n 0, 1) := by decide +kernel
theorem dX12_keys_64 : decode cX12_keys 64 = .ok (.invokevirtual 192, 3) := by decide +kernel
theorem dX12_keys_67 : decode cX12_keys 67 = .ok (.ifCond .ge 5, 3) := by decide +kernel
theorem dX12_keys_72 : decode cX12_keys 72 = .ok (.aload_n 0, 1) := by decide +kernel
theorem dX12_keys_73 : decode cX12_keys 73 = .ok (.getfield 7, 3) := by decide +kernel
theorem dX12_keys_76 : decode cX12_keys 76 = .ok (.iload_n 1, 1) := by decide +kernel
theorem dX12_keys_77 : decode cX12_keys 77 = .ok (.iconst 5, 1) := by decide +kernel
theorem dX12_keys_78 : decode cX12_keys 78 = .ok (.iadd, 1) := by decide +kernel
theorem dX12_keys_79 : decode cX12_keys 79 = .ok (.aload_n 0, 1) := by decide +kernel
theorem dX12_keys_80 : decode cX12_keys 80 = .ok (.getfield 7, 3) := by decide +kernel
theorem dX12_keys_83 : decode cX12_keys 83 = .ok (.iload_n 1, 1) := by decide +kernel
theorem dX12_keys_84 : decode cX12_keys 84 = .ok (.iconst 4, 1) := by decide +kernel
theorem dX12_keys_85 : decode cX12_keys 85 = .ok (.iadd, 1) := by decide +kernel
theorem dX12_keys_86 : decode cX12_keys 86 = .ok (.iaload, 1) := by decide +kernel
theorem dX12_keys_87 : decode cX12_keys 87 = .ok (.iadd, 1) := by decide +kernel
theorem dX12_keys_88 : decode cX12_keys 88 = .ok (.iload_n 3, 1) := by decide +kernel
theorem dX12_keys_89 : decode cX12_keys 89 = .ok (.ifCond .eq 12, 3) := by decide +kernel
theorem dX12_keys_101 : decode cX12_keys 101 = .ok (.aload_n 0, 1) := by decide +kernel
theorem dX12_keys_102 : decode cX12_keys 102 = .ok (.invokevirtual 192, 3) := by decide +kernel
theorem dX12_keys_105 : decode cX12_keys 105 = .ok (.iastore, 1) := by decide +kernel
theorem dX12_keys_106 : decode cX12_keys 106 = .ok (.aload_n 0, 1) := by decide +kernel
theorem dX12_keys_107 : decode cX12_keys 107 = .ok (.getfield 7, 3) := by decide +kernel
theorem dX12_keys_110 : decode cX12_keys 110 = .ok (.iload_n 1, 1) := by decide +kernel
theorem dX12_keys_111 : decode cX12_keys 111 = .ok (.iconst 4, 1) := by decide +kernel
theorem dX12_keys_112 : decode cX12_keys 112 = .ok (.iadd, 1) := by decide +kernel
theorem dX12_keys_113 : decode cX12_keys 113 = .ok (.dup2, 1) := by decide +kernel
theorem dX12_keys_114 : decode cX12_keys 114 = .ok (.iaload, 1) := by decide +kernel
theorem dX12_keys_115 : decode cX12_keys 115 = .ok (.iconst 1, 1) := by decide +kernel
theorem dX12_keys_116 : decode cX12_keys 116 = .ok (.iadd, 1) := by decide +kernel
theorem dX12_keys_117 : decode cX12_keys 117 = .ok (.iastore, 1) := by decide +kernel
theorem dX12_keys_118 : decode cX12_keys 118 = .ok (.aload_n 0, 1) := by decide +kernel
theorem dX12_keys_119 : decode cX12_keys 119 = .ok (.invokevirtual 196, 3) := by decide +kernel
theorem dX12_keys_122 : decode cX12_keys 122 = .ok (.aload_n 0, 1) := by decide +kernel
theorem dX12_keys_123 : decode cX12_keys 123 = .ok (.getfield 143, 3) := by decide +kernel
theorem dX12_keys_126 : decode cX12_keys 126 = .ok (.bipush 44, 2) := by decide +kernel
theorem dX12_keys_128 : decode cX12_keys 128 = .ok (.if_icmp .ne 7, 3) := by decide +kernel
theorem dX12_keys_135 : decode cX12_keys 135 = .ok (.iconst 0, 1) := by decide +kernel
theorem dX12_keys_136 : decode cX12_keys 136 = .ok (.istore_n 2, 1) := by decide +kernel
theorem dX12_keys_137 : decode cX12_keys 137 = .ok (.iload_n 2, 1) := by decide +kernel
theorem dX12_keys_138 : decode cX12_keys 138 = .ok (.ifCond .eq 7, 3) := by decide +kernel
theorem dX12_keys_145 : decode cX12_keys 145 = .ok (.goto (-134), 3) := by decide +kernel
theorem dX12_keys_131 : decode cX12_keys 131 = .ok (.iconst 1, 1) := by decide +kernel
theorem dX12_keys_132 : decode cX12_keys 132 = .ok (.goto 4, 3) := by decide +kernel
theorem dX12_keys_141 : decode cX12_keys 141 = .ok (.aload_n 0, 1) := by decide +kernel
theorem dX12_keys_142 : decode cX12_keys 142 = .ok (.invokevirtual 196, 3) := by decide +kernel
theorem dX12_keys_70 : decode cX12_keys 70 = .ok (.iconst 1, 1) := by decide +kernel
theorem dX12_keys_71 : decode cX12_keys 71 = .ok (.ireturn, 1) := by decide +kernel
theorem dX12_keys_41 : decode cX12_keys 41 = .ok (.aload_n 0, 1) := by decide +kernel
theorem dX12_keys_42 : decode cX12_keys 42 = .ok (.getfield 7, 3) := by decide +kernel
theorem dX12_keys_45 : decode cX12_keys 45 = .ok (.iload_n 1, 1) := by decide +kernel
theorem dX12_keys_46 : decode cX12_keys 46 = .ok (.iconst 4, 1) := by decide +kernel
theorem dX12_keys_47 : decode cX12_keys 47 = .ok (.iadd, 1) := by decide +kernel
theorem dX12_keys_48 : decode cX12_keys 48 = .ok (.iaload, 1) := by decide +kernel
theorem dX12_keys_49 : decode cX12_keys 49 = .ok (.iconst 4, 1) := by decide +kernel
theorem dX12_keys_50 : decode cX12_keys 50 = .ok (.if_icmp .ne 5, 3) := by decide +kernel
theorem dX12_keys_53 : decode cX12_keys 53 = .ok (.iconst 5, 1) := by decide +kernel
theorem dX12_keys_54 : decode cX12_keys 54 = .ok (.ireturn, 1) := by decide +kernel
theorem dX12_keys_24 : decode cX12_keys 24 = .ok (.iconst 1, 1) := by decide +kernel
theorem dX12_keys_25 : decode cX12_keys 25 = .ok (.goto 4, 3) := by decide +kernel
theorem dX12_keys_59 : decode cX12_keys 59 = .ok (.aload_n 0, 1) := by decide +kernel
theorem dX12_keys_60 : decode cX12_keys 60 = .ok (.invokevirtual 196, 3) := by decide +kernel
theorem dX12_keys_92 : decode cX12_keys 92 = .ok (.iconst (-1), 1) := by decide +kernel
theorem dX12_keys_93 : decode cX12_keys 93 = .ok (.aload_n 0, 1) := by decide +kernel
theorem dX12_keys_94 : decode cX12_keys 94 = .ok (.invokevirtual 192, 3) := by decide +kernel
theorem dX12_keys_97 : decode cX12_keys 97 = .ok (.isub, 1) := by decide +kernel
theorem dX12_keys_98 : decode cX12_keys 98 = .ok (.goto 7, 3) := by decide +kernel
theorem dX12_take_0 : decode cX12_take 0 = .ok (.aload_n 0, 1) := by decide +kernel
theorem dX12_take_1 : decode cX12_take 1 = .ok (.getfield 143, 3) := by decide +kernel
theorem dX12_take_4 : decode cX12_take 4 = .ok (.iconst 1, 1) := by decide +kernel
theorem dX12_take_5 : decode cX12_take 5 = .ok (.if_icmp .eq 5, 3) := by decide +kernel
theorem dX12_take_10 : decode cX12_take 10 = .ok (.aload_n 0, 1) := by decide +kernel
theorem dX12_take_11 : decode cX12_take 11 = .ok (.getfield 149, 3) := by decide +kernel
theorem dX12_take_14 : decode cX12_take 14 = .ok (.iload_n 1, 1) := by decide +kernel
theorem dX12_take_15 : decode cX12_take 15 = .ok (.if_icmp .le 5, 3) := by decide +kernel
theorem dX12_take_20 : decode cX12_take 20 = .ok (.aload_n 0, 1) := by decide +kernel
theorem dX12_take_21 : decode cX12_take 21 = .ok (.getfield 7, 3) := by decide +kernel
theorem dX12_take_24 : decode cX12_take 24 = .ok (.iload_n 2, 1) := by decide +kernel
theorem dX12_take_25 : decode cX12_take 25 = .ok (.aload_n 0, 1) := by decide +kernel
theorem dX12_take_26 : decode cX12_take 26 = .ok (.getfield 149, 3) := by decide +kernel
theorem dX12_take_29 : decode cX12_take 29 = .ok (.iastore, 1) := by decide +kernel
theorem dX12_take_30 : decode cX12_take 30 = .ok (.aload_n 0, 1) := by decide +kernel
theorem dX12_take_31 : decode cX12_take 31 = .ok (.invokevirtual 196, 3) := by decide +kernel
theorem dX12_take_34 : decode cX12_take 34 = .ok (.iconst 0, 1) := by decide +kernel
theorem dX12_take_35 : decode cX12_take 35 = .ok (.ireturn, 1) := by decide +kernel
theorem dX12_take_18 : decode cX12_take 18 = .ok (.iconst 2, 1) := by decide +kernel
theorem dX12_take_19 : decode cX12_take 19 = .ok (.ireturn, 1) := by decide +kernel
theorem dX12_take_8 : decode cX12_take 8 = .ok (.iconst 1, 1) := by decide +kernel
theorem dX12_take_9 : decode cX12_take 9 = .ok (.ireturn, 1) := by decide +kernel
theorem dX12_sortOf_0 : decode cX12_sortOf 0 = .ok (.aload_n 0, 1) := by decide +kernel
theorem dX12_sortOf_1 : decode cX12_sortOf 1 = .ok (.getfield 143, 3) := by decide +kernel
theorem dX12_sortOf_4 : decode cX12_sortOf 4 = .ok (.iconst 2, 1) := by decide +kernel
theorem dX12_sortOf_5 : decode cX12_sortOf 5 = .ok (.if_icmp .eq 5, 3) := by decide +kernel
theorem dX12_sortOf_10 : decode cX12_sortOf 10 = .ok (.aload_n 0, 1) := by decide +kernel
theorem dX12_sortOf_11 : decode cX12_sortOf 11 = .ok (.getfield 156, 3) := by decide +kernel
theorem dX12_sortOf_14 : decode cX12_sortOf 14 = .ok (.bipush 108, 2) := by decide +kernel
theorem dX12_sortOf_16 : decode cX12_sortOf 16 = .ok (.bipush 97, 2) := by decide +kernel
theorem dX12_sortOf_18 : decode cX12_sortOf 18 = .ok (.bipush 115, 2) := by decide +kernel
theorem dX12_sortOf_20 : decode cX12_sortOf 20 = .ok (.bipush 116, 2) := by decide +kernel
theorem dX12_sortOf_22 : decode cX12_sortOf 22 = .ok (.bipush 115, 2) := by decide +kernel
theorem dX12_sortOf_24 : decode cX12_sortOf 24 = .ok (.invokestatic 168, 3) := by decide +kernel
theorem dX12_sortOf_27 : decode cX12_sortOf 27 = .ok (.lcmp, 1) := by decide +kernel
theorem dX12_sortOf_28 : decode cX12_sortOf 28 = .ok (.ifCond .ne 5, 3) := by decide +kernel
theorem dX12_sortOf_33 : decode cX12_sortOf 33 = .ok (.aload_n 0, 1) := by decide +kernel
theorem dX12_sortOf_34 : decode cX12_sortOf 34 = .ok (.getfield 156, 3) := by decide +kernel
theorem dX12_sortOf_37 : decode cX12_sortOf 37 = .ok (.bipush 112, 2) := by decide +kernel
theorem dX12_sortOf_39 : decode cX12_sortOf 39 = .ok (.bipush 101, 2) := by decide +kernel
theorem dX12_sortOf_41 : decode cX12_sortOf 41 = .ok (.bipush 111, 2) := by decide +kernel
theorem dX12_sortOf_43 : decode cX12_sortOf 43 = .ok (.bipush 112, 2) := by decide +kernel
theorem dX12_sortOf_45 : decode cX12_sortOf 45 = .ok (.bipush 108, 2) := by decide +kernel
theorem dX12_sortOf_47 : decode cX12_sortOf 47 = .ok (.bipush 101, 2) := by decide +kernel
theorem tw_867 : Cond.methodLink RX12 236 yX12_w6 ∈ wsL_law := List.mem_of_getElem? (i := 867) (by decide +kernel)
theorem tw_868 : Cond.static yX12_w6 ∈ wsL_law := List.mem_of_getElem? (i := 868) (by decide +kernel)
theorem tw_869 : Cond.code yX12_w6 cX12_w6 6 (some .long) ∈ wsL_law := List.mem_of_getElem? (i := 869) (by decide +kernel)
theorem dX12_sortOf_49 : decode cX12_sortOf 49 = .ok (.invokestatic 236, 3) := by decide +kernel
theorem dX12_sortOf_52 : decode cX12_sortOf 52 = .ok (.lcmp, 1) := by decide +kernel
theorem dX12_sortOf_53 : decode cX12_sortOf 53 = .ok (.ifCond .ne 5, 3) := by decide +kernel
theorem dX12_sortOf_58 : decode cX12_sortOf 58 = .ok (.aload_n 0, 1) := by decide +kernel
theorem dX12_sortOf_59 : decode cX12_sortOf 59 = .ok (.getfield 156, 3) := by decide +kernel
theorem dX12_sortOf_62 : decode cX12_sortOf 62 = .ok (.bipush 109, 2) := by decide +kernel
theorem dX12_sortOf_64 : decode cX12_sortOf 64 = .ok (.bipush 97, 2) := by decide +kernel
theorem dX12_sortOf_66 : decode cX12_sortOf 66 = .ok (.bipush 121, 2) := by decide +kernel
theorem dX12_sortOf_68 : decode cX12_sortOf 68 = .ok (.invokestatic 160, 3) := by decide +kernel
theorem dX12_sortOf_71 : decode cX12_sortOf 71 = .ok (.lcmp, 1) := by decide +kernel
theorem dX12_sortOf_72 : decode cX12_sortOf 72 = .ok (.ifCond .ne 5, 3) := by decide +kernel
theorem dX12_sortOf_77 : decode cX12_sortOf 77 = .ok (.aload_n 0, 1) := by decide +kernel
theorem dX12_sortOf_78 : decode cX12_sortOf 78 = .ok (.getfield 156, 3) := by decide +kernel
theorem dX12_sortOf_81 : decode cX12_sortOf 81 = .ok (.bipush 118, 2) := by decide +kernel
theorem dX12_sortOf_83 : decode cX12_sortOf 83 = .ok (.bipush 111, 2) := by decide +kernel
theorem dX12_sortOf_85 : decode cX12_sortOf 85 = .ok (.bipush 116, 2) := by decide +kernel
theorem dX12_sortOf_87 : decode cX12_sortOf 87 = .ok (.bipush 101, 2) := by decide +kernel
theorem dX12_sortOf_89 : decode cX12_sortOf 89 = .ok (.invokestatic 164, 3) := by decide +kernel
theorem dX12_sortOf_92 : decode cX12_sortOf 92 = .ok (.lcmp, 1) := by decide +kernel
theorem dX12_sortOf_93 : decode cX12_sortOf 93 = .ok (.ifCond .ne 5, 3) := by decide +kernel
theorem dX12_sortOf_98 : decode cX12_sortOf 98 = .ok (.aload_n 0, 1) := by decide +kernel
theorem dX12_sortOf_99 : decode cX12_sortOf 99 = .ok (.getfield 156, 3) := by decide +kernel
theorem dX12_sortOf_102 : decode cX12_sortOf 102 = .ok (.bipush 111, 2) := by decide +kernel
theorem dX12_sortOf_104 : decode cX12_sortOf 104 = .ok (.bipush 114, 2) := by decide +kernel
theorem dX12_sortOf_106 : decode cX12_sortOf 106 = .ok (.bipush 100, 2) := by decide +kernel
theorem dX12_sortOf_108 : decode cX12_sortOf 108 = .ok (.bipush 101, 2) := by decide +kernel
theorem dX12_sortOf_110 : decode cX12_sortOf 110 = .ok (.bipush 114, 2) := by decide +kernel
theorem dX12_sortOf_112 : decode cX12_sortOf 112 = .ok (.invokestatic 168, 3) := by decide +kernel
theorem dX12_sortOf_115 : decode cX12_sortOf 115 = .ok (.lcmp, 1) := by decide +kernel
theorem dX12_sortOf_116 : decode cX12_sortOf 116 = .ok (.ifCond .ne 5, 3) := by decide +kernel
theorem dX12_sortOf_121 : decode cX12_sortOf 121 = .ok (.aload_n 0, 1) := by decide +kernel
theorem dX12_sortOf_122 : decode cX12_sortOf 122 = .ok (.getfield 156, 3) := by decide +kernel
theorem dX12_sortOf_125 : decode cX12_sortOf 125 = .ok (.bipush 104, 2) := by decide +kernel
theorem dX12_sortOf_127 : decode cX12_sortOf 127 = .ok (.bipush 101, 2) := by decide +kernel
theorem dX12_sortOf_129 : decode cX12_sortOf 129 = .ok (.bipush 105, 2) := by decide +kernel
theorem dX12_sortOf_131 : decode cX12_sortOf 131 = .ok (.bipush 114, 2) := by decide +kernel
theorem dX12_sortOf_133 : decode cX12_sortOf 133 = .ok (.invokestatic 164, 3) := by decide +kernel
theorem dX12_sortOf_136 : decode cX12_sortOf 136 = .ok (.lcmp, 1) := by decide +kernel
theorem dX12_sortOf_137 : decode cX12_sortOf 137 = .ok (.ifCond .ne 6, 3) := by decide +kernel
theorem dX12_sortOf_143 : decode cX12_sortOf 143 = .ok (.aload_n 0, 1) := by decide +kernel
theorem dX12_sortOf_144 : decode cX12_sortOf 144 = .ok (.getfield 156, 3) := by decide +kernel
theorem dX12_sortOf_147 : decode cX12_sortOf 147 = .ok (.bipush 99, 2) := by decide +kernel
theorem dX12_sortOf_149 : decode cX12_sortOf 149 = .ok (.bipush 111, 2) := by decide +kernel
theorem dX12_sortOf_151 : decode cX12_sortOf 151 = .ok (.bipush 117, 2) := by decide +kernel
theorem dX12_sortOf_153 : decode cX12_sortOf 153 = .ok (.bipush 110, 2) := by decide +kernel
theorem dX12_sortOf_155 : decode cX12_sortOf 155 = .ok (.bipush 99, 2) := by decide +kernel
theorem dX12_sortOf_157 : decode cX12_sortOf 157 = .ok (.bipush 105, 2) := by decide +kernel
theorem dX12_sortOf_159 : decode cX12_sortOf 159 = .ok (.invokestatic 236, 3) := by decide +kernel
theorem dX12_sortOf_162 : decode cX12_sortOf 162 = .ok (.bipush 8, 2) := by decide +kernel
theorem dX12_sortOf_164 : decode cX12_sortOf 164 = .ok (.lshl, 1) := by decide +kernel
theorem tw_857 : Cond.constantLong RX12 240 (108) ∈ wsL_law := List.mem_of_getElem? (i := 857) (by decide +kernel)
theorem dX12_sortOf_165 : decode cX12_sortOf 165 = .ok (.ldc2_w 240, 3) := by decide +kernel
theorem dX12_sortOf_168 : decode cX12_sortOf 168 = .ok (.lor, 1) := by decide +kernel
theorem dX12_sortOf_169 : decode cX12_sortOf 169 = .ok (.lcmp, 1) := by decide +kernel
theorem dX12_sortOf_170 : decode cX12_sortOf 170 = .ok (.ifCond .ne 6, 3) := by decide +kernel
theorem dX12_sortOf_176 : decode cX12_sortOf 176 = .ok (.aload_n 0, 1) := by decide +kernel
theorem dX12_sortOf_177 : decode cX12_sortOf 177 = .ok (.getfield 156, 3) := by decide +kernel
theorem dX12_sortOf_180 : decode cX12_sortOf 180 = .ok (.bipush 102, 2) := by decide +kernel
theorem dX12_sortOf_182 : decode cX12_sortOf 182 = .ok (.bipush 105, 2) := by decide +kernel
theorem dX12_sortOf_184 : decode cX12_sortOf 184 = .ok (.bipush 120, 2) := by decide +kernel
theorem dX12_sortOf_186 : decode cX12_sortOf 186 = .ok (.invokestatic 160, 3) := by decide +kernel
theorem dX12_sortOf_189 : decode cX12_sortOf 189 = .ok (.lcmp, 1) := by decide +kernel
theorem dX12_sortOf_190 : decode cX12_sortOf 190 = .ok (.ifCond .ne 8, 3) := by decide +kernel
theorem dX12_sortOf_198 : decode cX12_sortOf 198 = .ok (.aload_n 0, 1) := by decide +kernel
theorem dX12_sortOf_199 : decode cX12_sortOf 199 = .ok (.getfield 156, 3) := by decide +kernel
theorem dX12_sortOf_202 : decode cX12_sortOf 202 = .ok (.bipush 108, 2) := by decide +kernel
theorem dX12_sortOf_204 : decode cX12_sortOf 204 = .ok (.bipush 101, 2) := by decide +kernel
theorem dX12_sortOf_206 : decode cX12_sortOf 206 = .ok (.bipush 97, 2) := by decide +kernel
theorem dX12_sortOf_208 : decode cX12_sortOf 208 = .ok (.bipush 118, 2) := by decide +kernel
theorem dX12_sortOf_210 : decode cX12_sortOf 210 = .ok (.bipush 101, 2) := by decide +kernel
theorem dX12_sortOf_212 : decode cX12_sortOf 212 = .ok (.invokestatic 168, 3) := by decide +kernel
theorem dX12_sortOf_215 : decode cX12_sortOf 215 = .ok (.lcmp, 1) := by decide +kernel
theorem dX12_sortOf_216 : decode cX12_sortOf 216 = .ok (.ifCond .ne 8, 3) := by decide +kernel
theorem dX12_sortOf_224 : decode cX12_sortOf 224 = .ok (.iconst 0, 1) := by decide +kernel
theorem dX12_sortOf_225 : decode cX12_sortOf 225 = .ok (.ireturn, 1) := by decide +kernel
theorem dX12_sortOf_219 : decode cX12_sortOf 219 = .ok (.bipush 9, 2) := by decide +kernel
theorem dX12_sortOf_221 : decode cX12_sortOf 221 = .ok (.goto 4, 3) := by decide +kernel
theorem dX12_sortOf_193 : decode cX12_sortOf 193 = .ok (.bipush 8, 2) := by decide +kernel
theorem dX12_sortOf_195 : decode cX12_sortOf 195 = .ok (.goto 30, 3) := by decide +kernel
theorem dX12_sortOf_173 : decode cX12_sortOf 173 = .ok (.bipush 7, 2) := by decide +kernel
theorem dX12_sortOf_175 : decode cX12_sortOf 175 = .ok (.ireturn, 1) := by decide +kernel
theorem dX12_sortOf_140 : decode cX12_sortOf 140 = .ok (.bipush 6, 2) := by decide +kernel
theorem dX12_sortOf_142 : decode cX12_sortOf 142 = .ok (.ireturn, 1) := by decide +kernel
theorem dX12_sortOf_119 : decode cX12_sortOf 119 = .ok (.iconst 5, 1) := by decide +kernel
theorem dX12_sortOf_120 : decode cX12_sortOf 120 = .ok (.ireturn, 1) := by decide +kernel
theorem dX12_sortOf_96 : decode cX12_sortOf 96 = .ok (.iconst 4, 1) := by decide +kernel
theorem dX12_sortOf_97 : decode cX12_sortOf 97 = .ok (.ireturn, 1) := by decide +kernel
theorem dX12_sortOf_75 : decode cX12_sortOf 75 = .ok (.iconst 3, 1) := by decide +kernel
theorem dX12_sortOf_76 : decode cX12_sortOf 76 = .ok (.ireturn, 1) := by decide +kernel
theorem dX12_sortOf_56 : decode cX12_sortOf 56 = .ok (.iconst 2, 1) := by decide +kernel
theorem dX12_sortOf_57 : decode cX12_sortOf 57 = .ok (.ireturn, 1) := by decide +kernel
theorem dX12_sortOf_31 : decode cX12_sortOf 31 = .ok (.iconst 1, 1) := by decide +kernel
theorem dX12_sortOf_32 : decode cX12_sortOf 32 = .ok (.ireturn, 1) := by decide +kernel
theorem dX12_sortOf_8 : decode cX12_sortOf 8 = .ok (.iconst 0, 1) := by decide +kernel
theorem dX12_sortOf_9 : decode cX12_sortOf 9 = .ok (.ireturn, 1) := by decide +kernel
theorem dX12_clause_0 : decode cX12_clause 0 = .ok (.aload_n 0, 1) := by decide +kernel
theorem tw_853 : Cond.methodLink RX12 242 yX12_sortOf ∈ wsL_law := List.mem_of_getElem? (i := 853) (by decide +kernel)
theorem tw_854 : Cond.instanceMethod yX12_sortOf ∈ wsL_law := List.mem_of_getElem? (i := 854) (by decide +kernel)
theorem tw_855 : Cond.selects RX12 yX12_sortOf yX12_sortOf ∈ wsL_law := List.mem_of_getElem? (i := 855) (by decide +kernel)
theorem tw_856 : Cond.code yX12_sortOf cX12_sortOf 1 (some .int) ∈ wsL_law := List.mem_of_getElem? (i := 856) (by decide +kernel)
theorem dX12_clause_1 : decode cX12_clause 1 = .ok (.invokevirtual 242, 3) := by decide +kernel
theorem dX12_clause_4 : decode cX12_clause 4 = .ok (.istore_n 1, 1) := by decide +kernel
theorem dX12_clause_5 : decode cX12_clause 5 = .ok (.iload_n 1, 1) := by decide +kernel
theorem dX12_clause_6 : decode cX12_clause 6 = .ok (.ifCond .ne 5, 3) := by decide +kernel
theorem dX12_clause_11 : decode cX12_clause 11 = .ok (.iload_n 1, 1) := by decide +kernel
theorem dX12_clause_12 : decode cX12_clause 12 = .ok (.iconst 5, 1) := by decide +kernel
theorem dX12_clause_13 : decode cX12_clause 13 = .ok (.if_icmp .lt 17, 3) := by decide +kernel
theorem dX12_clause_30 : decode cX12_clause 30 = .ok (.aload_n 0, 1) := by decide +kernel
theorem tw_822 : Cond.fieldLink RX12 248 "RingsUnderModel" "clauses" "I" ∈ wsL_law := List.mem_of_getElem? (i := 822) (by decide +kernel)
theorem dX12_clause_31 : decode cX12_clause 31 = .ok (.getfield 248, 3) := by decide +kernel
theorem dX12_clause_34 : decode cX12_clause 34 = .ok (.bipush 20, 2) := by decide +kernel
theorem dX12_clause_36 : decode cX12_clause 36 = .ok (.if_icmp .ne 5, 3) := by decide +kernel
theorem dX12_clause_41 : decode cX12_clause 41 = .ok (.aload_n 0, 1) := by decide +kernel
theorem dX12_clause_42 : decode cX12_clause 42 = .ok (.dup, 1) := by decide +kernel
theorem tw_829 : Cond.fieldLink RX12 245 "RingsUnderModel" "came" "I" ∈ wsL_law := List.mem_of_getElem? (i := 829) (by decide +kernel)
theorem dX12_clause_43 : decode cX12_clause 43 = .ok (.getfield 245, 3) := by decide +kernel
theorem dX12_clause_46 : decode cX12_clause 46 = .ok (.iconst 1, 1) := by decide +kernel
theorem dX12_clause_47 : decode cX12_clause 47 = .ok (.iload_n 1, 1) := by decide +kernel
theorem dX12_clause_48 : decode cX12_clause 48 = .ok (.ishl, 1) := by decide +kernel
theorem dX12_clause_49 : decode cX12_clause 49 = .ok (.ior, 1) := by decide +kernel
theorem dX12_clause_50 : decode cX12_clause 50 = .ok (.putfield 245, 3) := by decide +kernel
theorem dX12_clause_53 : decode cX12_clause 53 = .ok (.aload_n 0, 1) := by decide +kernel
theorem dX12_clause_54 : decode cX12_clause 54 = .ok (.getfield 172, 3) := by decide +kernel
theorem dX12_clause_57 : decode cX12_clause 57 = .ok (.iconst 1, 1) := by decide +kernel
theorem dX12_clause_58 : decode cX12_clause 58 = .ok (.iadd, 1) := by decide +kernel
theorem dX12_clause_59 : decode cX12_clause 59 = .ok (.bipush 12, 2) := by decide +kernel
theorem dX12_clause_61 : decode cX12_clause 61 = .ok (.aload_n 0, 1) := by decide +kernel
theorem dX12_clause_62 : decode cX12_clause 62 = .ok (.getfield 248, 3) := by decide +kernel
theorem dX12_clause_65 : decode cX12_clause 65 = .ok (.imul, 1) := by decide +kernel
theorem dX12_clause_66 : decode cX12_clause 66 = .ok (.iadd, 1) := by decide +kernel
theorem dX12_clause_67 : decode cX12_clause 67 = .ok (.istore_n 2, 1) := by decide +kernel
theorem dX12_clause_68 : decode cX12_clause 68 = .ok (.aload_n 0, 1) := by decide +kernel
theorem dX12_clause_69 : decode cX12_clause 69 = .ok (.getfield 7, 3) := by decide +kernel
theorem dX12_clause_72 : decode cX12_clause 72 = .ok (.iload_n 2, 1) := by decide +kernel
theorem dX12_clause_73 : decode cX12_clause 73 = .ok (.iload_n 1, 1) := by decide +kernel
theorem dX12_clause_74 : decode cX12_clause 74 = .ok (.iastore, 1) := by decide +kernel
theorem dX12_clause_75 : decode cX12_clause 75 = .ok (.aload_n 0, 1) := by decide +kernel
theorem dX12_clause_76 : decode cX12_clause 76 = .ok (.invokevirtual 196, 3) := by decide +kernel
theorem dX12_clause_79 : decode cX12_clause 79 = .ok (.iconst 0, 1) := by decide +kernel
theorem dX12_clause_80 : decode cX12_clause 80 = .ok (.istore_n 3, 1) := by decide +kernel
theorem dX12_clause_81 : decode cX12_clause 81 = .ok (.iload_n 1, 1) := by decide +kernel
theorem dX12_clause_82 : decode cX12_clause 82 = .ok (.iconst 4, 1) := by decide +kernel
theorem dX12_clause_83 : decode cX12_clause 83 = .ok (.if_icmp .gt 35, 3) := by decide +kernel
theorem dX12_clause_86 : decode cX12_clause 86 = .ok (.aload_n 0, 1) := by decide +kernel
theorem dX12_clause_87 : decode cX12_clause 87 = .ok (.getfield 7, 3) := by decide +kernel
theorem dX12_clause_90 : decode cX12_clause 90 = .ok (.iload_n 2, 1) := by decide +kernel
theorem dX12_clause_91 : decode cX12_clause 91 = .ok (.iconst 2, 1) := by decide +kernel
theorem dX12_clause_92 : decode cX12_clause 92 = .ok (.iadd, 1) := by decide +kernel
theorem dX12_clause_93 : decode cX12_clause 93 = .ok (.aload_n 0, 1) := by decide +kernel
theorem dX12_clause_94 : decode cX12_clause 94 = .ok (.getfield 175, 3) := by decide +kernel
theorem dX12_clause_97 : decode cX12_clause 97 = .ok (.iastore, 1) := by decide +kernel
theorem dX12_clause_98 : decode cX12_clause 98 = .ok (.aload_n 0, 1) := by decide +kernel
theorem tw_870 : Cond.methodLink RX12 251 yX12_either ∈ wsL_law := List.mem_of_getElem? (i := 870) (by decide +kernel)
theorem tw_871 : Cond.instanceMethod yX12_either ∈ wsL_law := List.mem_of_getElem? (i := 871) (by decide +kernel)
theorem tw_872 : Cond.selects RX12 yX12_either yX12_either ∈ wsL_law := List.mem_of_getElem? (i := 872) (by decide +kernel)
theorem tw_873 : Cond.code yX12_either cX12_either 6 (some .int) ∈ wsL_law := List.mem_of_getElem? (i := 873) (by decide +kernel)
theorem dX12_clause_99 : decode cX12_clause 99 = .ok (.invokevirtual 251, 3) := by decide +kernel
theorem dX12_clause_102 : decode cX12_clause 102 = .ok (.istore_n 3, 1) := by decide +kernel
theorem dX12_clause_103 : decode cX12_clause 103 = .ok (.aload_n 0, 1) := by decide +kernel
theorem dX12_clause_104 : decode cX12_clause 104 = .ok (.getfield 7, 3) := by decide +kernel
theorem dX12_clause_107 : decode cX12_clause 107 = .ok (.iload_n 2, 1) := by decide +kernel
theorem dX12_clause_108 : decode cX12_clause 108 = .ok (.iconst 3, 1) := by decide +kernel
theorem dX12_clause_109 : decode cX12_clause 109 = .ok (.iadd, 1) := by decide +kernel
theorem dX12_clause_110 : decode cX12_clause 110 = .ok (.aload_n 0, 1) := by decide +kernel
theorem dX12_clause_111 : decode cX12_clause 111 = .ok (.getfield 175, 3) := by decide +kernel
theorem dX12_clause_114 : decode cX12_clause 114 = .ok (.iastore, 1) := by decide +kernel
theorem dX12_clause_115 : decode cX12_clause 115 = .ok (.goto 52, 3) := by decide +kernel
theorem dX12_clause_167 : decode cX12_clause 167 = .ok (.iload_n 3, 1) := by decide +kernel
theorem dX12_clause_168 : decode cX12_clause 168 = .ok (.ifCond .eq 5, 3) := by decide +kernel
theorem dX12_clause_173 : decode cX12_clause 173 = .ok (.aload_n 0, 1) := by decide +kernel
theorem dX12_clause_174 : decode cX12_clause 174 = .ok (.getfield 143, 3) := by decide +kernel
theorem dX12_clause_177 : decode cX12_clause 177 = .ok (.bipush 59, 2) := by decide +kernel
theorem dX12_clause_179 : decode cX12_clause 179 = .ok (.if_icmp .eq 5, 3) := by decide +kernel
theorem dX12_clause_184 : decode cX12_clause 184 = .ok (.aload_n 0, 1) := by decide +kernel
theorem dX12_clause_185 : decode cX12_clause 185 = .ok (.dup, 1) := by decide +kernel
theorem dX12_clause_186 : decode cX12_clause 186 = .ok (.getfield 248, 3) := by decide +kernel
theorem dX12_clause_189 : decode cX12_clause 189 = .ok (.iconst 1, 1) := by decide +kernel
theorem dX12_clause_190 : decode cX12_clause 190 = .ok (.iadd, 1) := by decide +kernel
theorem dX12_clause_191 : decode cX12_clause 191 = .ok (.putfield 248, 3) := by decide +kernel
theorem dX12_clause_194 : decode cX12_clause 194 = .ok (.aload_n 0, 1) := by decide +kernel
theorem dX12_clause_195 : decode cX12_clause 195 = .ok (.invokevirtual 196, 3) := by decide +kernel
theorem dX12_clause_198 : decode cX12_clause 198 = .ok (.iconst 0, 1) := by decide +kernel
theorem dX12_clause_199 : decode cX12_clause 199 = .ok (.ireturn, 1) := by decide +kernel
theorem dX12_clause_182 : decode cX12_clause 182 = .ok (.iconst 1, 1) := by decide +kernel
theorem dX12_clause_183 : decode cX12_clause 183 = .ok (.ireturn, 1) := by decide +kernel
theorem dX12_clause_171 : decode cX12_clause 171 = .ok (.iload_n 3, 1) := by decide +kernel
theorem dX12_clause_172 : decode cX12_clause 172 = .ok (.ireturn, 1) := by decide +kernel
theorem dX12_clause_39 : decode cX12_clause 39 = .ok (.iconst 5, 1) := by decide +kernel
theorem dX12_clause_40 : decode cX12_clause 40 = .ok (.ireturn, 1) := by decide +kernel
theorem dX12_clause_16 : decode cX12_clause 16 = .ok (.aload_n 0, 1) := by decide +kernel
theorem dX12_clause_17 : decode cX12_clause 17 = .ok (.getfield 245, 3) := by decide +kernel
theorem dX12_clause_20 : decode cX12_clause 20 = .ok (.iload_n 1, 1) := by decide +kernel
theorem dX12_clause_21 : decode cX12_clause 21 = .ok (.ishr, 1) := by decide +kernel
theorem dX12_clause_22 : decode cX12_clause 22 = .ok (.iconst 1, 1) := by decide +kernel
theorem dX12_clause_23 : decode cX12_clause 23 = .ok (.iand, 1) := by decide +kernel
theorem dX12_clause_24 : decode cX12_clause 24 = .ok (.iconst 1, 1) := by decide +kernel
theorem dX12_clause_25 : decode cX12_clause 25 = .ok (.if_icmp .ne 5, 3) := by decide +kernel
theorem dX12_clause_118 : decode cX12_clause 118 = .ok (.iload_n 1, 1) := by decide +kernel
theorem dX12_clause_119 : decode cX12_clause 119 = .ok (.bipush 6, 2) := by decide +kernel
theorem dX12_clause_121 : decode cX12_clause 121 = .ok (.if_icmp .gt 12, 3) := by decide +kernel
theorem dX12_clause_133 : decode cX12_clause 133 = .ok (.aload_n 0, 1) := by decide +kernel
theorem dX12_clause_134 : decode cX12_clause 134 = .ok (.iload_n 1, 1) := by decide +kernel
theorem dX12_clause_135 : decode cX12_clause 135 = .ok (.bipush 7, 2) := by decide +kernel
theorem dX12_clause_137 : decode cX12_clause 137 = .ok (.if_icmp .ne 8, 3) := by decide +kernel
theorem dX12_clause_145 : decode cX12_clause 145 = .ok (.iload_n 1, 1) := by decide +kernel
theorem dX12_clause_146 : decode cX12_clause 146 = .ok (.bipush 8, 2) := by decide +kernel
theorem dX12_clause_148 : decode cX12_clause 148 = .ok (.if_icmp .ne 9, 3) := by decide +kernel
theorem dX12_clause_157 : decode cX12_clause 157 = .ok (.sipush 1000, 3) := by decide +kernel
theorem dX12_clause_160 : decode cX12_clause 160 = .ok (.iload_n 2, 1) := by decide +kernel
theorem dX12_clause_161 : decode cX12_clause 161 = .ok (.iconst 1, 1) := by decide +kernel
theorem dX12_clause_162 : decode cX12_clause 162 = .ok (.iadd, 1) := by decide +kernel
theorem tw_933 : Cond.methodLink RX12 257 yX12_take ∈ wsL_law := List.mem_of_getElem? (i := 933) (by decide +kernel)
theorem tw_934 : Cond.instanceMethod yX12_take ∈ wsL_law := List.mem_of_getElem? (i := 934) (by decide +kernel)
theorem tw_935 : Cond.selects RX12 yX12_take yX12_take ∈ wsL_law := List.mem_of_getElem? (i := 935) (by decide +kernel)
theorem tw_936 : Cond.code yX12_take cX12_take 3 (some .int) ∈ wsL_law := List.mem_of_getElem? (i := 936) (by decide +kernel)
theorem dX12_clause_163 : decode cX12_clause 163 = .ok (.invokevirtual 257, 3) := by decide +kernel
theorem dX12_clause_166 : decode cX12_clause 166 = .ok (.istore_n 3, 1) := by decide +kernel
theorem dX12_clause_151 : decode cX12_clause 151 = .ok (.sipush 599, 3) := by decide +kernel
theorem dX12_clause_154 : decode cX12_clause 154 = .ok (.goto 6, 3) := by decide +kernel
theorem dX12_clause_140 : decode cX12_clause 140 = .ok (.bipush 100, 2) := by decide +kernel
theorem dX12_clause_142 : decode cX12_clause 142 = .ok (.goto 18, 3) := by decide +kernel
theorem dX12_clause_124 : decode cX12_clause 124 = .ok (.aload_n 0, 1) := by decide +kernel
theorem dX12_clause_125 : decode cX12_clause 125 = .ok (.iload_n 2, 1) := by decide +kernel
theorem tw_929 : Cond.methodLink RX12 254 yX12_keys ∈ wsL_law := List.mem_of_getElem? (i := 929) (by decide +kernel)
theorem tw_930 : Cond.instanceMethod yX12_keys ∈ wsL_law := List.mem_of_getElem? (i := 930) (by decide +kernel)
theorem tw_931 : Cond.selects RX12 yX12_keys yX12_keys ∈ wsL_law := List.mem_of_getElem? (i := 931) (by decide +kernel)
theorem tw_932 : Cond.code yX12_keys cX12_keys 4 (some .int) ∈ wsL_law := List.mem_of_getElem? (i := 932) (by decide +kernel)
theorem dX12_clause_126 : decode cX12_clause 126 = .ok (.invokevirtual 254, 3) := by decide +kernel
theorem dX12_clause_129 : decode cX12_clause 129 = .ok (.istore_n 3, 1) := by decide +kernel
theorem dX12_clause_130 : decode cX12_clause 130 = .ok (.goto 37, 3) := by decide +kernel
theorem dX12_clause_28 : decode cX12_clause 28 = .ok (.iconst 4, 1) := by decide +kernel
theorem dX12_clause_29 : decode cX12_clause 29 = .ok (.ireturn, 1) := by decide +kernel
theorem dX12_clause_9 : decode cX12_clause 9 = .ok (.iconst 1, 1) := by decide +kernel
theorem dX12_clause_10 : decode cX12_clause 10 = .ok (.ireturn, 1) := by decide +kernel
set_option maxHeartbeats 4000000 in
set_option maxRecDepth 100000 in
theorem s_X12_keys (l : Launch) (D : va_G) (t : pq_T) (σ : pq_S) (I : Nat → Nat → Int32) (J : Nat → Nat → Int64) (ri : Nat → Nat → Int32) (rj : Nat → Nat → Int64) (rq : Nat → Nat → Option Nat) (sz : Nat) (tg : Nat → Nat) (hSH : SH σ tg) (hG0 : GT tg I ri) (this : Nat) (a0 : Int32) (hL_this : this ∈ σ.1) (hK_this : σ.2.1 this = 12) (this_a : Nat) (hR_this_a : σ.2.2.1 384 this = some this_a) (hL_this_a : this_a ∈ σ.1) (hK_this_a : σ.2.1 this_a = 13) (hN_this_a : σ.2.2.2 this_a = 12720) (hT_this_a : tg this_a = 384) (hc : a0.toInt = 3721 + 900 * (ri this_a 6).toInt + 12 * (I 397 this).toInt ∧ 0 ≤ (I 397 this).toInt ∧ (I 397 this).toInt ≤ 19 ∧ 0 ≤ (ri this_a 6).toInt ∧ (ri this_a 6).toInt ≤ 9) : MetI l yX12_keys (wa yX12_keys cX12_keys 4 (some .int)) ({ frames := 4, cells := 0, slots := 0, locals := 89 }) [.ref this, .int a0] D t σ (I, J, ri, rj, rq) sz 0 0 (fun (r : Int32) (u : pq_S × pq_M) => ∃ I' : Nat → Nat → Int32, ∃ J' : Nat → Nat → Int64, ∃ ri' : Nat → Nat → Int32, u = (σ, I', J', ri', rj, rq) ∧ GM [391, 392, 393] tg σ I ri I' ri' rq ∧ ((I 391 this).toInt ≤ (I' 391 this).toInt) ∧ (∀ j : Nat, (j : Int) < a0.toInt + 4 ∨ a0.toInt + 12 ≤ (j : Int) → ri' this_a j = ri this_a j) ∧ (tmM (I' 391 this).toInt (I' 393 this).toInt ≤ tmM (I 391 this).toInt (I 393 this).toInt) ∧ rg r 0 5) := by
  refine Met.ofW (cc := cX12_keys) (maxL := 4) (ret := (some .int)) (by decide) rfl ?_
  intro p e s m args below meth c s₁ B hml hv
  obtain ⟨rfl, hsz, hP, hK, hD0, hN⟩ := hv
  have hx := B.exec
  have hb := B.bytes
  have hr := B.returns
  have hts := atoms_spec (ws := (wa yX12_keys cX12_keys 4 (some .int))) B.pre
  have hown : s.vm.findClass RX12 = some m.cls := findClass_of_methodNamed B.named
  have hlocks := B.notSynchronized
  subst hsz
  have hD : va_D (pq_B t σ (I, J, ri, rj, rq) s.heap.size) (pq_P t σ (I, J, ri, rj, rq)) := hD0.self
  generalize hAe : pq_B t σ (I, J, ri, rj, rq) s.heap.size = A at hD ⊢
  have hA : ∀ q : Nat, s.heap.size ≤ q → A q := fun q h => by rw [← hAe]; exact Or.inr h
  have hS : va_S A s.heap s.heap [] := va_S.rf
  have hG : GM [391, 392, 393] tg σ I ri I ri rq := ⟨hG0, fun _ _ _ => rfl, fun _ _ _ _ _ => rfl, fun _ _ _ _ _ _ => rfl⟩
  have hl := lv_entry ([.ref this, .int a0]) (n := 4) (Nat.le_of_ble_eq_true rfl)
  rw [lg_entry_eq]
  generalize (lg_sl ([.ref this, .int a0]) ++ List.replicate (4 - (lg_sl ([.ref this, .int a0])).length) Slot.unset).toArray = ls at hl ⊢
  have hl : lv_has ls 4 [(0, .ref this), (1, .int a0)] := hl
  refine q_gen (fun Q hQ => ?_)
  have go : ∀ (H : Heap) (locs : List Loc) (ls : Array Slot), va_P D vwCl (pq_P t σ (I, J, ri, rj, rq)) H → va_D A (pq_P t σ (I, J, ri, rj, rq)) → va_S A s.heap H locs → lv_has ls 4 [(0, .ref this), (1, .int a0)] → W p l e ({ frames := 4, cells := 0, slots := 0, locals := 89 } : Room) s m (List.toArray ([.ref this, .int a0] : List Value)) below meth c H locs 0 0 Q (F0 m 0 ls []) := by
    intro H locs ls hP hD hS hl
    have ce6 := clampE (ri this_a 6)
    have ceC := clampE (I 397 this)
    have ceA := clampE a0
    have h_1 : rg a0 3721 12049 := ⟨by omega, by omega⟩
    have uh_1 := h_1.1
    have vh_1 := h_1.2
    refine lv_aload_n hx hb dX12_keys_0 rfl (lv_at hl 0 rfl) ?_
    refine pg_f (v := .ref this_a) (C := RX12) (T := TX12) (N := 31) hx hb hts (tw_i inlX12) hown hK hP hL_this hK_this (by decide) rfl 0 (by decide) (hts _ (tw_c tw_176)) (pq_hv rfl hR_this_a) dX12_keys_1 ?_
    refine lv_iload_n hx hb dX12_keys_4 rfl (lv_at hl 1 rfl) ?_
    refine lv_iconst (v := 4) hx hb dX12_keys_5 (by decide) ?_
    refine lv_iadd hx hb dX12_keys_6 ?_
    refine lv_topi (fun x_2 ex_2 => ?_)
    have h_3 : rg x_2 3725 12053 := rg_of_eq ex_2 (rg_add h_1 (rg_k (4 : Int32) 4 rfl) (by decide))
    have uh_3 := h_3.1
    have vh_3 := h_3.2
    have tx_2 : (x_2).toInt = (a0).toInt + 4 := by rw [ex_2]; exact i_add_rg (a2 := (a0).toInt) (b2 := 4) rfl rfl h_1 (rg_k (4 : Int32) 4 rfl) (by decide)
    refine lv_iconst (v := 0) hx hb dX12_keys_7 (by decide) ?_
    refine pt_i hx hb hK hP hD hS hL_this_a hK_this_a hN_this_a (rg_in h_3 (by decide)) dX12_keys_8 (fun r_4 H locs er_4 hP hD hS => ?_)
    have hG := GM.wt hG hT_this_a (by decide) er_4 (zn_tc (t := (ri this_a 6).toNatClampNeg) (c := (I 397 this).toNatClampNeg) (k := 4) (by have z_i := clampE x_2; have z_0 := clampE (ri this_a 6); have z_1 := clampE (I 397 this); omega) (rg_cl1 ⟨hc.2.2.2.1, hc.2.2.2.2⟩ (by decide)) (rg_cl1 ⟨hc.2.1, hc.2.2.1⟩ (by decide)) (by decide)) rfl (rg_w (rg_k (0 : Int32) 0 rfl) (by decide)) (by have z6 := congrArg Int32.toInt (hG.2.2.1 this_a hT_this_a 6 (by decide) (by decide)); have z_i := clampE x_2; omega) (by decide)
    refine lv_iconst (v := 1) hx hb dX12_keys_9 (by decide) ?_
    refine lv_istore_n (lv' := [(2, .int 1), (0, .ref this), (1, .int a0)]) hx hb dX12_keys_10 rfl hl (by decide) rfl (fun ls hl => ?_)
    have L_1476 : ∀ (n_1475 : Nat) (x_1178 : Int32) (I_1179 : Nat → Nat → Int32) (J_1180 : Nat → Nat → Int64) (ri_1181 : Nat → Nat → Int32) (H : Heap) (locs : List Loc) (ls : Array Slot), rg x_1178 0 1 → ((I 391 this).toInt ≤ (I_1179 391 this).toInt) → (∀ j : Nat, (j : Int) < a0.toInt + 4 ∨ a0.toInt + 12 ≤ (j : Int) → ri_1181 this_a j = ri this_a j) → (tmM (I_1179 391 this).toInt (I_1179 393 this).toInt ≤ tmM (I 391 this).toInt (I 393 this).toInt) → (tmM (I_1179 391 this).toInt (I_1179 393 this).toInt).toNat < n_1475 → GM [391, 392, 393] tg σ I ri I_1179 ri_1181 rq → va_P D vwCl (pq_P t σ (I_1179, J_1180, ri_1181, rj, rq)) H → va_D A (pq_P t σ (I_1179, J_1180, ri_1181, rj, rq)) → va_S A s.heap H locs → lv_has ls 4 [(0, .ref this), (1, .int a0), (2, .int x_1178)] → W p l e ({ frames := 4, cells := 0, slots := 0, locals := 89 } : Room) s m (List.toArray ([.ref this, .int a0] : List Value)) below meth c H locs 0 0 Q (F0 m 11 ls []) := by
      intro n_1475
      induction n_1475 with
      | zero => intro x_1178 I_1179 J_1180 ri_1181 H locs ls h_1482 hrel_1483 hrel_1484 hrel_1485 hm_1474 hG hP hD hS hl; exact absurd hm_1474 (Nat.not_lt_zero _)
      | succ n_1475 ih_1477 =>
        intro x_1178 I_1179 J_1180 ri_1181 H locs ls h_1482 hrel_1483 hrel_1484 hrel_1485 hm_1474 hG hP hD hS hl
        have uh_1482 := h_1482.1
        have vh_1482 := h_1482.2
        refine lv_iload_n hx hb dX12_keys_11 rfl (lv_at hl 2 rfl) ?_
        refine lv_if_eq (tgt := 148) hx hb dX12_keys_12 (by decide) (fun c_1486 => ?_) (fun c_1486 => ?_)
        · have tc_1487 : (x_1178).toInt = 0 := congrArg Int32.toInt c_1486
          have h_1488 : rg x_1178 0 0 := rg_and h_1482 (rg_of_eq c_1486 (rg_k (0 : Int32) 0 rfl)) (by decide)
          have uh_1488 := h_1488.1
          have vh_1488 := h_1488.2
          refine lv_iconst (v := 0) hx hb dX12_keys_148 (by decide) ?_
          subst hQ
          exact W.iret (v := 0) hx hb hr (fun t1 ht hW => ⟨⟨0, (σ, I_1179, J_1180, ri_1181, rj, rq), rfl, ⟨I_1179, J_1180, ri_1181, rfl, hG, (by omega), hrel_1484, hrel_1485, (rg_w (rg_k (0 : Int32) 0 rfl) (by decide))⟩, by rw [ht]; exact hP, va_K.moved hW.alike hK, hD⟩, hS.F ht⟩) hS.2.2 dX12_keys_149
        · have tc_1489 : (x_1178).toInt ≠ 0 := fun q => c_1486 (Int32.toInt_inj.mp q)
          have h_1490 : rg x_1178 1 1 := rg_ne c_1486 h_1482 0 rfl (by decide)
          have uh_1490 := h_1490.1
          have vh_1490 := h_1490.2
          refine lv_aload_n hx hb dX12_keys_15 rfl (lv_at hl 0 rfl) ?_
          refine pg_f (v := .int (I_1179 393 this)) (C := RX12) (T := TX12) (N := 31) hx hb hts (tw_i inlX12) hown hK hP hL_this hK_this (by decide) rfl 9 (by decide) (hts _ (tw_c tw_831)) rfl dX12_keys_16 ?_
          refine lv_bipush (v := 45) hx hb dX12_keys_19 (by decide) ?_
          refine lv_icmp_ne (tgt := 28) hx hb dX12_keys_21 (by decide) (fun c_1491 => ?_) (fun c_1491 => ?_)
          · have tc_1492 : (I_1179 393 this).toInt ≠ 45 := fun q => c_1491 (Int32.toInt_inj.mp q)
            refine lv_iconst (v := 0) hx hb dX12_keys_28 (by decide) ?_
            refine lv_istore_n (lv' := [(3, .int 0), (0, .ref this), (1, .int a0), (2, .int x_1178)]) hx hb dX12_keys_29 rfl hl (by decide) rfl (fun ls hl => ?_)
            refine lv_iload_n hx hb dX12_keys_30 rfl (lv_at hl 0 rfl) ?_
            refine lv_if_ne (tgt := 41) hx hb dX12_keys_31 (by decide) (fun c_1493 => absurd c_1493 (by decide)) (fun c_1493 => ?_)
            refine lv_aload_n hx hb dX12_keys_34 rfl (lv_at hl 1 rfl) ?_
            refine pk_i (va_runV (As := []) (rest := []) ⟨hx, hb, hml, hown, hts⟩ (s_X12_nameOf_x l D t σ I_1179 J_1180 ri_1181 rj rq H.size tg hSH hG.1 this hL_this hK_this) (cwV 0 hts (tw_V tw_921 tw_922 tw_923 tw_5 tw_924) rfl rfl rfl (by decide +kernel) ⟨Nat.le_of_ble_eq_true rfl, Nat.le_of_ble_eq_true rfl⟩) ⟨pq_blind, pq_recv hK hP hL_this hK_this (by decide) rfl, pq_pre hK hN hP hD⟩ rfl rfl hl.1 rfl (lv_room (Nat.le_of_ble_eq_true rfl)) dX12_keys_35 ⟨Nat.le_of_ble_eq_true rfl, Nat.le_of_ble_eq_true rfl⟩) hD hS hA (fun x_1494 σ1 μ1 H locs hw_1495 hP hD hS => ?_)
            obtain ⟨hu_1496, hp_1499, hr_1498⟩ := hw_1495
            obtain ⟨hu_1496a, hu_1496b⟩ := Prod.mk.inj hu_1496
            rw [hu_1496a, hu_1496b] at hP hD
            have tt_1500 := hp_1499
            refine lv_if_lt (tgt := 55) hx hb dX12_keys_38 (by decide) (fun c_1501 => ?_) (fun c_1501 => ?_)
            · have tc_1502 : (x_1494).toInt < 0 := Int32.lt_iff_toInt_lt.mp c_1501
              have h_1503 : rg x_1494 (-1) (-1) := rg_lt1 c_1501 hr_1498 (rg_k (0 : Int32) 0 rfl) (by decide)
              have uh_1503 := h_1503.1
              have vh_1503 := h_1503.2
              refine lv_iload_n hx hb dX12_keys_55 rfl (lv_at hl 0 rfl) ?_
              refine lv_if_eq (tgt := 63) hx hb dX12_keys_56 (by decide) (fun c_1504 => ?_) (fun c_1504 => absurd c_1504 (by decide))
              refine lv_aload_n hx hb dX12_keys_63 rfl (lv_at hl 1 rfl) ?_
              refine pk_i (va_runV (As := []) (rest := []) ⟨hx, hb, hml, hown, hts⟩ (s_X12_nameOf_x l D t σ I_1179 J_1180 ri_1181 rj rq H.size tg hSH hG.1 this hL_this hK_this) (cwV 0 hts (tw_V tw_921 tw_922 tw_923 tw_5 tw_924) rfl rfl rfl (by decide +kernel) ⟨Nat.le_of_ble_eq_true rfl, Nat.le_of_ble_eq_true rfl⟩) ⟨pq_blind, pq_recv hK hP hL_this hK_this (by decide) rfl, pq_pre hK hN hP hD⟩ rfl rfl hl.1 rfl (lv_room (Nat.le_of_ble_eq_true rfl)) dX12_keys_64 ⟨Nat.le_of_ble_eq_true rfl, Nat.le_of_ble_eq_true rfl⟩) hD hS hA (fun x_1505 σ1 μ1 H locs hw_1506 hP hD hS => ?_)
              obtain ⟨hu_1507, hp_1510, hr_1509⟩ := hw_1506
              obtain ⟨hu_1507a, hu_1507b⟩ := Prod.mk.inj hu_1507
              rw [hu_1507a, hu_1507b] at hP hD
              have tt_1511 := hp_1510
              refine lv_if_ge (tgt := 72) hx hb dX12_keys_67 (by decide) (fun c_1512 => ?_) (fun c_1512 => ?_)
              · have tc_1513 : 0 ≤ (x_1505).toInt := Int32.le_iff_toInt_le.mp c_1512
                have h_1514 : rg x_1505 0 5 := rg_le2 c_1512 (rg_k (0 : Int32) 0 rfl) hr_1509 (by decide)
                have uh_1514 := h_1514.1
                have vh_1514 := h_1514.2
                refine lv_aload_n hx hb dX12_keys_72 rfl (lv_at hl 1 rfl) ?_
                refine pg_f (v := .ref this_a) (C := RX12) (T := TX12) (N := 31) hx hb hts (tw_i inlX12) hown hK hP hL_this hK_this (by decide) rfl 0 (by decide) (hts _ (tw_c tw_176)) (pq_hv rfl hR_this_a) dX12_keys_73 ?_
                refine lv_iload_n hx hb dX12_keys_76 rfl (lv_at hl 2 rfl) ?_
                refine lv_iconst (v := 5) hx hb dX12_keys_77 (by decide) ?_
                refine lv_iadd hx hb dX12_keys_78 ?_
                refine lv_topi (fun x_1515 ex_1515 => ?_)
                have h_1516 : rg x_1515 3726 12054 := rg_of_eq ex_1515 (rg_add h_1 (rg_k (5 : Int32) 5 rfl) (by decide))
                have uh_1516 := h_1516.1
                have vh_1516 := h_1516.2
                have tx_1515 : (x_1515).toInt = (a0).toInt + 5 := by rw [ex_1515]; exact i_add_rg (a2 := (a0).toInt) (b2 := 5) rfl rfl h_1 (rg_k (5 : Int32) 5 rfl) (by decide)
                refine lv_aload_n hx hb dX12_keys_79 rfl (lv_at hl 1 rfl) ?_
                refine pg_f (v := .ref this_a) (C := RX12) (T := TX12) (N := 31) hx hb hts (tw_i inlX12) hown hK hP hL_this hK_this (by decide) rfl 0 (by decide) (hts _ (tw_c tw_176)) (pq_hv rfl hR_this_a) dX12_keys_80 ?_
                refine lv_iload_n hx hb dX12_keys_83 rfl (lv_at hl 2 rfl) ?_
                refine lv_iconst (v := 4) hx hb dX12_keys_84 (by decide) ?_
                refine lv_iadd hx hb dX12_keys_85 ?_
                refine lv_topi (fun x_1517 ex_1517 => ?_)
                have h_1518 : rg x_1517 3725 12053 := rg_of_eq ex_1517 (rg_add h_1 (rg_k (4 : Int32) 4 rfl) (by decide))
                have uh_1518 := h_1518.1
                have vh_1518 := h_1518.2
                have tx_1517 : (x_1517).toInt = (a0).toInt + 4 := by rw [ex_1517]; exact i_add_rg (a2 := (a0).toInt) (b2 := 4) rfl rfl h_1 (rg_k (4 : Int32) 4 rfl) (by decide)
                refine pl_i hx hb hK hP hL_this_a hK_this_a hN_this_a (rg_in h_1518 (by decide)) dX12_keys_86 ?_
                refine lv_topi (fun x_1519 ex_1519 => ?_)
                have ex_1519 : x_1519 = ri_1181 this_a (x_1517).toNatClampNeg := ex_1519
                have h_1520 : rg x_1519 0 4 := rg_of_eq ex_1519 (GM.z hG (by rw [hT_this_a]; decide) (zn_tc (t := (ri this_a 6).toNatClampNeg) (c := (I 397 this).toNatClampNeg) (k := 4) (by have z_i := clampE x_1517; have z_0 := clampE (ri this_a 6); have z_1 := clampE (I 397 this); omega) (rg_cl1 ⟨hc.2.2.2.1, hc.2.2.2.2⟩ (by decide)) (rg_cl1 ⟨hc.2.1, hc.2.2.1⟩ (by decide)) (by decide)) rfl)
                have uh_1520 := h_1520.1
                have vh_1520 := h_1520.2
                have h_1521 : rg x_1519 0 3 := ⟨by omega, by omega⟩
                have uh_1521 := h_1521.1
                have vh_1521 := h_1521.2
                refine lv_iadd hx hb dX12_keys_87 ?_
                refine lv_topi (fun x_1522 ex_1522 => ?_)
                have h_1523 : rg x_1522 3726 12057 := rg_of_eq ex_1522 (rg_add h_1516 h_1521 (by decide))
                have uh_1523 := h_1523.1
                have vh_1523 := h_1523.2
                have tx_1522 : (x_1522).toInt = (x_1515).toInt + (x_1519).toInt := by rw [ex_1522]; exact i_add_rg (a2 := (x_1515).toInt) (b2 := (x_1519).toInt) rfl rfl h_1516 h_1521 (by decide)
                refine lv_iload_n hx hb dX12_keys_88 rfl (lv_at hl 0 rfl) ?_
                refine lv_if_eq (tgt := 101) hx hb dX12_keys_89 (by decide) (fun c_1524 => ?_) (fun c_1524 => absurd c_1524 (by decide))
                refine lv_aload_n hx hb dX12_keys_101 rfl (lv_at hl 1 rfl) ?_
                refine pk_i (va_runV (As := []) (rest := [.int x_1522, .ref this_a]) ⟨hx, hb, hml, hown, hts⟩ (s_X12_nameOf_x l D t σ I_1179 J_1180 ri_1181 rj rq H.size tg hSH hG.1 this hL_this hK_this) (cwV 0 hts (tw_V tw_921 tw_922 tw_923 tw_5 tw_924) rfl rfl rfl (by decide +kernel) ⟨Nat.le_of_ble_eq_true rfl, Nat.le_of_ble_eq_true rfl⟩) ⟨pq_blind, pq_recv hK hP hL_this hK_this (by decide) rfl, pq_pre hK hN hP hD⟩ rfl rfl hl.1 rfl (lv_room (Nat.le_of_ble_eq_true rfl)) dX12_keys_102 ⟨Nat.le_of_ble_eq_true rfl, Nat.le_of_ble_eq_true rfl⟩) hD hS hA (fun x_1525 σ1 μ1 H locs hw_1526 hP hD hS => ?_)
                obtain ⟨hu_1527, hp_1530, hr_1529⟩ := hw_1526
                obtain ⟨hu_1527a, hu_1527b⟩ := Prod.mk.inj hu_1527
                rw [hu_1527a, hu_1527b] at hP hD
                have tt_1531 := hp_1530
                refine pt_i hx hb hK hP hD hS hL_this_a hK_this_a hN_this_a (rg_in h_1523 (by decide)) dX12_keys_105 (fun r_1532 H locs er_1532 hP hD hS => ?_)
                have hk4 : 0 ≤ (x_1519).toInt ∧ (x_1519).toInt ≤ 3 := ⟨by omega, by omega⟩
                have hG := GM.wth hG hT_this_a (by decide) er_1532 (I 397 this).toNatClampNeg (by omega) (n := (ri this_a 6).toNatClampNeg) (by omega) (k := 5 + (x_1519).toNatClampNeg) (by have z_i := clampE x_1522; have z_k := clampE x_1519; omega) (by have z_k := clampE x_1519; omega) (by have z6 := congrArg Int32.toInt (hG.2.2.1 this_a hT_this_a 6 (by decide) (by decide)); have z_i := clampE x_1522; omega) (by decide)
                refine lv_aload_n hx hb dX12_keys_106 rfl (lv_at hl 1 rfl) ?_
                refine pg_f (v := .ref this_a) (C := RX12) (T := TX12) (N := 31) hx hb hts (tw_i inlX12) hown hK hP hL_this hK_this (by decide) rfl 0 (by decide) (hts _ (tw_c tw_176)) (pq_hv rfl hR_this_a) dX12_keys_107 ?_
                refine lv_iload_n hx hb dX12_keys_110 rfl (lv_at hl 2 rfl) ?_
                refine lv_iconst (v := 4) hx hb dX12_keys_111 (by decide) ?_
                refine lv_iadd hx hb dX12_keys_112 ?_
                refine lv_topi (fun x_1533 ex_1533 => ?_)
                have h_1534 : rg x_1533 3725 12053 := rg_of_eq ex_1533 (rg_add h_1 (rg_k (4 : Int32) 4 rfl) (by decide))
                have uh_1534 := h_1534.1
                have vh_1534 := h_1534.2
                have tx_1533 : (x_1533).toInt = (a0).toInt + 4 := by rw [ex_1533]; exact i_add_rg (a2 := (a0).toInt) (b2 := 4) rfl rfl h_1 (rg_k (4 : Int32) 4 rfl) (by decide)
                refine lv_dup2_11 hx hb dX12_keys_113 rfl rfl ?_
                refine pl_i hx hb hK hP hL_this_a hK_this_a hN_this_a (rg_in h_1534 (by decide)) dX12_keys_114 ?_
                refine lv_topi (fun x_1535 ex_1535 => ?_)
                have ex_1535 : x_1535 = r_1532 this_a (x_1533).toNatClampNeg := ex_1535
                have h_1536 : rg x_1535 0 4 := rg_of_eq ex_1535 (GM.z hG (by rw [hT_this_a]; decide) (zn_tc (t := (ri this_a 6).toNatClampNeg) (c := (I 397 this).toNatClampNeg) (k := 4) (by have z_i := clampE x_1533; have z_0 := clampE (ri this_a 6); have z_1 := clampE (I 397 this); omega) (rg_cl1 ⟨hc.2.2.2.1, hc.2.2.2.2⟩ (by decide)) (rg_cl1 ⟨hc.2.1, hc.2.2.1⟩ (by decide)) (by decide)) rfl)
                have uh_1536 := h_1536.1
                have vh_1536 := h_1536.2
                have hkz : (x_1535).toInt = (x_1519).toInt := by rw [show x_1535 = x_1519 from by rw [ex_1535, er_1532, va_up_self, upd_off (by have z0 := clampE x_1533; have z1 := clampE x_1522; have z2 := clampE x_1519; omega), ex_1519]; exact congrArg (ri_1181 this_a) (by have z0 := clampE x_1533; have z1 := clampE x_1517; omega)]
                have h_1537 : rg x_1535 0 3 := ⟨by omega, by omega⟩
                have uh_1537 := h_1537.1
                have vh_1537 := h_1537.2
                refine lv_iconst (v := 1) hx hb dX12_keys_115 (by decide) ?_
                refine lv_iadd hx hb dX12_keys_116 ?_
                refine lv_topi (fun x_1538 ex_1538 => ?_)
                have h_1539 : rg x_1538 1 4 := rg_of_eq ex_1538 (rg_add h_1537 (rg_k (1 : Int32) 1 rfl) (by decide))
                have uh_1539 := h_1539.1
                have vh_1539 := h_1539.2
                have tx_1538 : (x_1538).toInt = (x_1535).toInt + 1 := by rw [ex_1538]; exact i_add_rg (a2 := (x_1535).toInt) (b2 := 1) rfl rfl h_1537 (rg_k (1 : Int32) 1 rfl) (by decide)
                refine pt_i hx hb hK hP hD hS hL_this_a hK_this_a hN_this_a (rg_in h_1534 (by decide)) dX12_keys_117 (fun r_1540 H locs er_1540 hP hD hS => ?_)
                have hG := GM.wt hG hT_this_a (by decide) er_1540 (zn_tc (t := (ri this_a 6).toNatClampNeg) (c := (I 397 this).toNatClampNeg) (k := 4) (by have z_i := clampE x_1533; have z_0 := clampE (ri this_a 6); have z_1 := clampE (I 397 this); omega) (rg_cl1 ⟨hc.2.2.2.1, hc.2.2.2.2⟩ (by decide)) (rg_cl1 ⟨hc.2.1, hc.2.2.1⟩ (by decide)) (by decide)) rfl (rg_w h_1539 (by decide)) (by have z6 := congrArg Int32.toInt (hG.2.2.1 this_a hT_this_a 6 (by decide) (by decide)); have z_i := clampE x_1533; omega) (by decide)
                refine lv_aload_n hx hb dX12_keys_118 rfl (lv_at hl 1 rfl) ?_
                obtain ⟨w_1541, hR_w_1541, hL_w_1541, hK_w_1541, hN_w_1541, hT_w_1541⟩ := sh_a hSH 387 (ci := 12) (kd := 13) (len := 300) rfl (by decide) hL_this hK_this
                refine pk_v (va_runV (As := []) (rest := []) ⟨hx, hb, hml, hown, hts⟩ (s_X12_nextToken_x l D t σ I_1179 J_1180 r_1540 rj rq H.size tg hSH hG.1 this hL_this hK_this w_1541 hR_w_1541 hL_w_1541 hK_w_1541 hN_w_1541 hT_w_1541) (cwV 0 hts (tw_V tw_832 tw_833 tw_834 tw_5 tw_835) rfl rfl rfl (by decide +kernel) ⟨Nat.le_of_ble_eq_true rfl, Nat.le_of_ble_eq_true rfl⟩) ⟨pq_blind, pq_recv hK hP hL_this hK_this (by decide) rfl, pq_pre hK hN hP hD⟩ rfl rfl hl.1 rfl (lv_room (Nat.le_of_ble_eq_true rfl)) dX12_keys_119 ⟨Nat.le_of_ble_eq_true rfl, Nat.le_of_ble_eq_true rfl⟩) hD hS hA (fun σ1 μ1 H locs hw_1543 hP hD hS => ?_)
                obtain ⟨I_1544, J_1545, hu_1546, hg_1547, hp_1549, hp_1550, hp_1551⟩ := hw_1543
                obtain ⟨hu_1546a, hu_1546b⟩ := Prod.mk.inj hu_1546
                rw [hu_1546a, hu_1546b] at hP hD
                have tt_1552 := hp_1549
                have tt_1553 := hp_1550
                have tt_1554 := hp_1551
                have tt_1555 : (I_1544 391 this).toInt ≤ 300 := by have z := hg_1547.1.1 391 this; exact z.2
                have hG := GM.tr hG hg_1547 (by decide)
                have tt_1556 : (I_1544 397 this).toInt = (I_1179 397 this).toInt := by rw [hg_1547.2.1 397 (by decide) (by decide)]
                refine lv_aload_n hx hb dX12_keys_122 rfl (lv_at hl 1 rfl) ?_
                refine pg_f (v := .int (I_1544 393 this)) (C := RX12) (T := TX12) (N := 31) hx hb hts (tw_i inlX12) hown hK hP hL_this hK_this (by decide) rfl 9 (by decide) (hts _ (tw_c tw_831)) rfl dX12_keys_123 ?_
                refine lv_bipush (v := 44) hx hb dX12_keys_126 (by decide) ?_
                refine lv_icmp_ne (tgt := 135) hx hb dX12_keys_128 (by decide) (fun c_1557 => ?_) (fun c_1557 => ?_)
                · have tc_1558 : (I_1544 393 this).toInt ≠ 44 := fun q => c_1557 (Int32.toInt_inj.mp q)
                  refine lv_iconst (v := 0) hx hb dX12_keys_135 (by decide) ?_
                  refine lv_istore_n (lv' := [(2, .int 0), (3, .int 0), (0, .ref this), (1, .int a0)]) hx hb dX12_keys_136 rfl hl (by decide) rfl (fun ls hl => ?_)
                  refine lv_iload_n hx hb dX12_keys_137 rfl (lv_at hl 0 rfl) ?_
                  refine lv_if_eq (tgt := 145) hx hb dX12_keys_138 (by decide) (fun c_1559 => ?_) (fun c_1559 => absurd c_1559 (by decide))
                  refine lv_goto (tgt := 11) hx hb dX12_keys_145 (by decide) ?_
                  exact ih_1477 (0 : Int32) I_1544 J_1545 r_1540 _ _ _ (rg_w (rg_k (0 : Int32) 0 rfl) (by decide)) (by have k0 : (0 : Int32).toInt = 0 := rfl; omega) (fun j hj => by rw [er_1540, va_up_self, upd_off (by have z0 := clampE x_1533; omega)]; exact (fun j hj => by rw [er_1532, va_up_self, upd_off (by have z0 := clampE x_1522; omega)]; exact hrel_1484 j hj) j hj) (Int.le_of_lt (Int.lt_of_lt_of_le (tm_lt (s := (I_1179 391 this).toInt) (k := (I_1179 393 this).toInt) (s1 := (I_1544 391 this).toInt) (k1 := (I_1544 393 this).toInt) (by omega) (by omega) (by omega)) hrel_1485)) (by have l1 := (tm_lt (s := (I_1179 391 this).toInt) (k := (I_1179 393 this).toInt) (s1 := (I_1544 391 this).toInt) (k1 := (I_1544 393 this).toInt) (by omega) (by omega) (by omega)); have l2 := tm_b (s := (I_1544 391 this).toInt) (k := (I_1544 393 this).toInt) ((hG.1.1 391 this).2); omega) hG hP hD hS (lv_sub hl [2, 3, 0] rfl)
                · have tc_1560 : (I_1544 393 this).toInt = 44 := congrArg Int32.toInt c_1557
                  have h_1561 : rg (I_1544 393 this) 44 44 := rg_and (rg_full _) (rg_of_eq c_1557 (rg_k (44 : Int32) 44 rfl)) (by decide)
                  have uh_1561 := h_1561.1
                  have vh_1561 := h_1561.2
                  refine lv_iconst (v := 1) hx hb dX12_keys_131 (by decide) ?_
                  refine lv_goto (tgt := 136) hx hb dX12_keys_132 (by decide) ?_
                  refine lv_istore_n (lv' := [(2, .int 1), (3, .int 0), (0, .ref this), (1, .int a0)]) hx hb dX12_keys_136 rfl hl (by decide) rfl (fun ls hl => ?_)
                  refine lv_iload_n hx hb dX12_keys_137 rfl (lv_at hl 0 rfl) ?_
                  refine lv_if_eq (tgt := 145) hx hb dX12_keys_138 (by decide) (fun c_1562 => absurd c_1562 (by decide)) (fun c_1562 => ?_)
                  refine lv_aload_n hx hb dX12_keys_141 rfl (lv_at hl 2 rfl) ?_
                  refine pk_v (va_runV (As := []) (rest := []) ⟨hx, hb, hml, hown, hts⟩ (s_X12_nextToken_x l D t σ I_1544 J_1545 r_1540 rj rq H.size tg hSH hG.1 this hL_this hK_this w_1541 hR_w_1541 hL_w_1541 hK_w_1541 hN_w_1541 hT_w_1541) (cwV 0 hts (tw_V tw_832 tw_833 tw_834 tw_5 tw_835) rfl rfl rfl (by decide +kernel) ⟨Nat.le_of_ble_eq_true rfl, Nat.le_of_ble_eq_true rfl⟩) ⟨pq_blind, pq_recv hK hP hL_this hK_this (by decide) rfl, pq_pre hK hN hP hD⟩ rfl rfl hl.1 rfl (lv_room (Nat.le_of_ble_eq_true rfl)) dX12_keys_142 ⟨Nat.le_of_ble_eq_true rfl, Nat.le_of_ble_eq_true rfl⟩) hD hS hA (fun σ1 μ1 H locs hw_1564 hP hD hS => ?_)
                  obtain ⟨I_1565, J_1566, hu_1567, hg_1568, hp_1570, hp_1571, hp_1572⟩ := hw_1564
                  obtain ⟨hu_1567a, hu_1567b⟩ := Prod.mk.inj hu_1567
                  rw [hu_1567a, hu_1567b] at hP hD
                  have tt_1573 := hp_1570
                  have tt_1574 := hp_1571
                  have tt_1575 := hp_1572
                  have tt_1576 : (I_1565 391 this).toInt ≤ 300 := by have z := hg_1568.1.1 391 this; exact z.2
                  have hG := GM.tr hG hg_1568 (by decide)
                  have tt_1577 : (I_1565 397 this).toInt = (I_1544 397 this).toInt := by rw [hg_1568.2.1 397 (by decide) (by decide)]
                  refine lv_goto (tgt := 11) hx hb dX12_keys_145 (by decide) ?_
                  exact ih_1477 (1 : Int32) I_1565 J_1566 r_1540 _ _ _ (rg_w (rg_k (1 : Int32) 1 rfl) (by decide)) (by have k0 : (1 : Int32).toInt = 1 := rfl; omega) (fun j hj => by rw [er_1540, va_up_self, upd_off (by have z0 := clampE x_1533; omega)]; exact (fun j hj => by rw [er_1532, va_up_self, upd_off (by have z0 := clampE x_1522; omega)]; exact hrel_1484 j hj) j hj) (Int.le_of_lt (Int.lt_of_lt_of_le (Int.lt_trans (tm_lt (s := (I_1544 391 this).toInt) (k := (I_1544 393 this).toInt) (s1 := (I_1565 391 this).toInt) (k1 := (I_1565 393 this).toInt) (by omega) (by omega) (by omega)) (tm_lt (s := (I_1179 391 this).toInt) (k := (I_1179 393 this).toInt) (s1 := (I_1544 391 this).toInt) (k1 := (I_1544 393 this).toInt) (by omega) (by omega) (by omega))) hrel_1485)) (by have l1 := (Int.lt_trans (tm_lt (s := (I_1544 391 this).toInt) (k := (I_1544 393 this).toInt) (s1 := (I_1565 391 this).toInt) (k1 := (I_1565 393 this).toInt) (by omega) (by omega) (by omega)) (tm_lt (s := (I_1179 391 this).toInt) (k := (I_1179 393 this).toInt) (s1 := (I_1544 391 this).toInt) (k1 := (I_1544 393 this).toInt) (by omega) (by omega) (by omega))); have l2 := tm_b (s := (I_1565 391 this).toInt) (k := (I_1565 393 this).toInt) ((hG.1.1 391 this).2); omega) hG hP hD hS (lv_sub hl [2, 3, 0] rfl)
              · have tc_1578 : (x_1505).toInt < 0 := Int32.lt_iff_toInt_lt.mp (nle c_1512)
                have h_1579 : rg x_1505 (-1) (-1) := rg_lt1 (nle c_1512) hr_1509 (rg_k (0 : Int32) 0 rfl) (by decide)
                have uh_1579 := h_1579.1
                have vh_1579 := h_1579.2
                refine lv_iconst (v := 1) hx hb dX12_keys_70 (by decide) ?_
                subst hQ
                exact W.iret (v := 1) hx hb hr (fun t1 ht hW => ⟨⟨1, (σ, I_1179, J_1180, ri_1181, rj, rq), rfl, ⟨I_1179, J_1180, ri_1181, rfl, hG, (by omega), hrel_1484, hrel_1485, (rg_w (rg_k (1 : Int32) 1 rfl) (by decide))⟩, by rw [ht]; exact hP, va_K.moved hW.alike hK, hD⟩, hS.F ht⟩) hS.2.2 dX12_keys_71
            · have tc_1580 : 0 ≤ (x_1494).toInt := Int32.le_iff_toInt_le.mp (nlt c_1501)
              have h_1581 : rg x_1494 0 5 := rg_le2 (nlt c_1501) (rg_k (0 : Int32) 0 rfl) hr_1498 (by decide)
              have uh_1581 := h_1581.1
              have vh_1581 := h_1581.2
              refine lv_aload_n hx hb dX12_keys_41 rfl (lv_at hl 1 rfl) ?_
              refine pg_f (v := .ref this_a) (C := RX12) (T := TX12) (N := 31) hx hb hts (tw_i inlX12) hown hK hP hL_this hK_this (by decide) rfl 0 (by decide) (hts _ (tw_c tw_176)) (pq_hv rfl hR_this_a) dX12_keys_42 ?_
              refine lv_iload_n hx hb dX12_keys_45 rfl (lv_at hl 2 rfl) ?_
              refine lv_iconst (v := 4) hx hb dX12_keys_46 (by decide) ?_
              refine lv_iadd hx hb dX12_keys_47 ?_
              refine lv_topi (fun x_1582 ex_1582 => ?_)
              have h_1583 : rg x_1582 3725 12053 := rg_of_eq ex_1582 (rg_add h_1 (rg_k (4 : Int32) 4 rfl) (by decide))
              have uh_1583 := h_1583.1
              have vh_1583 := h_1583.2
              have tx_1582 : (x_1582).toInt = (a0).toInt + 4 := by rw [ex_1582]; exact i_add_rg (a2 := (a0).toInt) (b2 := 4) rfl rfl h_1 (rg_k (4 : Int32) 4 rfl) (by decide)
              refine pl_i hx hb hK hP hL_this_a hK_this_a hN_this_a (rg_in h_1583 (by decide)) dX12_keys_48 ?_
              refine lv_topi (fun x_1584 ex_1584 => ?_)
              have ex_1584 : x_1584 = ri_1181 this_a (x_1582).toNatClampNeg := ex_1584
              have h_1585 : rg x_1584 0 4 := rg_of_eq ex_1584 (GM.z hG (by rw [hT_this_a]; decide) (zn_tc (t := (ri this_a 6).toNatClampNeg) (c := (I 397 this).toNatClampNeg) (k := 4) (by have z_i := clampE x_1582; have z_0 := clampE (ri this_a 6); have z_1 := clampE (I 397 this); omega) (rg_cl1 ⟨hc.2.2.2.1, hc.2.2.2.2⟩ (by decide)) (rg_cl1 ⟨hc.2.1, hc.2.2.1⟩ (by decide)) (by decide)) rfl)
              have uh_1585 := h_1585.1
              have vh_1585 := h_1585.2
              refine lv_iconst (v := 4) hx hb dX12_keys_49 (by decide) ?_
              refine lv_icmp_ne (tgt := 55) hx hb dX12_keys_50 (by decide) (fun c_1586 => ?_) (fun c_1586 => ?_)
              · have tc_1587 : (x_1584).toInt ≠ 4 := fun q => c_1586 (Int32.toInt_inj.mp q)
                have h_1588 : rg x_1584 0 3 := rg_ne c_1586 h_1585 4 rfl (by decide)
                have uh_1588 := h_1588.1
                have vh_1588 := h_1588.2
                refine lv_iload_n hx hb dX12_keys_55 rfl (lv_at hl 0 rfl) ?_
                refine lv_if_eq (tgt := 63) hx hb dX12_keys_56 (by decide) (fun c_1589 => ?_) (fun c_1589 => absurd c_1589 (by decide))
                refine lv_aload_n hx hb dX12_keys_63 rfl (lv_at hl 1 rfl) ?_
                refine pk_i (va_runV (As := []) (rest := []) ⟨hx, hb, hml, hown, hts⟩ (s_X12_nameOf_x l D t σ I_1179 J_1180 ri_1181 rj rq H.size tg hSH hG.1 this hL_this hK_this) (cwV 0 hts (tw_V tw_921 tw_922 tw_923 tw_5 tw_924) rfl rfl rfl (by decide +kernel) ⟨Nat.le_of_ble_eq_true rfl, Nat.le_of_ble_eq_true rfl⟩) ⟨pq_blind, pq_recv hK hP hL_this hK_this (by decide) rfl, pq_pre hK hN hP hD⟩ rfl rfl hl.1 rfl (lv_room (Nat.le_of_ble_eq_true rfl)) dX12_keys_64 ⟨Nat.le_of_ble_eq_true rfl, Nat.le_of_ble_eq_true rfl⟩) hD hS hA (fun x_1590 σ1 μ1 H locs hw_1591 hP hD hS => ?_)
                obtain ⟨hu_1592, hp_1595, hr_1594⟩ := hw_1591
                obtain ⟨hu_1592a, hu_1592b⟩ := Prod.mk.inj hu_1592
                rw [hu_1592a, hu_1592b] at hP hD
                have tt_1596 := hp_1595
                refine lv_if_ge (tgt := 72) hx hb dX12_keys_67 (by decide) (fun c_1597 => ?_) (fun c_1597 => ?_)
                · have tc_1598 : 0 ≤ (x_1590).toInt := Int32.le_iff_toInt_le.mp c_1597
                  have h_1599 : rg x_1590 0 5 := rg_le2 c_1597 (rg_k (0 : Int32) 0 rfl) hr_1594 (by decide)
                  have uh_1599 := h_1599.1
                  have vh_1599 := h_1599.2
                  refine lv_aload_n hx hb dX12_keys_72 rfl (lv_at hl 1 rfl) ?_
                  refine pg_f (v := .ref this_a) (C := RX12) (T := TX12) (N := 31) hx hb hts (tw_i inlX12) hown hK hP hL_this hK_this (by decide) rfl 0 (by decide) (hts _ (tw_c tw_176)) (pq_hv rfl hR_this_a) dX12_keys_73 ?_
                  refine lv_iload_n hx hb dX12_keys_76 rfl (lv_at hl 2 rfl) ?_
                  refine lv_iconst (v := 5) hx hb dX12_keys_77 (by decide) ?_
                  refine lv_iadd hx hb dX12_keys_78 ?_
                  refine lv_topi (fun x_1600 ex_1600 => ?_)
                  have h_1601 : rg x_1600 3726 12054 := rg_of_eq ex_1600 (rg_add h_1 (rg_k (5 : Int32) 5 rfl) (by decide))
                  have uh_1601 := h_1601.1
                  have vh_1601 := h_1601.2
                  have tx_1600 : (x_1600).toInt = (a0).toInt + 5 := by rw [ex_1600]; exact i_add_rg (a2 := (a0).toInt) (b2 := 5) rfl rfl h_1 (rg_k (5 : Int32) 5 rfl) (by decide)
                  refine lv_aload_n hx hb dX12_keys_79 rfl (lv_at hl 1 rfl) ?_
                  refine pg_f (v := .ref this_a) (C := RX12) (T := TX12) (N := 31) hx hb hts (tw_i inlX12) hown hK hP hL_this hK_this (by decide) rfl 0 (by decide) (hts _ (tw_c tw_176)) (pq_hv rfl hR_this_a) dX12_keys_80 ?_
                  refine lv_iload_n hx hb dX12_keys_83 rfl (lv_at hl 2 rfl) ?_
                  refine lv_iconst (v := 4) hx hb dX12_keys_84 (by decide) ?_
                  refine lv_iadd hx hb dX12_keys_85 ?_
                  refine lv_topi (fun x_1602 ex_1602 => ?_)
                  have h_1603 : rg x_1602 3725 12053 := rg_of_eq ex_1602 (rg_add h_1 (rg_k (4 : Int32) 4 rfl) (by decide))
                  have uh_1603 := h_1603.1
                  have vh_1603 := h_1603.2
                  have tx_1602 : (x_1602).toInt = (a0).toInt + 4 := by rw [ex_1602]; exact i_add_rg (a2 := (a0).toInt) (b2 := 4) rfl rfl h_1 (rg_k (4 : Int32) 4 rfl) (by decide)
                  refine pl_i hx hb hK hP hL_this_a hK_this_a hN_this_a (rg_in h_1603 (by decide)) dX12_keys_86 ?_
                  refine lv_topi (fun x_1604 ex_1604 => ?_)
                  have ex_1604 : x_1604 = ri_1181 this_a (x_1602).toNatClampNeg := ex_1604
                  have h_1605 : rg x_1604 0 4 := rg_of_eq ex_1604 (GM.z hG (by rw [hT_this_a]; decide) (zn_tc (t := (ri this_a 6).toNatClampNeg) (c := (I 397 this).toNatClampNeg) (k := 4) (by have z_i := clampE x_1602; have z_0 := clampE (ri this_a 6); have z_1 := clampE (I 397 this); omega) (rg_cl1 ⟨hc.2.2.2.1, hc.2.2.2.2⟩ (by decide)) (rg_cl1 ⟨hc.2.1, hc.2.2.1⟩ (by decide)) (by decide)) rfl)
                  have uh_1605 := h_1605.1
                  have vh_1605 := h_1605.2
                  have h_1606 : rg x_1584 0 3 := ⟨by omega, by omega⟩
                  have uh_1606 := h_1606.1
                  have vh_1606 := h_1606.2
                  have h_1607 : rg x_1604 0 3 := ⟨by omega, by omega⟩
                  have uh_1607 := h_1607.1
                  have vh_1607 := h_1607.2
                  refine lv_iadd hx hb dX12_keys_87 ?_
                  refine lv_topi (fun x_1608 ex_1608 => ?_)
                  have h_1609 : rg x_1608 3726 12057 := rg_of_eq ex_1608 (rg_add h_1601 h_1607 (by decide))
                  have uh_1609 := h_1609.1
                  have vh_1609 := h_1609.2
                  have tx_1608 : (x_1608).toInt = (x_1600).toInt + (x_1604).toInt := by rw [ex_1608]; exact i_add_rg (a2 := (x_1600).toInt) (b2 := (x_1604).toInt) rfl rfl h_1601 h_1607 (by decide)
                  refine lv_iload_n hx hb dX12_keys_88 rfl (lv_at hl 0 rfl) ?_
                  refine lv_if_eq (tgt := 101) hx hb dX12_keys_89 (by decide) (fun c_1610 => ?_) (fun c_1610 => absurd c_1610 (by decide))
                  refine lv_aload_n hx hb dX12_keys_101 rfl (lv_at hl 1 rfl) ?_
                  refine pk_i (va_runV (As := []) (rest := [.int x_1608, .ref this_a]) ⟨hx, hb, hml, hown, hts⟩ (s_X12_nameOf_x l D t σ I_1179 J_1180 ri_1181 rj rq H.size tg hSH hG.1 this hL_this hK_this) (cwV 0 hts (tw_V tw_921 tw_922 tw_923 tw_5 tw_924) rfl rfl rfl (by decide +kernel) ⟨Nat.le_of_ble_eq_true rfl, Nat.le_of_ble_eq_true rfl⟩) ⟨pq_blind, pq_recv hK hP hL_this hK_this (by decide) rfl, pq_pre hK hN hP hD⟩ rfl rfl hl.1 rfl (lv_room (Nat.le_of_ble_eq_true rfl)) dX12_keys_102 ⟨Nat.le_of_ble_eq_true rfl, Nat.le_of_ble_eq_true rfl⟩) hD hS hA (fun x_1611 σ1 μ1 H locs hw_1612 hP hD hS => ?_)
                  obtain ⟨hu_1613, hp_1616, hr_1615⟩ := hw_1612
                  obtain ⟨hu_1613a, hu_1613b⟩ := Prod.mk.inj hu_1613
                  rw [hu_1613a, hu_1613b] at hP hD
                  have tt_1617 := hp_1616
                  refine pt_i hx hb hK hP hD hS hL_this_a hK_this_a hN_this_a (rg_in h_1609 (by decide)) dX12_keys_105 (fun r_1618 H locs er_1618 hP hD hS => ?_)
                  have hk4 : 0 ≤ (x_1604).toInt ∧ (x_1604).toInt ≤ 3 := ⟨by omega, by omega⟩
                  have hG := GM.wth hG hT_this_a (by decide) er_1618 (I 397 this).toNatClampNeg (by omega) (n := (ri this_a 6).toNatClampNeg) (by omega) (k := 5 + (x_1604).toNatClampNeg) (by have z_i := clampE x_1608; have z_k := clampE x_1604; omega) (by have z_k := clampE x_1604; omega) (by have z6 := congrArg Int32.toInt (hG.2.2.1 this_a hT_this_a 6 (by decide) (by decide)); have z_i := clampE x_1608; omega) (by decide)
                  refine lv_aload_n hx hb dX12_keys_106 rfl (lv_at hl 1 rfl) ?_
                  refine pg_f (v := .ref this_a) (C := RX12) (T := TX12) (N := 31) hx hb hts (tw_i inlX12) hown hK hP hL_this hK_this (by decide) rfl 0 (by decide) (hts _ (tw_c tw_176)) (pq_hv rfl hR_this_a) dX12_keys_107 ?_
                  refine lv_iload_n hx hb dX12_keys_110 rfl (lv_at hl 2 rfl) ?_
                  refine lv_iconst (v := 4) hx hb dX12_keys_111 (by decide) ?_
                  refine lv_iadd hx hb dX12_keys_112 ?_
                  refine lv_topi (fun x_1619 ex_1619 => ?_)
                  have h_1620 : rg x_1619 3725 12053 := rg_of_eq ex_1619 (rg_add h_1 (rg_k (4 : Int32) 4 rfl) (by decide))
                  have uh_1620 := h_1620.1
                  have vh_1620 := h_1620.2
                  have tx_1619 : (x_1619).toInt = (a0).toInt + 4 := by rw [ex_1619]; exact i_add_rg (a2 := (a0).toInt) (b2 := 4) rfl rfl h_1 (rg_k (4 : Int32) 4 rfl) (by decide)
                  refine lv_dup2_11 hx hb dX12_keys_113 rfl rfl ?_
                  refine pl_i hx hb hK hP hL_this_a hK_this_a hN_this_a (rg_in h_1620 (by decide)) dX12_keys_114 ?_
                  refine lv_topi (fun x_1621 ex_1621 => ?_)
                  have ex_1621 : x_1621 = r_1618 this_a (x_1619).toNatClampNeg := ex_1621
                  have h_1622 : rg x_1621 0 4 := rg_of_eq ex_1621 (GM.z hG (by rw [hT_this_a]; decide) (zn_tc (t := (ri this_a 6).toNatClampNeg) (c := (I 397 this).toNatClampNeg) (k := 4) (by have z_i := clampE x_1619; have z_0 := clampE (ri this_a 6); have z_1 := clampE (I 397 this); omega) (rg_cl1 ⟨hc.2.2.2.1, hc.2.2.2.2⟩ (by decide)) (rg_cl1 ⟨hc.2.1, hc.2.2.1⟩ (by decide)) (by decide)) rfl)
                  have uh_1622 := h_1622.1
                  have vh_1622 := h_1622.2
                  have hkz : (x_1621).toInt = (x_1604).toInt := by rw [show x_1621 = x_1604 from by rw [ex_1621, er_1618, va_up_self, upd_off (by have z0 := clampE x_1619; have z1 := clampE x_1608; have z2 := clampE x_1604; omega), ex_1604]; exact congrArg (ri_1181 this_a) (by have z0 := clampE x_1619; have z1 := clampE x_1602; omega)]
                  have h_1623 : rg x_1621 0 3 := ⟨by omega, by omega⟩
                  have uh_1623 := h_1623.1
                  have vh_1623 := h_1623.2
                  refine lv_iconst (v := 1) hx hb dX12_keys_115 (by decide) ?_
                  refine lv_iadd hx hb dX12_keys_116 ?_
                  refine lv_topi (fun x_1624 ex_1624 => ?_)
                  have h_1625 : rg x_1624 1 4 := rg_of_eq ex_1624 (rg_add h_1623 (rg_k (1 : Int32) 1 rfl) (by decide))
                  have uh_1625 := h_1625.1
                  have vh_1625 := h_1625.2
                  have tx_1624 : (x_1624).toInt = (x_1621).toInt + 1 := by rw [ex_1624]; exact i_add_rg (a2 := (x_1621).toInt) (b2 := 1) rfl rfl h_1623 (rg_k (1 : Int32) 1 rfl) (by decide)
                  refine pt_i hx hb hK hP hD hS hL_this_a hK_this_a hN_this_a (rg_in h_1620 (by decide)) dX12_keys_117 (fun r_1626 H locs er_1626 hP hD hS => ?_)
                  have hG := GM.wt hG hT_this_a (by decide) er_1626 (zn_tc (t := (ri this_a 6).toNatClampNeg) (c := (I 397 this).toNatClampNeg) (k := 4) (by have z_i := clampE x_1619; have z_0 := clampE (ri this_a 6); have z_1 := clampE (I 397 this); omega) (rg_cl1 ⟨hc.2.2.2.1, hc.2.2.2.2⟩ (by decide)) (rg_cl1 ⟨hc.2.1, hc.2.2.1⟩ (by decide)) (by decide)) rfl (rg_w h_1625 (by decide)) (by have z6 := congrArg Int32.toInt (hG.2.2.1 this_a hT_this_a 6 (by decide) (by decide)); have z_i := clampE x_1619; omega) (by decide)
                  refine lv_aload_n hx hb dX12_keys_118 rfl (lv_at hl 1 rfl) ?_
                  obtain ⟨w_1627, hR_w_1627, hL_w_1627, hK_w_1627, hN_w_1627, hT_w_1627⟩ := sh_a hSH 387 (ci := 12) (kd := 13) (len := 300) rfl (by decide) hL_this hK_this
                  refine pk_v (va_runV (As := []) (rest := []) ⟨hx, hb, hml, hown, hts⟩ (s_X12_nextToken_x l D t σ I_1179 J_1180 r_1626 rj rq H.size tg hSH hG.1 this hL_this hK_this w_1627 hR_w_1627 hL_w_1627 hK_w_1627 hN_w_1627 hT_w_1627) (cwV 0 hts (tw_V tw_832 tw_833 tw_834 tw_5 tw_835) rfl rfl rfl (by decide +kernel) ⟨Nat.le_of_ble_eq_true rfl, Nat.le_of_ble_eq_true rfl⟩) ⟨pq_blind, pq_recv hK hP hL_this hK_this (by decide) rfl, pq_pre hK hN hP hD⟩ rfl rfl hl.1 rfl (lv_room (Nat.le_of_ble_eq_true rfl)) dX12_keys_119 ⟨Nat.le_of_ble_eq_true rfl, Nat.le_of_ble_eq_true rfl⟩) hD hS hA (fun σ1 μ1 H locs hw_1629 hP hD hS => ?_)
                  obtain ⟨I_1630, J_1631, hu_1632, hg_1633, hp_1635, hp_1636, hp_1637⟩ := hw_1629
                  obtain ⟨hu_1632a, hu_1632b⟩ := Prod.mk.inj hu_1632
                  rw [hu_1632a, hu_1632b] at hP hD
                  have tt_1638 := hp_1635
                  have tt_1639 := hp_1636
                  have tt_1640 := hp_1637
                  have tt_1641 : (I_1630 391 this).toInt ≤ 300 := by have z := hg_1633.1.1 391 this; exact z.2
                  have hG := GM.tr hG hg_1633 (by decide)
                  have tt_1642 : (I_1630 397 this).toInt = (I_1179 397 this).toInt := by rw [hg_1633.2.1 397 (by decide) (by decide)]
                  refine lv_aload_n hx hb dX12_keys_122 rfl (lv_at hl 1 rfl) ?_
                  refine pg_f (v := .int (I_1630 393 this)) (C := RX12) (T := TX12) (N := 31) hx hb hts (tw_i inlX12) hown hK hP hL_this hK_this (by decide) rfl 9 (by decide) (hts _ (tw_c tw_831)) rfl dX12_keys_123 ?_
                  refine lv_bipush (v := 44) hx hb dX12_keys_126 (by decide) ?_
                  refine lv_icmp_ne (tgt := 135) hx hb dX12_keys_128 (by decide) (fun c_1643 => ?_) (fun c_1643 => ?_)
                  · have tc_1644 : (I_1630 393 this).toInt ≠ 44 := fun q => c_1643 (Int32.toInt_inj.mp q)
                    refine lv_iconst (v := 0) hx hb dX12_keys_135 (by decide) ?_
                    refine lv_istore_n (lv' := [(2, .int 0), (3, .int 0), (0, .ref this), (1, .int a0)]) hx hb dX12_keys_136 rfl hl (by decide) rfl (fun ls hl => ?_)
                    refine lv_iload_n hx hb dX12_keys_137 rfl (lv_at hl 0 rfl) ?_
                    refine lv_if_eq (tgt := 145) hx hb dX12_keys_138 (by decide) (fun c_1645 => ?_) (fun c_1645 => absurd c_1645 (by decide))
                    refine lv_goto (tgt := 11) hx hb dX12_keys_145 (by decide) ?_
                    exact ih_1477 (0 : Int32) I_1630 J_1631 r_1626 _ _ _ (rg_w (rg_k (0 : Int32) 0 rfl) (by decide)) (by have k0 : (0 : Int32).toInt = 0 := rfl; omega) (fun j hj => by rw [er_1626, va_up_self, upd_off (by have z0 := clampE x_1619; omega)]; exact (fun j hj => by rw [er_1618, va_up_self, upd_off (by have z0 := clampE x_1608; omega)]; exact hrel_1484 j hj) j hj) (Int.le_of_lt (Int.lt_of_lt_of_le (tm_lt (s := (I_1179 391 this).toInt) (k := (I_1179 393 this).toInt) (s1 := (I_1630 391 this).toInt) (k1 := (I_1630 393 this).toInt) (by omega) (by omega) (by omega)) hrel_1485)) (by have l1 := (tm_lt (s := (I_1179 391 this).toInt) (k := (I_1179 393 this).toInt) (s1 := (I_1630 391 this).toInt) (k1 := (I_1630 393 this).toInt) (by omega) (by omega) (by omega)); have l2 := tm_b (s := (I_1630 391 this).toInt) (k := (I_1630 393 this).toInt) ((hG.1.1 391 this).2); omega) hG hP hD hS (lv_sub hl [2, 3, 0] rfl)
                  · have tc_1646 : (I_1630 393 this).toInt = 44 := congrArg Int32.toInt c_1643
                    have h_1647 : rg (I_1630 393 this) 44 44 := rg_and (rg_full _) (rg_of_eq c_1643 (rg_k (44 : Int32) 44 rfl)) (by decide)
                    have uh_1647 := h_1647.1
                    have vh_1647 := h_1647.2
                    refine lv_iconst (v := 1) hx hb dX12_keys_131 (by decide) ?_
                    refine lv_goto (tgt := 136) hx hb dX12_keys_132 (by decide) ?_
                    refine lv_istore_n (lv' := [(2, .int 1), (3, .int 0), (0, .ref this), (1, .int a0)]) hx hb dX12_keys_136 rfl hl (by decide) rfl (fun ls hl => ?_)
                    refine lv_iload_n hx hb dX12_keys_137 rfl (lv_at hl 0 rfl) ?_
                    refine lv_if_eq (tgt := 145) hx hb dX12_keys_138 (by decide) (fun c_1648 => absurd c_1648 (by decide)) (fun c_1648 => ?_)
                    refine lv_aload_n hx hb dX12_keys_141 rfl (lv_at hl 2 rfl) ?_
                    refine pk_v (va_runV (As := []) (rest := []) ⟨hx, hb, hml, hown, hts⟩ (s_X12_nextToken_x l D t σ I_1630 J_1631 r_1626 rj rq H.size tg hSH hG.1 this hL_this hK_this w_1627 hR_w_1627 hL_w_1627 hK_w_1627 hN_w_1627 hT_w_1627) (cwV 0 hts (tw_V tw_832 tw_833 tw_834 tw_5 tw_835) rfl rfl rfl (by decide +kernel) ⟨Nat.le_of_ble_eq_true rfl, Nat.le_of_ble_eq_true rfl⟩) ⟨pq_blind, pq_recv hK hP hL_this hK_this (by decide) rfl, pq_pre hK hN hP hD⟩ rfl rfl hl.1 rfl (lv_room (Nat.le_of_ble_eq_true rfl)) dX12_keys_142 ⟨Nat.le_of_ble_eq_true rfl, Nat.le_of_ble_eq_true rfl⟩) hD hS hA (fun σ1 μ1 H locs hw_1650 hP hD hS => ?_)
                    obtain ⟨I_1651, J_1652, hu_1653, hg_1654, hp_1656, hp_1657, hp_1658⟩ := hw_1650
                    obtain ⟨hu_1653a, hu_1653b⟩ := Prod.mk.inj hu_1653
                    rw [hu_1653a, hu_1653b] at hP hD
                    have tt_1659 := hp_1656
                    have tt_1660 := hp_1657
                    have tt_1661 := hp_1658
                    have tt_1662 : (I_1651 391 this).toInt ≤ 300 := by have z := hg_1654.1.1 391 this; exact z.2
                    have hG := GM.tr hG hg_1654 (by decide)
                    have tt_1663 : (I_1651 397 this).toInt = (I_1630 397 this).toInt := by rw [hg_1654.2.1 397 (by decide) (by decide)]
                    refine lv_goto (tgt := 11) hx hb dX12_keys_145 (by decide) ?_
                    exact ih_1477 (1 : Int32) I_1651 J_1652 r_1626 _ _ _ (rg_w (rg_k (1 : Int32) 1 rfl) (by decide)) (by have k0 : (1 : Int32).toInt = 1 := rfl; omega) (fun j hj => by rw [er_1626, va_up_self, upd_off (by have z0 := clampE x_1619; omega)]; exact (fun j hj => by rw [er_1618, va_up_self, upd_off (by have z0 := clampE x_1608; omega)]; exact hrel_1484 j hj) j hj) (Int.le_of_lt (Int.lt_of_lt_of_le (Int.lt_trans (tm_lt (s := (I_1630 391 this).toInt) (k := (I_1630 393 this).toInt) (s1 := (I_1651 391 this).toInt) (k1 := (I_1651 393 this).toInt) (by omega) (by omega) (by omega)) (tm_lt (s := (I_1179 391 this).toInt) (k := (I_1179 393 this).toInt) (s1 := (I_1630 391 this).toInt) (k1 := (I_1630 393 this).toInt) (by omega) (by omega) (by omega))) hrel_1485)) (by have l1 := (Int.lt_trans (tm_lt (s := (I_1630 391 this).toInt) (k := (I_1630 393 this).toInt) (s1 := (I_1651 391 this).toInt) (k1 := (I_1651 393 this).toInt) (by omega) (by omega) (by omega)) (tm_lt (s := (I_1179 391 this).toInt) (k := (I_1179 393 this).toInt) (s1 := (I_1630 391 this).toInt) (k1 := (I_1630 393 this).toInt) (by omega) (by omega) (by omega))); have l2 := tm_b (s := (I_1651 391 this).toInt) (k := (I_1651 393 this).toInt) ((hG.1.1 391 this).2); omega) hG hP hD hS (lv_sub hl [2, 3, 0] rfl)
                · have tc_1664 : (x_1590).toInt < 0 := Int32.lt_iff_toInt_lt.mp (nle c_1597)
                  have h_1665 : rg x_1590 (-1) (-1) := rg_lt1 (nle c_1597) hr_1594 (rg_k (0 : Int32) 0 rfl) (by decide)
                  have uh_1665 := h_1665.1
                  have vh_1665 := h_1665.2
                  refine lv_iconst (v := 1) hx hb dX12_keys_70 (by decide) ?_
                  subst hQ
                  exact W.iret (v := 1) hx hb hr (fun t1 ht hW => ⟨⟨1, (σ, I_1179, J_1180, ri_1181, rj, rq), rfl, ⟨I_1179, J_1180, ri_1181, rfl, hG, (by omega), hrel_1484, hrel_1485, (rg_w (rg_k (1 : Int32) 1 rfl) (by decide))⟩, by rw [ht]; exact hP, va_K.moved hW.alike hK, hD⟩, hS.F ht⟩) hS.2.2 dX12_keys_71
              · have tc_1666 : (x_1584).toInt = 4 := congrArg Int32.toInt c_1586
                have h_1667 : rg x_1584 4 4 := rg_and h_1585 (rg_of_eq c_1586 (rg_k (4 : Int32) 4 rfl)) (by decide)
                have uh_1667 := h_1667.1
                have vh_1667 := h_1667.2
                refine lv_iconst (v := 5) hx hb dX12_keys_53 (by decide) ?_
                subst hQ
                exact W.iret (v := 5) hx hb hr (fun t1 ht hW => ⟨⟨5, (σ, I_1179, J_1180, ri_1181, rj, rq), rfl, ⟨I_1179, J_1180, ri_1181, rfl, hG, (by omega), hrel_1484, hrel_1485, (rg_w (rg_k (5 : Int32) 5 rfl) (by decide))⟩, by rw [ht]; exact hP, va_K.moved hW.alike hK, hD⟩, hS.F ht⟩) hS.2.2 dX12_keys_54
          · have tc_1668 : (I_1179 393 this).toInt = 45 := congrArg Int32.toInt c_1491
            have h_1669 : rg (I_1179 393 this) 45 45 := rg_and (rg_full _) (rg_of_eq c_1491 (rg_k (45 : Int32) 45 rfl)) (by decide)
            have uh_1669 := h_1669.1
            have vh_1669 := h_1669.2
            refine lv_iconst (v := 1) hx hb dX12_keys_24 (by decide) ?_
            refine lv_goto (tgt := 29) hx hb dX12_keys_25 (by decide) ?_
            refine lv_istore_n (lv' := [(3, .int 1), (0, .ref this), (1, .int a0), (2, .int x_1178)]) hx hb dX12_keys_29 rfl hl (by decide) rfl (fun ls hl => ?_)
            refine lv_iload_n hx hb dX12_keys_30 rfl (lv_at hl 0 rfl) ?_
            refine lv_if_ne (tgt := 41) hx hb dX12_keys_31 (by decide) (fun c_1670 => ?_) (fun c_1670 => absurd c_1670 (by decide))
            refine lv_aload_n hx hb dX12_keys_41 rfl (lv_at hl 1 rfl) ?_
            refine pg_f (v := .ref this_a) (C := RX12) (T := TX12) (N := 31) hx hb hts (tw_i inlX12) hown hK hP hL_this hK_this (by decide) rfl 0 (by decide) (hts _ (tw_c tw_176)) (pq_hv rfl hR_this_a) dX12_keys_42 ?_
            refine lv_iload_n hx hb dX12_keys_45 rfl (lv_at hl 2 rfl) ?_
            refine lv_iconst (v := 4) hx hb dX12_keys_46 (by decide) ?_
            refine lv_iadd hx hb dX12_keys_47 ?_
            refine lv_topi (fun x_1671 ex_1671 => ?_)
            have h_1672 : rg x_1671 3725 12053 := rg_of_eq ex_1671 (rg_add h_1 (rg_k (4 : Int32) 4 rfl) (by decide))
            have uh_1672 := h_1672.1
            have vh_1672 := h_1672.2
            have tx_1671 : (x_1671).toInt = (a0).toInt + 4 := by rw [ex_1671]; exact i_add_rg (a2 := (a0).toInt) (b2 := 4) rfl rfl h_1 (rg_k (4 : Int32) 4 rfl) (by decide)
            refine pl_i hx hb hK hP hL_this_a hK_this_a hN_this_a (rg_in h_1672 (by decide)) dX12_keys_48 ?_
            refine lv_topi (fun x_1673 ex_1673 => ?_)
            have ex_1673 : x_1673 = ri_1181 this_a (x_1671).toNatClampNeg := ex_1673
            have h_1674 : rg x_1673 0 4 := rg_of_eq ex_1673 (GM.z hG (by rw [hT_this_a]; decide) (zn_tc (t := (ri this_a 6).toNatClampNeg) (c := (I 397 this).toNatClampNeg) (k := 4) (by have z_i := clampE x_1671; have z_0 := clampE (ri this_a 6); have z_1 := clampE (I 397 this); omega) (rg_cl1 ⟨hc.2.2.2.1, hc.2.2.2.2⟩ (by decide)) (rg_cl1 ⟨hc.2.1, hc.2.2.1⟩ (by decide)) (by decide)) rfl)
            have uh_1674 := h_1674.1
            have vh_1674 := h_1674.2
            refine lv_iconst (v := 4) hx hb dX12_keys_49 (by decide) ?_
            refine lv_icmp_ne (tgt := 55) hx hb dX12_keys_50 (by decide) (fun c_1675 => ?_) (fun c_1675 => ?_)
            · have tc_1676 : (x_1673).toInt ≠ 4 := fun q => c_1675 (Int32.toInt_inj.mp q)
              have h_1677 : rg x_1673 0 3 := rg_ne c_1675 h_1674 4 rfl (by decide)
              have uh_1677 := h_1677.1
              have vh_1677 := h_1677.2
              refine lv_iload_n hx hb dX12_keys_55 rfl (lv_at hl 0 rfl) ?_
              refine lv_if_eq (tgt := 63) hx hb dX12_keys_56 (by decide) (fun c_1678 => absurd c_1678 (by decide)) (fun c_1678 => ?_)
              refine lv_aload_n hx hb dX12_keys_59 rfl (lv_at hl 1 rfl) ?_
              obtain ⟨w_1679, hR_w_1679, hL_w_1679, hK_w_1679, hN_w_1679, hT_w_1679⟩ := sh_a hSH 387 (ci := 12) (kd := 13) (len := 300) rfl (by decide) hL_this hK_this
              refine pk_v (va_runV (As := []) (rest := []) ⟨hx, hb, hml, hown, hts⟩ (s_X12_nextToken_x l D t σ I_1179 J_1180 ri_1181 rj rq H.size tg hSH hG.1 this hL_this hK_this w_1679 hR_w_1679 hL_w_1679 hK_w_1679 hN_w_1679 hT_w_1679) (cwV 0 hts (tw_V tw_832 tw_833 tw_834 tw_5 tw_835) rfl rfl rfl (by decide +kernel) ⟨Nat.le_of_ble_eq_true rfl, Nat.le_of_ble_eq_true rfl⟩) ⟨pq_blind, pq_recv hK hP hL_this hK_this (by decide) rfl, pq_pre hK hN hP hD⟩ rfl rfl hl.1 rfl (lv_room (Nat.le_of_ble_eq_true rfl)) dX12_keys_60 ⟨Nat.le_of_ble_eq_true rfl, Nat.le_of_ble_eq_true rfl⟩) hD hS hA (fun σ1 μ1 H locs hw_1681 hP hD hS => ?_)
              obtain ⟨I_1682, J_1683, hu_1684, hg_1685, hp_1687, hp_1688, hp_1689⟩ := hw_1681
              obtain ⟨hu_1684a, hu_1684b⟩ := Prod.mk.inj hu_1684
              rw [hu_1684a, hu_1684b] at hP hD
              have tt_1690 := hp_1687
              have tt_1691 := hp_1688
              have tt_1692 := hp_1689
              have tt_1693 : (I_1682 391 this).toInt ≤ 300 := by have z := hg_1685.1.1 391 this; exact z.2
              have hG := GM.tr hG hg_1685 (by decide)
              have tt_1694 : (I_1682 397 this).toInt = (I_1179 397 this).toInt := by rw [hg_1685.2.1 397 (by decide) (by decide)]
              refine lv_aload_n hx hb dX12_keys_63 rfl (lv_at hl 1 rfl) ?_
              refine pk_i (va_runV (As := []) (rest := []) ⟨hx, hb, hml, hown, hts⟩ (s_X12_nameOf_x l D t σ I_1682 J_1683 ri_1181 rj rq H.size tg hSH hG.1 this hL_this hK_this) (cwV 0 hts (tw_V tw_921 tw_922 tw_923 tw_5 tw_924) rfl rfl rfl (by decide +kernel) ⟨Nat.le_of_ble_eq_true rfl, Nat.le_of_ble_eq_true rfl⟩) ⟨pq_blind, pq_recv hK hP hL_this hK_this (by decide) rfl, pq_pre hK hN hP hD⟩ rfl rfl hl.1 rfl (lv_room (Nat.le_of_ble_eq_true rfl)) dX12_keys_64 ⟨Nat.le_of_ble_eq_true rfl, Nat.le_of_ble_eq_true rfl⟩) hD hS hA (fun x_1695 σ1 μ1 H locs hw_1696 hP hD hS => ?_)
              obtain ⟨hu_1697, hp_1700, hr_1699⟩ := hw_1696
              obtain ⟨hu_1697a, hu_1697b⟩ := Prod.mk.inj hu_1697
              rw [hu_1697a, hu_1697b] at hP hD
              have tt_1701 := hp_1700
              refine lv_if_ge (tgt := 72) hx hb dX12_keys_67 (by decide) (fun c_1702 => ?_) (fun c_1702 => ?_)
              · have tc_1703 : 0 ≤ (x_1695).toInt := Int32.le_iff_toInt_le.mp c_1702
                have h_1704 : rg x_1695 0 5 := rg_le2 c_1702 (rg_k (0 : Int32) 0 rfl) hr_1699 (by decide)
                have uh_1704 := h_1704.1
                have vh_1704 := h_1704.2
                refine lv_aload_n hx hb dX12_keys_72 rfl (lv_at hl 1 rfl) ?_
                refine pg_f (v := .ref this_a) (C := RX12) (T := TX12) (N := 31) hx hb hts (tw_i inlX12) hown hK hP hL_this hK_this (by decide) rfl 0 (by decide) (hts _ (tw_c tw_176)) (pq_hv rfl hR_this_a) dX12_keys_73 ?_
                refine lv_iload_n hx hb dX12_keys_76 rfl (lv_at hl 2 rfl) ?_
                refine lv_iconst (v := 5) hx hb dX12_keys_77 (by decide) ?_
                refine lv_iadd hx hb dX12_keys_78 ?_
                refine lv_topi (fun x_1705 ex_1705 => ?_)
                have h_1706 : rg x_1705 3726 12054 := rg_of_eq ex_1705 (rg_add h_1 (rg_k (5 : Int32) 5 rfl) (by decide))
                have uh_1706 := h_1706.1
                have vh_1706 := h_1706.2
                have tx_1705 : (x_1705).toInt = (a0).toInt + 5 := by rw [ex_1705]; exact i_add_rg (a2 := (a0).toInt) (b2 := 5) rfl rfl h_1 (rg_k (5 : Int32) 5 rfl) (by decide)
                refine lv_aload_n hx hb dX12_keys_79 rfl (lv_at hl 1 rfl) ?_
                refine pg_f (v := .ref this_a) (C := RX12) (T := TX12) (N := 31) hx hb hts (tw_i inlX12) hown hK hP hL_this hK_this (by decide) rfl 0 (by decide) (hts _ (tw_c tw_176)) (pq_hv rfl hR_this_a) dX12_keys_80 ?_
                refine lv_iload_n hx hb dX12_keys_83 rfl (lv_at hl 2 rfl) ?_
                refine lv_iconst (v := 4) hx hb dX12_keys_84 (by decide) ?_
                refine lv_iadd hx hb dX12_keys_85 ?_
                refine lv_topi (fun x_1707 ex_1707 => ?_)
                have h_1708 : rg x_1707 3725 12053 := rg_of_eq ex_1707 (rg_add h_1 (rg_k (4 : Int32) 4 rfl) (by decide))
                have uh_1708 := h_1708.1
                have vh_1708 := h_1708.2
                have tx_1707 : (x_1707).toInt = (a0).toInt + 4 := by rw [ex_1707]; exact i_add_rg (a2 := (a0).toInt) (b2 := 4) rfl rfl h_1 (rg_k (4 : Int32) 4 rfl) (by decide)
                refine pl_i hx hb hK hP hL_this_a hK_this_a hN_this_a (rg_in h_1708 (by decide)) dX12_keys_86 ?_
                refine lv_topi (fun x_1709 ex_1709 => ?_)
                have ex_1709 : x_1709 = ri_1181 this_a (x_1707).toNatClampNeg := ex_1709
                have h_1710 : rg x_1709 0 4 := rg_of_eq ex_1709 (GM.z hG (by rw [hT_this_a]; decide) (zn_tc (t := (ri this_a 6).toNatClampNeg) (c := (I 397 this).toNatClampNeg) (k := 4) (by have z_i := clampE x_1707; have z_0 := clampE (ri this_a 6); have z_1 := clampE (I 397 this); omega) (rg_cl1 ⟨hc.2.2.2.1, hc.2.2.2.2⟩ (by decide)) (rg_cl1 ⟨hc.2.1, hc.2.2.1⟩ (by decide)) (by decide)) rfl)
                have uh_1710 := h_1710.1
                have vh_1710 := h_1710.2
                have h_1711 : rg x_1673 0 3 := ⟨by omega, by omega⟩
                have uh_1711 := h_1711.1
                have vh_1711 := h_1711.2
                have h_1712 : rg x_1709 0 3 := ⟨by omega, by omega⟩
                have uh_1712 := h_1712.1
                have vh_1712 := h_1712.2
                refine lv_iadd hx hb dX12_keys_87 ?_
                refine lv_topi (fun x_1713 ex_1713 => ?_)
                have h_1714 : rg x_1713 3726 12057 := rg_of_eq ex_1713 (rg_add h_1706 h_1712 (by decide))
                have uh_1714 := h_1714.1
                have vh_1714 := h_1714.2
                have tx_1713 : (x_1713).toInt = (x_1705).toInt + (x_1709).toInt := by rw [ex_1713]; exact i_add_rg (a2 := (x_1705).toInt) (b2 := (x_1709).toInt) rfl rfl h_1706 h_1712 (by decide)
                refine lv_iload_n hx hb dX12_keys_88 rfl (lv_at hl 0 rfl) ?_
                refine lv_if_eq (tgt := 101) hx hb dX12_keys_89 (by decide) (fun c_1715 => absurd c_1715 (by decide)) (fun c_1715 => ?_)
                refine lv_iconst (v := (-1)) hx hb dX12_keys_92 (by decide) ?_
                refine lv_aload_n hx hb dX12_keys_93 rfl (lv_at hl 1 rfl) ?_
                refine pk_i (va_runV (As := []) (rest := [.int (-1), .int x_1713, .ref this_a]) ⟨hx, hb, hml, hown, hts⟩ (s_X12_nameOf_x l D t σ I_1682 J_1683 ri_1181 rj rq H.size tg hSH hG.1 this hL_this hK_this) (cwV 0 hts (tw_V tw_921 tw_922 tw_923 tw_5 tw_924) rfl rfl rfl (by decide +kernel) ⟨Nat.le_of_ble_eq_true rfl, Nat.le_of_ble_eq_true rfl⟩) ⟨pq_blind, pq_recv hK hP hL_this hK_this (by decide) rfl, pq_pre hK hN hP hD⟩ rfl rfl hl.1 rfl (lv_room (Nat.le_of_ble_eq_true rfl)) dX12_keys_94 ⟨Nat.le_of_ble_eq_true rfl, Nat.le_of_ble_eq_true rfl⟩) hD hS hA (fun x_1716 σ1 μ1 H locs hw_1717 hP hD hS => ?_)
                obtain ⟨hu_1718, hp_1721, hr_1720⟩ := hw_1717
                obtain ⟨hu_1718a, hu_1718b⟩ := Prod.mk.inj hu_1718
                rw [hu_1718a, hu_1718b] at hP hD
                have tt_1722 := hp_1721
                refine lv_isub hx hb dX12_keys_97 ?_
                refine lv_topi (fun x_1723 ex_1723 => ?_)
                have h_1724 : rg x_1723 (-6) 0 := rg_of_eq ex_1723 (rg_sub (rg_k (-1 : Int32) (-1) rfl) hr_1720 (by decide))
                have uh_1724 := h_1724.1
                have vh_1724 := h_1724.2
                have tx_1723 : (x_1723).toInt = (-1) - (x_1716).toInt := by rw [ex_1723]; exact i_sub_rg (a2 := (-1)) (b2 := (x_1716).toInt) rfl rfl (rg_k (-1 : Int32) (-1) rfl) hr_1720 (by decide)
                refine lv_goto (tgt := 105) hx hb dX12_keys_98 (by decide) ?_
                refine pt_i hx hb hK hP hD hS hL_this_a hK_this_a hN_this_a (rg_in h_1714 (by decide)) dX12_keys_105 (fun r_1725 H locs er_1725 hP hD hS => ?_)
                have hk4 : 0 ≤ (x_1709).toInt ∧ (x_1709).toInt ≤ 3 := ⟨by omega, by omega⟩
                have hG := GM.wth hG hT_this_a (by decide) er_1725 (I 397 this).toNatClampNeg (by omega) (n := (ri this_a 6).toNatClampNeg) (by omega) (k := 5 + (x_1709).toNatClampNeg) (by have z_i := clampE x_1713; have z_k := clampE x_1709; omega) (by have z_k := clampE x_1709; omega) (by have z6 := congrArg Int32.toInt (hG.2.2.1 this_a hT_this_a 6 (by decide) (by decide)); have z_i := clampE x_1713; omega) (by decide)
                refine lv_aload_n hx hb dX12_keys_106 rfl (lv_at hl 1 rfl) ?_
                refine pg_f (v := .ref this_a) (C := RX12) (T := TX12) (N := 31) hx hb hts (tw_i inlX12) hown hK hP hL_this hK_this (by decide) rfl 0 (by decide) (hts _ (tw_c tw_176)) (pq_hv rfl hR_this_a) dX12_keys_107 ?_
                refine lv_iload_n hx hb dX12_keys_110 rfl (lv_at hl 2 rfl) ?_
                refine lv_iconst (v := 4) hx hb dX12_keys_111 (by decide) ?_
                refine lv_iadd hx hb dX12_keys_112 ?_
                refine lv_topi (fun x_1726 ex_1726 => ?_)
                have h_1727 : rg x_1726 3725 12053 := rg_of_eq ex_1726 (rg_add h_1 (rg_k (4 : Int32) 4 rfl) (by decide))
                have uh_1727 := h_1727.1
                have vh_1727 := h_1727.2
                have tx_1726 : (x_1726).toInt = (a0).toInt + 4 := by rw [ex_1726]; exact i_add_rg (a2 := (a0).toInt) (b2 := 4) rfl rfl h_1 (rg_k (4 : Int32) 4 rfl) (by decide)
                refine lv_dup2_11 hx hb dX12_keys_113 rfl rfl ?_
                refine pl_i hx hb hK hP hL_this_a hK_this_a hN_this_a (rg_in h_1727 (by decide)) dX12_keys_114 ?_
                refine lv_topi (fun x_1728 ex_1728 => ?_)
                have ex_1728 : x_1728 = r_1725 this_a (x_1726).toNatClampNeg := ex_1728
                have h_1729 : rg x_1728 0 4 := rg_of_eq ex_1728 (GM.z hG (by rw [hT_this_a]; decide) (zn_tc (t := (ri this_a 6).toNatClampNeg) (c := (I 397 this).toNatClampNeg) (k := 4) (by have z_i := clampE x_1726; have z_0 := clampE (ri this_a 6); have z_1 := clampE (I 397 this); omega) (rg_cl1 ⟨hc.2.2.2.1, hc.2.2.2.2⟩ (by decide)) (rg_cl1 ⟨hc.2.1, hc.2.2.1⟩ (by decide)) (by decide)) rfl)
                have uh_1729 := h_1729.1
                have vh_1729 := h_1729.2
                have hkz : (x_1728).toInt = (x_1709).toInt := by rw [show x_1728 = x_1709 from by rw [ex_1728, er_1725, va_up_self, upd_off (by have z0 := clampE x_1726; have z1 := clampE x_1713; have z2 := clampE x_1709; omega), ex_1709]; exact congrArg (ri_1181 this_a) (by have z0 := clampE x_1726; have z1 := clampE x_1707; omega)]
                have h_1730 : rg x_1728 0 3 := ⟨by omega, by omega⟩
                have uh_1730 := h_1730.1
                have vh_1730 := h_1730.2
                refine lv_iconst (v := 1) hx hb dX12_keys_115 (by decide) ?_
                refine lv_iadd hx hb dX12_keys_116 ?_
                refine lv_topi (fun x_1731 ex_1731 => ?_)
                have h_1732 : rg x_1731 1 4 := rg_of_eq ex_1731 (rg_add h_1730 (rg_k (1 : Int32) 1 rfl) (by decide))
                have uh_1732 := h_1732.1
                have vh_1732 := h_1732.2
                have tx_1731 : (x_1731).toInt = (x_1728).toInt + 1 := by rw [ex_1731]; exact i_add_rg (a2 := (x_1728).toInt) (b2 := 1) rfl rfl h_1730 (rg_k (1 : Int32) 1 rfl) (by decide)
                refine pt_i hx hb hK hP hD hS hL_this_a hK_this_a hN_this_a (rg_in h_1727 (by decide)) dX12_keys_117 (fun r_1733 H locs er_1733 hP hD hS => ?_)
                have hG := GM.wt hG hT_this_a (by decide) er_1733 (zn_tc (t := (ri this_a 6).toNatClampNeg) (c := (I 397 this).toNatClampNeg) (k := 4) (by have z_i := clampE x_1726; have z_0 := clampE (ri this_a 6); have z_1 := clampE (I 397 this); omega) (rg_cl1 ⟨hc.2.2.2.1, hc.2.2.2.2⟩ (by decide)) (rg_cl1 ⟨hc.2.1, hc.2.2.1⟩ (by decide)) (by decide)) rfl (rg_w h_1732 (by decide)) (by have z6 := congrArg Int32.toInt (hG.2.2.1 this_a hT_this_a 6 (by decide) (by decide)); have z_i := clampE x_1726; omega) (by decide)
                refine lv_aload_n hx hb dX12_keys_118 rfl (lv_at hl 1 rfl) ?_
                refine pk_v (va_runV (As := []) (rest := []) ⟨hx, hb, hml, hown, hts⟩ (s_X12_nextToken_x l D t σ I_1682 J_1683 r_1733 rj rq H.size tg hSH hG.1 this hL_this hK_this w_1679 hR_w_1679 hL_w_1679 hK_w_1679 hN_w_1679 hT_w_1679) (cwV 0 hts (tw_V tw_832 tw_833 tw_834 tw_5 tw_835) rfl rfl rfl (by decide +kernel) ⟨Nat.le_of_ble_eq_true rfl, Nat.le_of_ble_eq_true rfl⟩) ⟨pq_blind, pq_recv hK hP hL_this hK_this (by decide) rfl, pq_pre hK hN hP hD⟩ rfl rfl hl.1 rfl (lv_room (Nat.le_of_ble_eq_true rfl)) dX12_keys_119 ⟨Nat.le_of_ble_eq_true rfl, Nat.le_of_ble_eq_true rfl⟩) hD hS hA (fun σ1 μ1 H locs hw_1735 hP hD hS => ?_)
                obtain ⟨I_1736, J_1737, hu_1738, hg_1739, hp_1741, hp_1742, hp_1743⟩ := hw_1735
                obtain ⟨hu_1738a, hu_1738b⟩ := Prod.mk.inj hu_1738
                rw [hu_1738a, hu_1738b] at hP hD
                have tt_1744 := hp_1741
                have tt_1745 := hp_1742
                have tt_1746 := hp_1743
                have tt_1747 : (I_1736 391 this).toInt ≤ 300 := by have z := hg_1739.1.1 391 this; exact z.2
                have hG := GM.tr hG hg_1739 (by decide)
                have tt_1748 : (I_1736 397 this).toInt = (I_1682 397 this).toInt := by rw [hg_1739.2.1 397 (by decide) (by decide)]
                refine lv_aload_n hx hb dX12_keys_122 rfl (lv_at hl 1 rfl) ?_
                refine pg_f (v := .int (I_1736 393 this)) (C := RX12) (T := TX12) (N := 31) hx hb hts (tw_i inlX12) hown hK hP hL_this hK_this (by decide) rfl 9 (by decide) (hts _ (tw_c tw_831)) rfl dX12_keys_123 ?_
                refine lv_bipush (v := 44) hx hb dX12_keys_126 (by decide) ?_
                refine lv_icmp_ne (tgt := 135) hx hb dX12_keys_128 (by decide) (fun c_1749 => ?_) (fun c_1749 => ?_)
                · have tc_1750 : (I_1736 393 this).toInt ≠ 44 := fun q => c_1749 (Int32.toInt_inj.mp q)
                  refine lv_iconst (v := 0) hx hb dX12_keys_135 (by decide) ?_
                  refine lv_istore_n (lv' := [(2, .int 0), (3, .int 1), (0, .ref this), (1, .int a0)]) hx hb dX12_keys_136 rfl hl (by decide) rfl (fun ls hl => ?_)
                  refine lv_iload_n hx hb dX12_keys_137 rfl (lv_at hl 0 rfl) ?_
                  refine lv_if_eq (tgt := 145) hx hb dX12_keys_138 (by decide) (fun c_1751 => ?_) (fun c_1751 => absurd c_1751 (by decide))
                  refine lv_goto (tgt := 11) hx hb dX12_keys_145 (by decide) ?_
                  exact ih_1477 (0 : Int32) I_1736 J_1737 r_1733 _ _ _ (rg_w (rg_k (0 : Int32) 0 rfl) (by decide)) (by have k0 : (0 : Int32).toInt = 0 := rfl; omega) (fun j hj => by rw [er_1733, va_up_self, upd_off (by have z0 := clampE x_1726; omega)]; exact (fun j hj => by rw [er_1725, va_up_self, upd_off (by have z0 := clampE x_1713; omega)]; exact hrel_1484 j hj) j hj) (Int.le_of_lt (Int.lt_of_lt_of_le (Int.lt_trans (tm_lt (s := (I_1682 391 this).toInt) (k := (I_1682 393 this).toInt) (s1 := (I_1736 391 this).toInt) (k1 := (I_1736 393 this).toInt) (by omega) (by omega) (by omega)) (tm_lt (s := (I_1179 391 this).toInt) (k := (I_1179 393 this).toInt) (s1 := (I_1682 391 this).toInt) (k1 := (I_1682 393 this).toInt) (by omega) (by omega) (by omega))) hrel_1485)) (by have l1 := (Int.lt_trans (tm_lt (s := (I_1682 391 this).toInt) (k := (I_1682 393 this).toInt) (s1 := (I_1736 391 this).toInt) (k1 := (I_1736 393 this).toInt) (by omega) (by omega) (by omega)) (tm_lt (s := (I_1179 391 this).toInt) (k := (I_1179 393 this).toInt) (s1 := (I_1682 391 this).toInt) (k1 := (I_1682 393 this).toInt) (by omega) (by omega) (by omega))); have l2 := tm_b (s := (I_1736 391 this).toInt) (k := (I_1736 393 this).toInt) ((hG.1.1 391 this).2); omega) hG hP hD hS (lv_sub hl [2, 3, 0] rfl)
                · have tc_1752 : (I_1736 393 this).toInt = 44 := congrArg Int32.toInt c_1749
                  have h_1753 : rg (I_1736 393 this) 44 44 := rg_and (rg_full _) (rg_of_eq c_1749 (rg_k (44 : Int32) 44 rfl)) (by decide)
                  have uh_1753 := h_1753.1
                  have vh_1753 := h_1753.2
                  refine lv_iconst (v := 1) hx hb dX12_keys_131 (by decide) ?_
                  refine lv_goto (tgt := 136) hx hb dX12_keys_132 (by decide) ?_
                  refine lv_istore_n (lv' := [(2, .int 1), (3, .int 1), (0, .ref this), (1, .int a0)]) hx hb dX12_keys_136 rfl hl (by decide) rfl (fun ls hl => ?_)
                  refine lv_iload_n hx hb dX12_keys_137 rfl (lv_at hl 0 rfl) ?_
                  refine lv_if_eq (tgt := 145) hx hb dX12_keys_138 (by decide) (fun c_1754 => absurd c_1754 (by decide)) (fun c_1754 => ?_)
                  refine lv_aload_n hx hb dX12_keys_141 rfl (lv_at hl 2 rfl) ?_
                  refine pk_v (va_runV (As := []) (rest := []) ⟨hx, hb, hml, hown, hts⟩ (s_X12_nextToken_x l D t σ I_1736 J_1737 r_1733 rj rq H.size tg hSH hG.1 this hL_this hK_this w_1679 hR_w_1679 hL_w_1679 hK_w_1679 hN_w_1679 hT_w_1679) (cwV 0 hts (tw_V tw_832 tw_833 tw_834 tw_5 tw_835) rfl rfl rfl (by decide +kernel) ⟨Nat.le_of_ble_eq_true rfl, Nat.le_of_ble_eq_true rfl⟩) ⟨pq_blind, pq_recv hK hP hL_this hK_this (by decide) rfl, pq_pre hK hN hP hD⟩ rfl rfl hl.1 rfl (lv_room (Nat.le_of_ble_eq_true rfl)) dX12_keys_142 ⟨Nat.le_of_ble_eq_true rfl, Nat.le_of_ble_eq_true rfl⟩) hD hS hA (fun σ1 μ1 H locs hw_1756 hP hD hS => ?_)
                  obtain ⟨I_1757, J_1758, hu_1759, hg_1760, hp_1762, hp_1763, hp_1764⟩ := hw_1756
                  obtain ⟨hu_1759a, hu_1759b⟩ := Prod.mk.inj hu_1759
                  rw [hu_1759a, hu_1759b] at hP hD
                  have tt_1765 := hp_1762
                  have tt_1766 := hp_1763
                  have tt_1767 := hp_1764
                  have tt_1768 : (I_1757 391 this).toInt ≤ 300 := by have z := hg_1760.1.1 391 this; exact z.2
                  have hG := GM.tr hG hg_1760 (by decide)
                  have tt_1769 : (I_1757 397 this).toInt = (I_1736 397 this).toInt := by rw [hg_1760.2.1 397 (by decide) (by decide)]
                  refine lv_goto (tgt := 11) hx hb dX12_keys_145 (by decide) ?_
                  exact ih_1477 (1 : Int32) I_1757 J_1758 r_1733 _ _ _ (rg_w (rg_k (1 : Int32) 1 rfl) (by decide)) (by have k0 : (1 : Int32).toInt = 1 := rfl; omega) (fun j hj => by rw [er_1733, va_up_self, upd_off (by have z0 := clampE x_1726; omega)]; exact (fun j hj => by rw [er_1725, va_up_self, upd_off (by have z0 := clampE x_1713; omega)]; exact hrel_1484 j hj) j hj) (Int.le_of_lt (Int.lt_of_lt_of_le (Int.lt_trans (tm_lt (s := (I_1736 391 this).toInt) (k := (I_1736 393 this).toInt) (s1 := (I_1757 391 this).toInt) (k1 := (I_1757 393 this).toInt) (by omega) (by omega) (by omega)) (Int.lt_trans (tm_lt (s := (I_1682 391 this).toInt) (k := (I_1682 393 this).toInt) (s1 := (I_1736 391 this).toInt) (k1 := (I_1736 393 this).toInt) (by omega) (by omega) (by omega)) (tm_lt (s := (I_1179 391 this).toInt) (k := (I_1179 393 this).toInt) (s1 := (I_1682 391 this).toInt) (k1 := (I_1682 393 this).toInt) (by omega) (by omega) (by omega)))) hrel_1485)) (by have l1 := (Int.lt_trans (tm_lt (s := (I_1736 391 this).toInt) (k := (I_1736 393 this).toInt) (s1 := (I_1757 391 this).toInt) (k1 := (I_1757 393 this).toInt) (by omega) (by omega) (by omega)) (Int.lt_trans (tm_lt (s := (I_1682 391 this).toInt) (k := (I_1682 393 this).toInt) (s1 := (I_1736 391 this).toInt) (k1 := (I_1736 393 this).toInt) (by omega) (by omega) (by omega)) (tm_lt (s := (I_1179 391 this).toInt) (k := (I_1179 393 this).toInt) (s1 := (I_1682 391 this).toInt) (k1 := (I_1682 393 this).toInt) (by omega) (by omega) (by omega)))); have l2 := tm_b (s := (I_1757 391 this).toInt) (k := (I_1757 393 this).toInt) ((hG.1.1 391 this).2); omega) hG hP hD hS (lv_sub hl [2, 3, 0] rfl)
              · have tc_1770 : (x_1695).toInt < 0 := Int32.lt_iff_toInt_lt.mp (nle c_1702)
                have h_1771 : rg x_1695 (-1) (-1) := rg_lt1 (nle c_1702) hr_1699 (rg_k (0 : Int32) 0 rfl) (by decide)
                have uh_1771 := h_1771.1
                have vh_1771 := h_1771.2
                refine lv_iconst (v := 1) hx hb dX12_keys_70 (by decide) ?_
                subst hQ
                exact W.iret (v := 1) hx hb hr (fun t1 ht hW => ⟨⟨1, (σ, I_1682, J_1683, ri_1181, rj, rq), rfl, ⟨I_1682, J_1683, ri_1181, rfl, hG, (by omega), hrel_1484, (Int.le_of_lt (Int.lt_of_lt_of_le (tm_lt (s := (I_1179 391 this).toInt) (k := (I_1179 393 this).toInt) (s1 := (I_1682 391 this).toInt) (k1 := (I_1682 393 this).toInt) (by omega) (by omega) (by omega)) hrel_1485)), (rg_w (rg_k (1 : Int32) 1 rfl) (by decide))⟩, by rw [ht]; exact hP, va_K.moved hW.alike hK, hD⟩, hS.F ht⟩) hS.2.2 dX12_keys_71
            · have tc_1772 : (x_1673).toInt = 4 := congrArg Int32.toInt c_1675
              have h_1773 : rg x_1673 4 4 := rg_and h_1674 (rg_of_eq c_1675 (rg_k (4 : Int32) 4 rfl)) (by decide)
              have uh_1773 := h_1773.1
              have vh_1773 := h_1773.2
              refine lv_iconst (v := 5) hx hb dX12_keys_53 (by decide) ?_
              subst hQ
              exact W.iret (v := 5) hx hb hr (fun t1 ht hW => ⟨⟨5, (σ, I_1179, J_1180, ri_1181, rj, rq), rfl, ⟨I_1179, J_1180, ri_1181, rfl, hG, (by omega), hrel_1484, hrel_1485, (rg_w (rg_k (5 : Int32) 5 rfl) (by decide))⟩, by rw [ht]; exact hP, va_K.moved hW.alike hK, hD⟩, hS.F ht⟩) hS.2.2 dX12_keys_54
    exact L_1476 _ (1 : Int32) I J r_4 _ _ _ (rg_w (rg_k (1 : Int32) 1 rfl) (by decide)) (by have k0 : (1 : Int32).toInt = 1 := rfl; omega) (fun j hj => by rw [er_4, va_up_self, upd_off (by have z0 := clampE x_2; omega)]; exact (fun _ _ => rfl) j hj) (Int.le_refl _) (Nat.lt_succ_self _) hG hP hD hS (lv_sub hl [1, 2, 0] rfl)
  exact go _ _ _ hP hD hS hl

set_option maxHeartbeats 4000000 in
set_option maxRecDepth 100000 in
theorem s_X12_take (l : Launch) (D : va_G) (t : pq_T) (σ : pq_S) (I : Nat → Nat → Int32) (J : Nat → Nat → Int64) (ri : Nat → Nat → Int32) (rj : Nat → Nat → Int64) (rq : Nat → Nat → Option Nat) (sz : Nat) (tg : Nat → Nat) (hSH : SH σ tg) (hG0 : GT tg I ri) (this : Nat) (a0 : Int32) (a1 : Int32) (hL_this : this ∈ σ.1) (hK_this : σ.2.1 this = 12) (this_a : Nat) (hR_this_a : σ.2.2.1 384 this = some this_a) (hL_this_a : this_a ∈ σ.1) (hK_this_a : σ.2.1 this_a = 13) (hN_this_a : σ.2.2.2 this_a = 12720) (hT_this_a : tg this_a = 384) (hc : a1.toInt = 3722 + 900 * (ri this_a 6).toInt + 12 * (I 397 this).toInt ∧ 0 ≤ (I 397 this).toInt ∧ (I 397 this).toInt ≤ 19 ∧ 0 ≤ (ri this_a 6).toInt ∧ (ri this_a 6).toInt ≤ 9) : MetI l yX12_take (wa yX12_take cX12_take 3 (some .int)) ({ frames := 3, cells := 0, slots := 0, locals := 64 }) [.ref this, .int a0, .int a1] D t σ (I, J, ri, rj, rq) sz 0 0 (fun (r : Int32) (u : pq_S × pq_M) => ∃ I' : Nat → Nat → Int32, ∃ J' : Nat → Nat → Int64, ∃ ri' : Nat → Nat → Int32, u = (σ, I', J', ri', rj, rq) ∧ GM [391, 392, 393] tg σ I ri I' ri' rq ∧ ((I 391 this).toInt ≤ (I' 391 this).toInt) ∧ (∀ j : Nat, (j : Int) ≠ a1.toInt → ri' this_a j = ri this_a j) ∧ (tmM (I' 391 this).toInt (I' 393 this).toInt ≤ tmM (I 391 this).toInt (I 393 this).toInt) ∧ rg r 0 2) := by
  refine Met.ofW (cc := cX12_take) (maxL := 3) (ret := (some .int)) (by decide) rfl ?_
  intro p e s m args below meth c s₁ B hml hv
  obtain ⟨rfl, hsz, hP, hK, hD0, hN⟩ := hv
  have hx := B.exec
  have hb := B.bytes
  have hr := B.returns
  have hts := atoms_spec (ws := (wa yX12_take cX12_take 3 (some .int))) B.pre
  have hown : s.vm.findClass RX12 = some m.cls := findClass_of_methodNamed B.named
  have hlocks := B.notSynchronized
  subst hsz
  have hD : va_D (pq_B t σ (I, J, ri, rj, rq) s.heap.size) (pq_P t σ (I, J, ri, rj, rq)) := hD0.self
  generalize hAe : pq_B t σ (I, J, ri, rj, rq) s.heap.size = A at hD ⊢
  have hA : ∀ q : Nat, s.heap.size ≤ q → A q := fun q h => by rw [← hAe]; exact Or.inr h
  have hS : va_S A s.heap s.heap [] := va_S.rf
  have hG : GM [391, 392, 393] tg σ I ri I ri rq := ⟨hG0, fun _ _ _ => rfl, fun _ _ _ _ _ => rfl, fun _ _ _ _ _ _ => rfl⟩
  have hl := lv_entry ([.ref this, .int a0, .int a1]) (n := 3) (Nat.le_of_ble_eq_true rfl)
  rw [lg_entry_eq]
  generalize (lg_sl ([.ref this, .int a0, .int a1]) ++ List.replicate (3 - (lg_sl ([.ref this, .int a0, .int a1])).length) Slot.unset).toArray = ls at hl ⊢
  have hl : lv_has ls 3 [(0, .ref this), (1, .int a0), (2, .int a1)] := hl
  refine q_gen (fun Q hQ => ?_)
  have go : ∀ (H : Heap) (locs : List Loc) (ls : Array Slot), va_P D vwCl (pq_P t σ (I, J, ri, rj, rq)) H → va_D A (pq_P t σ (I, J, ri, rj, rq)) → va_S A s.heap H locs → lv_has ls 3 [(0, .ref this), (1, .int a0), (2, .int a1)] → W p l e ({ frames := 3, cells := 0, slots := 0, locals := 64 } : Room) s m (List.toArray ([.ref this, .int a0, .int a1] : List Value)) below meth c H locs 0 0 Q (F0 m 0 ls []) := by
    intro H locs ls hP hD hS hl
    have ce6 := clampE (ri this_a 6)
    have ceC := clampE (I 397 this)
    have ceA := clampE a1
    have h_1 : rg a1 3722 12050 := ⟨by omega, by omega⟩
    have uh_1 := h_1.1
    have vh_1 := h_1.2
    refine lv_aload_n hx hb dX12_take_0 rfl (lv_at hl 0 rfl) ?_
    refine pg_f (v := .int (I 393 this)) (C := RX12) (T := TX12) (N := 31) hx hb hts (tw_i inlX12) hown hK hP hL_this hK_this (by decide) rfl 9 (by decide) (hts _ (tw_c tw_831)) rfl dX12_take_1 ?_
    refine lv_iconst (v := 1) hx hb dX12_take_4 (by decide) ?_
    refine lv_icmp_eq (tgt := 10) hx hb dX12_take_5 (by decide) (fun c_2 => ?_) (fun c_2 => ?_)
    · have tc_3 : (I 393 this).toInt = 1 := congrArg Int32.toInt c_2
      have h_4 : rg (I 393 this) 1 1 := rg_and (rg_full _) (rg_of_eq c_2 (rg_k (1 : Int32) 1 rfl)) (by decide)
      have uh_4 := h_4.1
      have vh_4 := h_4.2
      refine lv_aload_n hx hb dX12_take_10 rfl (lv_at hl 0 rfl) ?_
      refine pg_f (v := .int (I 394 this)) (C := RX12) (T := TX12) (N := 31) hx hb hts (tw_i inlX12) hown hK hP hL_this hK_this (by decide) rfl 10 (by decide) (hts _ (tw_c tw_836)) rfl dX12_take_11 ?_
      refine lv_iload_n hx hb dX12_take_14 rfl (lv_at hl 1 rfl) ?_
      refine lv_icmp_le (tgt := 20) hx hb dX12_take_15 (by decide) (fun c_5 => ?_) (fun c_5 => ?_)
      · have tc_6 : (I 394 this).toInt ≤ (a0).toInt := Int32.le_iff_toInt_le.mp c_5
        refine lv_aload_n hx hb dX12_take_20 rfl (lv_at hl 0 rfl) ?_
        refine pg_f (v := .ref this_a) (C := RX12) (T := TX12) (N := 31) hx hb hts (tw_i inlX12) hown hK hP hL_this hK_this (by decide) rfl 0 (by decide) (hts _ (tw_c tw_176)) (pq_hv rfl hR_this_a) dX12_take_21 ?_
        refine lv_iload_n hx hb dX12_take_24 rfl (lv_at hl 2 rfl) ?_
        refine lv_aload_n hx hb dX12_take_25 rfl (lv_at hl 0 rfl) ?_
        refine pg_f (v := .int (I 394 this)) (C := RX12) (T := TX12) (N := 31) hx hb hts (tw_i inlX12) hown hK hP hL_this hK_this (by decide) rfl 10 (by decide) (hts _ (tw_c tw_836)) rfl dX12_take_26 ?_
        refine pt_i hx hb hK hP hD hS hL_this_a hK_this_a hN_this_a (rg_in h_1 (by decide)) dX12_take_29 (fun r_7 H locs er_7 hP hD hS => ?_)
        have hG := GM.wt hG hT_this_a (by decide) er_7 (zn_tc (t := (ri this_a 6).toNatClampNeg) (c := (I 397 this).toNatClampNeg) (k := 1) (by have z_i := clampE a1; have z_0 := clampE (ri this_a 6); have z_1 := clampE (I 397 this); omega) (rg_cl1 ⟨hc.2.2.2.1, hc.2.2.2.2⟩ (by decide)) (rg_cl1 ⟨hc.2.1, hc.2.2.1⟩ (by decide)) (by decide)) rfl (rg_w (rg_full _) (by decide)) (by have z6 := congrArg Int32.toInt (hG.2.2.1 this_a hT_this_a 6 (by decide) (by decide)); have z_i := clampE a1; omega) (by decide)
        refine lv_aload_n hx hb dX12_take_30 rfl (lv_at hl 0 rfl) ?_
        obtain ⟨w_8, hR_w_8, hL_w_8, hK_w_8, hN_w_8, hT_w_8⟩ := sh_a hSH 387 (ci := 12) (kd := 13) (len := 300) rfl (by decide) hL_this hK_this
        refine pk_v (va_runV (As := []) (rest := []) ⟨hx, hb, hml, hown, hts⟩ (s_X12_nextToken_x l D t σ I J r_7 rj rq H.size tg hSH hG.1 this hL_this hK_this w_8 hR_w_8 hL_w_8 hK_w_8 hN_w_8 hT_w_8) (cwV 0 hts (tw_V tw_832 tw_833 tw_834 tw_5 tw_835) rfl rfl rfl (by decide +kernel) ⟨Nat.le_of_ble_eq_true rfl, Nat.le_of_ble_eq_true rfl⟩) ⟨pq_blind, pq_recv hK hP hL_this hK_this (by decide) rfl, pq_pre hK hN hP hD⟩ rfl rfl hl.1 rfl (lv_room (Nat.le_of_ble_eq_true rfl)) dX12_take_31 ⟨Nat.le_of_ble_eq_true rfl, Nat.le_of_ble_eq_true rfl⟩) hD hS hA (fun σ1 μ1 H locs hw_10 hP hD hS => ?_)
        obtain ⟨I_11, J_12, hu_13, hg_14, hp_16, hp_17, hp_18⟩ := hw_10
        obtain ⟨hu_13a, hu_13b⟩ := Prod.mk.inj hu_13
        rw [hu_13a, hu_13b] at hP hD
        have tt_19 := hp_16
        have tt_20 := hp_17
        have tt_21 := hp_18
        have tt_22 : (I_11 391 this).toInt ≤ 300 := by have z := hg_14.1.1 391 this; exact z.2
        have hG := GM.tr hG hg_14 (by decide)
        have tt_23 : (I_11 397 this).toInt = (I 397 this).toInt := by rw [hg_14.2.1 397 (by decide) (by decide)]
        refine lv_iconst (v := 0) hx hb dX12_take_34 (by decide) ?_
        subst hQ
        exact W.iret (v := 0) hx hb hr (fun t1 ht hW => ⟨⟨0, (σ, I_11, J_12, r_7, rj, rq), rfl, ⟨I_11, J_12, r_7, rfl, hG, (by omega), (fun j hj => by rw [er_7, va_up_self, upd_off (by omega)]), (Int.le_of_lt (Int.lt_of_lt_of_le (tm_lt (s := (I 391 this).toInt) (k := (I 393 this).toInt) (s1 := (I_11 391 this).toInt) (k1 := (I_11 393 this).toInt) (by omega) (by omega) (by omega)) (Int.le_refl _))), (rg_w (rg_k (0 : Int32) 0 rfl) (by decide))⟩, by rw [ht]; exact hP, va_K.moved hW.alike hK, hD⟩, hS.F ht⟩) hS.2.2 dX12_take_35
      · have tc_24 : (a0).toInt < (I 394 this).toInt := Int32.lt_iff_toInt_lt.mp (nle c_5)
        have h_25 : rg a0 (-2147483648) 2147483646 := rg_lt1 (nle c_5) (rg_full _) (rg_full _) (by decide)
        have uh_25 := h_25.1
        have vh_25 := h_25.2
        have h_26 : rg (I 394 this) (-2147483647) 2147483647 := rg_lt2 (nle c_5) (rg_full _) (rg_full _) (by decide)
        have uh_26 := h_26.1
        have vh_26 := h_26.2
        refine lv_iconst (v := 2) hx hb dX12_take_18 (by decide) ?_
        subst hQ
        exact W.iret (v := 2) hx hb hr (fun t1 ht hW => ⟨⟨2, (σ, I, J, ri, rj, rq), rfl, ⟨I, J, ri, rfl, hG, (by omega), (fun _ _ => rfl), (Int.le_refl _), (rg_w (rg_k (2 : Int32) 2 rfl) (by decide))⟩, by rw [ht]; exact hP, va_K.moved hW.alike hK, hD⟩, hS.F ht⟩) hS.2.2 dX12_take_19
    · have tc_27 : (I 393 this).toInt ≠ 1 := fun q => c_2 (Int32.toInt_inj.mp q)
      refine lv_iconst (v := 1) hx hb dX12_take_8 (by decide) ?_
      subst hQ
      exact W.iret (v := 1) hx hb hr (fun t1 ht hW => ⟨⟨1, (σ, I, J, ri, rj, rq), rfl, ⟨I, J, ri, rfl, hG, (by omega), (fun _ _ => rfl), (Int.le_refl _), (rg_w (rg_k (1 : Int32) 1 rfl) (by decide))⟩, by rw [ht]; exact hP, va_K.moved hW.alike hK, hD⟩, hS.F ht⟩) hS.2.2 dX12_take_9
  exact go _ _ _ hP hD hS hl

set_option maxHeartbeats 4000000 in
set_option maxRecDepth 100000 in
theorem s_X12_sortOf (l : Launch) (D : va_G) (t : pq_T) (σ : pq_S) (I : Nat → Nat → Int32) (J : Nat → Nat → Int64) (ri : Nat → Nat → Int32) (rj : Nat → Nat → Int64) (rq : Nat → Nat → Option Nat) (sz : Nat) (tg : Nat → Nat) (hSH : SH σ tg) (hG0 : GT tg I ri) (this : Nat) (hL_this : this ∈ σ.1) (hK_this : σ.2.1 this = 12) : MetI l yX12_sortOf (wa yX12_sortOf cX12_sortOf 1 (some .int)) ({ frames := 4, cells := 0, slots := 0, locals := 94 }) [.ref this] D t σ (I, J, ri, rj, rq) sz 0 0 (fun (r : Int32) (u : pq_S × pq_M) => u = (σ, I, J, ri, rj, rq) ∧ (r.toInt = 0 ∨ (1 ≤ r.toInt ∧ r.toInt ≤ 9 ∧ (I 393 this).toInt = 2)) ∧ rg r 0 9) := by
  refine Met.ofW (cc := cX12_sortOf) (maxL := 1) (ret := (some .int)) (by decide) rfl ?_
  intro p e s m args below meth c s₁ B hml hv
  obtain ⟨rfl, hsz, hP, hK, hD0, hN⟩ := hv
  have hx := B.exec
  have hb := B.bytes
  have hr := B.returns
  have hts := atoms_spec (ws := (wa yX12_sortOf cX12_sortOf 1 (some .int))) B.pre
  have hown : s.vm.findClass RX12 = some m.cls := findClass_of_methodNamed B.named
  have hlocks := B.notSynchronized
  subst hsz
  have hD : va_D (pq_B t σ (I, J, ri, rj, rq) s.heap.size) (pq_P t σ (I, J, ri, rj, rq)) := hD0.self
  generalize hAe : pq_B t σ (I, J, ri, rj, rq) s.heap.size = A at hD ⊢
  have hA : ∀ q : Nat, s.heap.size ≤ q → A q := fun q h => by rw [← hAe]; exact Or.inr h
  have hS : va_S A s.heap s.heap [] := va_S.rf
  have hG : GM [] tg σ I ri I ri rq := ⟨hG0, fun _ _ _ => rfl, fun _ _ _ _ _ => rfl, fun _ _ _ _ _ _ => rfl⟩
  have hl := lv_entry ([.ref this]) (n := 1) (Nat.le_of_ble_eq_true rfl)
  rw [lg_entry_eq]
  generalize (lg_sl ([.ref this]) ++ List.replicate (1 - (lg_sl ([.ref this])).length) Slot.unset).toArray = ls at hl ⊢
  have hl : lv_has ls 1 [(0, .ref this)] := hl
  refine q_gen (fun Q hQ => ?_)
  have go : ∀ (H : Heap) (locs : List Loc) (ls : Array Slot), va_P D vwCl (pq_P t σ (I, J, ri, rj, rq)) H → va_D A (pq_P t σ (I, J, ri, rj, rq)) → va_S A s.heap H locs → lv_has ls 1 [(0, .ref this)] → W p l e ({ frames := 4, cells := 0, slots := 0, locals := 94 } : Room) s m (List.toArray ([.ref this] : List Value)) below meth c H locs 0 0 Q (F0 m 0 ls []) := by
    intro H locs ls hP hD hS hl
    refine lv_aload_n hx hb dX12_sortOf_0 rfl (lv_at hl 0 rfl) ?_
    refine pg_f (v := .int (I 393 this)) (C := RX12) (T := TX12) (N := 31) hx hb hts (tw_i inlX12) hown hK hP hL_this hK_this (by decide) rfl 9 (by decide) (hts _ (tw_c tw_831)) rfl dX12_sortOf_1 ?_
    refine lv_iconst (v := 2) hx hb dX12_sortOf_4 (by decide) ?_
    refine lv_icmp_eq (tgt := 10) hx hb dX12_sortOf_5 (by decide) (fun c_1 => ?_) (fun c_1 => ?_)
    · have tc_2 : (I 393 this).toInt = 2 := congrArg Int32.toInt c_1
      have h_3 : rg (I 393 this) 2 2 := rg_and (rg_full _) (rg_of_eq c_1 (rg_k (2 : Int32) 2 rfl)) (by decide)
      have uh_3 := h_3.1
      have vh_3 := h_3.2
      refine lv_aload_n hx hb dX12_sortOf_10 rfl (lv_at hl 0 rfl) ?_
      refine pg_f (v := .long (J 395 this)) (C := RX12) (T := TX12) (N := 31) hx hb hts (tw_i inlX12) hown hK hP hL_this hK_this (by decide) rfl 11 (by decide) (hts _ (tw_c tw_838)) rfl dX12_sortOf_11 ?_
      refine lv_bipush (v := 108) hx hb dX12_sortOf_14 (by decide) ?_
      refine lv_bipush (v := 97) hx hb dX12_sortOf_16 (by decide) ?_
      refine lv_bipush (v := 115) hx hb dX12_sortOf_18 (by decide) ?_
      refine lv_bipush (v := 116) hx hb dX12_sortOf_20 (by decide) ?_
      refine lv_bipush (v := 115) hx hb dX12_sortOf_22 (by decide) ?_
      refine pk_l (va_runS (As := [.int 108, .int 97, .int 115, .int 116, .int 115]) (rest := [.long (J 395 this)]) ⟨hx, hb, hml, hown, hts⟩ (s_X12_w5_x l D t σ I J ri rj rq H.size tg hSH hG.1 (108 : Int32) (97 : Int32) (115 : Int32) (116 : Int32) (115 : Int32)) (va_cwS 5 hts (tw_S tw_858 tw_859 tw_5 tw_860) rfl rfl rfl (by decide +kernel) ⟨Nat.le_of_ble_eq_true rfl, Nat.le_of_ble_eq_true rfl⟩) ⟨pq_blind, pq_pre hK hN hP hD⟩ rfl rfl hl.1 rfl (lv_room (Nat.le_of_ble_eq_true rfl)) dX12_sortOf_24 ⟨Nat.le_of_ble_eq_true rfl, Nat.le_of_ble_eq_true rfl⟩) hD hS hA (fun x_4 σ1 μ1 H locs hw_5 hP hD hS => ?_)
      have hu_6 := hw_5
      obtain ⟨hu_6a, hu_6b⟩ := Prod.mk.inj hu_6
      rw [hu_6a, hu_6b] at hP hD
      refine W.lcmp hx hb dX12_sortOf_27 ?_
      refine lv_topi (fun x_9 ex_9 => ?_)
      refine lv_if_ne (tgt := 33) hx hb dX12_sortOf_28 (by decide) (fun c_10 => ?_) (fun c_10 => ?_)
      · have tc_11 : (x_9).toInt ≠ 0 := fun q => c_10 (Int32.toInt_inj.mp q)
        refine lv_aload_n hx hb dX12_sortOf_33 rfl (lv_at hl 0 rfl) ?_
        refine pg_f (v := .long (J 395 this)) (C := RX12) (T := TX12) (N := 31) hx hb hts (tw_i inlX12) hown hK hP hL_this hK_this (by decide) rfl 11 (by decide) (hts _ (tw_c tw_838)) rfl dX12_sortOf_34 ?_
        refine lv_bipush (v := 112) hx hb dX12_sortOf_37 (by decide) ?_
        refine lv_bipush (v := 101) hx hb dX12_sortOf_39 (by decide) ?_
        refine lv_bipush (v := 111) hx hb dX12_sortOf_41 (by decide) ?_
        refine lv_bipush (v := 112) hx hb dX12_sortOf_43 (by decide) ?_
        refine lv_bipush (v := 108) hx hb dX12_sortOf_45 (by decide) ?_
        refine lv_bipush (v := 101) hx hb dX12_sortOf_47 (by decide) ?_
        refine pk_l (va_runS (As := [.int 112, .int 101, .int 111, .int 112, .int 108, .int 101]) (rest := [.long (J 395 this)]) ⟨hx, hb, hml, hown, hts⟩ (s_X12_w6_x l D t σ I J ri rj rq H.size tg hSH hG.1 (112 : Int32) (101 : Int32) (111 : Int32) (112 : Int32) (108 : Int32) (101 : Int32)) (va_cwS 6 hts (tw_S tw_867 tw_868 tw_5 tw_869) rfl rfl rfl (by decide +kernel) ⟨Nat.le_of_ble_eq_true rfl, Nat.le_of_ble_eq_true rfl⟩) ⟨pq_blind, pq_pre hK hN hP hD⟩ rfl rfl hl.1 rfl (lv_room (Nat.le_of_ble_eq_true rfl)) dX12_sortOf_49 ⟨Nat.le_of_ble_eq_true rfl, Nat.le_of_ble_eq_true rfl⟩) hD hS hA (fun x_12 σ1 μ1 H locs hw_13 hP hD hS => ?_)
        have hu_14 := hw_13
        obtain ⟨hu_14a, hu_14b⟩ := Prod.mk.inj hu_14
        rw [hu_14a, hu_14b] at hP hD
        refine W.lcmp hx hb dX12_sortOf_52 ?_
        refine lv_topi (fun x_17 ex_17 => ?_)
        refine lv_if_ne (tgt := 58) hx hb dX12_sortOf_53 (by decide) (fun c_18 => ?_) (fun c_18 => ?_)
        · have tc_19 : (x_17).toInt ≠ 0 := fun q => c_18 (Int32.toInt_inj.mp q)
          refine lv_aload_n hx hb dX12_sortOf_58 rfl (lv_at hl 0 rfl) ?_
          refine pg_f (v := .long (J 395 this)) (C := RX12) (T := TX12) (N := 31) hx hb hts (tw_i inlX12) hown hK hP hL_this hK_this (by decide) rfl 11 (by decide) (hts _ (tw_c tw_838)) rfl dX12_sortOf_59 ?_
          refine lv_bipush (v := 109) hx hb dX12_sortOf_62 (by decide) ?_
          refine lv_bipush (v := 97) hx hb dX12_sortOf_64 (by decide) ?_
          refine lv_bipush (v := 121) hx hb dX12_sortOf_66 (by decide) ?_
          refine pk_l (va_runS (As := [.int 109, .int 97, .int 121]) (rest := [.long (J 395 this)]) ⟨hx, hb, hml, hown, hts⟩ (s_X12_w3_x l D t σ I J ri rj rq H.size tg hSH hG.1 (109 : Int32) (97 : Int32) (121 : Int32)) (va_cwS 3 hts (tw_S tw_864 tw_865 tw_5 tw_866) rfl rfl rfl (by decide +kernel) ⟨Nat.le_of_ble_eq_true rfl, Nat.le_of_ble_eq_true rfl⟩) ⟨pq_blind, pq_pre hK hN hP hD⟩ rfl rfl hl.1 rfl (lv_room (Nat.le_of_ble_eq_true rfl)) dX12_sortOf_68 ⟨Nat.le_of_ble_eq_true rfl, Nat.le_of_ble_eq_true rfl⟩) hD hS hA (fun x_20 σ1 μ1 H locs hw_21 hP hD hS => ?_)
          have hu_22 := hw_21
          obtain ⟨hu_22a, hu_22b⟩ := Prod.mk.inj hu_22
          rw [hu_22a, hu_22b] at hP hD
          refine W.lcmp hx hb dX12_sortOf_71 ?_
          refine lv_topi (fun x_25 ex_25 => ?_)
          refine lv_if_ne (tgt := 77) hx hb dX12_sortOf_72 (by decide) (fun c_26 => ?_) (fun c_26 => ?_)
          · have tc_27 : (x_25).toInt ≠ 0 := fun q => c_26 (Int32.toInt_inj.mp q)
            refine lv_aload_n hx hb dX12_sortOf_77 rfl (lv_at hl 0 rfl) ?_
            refine pg_f (v := .long (J 395 this)) (C := RX12) (T := TX12) (N := 31) hx hb hts (tw_i inlX12) hown hK hP hL_this hK_this (by decide) rfl 11 (by decide) (hts _ (tw_c tw_838)) rfl dX12_sortOf_78 ?_
            refine lv_bipush (v := 118) hx hb dX12_sortOf_81 (by decide) ?_
            refine lv_bipush (v := 111) hx hb dX12_sortOf_83 (by decide) ?_
            refine lv_bipush (v := 116) hx hb dX12_sortOf_85 (by decide) ?_
            refine lv_bipush (v := 101) hx hb dX12_sortOf_87 (by decide) ?_
            refine pk_l (va_runS (As := [.int 118, .int 111, .int 116, .int 101]) (rest := [.long (J 395 this)]) ⟨hx, hb, hml, hown, hts⟩ (s_X12_w4_x l D t σ I J ri rj rq H.size tg hSH hG.1 (118 : Int32) (111 : Int32) (116 : Int32) (101 : Int32)) (va_cwS 4 hts (tw_S tw_861 tw_862 tw_5 tw_863) rfl rfl rfl (by decide +kernel) ⟨Nat.le_of_ble_eq_true rfl, Nat.le_of_ble_eq_true rfl⟩) ⟨pq_blind, pq_pre hK hN hP hD⟩ rfl rfl hl.1 rfl (lv_room (Nat.le_of_ble_eq_true rfl)) dX12_sortOf_89 ⟨Nat.le_of_ble_eq_true rfl, Nat.le_of_ble_eq_true rfl⟩) hD hS hA (fun x_28 σ1 μ1 H locs hw_29 hP hD hS => ?_)
            have hu_30 := hw_29
            obtain ⟨hu_30a, hu_30b⟩ := Prod.mk.inj hu_30
            rw [hu_30a, hu_30b] at hP hD
            refine W.lcmp hx hb dX12_sortOf_92 ?_
            refine lv_topi (fun x_33 ex_33 => ?_)
            refine lv_if_ne (tgt := 98) hx hb dX12_sortOf_93 (by decide) (fun c_34 => ?_) (fun c_34 => ?_)
            · have tc_35 : (x_33).toInt ≠ 0 := fun q => c_34 (Int32.toInt_inj.mp q)
              refine lv_aload_n hx hb dX12_sortOf_98 rfl (lv_at hl 0 rfl) ?_
              refine pg_f (v := .long (J 395 this)) (C := RX12) (T := TX12) (N := 31) hx hb hts (tw_i inlX12) hown hK hP hL_this hK_this (by decide) rfl 11 (by decide) (hts _ (tw_c tw_838)) rfl dX12_sortOf_99 ?_
              refine lv_bipush (v := 111) hx hb dX12_sortOf_102 (by decide) ?_
              refine lv_bipush (v := 114) hx hb dX12_sortOf_104 (by decide) ?_
              refine lv_bipush (v := 100) hx hb dX12_sortOf_106 (by decide) ?_
              refine lv_bipush (v := 101) hx hb dX12_sortOf_108 (by decide) ?_
              refine lv_bipush (v := 114) hx hb dX12_sortOf_110 (by decide) ?_
              refine pk_l (va_runS (As := [.int 111, .int 114, .int 100, .int 101, .int 114]) (rest := [.long (J 395 this)]) ⟨hx, hb, hml, hown, hts⟩ (s_X12_w5_x l D t σ I J ri rj rq H.size tg hSH hG.1 (111 : Int32) (114 : Int32) (100 : Int32) (101 : Int32) (114 : Int32)) (va_cwS 5 hts (tw_S tw_858 tw_859 tw_5 tw_860) rfl rfl rfl (by decide +kernel) ⟨Nat.le_of_ble_eq_true rfl, Nat.le_of_ble_eq_true rfl⟩) ⟨pq_blind, pq_pre hK hN hP hD⟩ rfl rfl hl.1 rfl (lv_room (Nat.le_of_ble_eq_true rfl)) dX12_sortOf_112 ⟨Nat.le_of_ble_eq_true rfl, Nat.le_of_ble_eq_true rfl⟩) hD hS hA (fun x_36 σ1 μ1 H locs hw_37 hP hD hS => ?_)
              have hu_38 := hw_37
              obtain ⟨hu_38a, hu_38b⟩ := Prod.mk.inj hu_38
              rw [hu_38a, hu_38b] at hP hD
              refine W.lcmp hx hb dX12_sortOf_115 ?_
              refine lv_topi (fun x_41 ex_41 => ?_)
              refine lv_if_ne (tgt := 121) hx hb dX12_sortOf_116 (by decide) (fun c_42 => ?_) (fun c_42 => ?_)
              · have tc_43 : (x_41).toInt ≠ 0 := fun q => c_42 (Int32.toInt_inj.mp q)
                refine lv_aload_n hx hb dX12_sortOf_121 rfl (lv_at hl 0 rfl) ?_
                refine pg_f (v := .long (J 395 this)) (C := RX12) (T := TX12) (N := 31) hx hb hts (tw_i inlX12) hown hK hP hL_this hK_this (by decide) rfl 11 (by decide) (hts _ (tw_c tw_838)) rfl dX12_sortOf_122 ?_
                refine lv_bipush (v := 104) hx hb dX12_sortOf_125 (by decide) ?_
                refine lv_bipush (v := 101) hx hb dX12_sortOf_127 (by decide) ?_
                refine lv_bipush (v := 105) hx hb dX12_sortOf_129 (by decide) ?_
                refine lv_bipush (v := 114) hx hb dX12_sortOf_131 (by decide) ?_
                refine pk_l (va_runS (As := [.int 104, .int 101, .int 105, .int 114]) (rest := [.long (J 395 this)]) ⟨hx, hb, hml, hown, hts⟩ (s_X12_w4_x l D t σ I J ri rj rq H.size tg hSH hG.1 (104 : Int32) (101 : Int32) (105 : Int32) (114 : Int32)) (va_cwS 4 hts (tw_S tw_861 tw_862 tw_5 tw_863) rfl rfl rfl (by decide +kernel) ⟨Nat.le_of_ble_eq_true rfl, Nat.le_of_ble_eq_true rfl⟩) ⟨pq_blind, pq_pre hK hN hP hD⟩ rfl rfl hl.1 rfl (lv_room (Nat.le_of_ble_eq_true rfl)) dX12_sortOf_133 ⟨Nat.le_of_ble_eq_true rfl, Nat.le_of_ble_eq_true rfl⟩) hD hS hA (fun x_44 σ1 μ1 H locs hw_45 hP hD hS => ?_)
                have hu_46 := hw_45
                obtain ⟨hu_46a, hu_46b⟩ := Prod.mk.inj hu_46
                rw [hu_46a, hu_46b] at hP hD
                refine W.lcmp hx hb dX12_sortOf_136 ?_
                refine lv_topi (fun x_49 ex_49 => ?_)
                refine lv_if_ne (tgt := 143) hx hb dX12_sortOf_137 (by decide) (fun c_50 => ?_) (fun c_50 => ?_)
                · have tc_51 : (x_49).toInt ≠ 0 := fun q => c_50 (Int32.toInt_inj.mp q)
                  refine lv_aload_n hx hb dX12_sortOf_143 rfl (lv_at hl 0 rfl) ?_
                  refine pg_f (v := .long (J 395 this)) (C := RX12) (T := TX12) (N := 31) hx hb hts (tw_i inlX12) hown hK hP hL_this hK_this (by decide) rfl 11 (by decide) (hts _ (tw_c tw_838)) rfl dX12_sortOf_144 ?_
                  refine lv_bipush (v := 99) hx hb dX12_sortOf_147 (by decide) ?_
                  refine lv_bipush (v := 111) hx hb dX12_sortOf_149 (by decide) ?_
                  refine lv_bipush (v := 117) hx hb dX12_sortOf_151 (by decide) ?_
                  refine lv_bipush (v := 110) hx hb dX12_sortOf_153 (by decide) ?_
                  refine lv_bipush (v := 99) hx hb dX12_sortOf_155 (by decide) ?_
                  refine lv_bipush (v := 105) hx hb dX12_sortOf_157 (by decide) ?_
                  refine pk_l (va_runS (As := [.int 99, .int 111, .int 117, .int 110, .int 99, .int 105]) (rest := [.long (J 395 this)]) ⟨hx, hb, hml, hown, hts⟩ (s_X12_w6_x l D t σ I J ri rj rq H.size tg hSH hG.1 (99 : Int32) (111 : Int32) (117 : Int32) (110 : Int32) (99 : Int32) (105 : Int32)) (va_cwS 6 hts (tw_S tw_867 tw_868 tw_5 tw_869) rfl rfl rfl (by decide +kernel) ⟨Nat.le_of_ble_eq_true rfl, Nat.le_of_ble_eq_true rfl⟩) ⟨pq_blind, pq_pre hK hN hP hD⟩ rfl rfl hl.1 rfl (lv_room (Nat.le_of_ble_eq_true rfl)) dX12_sortOf_159 ⟨Nat.le_of_ble_eq_true rfl, Nat.le_of_ble_eq_true rfl⟩) hD hS hA (fun x_52 σ1 μ1 H locs hw_53 hP hD hS => ?_)
                  have hu_54 := hw_53
                  obtain ⟨hu_54a, hu_54b⟩ := Prod.mk.inj hu_54
                  rw [hu_54a, hu_54b] at hP hD
                  refine lv_bipush (v := 8) hx hb dX12_sortOf_162 (by decide) ?_
                  refine lv_lshl hx hb dX12_sortOf_164 rfl ?_
                  refine lv_topl (fun x_57 ex_57 => ?_)
                  refine lv_ldc2 hx hb hown (hts _ (tw_c tw_857)) dX12_sortOf_165 ?_
                  refine lv_lor hx hb dX12_sortOf_168 ?_
                  refine lv_topl (fun x_58 ex_58 => ?_)
                  refine W.lcmp hx hb dX12_sortOf_169 ?_
                  refine lv_topi (fun x_59 ex_59 => ?_)
                  refine lv_if_ne (tgt := 176) hx hb dX12_sortOf_170 (by decide) (fun c_60 => ?_) (fun c_60 => ?_)
                  · have tc_61 : (x_59).toInt ≠ 0 := fun q => c_60 (Int32.toInt_inj.mp q)
                    refine lv_aload_n hx hb dX12_sortOf_176 rfl (lv_at hl 0 rfl) ?_
                    refine pg_f (v := .long (J 395 this)) (C := RX12) (T := TX12) (N := 31) hx hb hts (tw_i inlX12) hown hK hP hL_this hK_this (by decide) rfl 11 (by decide) (hts _ (tw_c tw_838)) rfl dX12_sortOf_177 ?_
                    refine lv_bipush (v := 102) hx hb dX12_sortOf_180 (by decide) ?_
                    refine lv_bipush (v := 105) hx hb dX12_sortOf_182 (by decide) ?_
                    refine lv_bipush (v := 120) hx hb dX12_sortOf_184 (by decide) ?_
                    refine pk_l (va_runS (As := [.int 102, .int 105, .int 120]) (rest := [.long (J 395 this)]) ⟨hx, hb, hml, hown, hts⟩ (s_X12_w3_x l D t σ I J ri rj rq H.size tg hSH hG.1 (102 : Int32) (105 : Int32) (120 : Int32)) (va_cwS 3 hts (tw_S tw_864 tw_865 tw_5 tw_866) rfl rfl rfl (by decide +kernel) ⟨Nat.le_of_ble_eq_true rfl, Nat.le_of_ble_eq_true rfl⟩) ⟨pq_blind, pq_pre hK hN hP hD⟩ rfl rfl hl.1 rfl (lv_room (Nat.le_of_ble_eq_true rfl)) dX12_sortOf_186 ⟨Nat.le_of_ble_eq_true rfl, Nat.le_of_ble_eq_true rfl⟩) hD hS hA (fun x_62 σ1 μ1 H locs hw_63 hP hD hS => ?_)
                    have hu_64 := hw_63
                    obtain ⟨hu_64a, hu_64b⟩ := Prod.mk.inj hu_64
                    rw [hu_64a, hu_64b] at hP hD
                    refine W.lcmp hx hb dX12_sortOf_189 ?_
                    refine lv_topi (fun x_67 ex_67 => ?_)
                    refine lv_if_ne (tgt := 198) hx hb dX12_sortOf_190 (by decide) (fun c_68 => ?_) (fun c_68 => ?_)
                    · have tc_69 : (x_67).toInt ≠ 0 := fun q => c_68 (Int32.toInt_inj.mp q)
                      refine lv_aload_n hx hb dX12_sortOf_198 rfl (lv_at hl 0 rfl) ?_
                      refine pg_f (v := .long (J 395 this)) (C := RX12) (T := TX12) (N := 31) hx hb hts (tw_i inlX12) hown hK hP hL_this hK_this (by decide) rfl 11 (by decide) (hts _ (tw_c tw_838)) rfl dX12_sortOf_199 ?_
                      refine lv_bipush (v := 108) hx hb dX12_sortOf_202 (by decide) ?_
                      refine lv_bipush (v := 101) hx hb dX12_sortOf_204 (by decide) ?_
                      refine lv_bipush (v := 97) hx hb dX12_sortOf_206 (by decide) ?_
                      refine lv_bipush (v := 118) hx hb dX12_sortOf_208 (by decide) ?_
                      refine lv_bipush (v := 101) hx hb dX12_sortOf_210 (by decide) ?_
                      refine pk_l (va_runS (As := [.int 108, .int 101, .int 97, .int 118, .int 101]) (rest := [.long (J 395 this)]) ⟨hx, hb, hml, hown, hts⟩ (s_X12_w5_x l D t σ I J ri rj rq H.size tg hSH hG.1 (108 : Int32) (101 : Int32) (97 : Int32) (118 : Int32) (101 : Int32)) (va_cwS 5 hts (tw_S tw_858 tw_859 tw_5 tw_860) rfl rfl rfl (by decide +kernel) ⟨Nat.le_of_ble_eq_true rfl, Nat.le_of_ble_eq_true rfl⟩) ⟨pq_blind, pq_pre hK hN hP hD⟩ rfl rfl hl.1 rfl (lv_room (Nat.le_of_ble_eq_true rfl)) dX12_sortOf_212 ⟨Nat.le_of_ble_eq_true rfl, Nat.le_of_ble_eq_true rfl⟩) hD hS hA (fun x_70 σ1 μ1 H locs hw_71 hP hD hS => ?_)
                      have hu_72 := hw_71
                      obtain ⟨hu_72a, hu_72b⟩ := Prod.mk.inj hu_72
                      rw [hu_72a, hu_72b] at hP hD
                      refine W.lcmp hx hb dX12_sortOf_215 ?_
                      refine lv_topi (fun x_75 ex_75 => ?_)
                      refine lv_if_ne (tgt := 224) hx hb dX12_sortOf_216 (by decide) (fun c_76 => ?_) (fun c_76 => ?_)
                      · have tc_77 : (x_75).toInt ≠ 0 := fun q => c_76 (Int32.toInt_inj.mp q)
                        refine lv_iconst (v := 0) hx hb dX12_sortOf_224 (by decide) ?_
                        subst hQ
                        exact W.iret (v := 0) hx hb hr (fun t1 ht hW => ⟨⟨0, (σ, I, J, ri, rj, rq), rfl, ⟨rfl, (by have z9 : (0 : Int32).toInt = 0 := rfl; omega), (rg_w (rg_k (0 : Int32) 0 rfl) (by decide))⟩, by rw [ht]; exact hP, va_K.moved hW.alike hK, hD⟩, hS.F ht⟩) hS.2.2 dX12_sortOf_225
                      · have tc_78 : (x_75).toInt = 0 := congrArg Int32.toInt c_76
                        have h_79 : rg x_75 0 0 := rg_and (rg_full _) (rg_of_eq c_76 (rg_k (0 : Int32) 0 rfl)) (by decide)
                        have uh_79 := h_79.1
                        have vh_79 := h_79.2
                        refine lv_bipush (v := 9) hx hb dX12_sortOf_219 (by decide) ?_
                        refine lv_goto (tgt := 225) hx hb dX12_sortOf_221 (by decide) ?_
                        subst hQ
                        exact W.iret (v := 9) hx hb hr (fun t1 ht hW => ⟨⟨9, (σ, I, J, ri, rj, rq), rfl, ⟨rfl, (by have z9 : (9 : Int32).toInt = 9 := rfl; omega), (rg_w (rg_k (9 : Int32) 9 rfl) (by decide))⟩, by rw [ht]; exact hP, va_K.moved hW.alike hK, hD⟩, hS.F ht⟩) hS.2.2 dX12_sortOf_225
                    · have tc_80 : (x_67).toInt = 0 := congrArg Int32.toInt c_68
                      have h_81 : rg x_67 0 0 := rg_and (rg_full _) (rg_of_eq c_68 (rg_k (0 : Int32) 0 rfl)) (by decide)
                      have uh_81 := h_81.1
                      have vh_81 := h_81.2
                      refine lv_bipush (v := 8) hx hb dX12_sortOf_193 (by decide) ?_
                      refine lv_goto (tgt := 225) hx hb dX12_sortOf_195 (by decide) ?_
                      subst hQ
                      exact W.iret (v := 8) hx hb hr (fun t1 ht hW => ⟨⟨8, (σ, I, J, ri, rj, rq), rfl, ⟨rfl, (by have z9 : (8 : Int32).toInt = 8 := rfl; omega), (rg_w (rg_k (8 : Int32) 8 rfl) (by decide))⟩, by rw [ht]; exact hP, va_K.moved hW.alike hK, hD⟩, hS.F ht⟩) hS.2.2 dX12_sortOf_225
                  · have tc_82 : (x_59).toInt = 0 := congrArg Int32.toInt c_60
                    have h_83 : rg x_59 0 0 := rg_and (rg_full _) (rg_of_eq c_60 (rg_k (0 : Int32) 0 rfl)) (by decide)
                    have uh_83 := h_83.1
                    have vh_83 := h_83.2
                    refine lv_bipush (v := 7) hx hb dX12_sortOf_173 (by decide) ?_
                    subst hQ
                    exact W.iret (v := 7) hx hb hr (fun t1 ht hW => ⟨⟨7, (σ, I, J, ri, rj, rq), rfl, ⟨rfl, (by have z9 : (7 : Int32).toInt = 7 := rfl; omega), (rg_w (rg_k (7 : Int32) 7 rfl) (by decide))⟩, by rw [ht]; exact hP, va_K.moved hW.alike hK, hD⟩, hS.F ht⟩) hS.2.2 dX12_sortOf_175
                · have tc_84 : (x_49).toInt = 0 := congrArg Int32.toInt c_50
                  have h_85 : rg x_49 0 0 := rg_and (rg_full _) (rg_of_eq c_50 (rg_k (0 : Int32) 0 rfl)) (by decide)
                  have uh_85 := h_85.1
                  have vh_85 := h_85.2
                  refine lv_bipush (v := 6) hx hb dX12_sortOf_140 (by decide) ?_
                  subst hQ
                  exact W.iret (v := 6) hx hb hr (fun t1 ht hW => ⟨⟨6, (σ, I, J, ri, rj, rq), rfl, ⟨rfl, (by have z9 : (6 : Int32).toInt = 6 := rfl; omega), (rg_w (rg_k (6 : Int32) 6 rfl) (by decide))⟩, by rw [ht]; exact hP, va_K.moved hW.alike hK, hD⟩, hS.F ht⟩) hS.2.2 dX12_sortOf_142
              · have tc_86 : (x_41).toInt = 0 := congrArg Int32.toInt c_42
                have h_87 : rg x_41 0 0 := rg_and (rg_full _) (rg_of_eq c_42 (rg_k (0 : Int32) 0 rfl)) (by decide)
                have uh_87 := h_87.1
                have vh_87 := h_87.2
                refine lv_iconst (v := 5) hx hb dX12_sortOf_119 (by decide) ?_
                subst hQ
                exact W.iret (v := 5) hx hb hr (fun t1 ht hW => ⟨⟨5, (σ, I, J, ri, rj, rq), rfl, ⟨rfl, (by have z9 : (5 : Int32).toInt = 5 := rfl; omega), (rg_w (rg_k (5 : Int32) 5 rfl) (by decide))⟩, by rw [ht]; exact hP, va_K.moved hW.alike hK, hD⟩, hS.F ht⟩) hS.2.2 dX12_sortOf_120
            · have tc_88 : (x_33).toInt = 0 := congrArg Int32.toInt c_34
              have h_89 : rg x_33 0 0 := rg_and (rg_full _) (rg_of_eq c_34 (rg_k (0 : Int32) 0 rfl)) (by decide)
              have uh_89 := h_89.1
              have vh_89 := h_89.2
              refine lv_iconst (v := 4) hx hb dX12_sortOf_96 (by decide) ?_
              subst hQ
              exact W.iret (v := 4) hx hb hr (fun t1 ht hW => ⟨⟨4, (σ, I, J, ri, rj, rq), rfl, ⟨rfl, (by have z9 : (4 : Int32).toInt = 4 := rfl; omega), (rg_w (rg_k (4 : Int32) 4 rfl) (by decide))⟩, by rw [ht]; exact hP, va_K.moved hW.alike hK, hD⟩, hS.F ht⟩) hS.2.2 dX12_sortOf_97
          · have tc_90 : (x_25).toInt = 0 := congrArg Int32.toInt c_26
            have h_91 : rg x_25 0 0 := rg_and (rg_full _) (rg_of_eq c_26 (rg_k (0 : Int32) 0 rfl)) (by decide)
            have uh_91 := h_91.1
            have vh_91 := h_91.2
            refine lv_iconst (v := 3) hx hb dX12_sortOf_75 (by decide) ?_
            subst hQ
            exact W.iret (v := 3) hx hb hr (fun t1 ht hW => ⟨⟨3, (σ, I, J, ri, rj, rq), rfl, ⟨rfl, (by have z9 : (3 : Int32).toInt = 3 := rfl; omega), (rg_w (rg_k (3 : Int32) 3 rfl) (by decide))⟩, by rw [ht]; exact hP, va_K.moved hW.alike hK, hD⟩, hS.F ht⟩) hS.2.2 dX12_sortOf_76
        · have tc_92 : (x_17).toInt = 0 := congrArg Int32.toInt c_18
          have h_93 : rg x_17 0 0 := rg_and (rg_full _) (rg_of_eq c_18 (rg_k (0 : Int32) 0 rfl)) (by decide)
          have uh_93 := h_93.1
          have vh_93 := h_93.2
          refine lv_iconst (v := 2) hx hb dX12_sortOf_56 (by decide) ?_
          subst hQ
          exact W.iret (v := 2) hx hb hr (fun t1 ht hW => ⟨⟨2, (σ, I, J, ri, rj, rq), rfl, ⟨rfl, (by have z9 : (2 : Int32).toInt = 2 := rfl; omega), (rg_w (rg_k (2 : Int32) 2 rfl) (by decide))⟩, by rw [ht]; exact hP, va_K.moved hW.alike hK, hD⟩, hS.F ht⟩) hS.2.2 dX12_sortOf_57
      · have tc_94 : (x_9).toInt = 0 := congrArg Int32.toInt c_10
        have h_95 : rg x_9 0 0 := rg_and (rg_full _) (rg_of_eq c_10 (rg_k (0 : Int32) 0 rfl)) (by decide)
        have uh_95 := h_95.1
        have vh_95 := h_95.2
        refine lv_iconst (v := 1) hx hb dX12_sortOf_31 (by decide) ?_
        subst hQ
        exact W.iret (v := 1) hx hb hr (fun t1 ht hW => ⟨⟨1, (σ, I, J, ri, rj, rq), rfl, ⟨rfl, (by have z9 : (1 : Int32).toInt = 1 := rfl; omega), (rg_w (rg_k (1 : Int32) 1 rfl) (by decide))⟩, by rw [ht]; exact hP, va_K.moved hW.alike hK, hD⟩, hS.F ht⟩) hS.2.2 dX12_sortOf_32
    · have tc_96 : (I 393 this).toInt ≠ 2 := fun q => c_1 (Int32.toInt_inj.mp q)
      refine lv_iconst (v := 0) hx hb dX12_sortOf_8 (by decide) ?_
      subst hQ
      exact W.iret (v := 0) hx hb hr (fun t1 ht hW => ⟨⟨0, (σ, I, J, ri, rj, rq), rfl, ⟨rfl, (by have z9 : (0 : Int32).toInt = 0 := rfl; omega), (rg_w (rg_k (0 : Int32) 0 rfl) (by decide))⟩, by rw [ht]; exact hP, va_K.moved hW.alike hK, hD⟩, hS.F ht⟩) hS.2.2 dX12_sortOf_9
  exact go _ _ _ hP hD hS hl

set_option maxHeartbeats 4000000 in
set_option maxRecDepth 100000 in
theorem s_X12_clause (l : Launch) (D : va_G) (t : pq_T) (σ : pq_S) (I : Nat → Nat → Int32) (J : Nat → Nat → Int64) (ri : Nat → Nat → Int32) (rj : Nat → Nat → Int64) (rq : Nat → Nat → Option Nat) (sz : Nat) (tg : Nat → Nat) (hSH : SH σ tg) (hG0 : GT tg I ri) (this : Nat) (hL_this : this ∈ σ.1) (hK_this : σ.2.1 this = 12) (this_a : Nat) (hR_this_a : σ.2.2.1 384 this = some this_a) (hL_this_a : this_a ∈ σ.1) (hK_this_a : σ.2.1 this_a = 13) (hN_this_a : σ.2.2.2 this_a = 12720) (hT_this_a : tg this_a = 384) (this_pile : Nat) (hR_this_pile : σ.2.2.1 400 this = some this_pile) (hL_this_pile : this_pile ∈ σ.1) (hK_this_pile : σ.2.1 this_pile = 13) (hN_this_pile : σ.2.2.2 this_pile = 160) (hT_this_pile : tg this_pile = 400) (hcl : CLz (I 396 this).toInt (I 398 this).toInt (I 402 this).toInt (I 391 this).toInt (I 393 this).toInt (I 397 this).toInt (ri this_a)) : MetI l yX12_clause (wa yX12_clause cX12_clause 4 (some .int)) ({ frames := 8, cells := 0, slots := 0, locals := 179 }) [.ref this] D t σ (I, J, ri, rj, rq) sz 0 0 (fun (r : Int32) (u : pq_S × pq_M) => ∃ I' : Nat → Nat → Int32, ∃ J' : Nat → Nat → Int64, ∃ ri' : Nat → Nat → Int32, u = (σ, I', J', ri', rj, rq) ∧ GM [391, 392, 393, 401, 398, 402, 397] tg σ I ri I' ri' rq ∧ (r.toInt ≠ 0 ∨ (CLz (I' 396 this).toInt (I' 398 this).toInt (I' 402 this).toInt (I' 391 this).toInt (I' 393 this).toInt (I' 397 this).toInt (ri' this_a) ∧ tmM (I' 391 this).toInt (I' 393 this).toInt < tmM (I 391 this).toInt (I 393 this).toInt)) ∧ rg r 0 5) := by
  refine Met.ofW (cc := cX12_clause) (maxL := 4) (ret := (some .int)) (by decide) rfl ?_
  intro p e s m args below meth c s₁ B hml hv
  obtain ⟨rfl, hsz, hP, hK, hD0, hN⟩ := hv
  have hx := B.exec
  have hb := B.bytes
  have hr := B.returns
  have hts := atoms_spec (ws := (wa yX12_clause cX12_clause 4 (some .int))) B.pre
  have hown : s.vm.findClass RX12 = some m.cls := findClass_of_methodNamed B.named
  have hlocks := B.notSynchronized
  subst hsz
  have hD : va_D (pq_B t σ (I, J, ri, rj, rq) s.heap.size) (pq_P t σ (I, J, ri, rj, rq)) := hD0.self
  generalize hAe : pq_B t σ (I, J, ri, rj, rq) s.heap.size = A at hD ⊢
  have hA : ∀ q : Nat, s.heap.size ≤ q → A q := fun q h => by rw [← hAe]; exact Or.inr h
  have hS : va_S A s.heap s.heap [] := va_S.rf
  have hG : GM [391, 392, 393, 401, 398, 402, 397] tg σ I ri I ri rq := ⟨hG0, fun _ _ _ => rfl, fun _ _ _ _ _ => rfl, fun _ _ _ _ _ _ => rfl⟩
  have hl := lv_entry ([.ref this]) (n := 4) (Nat.le_of_ble_eq_true rfl)
  rw [lg_entry_eq]
  generalize (lg_sl ([.ref this]) ++ List.replicate (4 - (lg_sl ([.ref this])).length) Slot.unset).toArray = ls at hl ⊢
  have hl : lv_has ls 4 [(0, .ref this)] := hl
  refine q_gen (fun Q hQ => ?_)
  have go : ∀ (H : Heap) (locs : List Loc) (ls : Array Slot), va_P D vwCl (pq_P t σ (I, J, ri, rj, rq)) H → va_D A (pq_P t σ (I, J, ri, rj, rq)) → va_S A s.heap H locs → lv_has ls 4 [(0, .ref this)] → W p l e ({ frames := 8, cells := 0, slots := 0, locals := 179 } : Room) s m (List.toArray ([.ref this] : List Value)) below meth c H locs 0 0 Q (F0 m 0 ls []) := by
    intro H locs ls hP hD hS hl
    have hc1 := hcl.1
    have hc3 := hcl.2.2.1
    have hc4 := hcl.2.2.2.1
    have hc5 := hcl.2.2.2.2
    have ce6 := clampE (ri this_a 6)
    have ceC := clampE (I 397 this)
    refine lv_aload_n hx hb dX12_clause_0 rfl (lv_at hl 0 rfl) ?_
    refine pk_i (va_runV (As := []) (rest := []) ⟨hx, hb, hml, hown, hts⟩ (s_X12_sortOf l D t σ I J ri rj rq H.size tg hSH hG.1 this hL_this hK_this) (cwV 0 hts (tw_V tw_853 tw_854 tw_855 tw_5 tw_856) rfl rfl rfl (by decide +kernel) ⟨Nat.le_of_ble_eq_true rfl, Nat.le_of_ble_eq_true rfl⟩) ⟨pq_blind, pq_recv hK hP hL_this hK_this (by decide) rfl, pq_pre hK hN hP hD⟩ rfl rfl hl.1 rfl (lv_room (Nat.le_of_ble_eq_true rfl)) dX12_clause_1 ⟨Nat.le_of_ble_eq_true rfl, Nat.le_of_ble_eq_true rfl⟩) hD hS hA (fun x_1 σ1 μ1 H locs hw_2 hP hD hS => ?_)
    obtain ⟨hu_3, hp_6, hr_5⟩ := hw_2
    obtain ⟨hu_3a, hu_3b⟩ := Prod.mk.inj hu_3
    rw [hu_3a, hu_3b] at hP hD
    have tt_7 := hp_6
    refine lv_istore_n (lv' := [(1, .int x_1), (0, .ref this)]) hx hb dX12_clause_4 rfl hl (by decide) rfl (fun ls hl => ?_)
    refine lv_iload_n hx hb dX12_clause_5 rfl (lv_at hl 0 rfl) ?_
    refine lv_if_ne (tgt := 11) hx hb dX12_clause_6 (by decide) (fun c_8 => ?_) (fun c_8 => ?_)
    · have tc_9 : (x_1).toInt ≠ 0 := fun q => c_8 (Int32.toInt_inj.mp q)
      have h_10 : rg x_1 1 9 := rg_ne c_8 hr_5 0 rfl (by decide)
      have uh_10 := h_10.1
      have vh_10 := h_10.2
      refine lv_iload_n hx hb dX12_clause_11 rfl (lv_at hl 0 rfl) ?_
      refine lv_iconst (v := 5) hx hb dX12_clause_12 (by decide) ?_
      refine lv_icmp_lt (tgt := 30) hx hb dX12_clause_13 (by decide) (fun c_11 => ?_) (fun c_11 => ?_)
      · have tc_12 : (x_1).toInt < 5 := Int32.lt_iff_toInt_lt.mp c_11
        have h_13 : rg x_1 1 4 := rg_lt1 c_11 h_10 (rg_k (5 : Int32) 5 rfl) (by decide)
        have uh_13 := h_13.1
        have vh_13 := h_13.2
        refine lv_aload_n hx hb dX12_clause_30 rfl (lv_at hl 1 rfl) ?_
        refine pg_f (v := .int (I 397 this)) (C := RX12) (T := TX12) (N := 31) hx hb hts (tw_i inlX12) hown hK hP hL_this hK_this (by decide) rfl 13 (by decide) (hts _ (tw_c tw_822)) rfl dX12_clause_31 ?_
        have h_14 : rg (I 397 this) 0 20 := GM.rI hG 397 rfl
        have uh_14 := h_14.1
        have vh_14 := h_14.2
        refine lv_bipush (v := 20) hx hb dX12_clause_34 (by decide) ?_
        refine lv_icmp_ne (tgt := 41) hx hb dX12_clause_36 (by decide) (fun c_15 => ?_) (fun c_15 => ?_)
        · have tc_16 : (I 397 this).toInt ≠ 20 := fun q => c_15 (Int32.toInt_inj.mp q)
          have h_17 : rg (I 397 this) 0 19 := rg_ne c_15 h_14 20 rfl (by decide)
          have uh_17 := h_17.1
          have vh_17 := h_17.2
          refine lv_aload_n hx hb dX12_clause_41 rfl (lv_at hl 1 rfl) ?_
          refine lv_dup hx hb dX12_clause_42 rfl ?_
          refine pg_f (v := .int (I 399 this)) (C := RX12) (T := TX12) (N := 31) hx hb hts (tw_i inlX12) hown hK hP hL_this hK_this (by decide) rfl 15 (by decide) (hts _ (tw_c tw_829)) rfl dX12_clause_43 ?_
          refine lv_iconst (v := 1) hx hb dX12_clause_46 (by decide) ?_
          refine lv_iload_n hx hb dX12_clause_47 rfl (lv_at hl 0 rfl) ?_
          refine lv_ishl hx hb dX12_clause_48 ?_
          refine lv_topi (fun x_18 ex_18 => ?_)
          refine lv_ior hx hb dX12_clause_49 ?_
          refine lv_topi (fun x_19 ex_19 => ?_)
          refine pp_i (v := x_19) (ty := .int) (C := RX12) (T := TX12) (N := 31) hx hb hts (tw_i inlX12) tyX12 tyX12_ok nmX12 hown hK hP hD hS hL_this hK_this (by decide) rfl 15 399 (by decide) (hts _ (tw_c tw_829)) rfl (by decide +kernel) rfl rfl (Nat.le_of_ble_eq_true rfl) (ps_399 _ _ _ _ _) dX12_clause_50 (fun I_20 H locs eI_20 hP hD hS => ?_)
          have hG := GM.wI hG 399 rfl eI_20 (rg_w (rg_full _) (by decide)) (by decide)
          have tt_21 : (I_20 396 this).toInt = (I 396 this).toInt := by rw [eI_20, pq_uf _ _ _ (by decide)]
          have tt_22 : (I_20 398 this).toInt = (I 398 this).toInt := by rw [eI_20, pq_uf _ _ _ (by decide)]
          have tt_23 : (I_20 401 this).toInt = (I 401 this).toInt := by rw [eI_20, pq_uf _ _ _ (by decide)]
          have tt_24 : (I_20 402 this).toInt = (I 402 this).toInt := by rw [eI_20, pq_uf _ _ _ (by decide)]
          have tt_25 : (I_20 391 this).toInt = (I 391 this).toInt := by rw [eI_20, pq_uf _ _ _ (by decide)]
          have tt_26 : (I_20 393 this).toInt = (I 393 this).toInt := by rw [eI_20, pq_uf _ _ _ (by decide)]
          have tt_27 : (I_20 403 this).toInt = (I 403 this).toInt := by rw [eI_20, pq_uf _ _ _ (by decide)]
          have tt_28 : (I_20 397 this).toInt = (I 397 this).toInt := by rw [eI_20, pq_uf _ _ _ (by decide)]
          refine lv_aload_n hx hb dX12_clause_53 rfl (lv_at hl 1 rfl) ?_
          refine pg_f (v := .int (I_20 396 this)) (C := RX12) (T := TX12) (N := 31) hx hb hts (tw_i inlX12) hown hK hP hL_this hK_this (by decide) rfl 12 (by decide) (hts _ (tw_c tw_821)) rfl dX12_clause_54 ?_
          have h_29 : rg (I_20 396 this) 0 11820 := GM.rI hG 396 rfl
          have uh_29 := h_29.1
          have vh_29 := h_29.2
          refine lv_iconst (v := 1) hx hb dX12_clause_57 (by decide) ?_
          refine lv_iadd hx hb dX12_clause_58 ?_
          refine lv_topi (fun x_30 ex_30 => ?_)
          have h_31 : rg x_30 1 11821 := rg_of_eq ex_30 (rg_add h_29 (rg_k (1 : Int32) 1 rfl) (by decide))
          have uh_31 := h_31.1
          have vh_31 := h_31.2
          have tx_30 : (x_30).toInt = (I_20 396 this).toInt + 1 := by rw [ex_30]; exact i_add_rg (a2 := (I_20 396 this).toInt) (b2 := 1) rfl rfl h_29 (rg_k (1 : Int32) 1 rfl) (by decide)
          refine lv_bipush (v := 12) hx hb dX12_clause_59 (by decide) ?_
          refine lv_aload_n hx hb dX12_clause_61 rfl (lv_at hl 1 rfl) ?_
          refine pg_f (v := .int (I_20 397 this)) (C := RX12) (T := TX12) (N := 31) hx hb hts (tw_i inlX12) hown hK hP hL_this hK_this (by decide) rfl 13 (by decide) (hts _ (tw_c tw_822)) rfl dX12_clause_62 ?_
          have h_32 : rg (I_20 397 this) 0 19 := (by rw [eI_20, pq_uf _ _ _ (by decide)]; exact h_17)
          have uh_32 := h_32.1
          have vh_32 := h_32.2
          refine lv_imul hx hb dX12_clause_65 ?_
          refine lv_topi (fun x_33 ex_33 => ?_)
          have h_34 : rg x_33 0 228 := rg_of_eq ex_33 (rg_mul (rg_k (12 : Int32) 12 rfl) h_32 (by decide))
          have uh_34 := h_34.1
          have vh_34 := h_34.2
          have tx_33 : (x_33).toInt = 12 * (I_20 397 this).toInt := by rw [ex_33]; exact i_mul_rg (a2 := 12) (b2 := (I_20 397 this).toInt) rfl rfl (rg_k (12 : Int32) 12 rfl) h_32 (by decide)
          refine lv_iadd hx hb dX12_clause_66 ?_
          refine lv_topi (fun x_35 ex_35 => ?_)
          have h_36 : rg x_35 1 12049 := rg_of_eq ex_35 (rg_add h_31 h_34 (by decide))
          have uh_36 := h_36.1
          have vh_36 := h_36.2
          have tx_35 : (x_35).toInt = (x_30).toInt + (x_33).toInt := by rw [ex_35]; exact i_add_rg (a2 := (x_30).toInt) (b2 := (x_33).toInt) rfl rfl h_31 h_34 (by decide)
          have hcx : (x_35).toInt = 3721 + 900 * (ri this_a 6).toInt + 12 * (I 397 this).toInt := by omega
          have hC19 : rg (I 397 this) 0 19 := ⟨by omega, by omega⟩
          have h_37 : rg x_35 3721 12049 := ⟨by omega, by omega⟩
          have uh_37 := h_37.1
          have vh_37 := h_37.2
          have ceX := clampE x_35
          refine lv_istore_n (lv' := [(2, .int x_35), (1, .int x_1), (0, .ref this)]) hx hb dX12_clause_67 rfl hl (by decide) rfl (fun ls hl => ?_)
          refine lv_aload_n hx hb dX12_clause_68 rfl (lv_at hl 2 rfl) ?_
          refine pg_f (v := .ref this_a) (C := RX12) (T := TX12) (N := 31) hx hb hts (tw_i inlX12) hown hK hP hL_this hK_this (by decide) rfl 0 (by decide) (hts _ (tw_c tw_176)) (pq_hv rfl hR_this_a) dX12_clause_69 ?_
          refine lv_iload_n hx hb dX12_clause_72 rfl (lv_at hl 0 rfl) ?_
          refine lv_iload_n hx hb dX12_clause_73 rfl (lv_at hl 1 rfl) ?_
          refine pt_i hx hb hK hP hD hS hL_this_a hK_this_a hN_this_a (rg_in h_37 (by decide)) dX12_clause_74 (fun r_38 H locs er_38 hP hD hS => ?_)
          have hG := GM.wt hG hT_this_a (by decide) er_38 (zn_tc (t := (ri this_a 6).toNatClampNeg) (c := (I 397 this).toNatClampNeg) (k := 0) (by have z_i := clampE x_35; have z_0 := clampE (ri this_a 6); have z_1 := clampE (I 397 this); omega) (rg_cl1 ⟨hc1.2.1, hc1.2.2⟩ (by decide)) (rg_cl1 hC19 (by decide)) (by decide)) rfl (rg_w h_13 (by decide)) (by have z6 := congrArg Int32.toInt (hG.2.2.1 this_a hT_this_a 6 (by decide) (by decide)); have z_i := clampE x_35; omega) (by decide)
          refine lv_aload_n hx hb dX12_clause_75 rfl (lv_at hl 2 rfl) ?_
          obtain ⟨w_39, hR_w_39, hL_w_39, hK_w_39, hN_w_39, hT_w_39⟩ := sh_a hSH 387 (ci := 12) (kd := 13) (len := 300) rfl (by decide) hL_this hK_this
          refine pk_v (va_runV (As := []) (rest := []) ⟨hx, hb, hml, hown, hts⟩ (s_X12_nextToken_x l D t σ I_20 J r_38 rj rq H.size tg hSH hG.1 this hL_this hK_this w_39 hR_w_39 hL_w_39 hK_w_39 hN_w_39 hT_w_39) (cwV 0 hts (tw_V tw_832 tw_833 tw_834 tw_5 tw_835) rfl rfl rfl (by decide +kernel) ⟨Nat.le_of_ble_eq_true rfl, Nat.le_of_ble_eq_true rfl⟩) ⟨pq_blind, pq_recv hK hP hL_this hK_this (by decide) rfl, pq_pre hK hN hP hD⟩ rfl rfl hl.1 rfl (lv_room (Nat.le_of_ble_eq_true rfl)) dX12_clause_76 ⟨Nat.le_of_ble_eq_true rfl, Nat.le_of_ble_eq_true rfl⟩) hD hS hA (fun σ1 μ1 H locs hw_41 hP hD hS => ?_)
          obtain ⟨I_42, J_43, hu_44, hg_45, hp_47, hp_48, hp_49⟩ := hw_41
          obtain ⟨hu_44a, hu_44b⟩ := Prod.mk.inj hu_44
          rw [hu_44a, hu_44b] at hP hD
          have tt_50 := hp_47
          have tt_51 := hp_48
          have tt_52 := hp_49
          have tt_53 : (I_42 391 this).toInt ≤ 300 := by have z := hg_45.1.1 391 this; exact z.2
          have hG := GM.tr hG hg_45 (by decide)
          have tt_54 : (I_42 396 this).toInt = (I_20 396 this).toInt := by rw [hg_45.2.1 396 (by decide) (by decide)]
          have tt_55 : (I_42 398 this).toInt = (I_20 398 this).toInt := by rw [hg_45.2.1 398 (by decide) (by decide)]
          have tt_56 : (I_42 401 this).toInt = (I_20 401 this).toInt := by rw [hg_45.2.1 401 (by decide) (by decide)]
          have tt_57 : (I_42 402 this).toInt = (I_20 402 this).toInt := by rw [hg_45.2.1 402 (by decide) (by decide)]
          have tt_58 : (I_42 397 this).toInt = (I_20 397 this).toInt := by rw [hg_45.2.1 397 (by decide) (by decide)]
          have htmH : tmM (I_42 391 this).toInt (I_42 393 this).toInt ≤ tmM (I 391 this).toInt (I 393 this).toInt := Int.le_of_lt (tm_lt (by omega) (by omega) (by omega))
          refine lv_iconst (v := 0) hx hb dX12_clause_79 (by decide) ?_
          refine lv_istore_n (lv' := [(3, .int 0), (2, .int x_35), (1, .int x_1), (0, .ref this)]) hx hb dX12_clause_80 rfl hl (by decide) rfl (fun ls hl => ?_)
          refine lv_iload_n hx hb dX12_clause_81 rfl (lv_at hl 2 rfl) ?_
          refine lv_iconst (v := 4) hx hb dX12_clause_82 (by decide) ?_
          refine lv_icmp_gt (tgt := 118) hx hb dX12_clause_83 (by decide) (fun c_59 => ?_) (fun c_59 => ?_)
          · have tc_60 : 4 < (x_1).toInt := Int32.lt_iff_toInt_lt.mp c_59
            exact (rg_empty (rg_lt2 c_59 (rg_k (4 : Int32) 4 rfl) h_13 (lo := 5) (hi := 4) (by decide)) (by decide)).elim
          · have tc_61 : (x_1).toInt ≤ 4 := Int32.le_iff_toInt_le.mp (nlt c_59)
            refine lv_aload_n hx hb dX12_clause_86 rfl (lv_at hl 3 rfl) ?_
            refine pg_f (v := .ref this_a) (C := RX12) (T := TX12) (N := 31) hx hb hts (tw_i inlX12) hown hK hP hL_this hK_this (by decide) rfl 0 (by decide) (hts _ (tw_c tw_176)) (pq_hv rfl hR_this_a) dX12_clause_87 ?_
            refine lv_iload_n hx hb dX12_clause_90 rfl (lv_at hl 1 rfl) ?_
            refine lv_iconst (v := 2) hx hb dX12_clause_91 (by decide) ?_
            refine lv_iadd hx hb dX12_clause_92 ?_
            refine lv_topi (fun x_62 ex_62 => ?_)
            have h_63 : rg x_62 3723 12051 := rg_of_eq ex_62 (rg_add h_37 (rg_k (2 : Int32) 2 rfl) (by decide))
            have uh_63 := h_63.1
            have vh_63 := h_63.2
            have tx_62 : (x_62).toInt = (x_35).toInt + 2 := by rw [ex_62]; exact i_add_rg (a2 := (x_35).toInt) (b2 := 2) rfl rfl h_37 (rg_k (2 : Int32) 2 rfl) (by decide)
            refine lv_aload_n hx hb dX12_clause_93 rfl (lv_at hl 3 rfl) ?_
            refine pg_f (v := .int (I_42 398 this)) (C := RX12) (T := TX12) (N := 31) hx hb hts (tw_i inlX12) hown hK hP hL_this hK_this (by decide) rfl 14 (by decide) (hts _ (tw_c tw_827)) rfl dX12_clause_94 ?_
            have h_64 : rg (I_42 398 this) 0 300 := GM.rI hG 398 rfl
            have uh_64 := h_64.1
            have vh_64 := h_64.2
            refine pt_i hx hb hK hP hD hS hL_this_a hK_this_a hN_this_a (rg_in h_63 (by decide)) dX12_clause_97 (fun r_65 H locs er_65 hP hD hS => ?_)
            have hG := GM.wt hG hT_this_a (by decide) er_65 (zn_tc (t := (ri this_a 6).toNatClampNeg) (c := (I 397 this).toNatClampNeg) (k := 2) (by have z_i := clampE x_62; have z_0 := clampE (ri this_a 6); have z_1 := clampE (I 397 this); omega) (rg_cl1 ⟨hc1.2.1, hc1.2.2⟩ (by decide)) (rg_cl1 hC19 (by decide)) (by decide)) rfl (rg_w h_64 (by decide)) (by have z6 := congrArg Int32.toInt (hG.2.2.1 this_a hT_this_a 6 (by decide) (by decide)); have z_i := clampE x_62; omega) (by decide)
            refine lv_aload_n hx hb dX12_clause_98 rfl (lv_at hl 3 rfl) ?_
            have h26 : r_65 this_a 6 = ri this_a 6 := hG.2.2.1 this_a hT_this_a 6 (by decide) (by decide)
            have hpbN := PBz_new (t := (I_42 396 this).toInt) (w := (I_42 398 this).toInt) (o := (I_42 402 this).toInt) (s := (I_42 391 this).toInt) (k := (I_42 393 this).toInt) (f := r_65 this_a) (by rw [h26]; omega) (by omega) (by omega) (by omega) (fun q => by omega) (by omega)
            refine pk_i (va_runV (As := []) (rest := []) ⟨hx, hb, hml, hown, hts⟩ (s_X12_either l D t σ I_42 J_43 r_65 rj rq H.size tg hSH hG.1 this hL_this hK_this this_a hR_this_a hL_this_a hK_this_a hN_this_a hT_this_a this_pile hR_this_pile hL_this_pile hK_this_pile hN_this_pile hT_this_pile (3970 + 900 * (r_65 this_a 6).toInt + 2 * (I_42 398 this).toInt).toNat (r_65 this_a) (I_42 398 this).toInt 0 0 0 0 (by assumption)) (cwV 0 hts (tw_V tw_870 tw_871 tw_872 tw_5 tw_873) rfl rfl rfl (by decide +kernel) ⟨Nat.le_of_ble_eq_true rfl, Nat.le_of_ble_eq_true rfl⟩) ⟨pq_blind, pq_recv hK hP hL_this hK_this (by decide) rfl, pq_pre hK hN hP hD⟩ rfl rfl hl.1 rfl (lv_room (Nat.le_of_ble_eq_true rfl)) dX12_clause_99 ⟨Nat.le_of_ble_eq_true rfl, Nat.le_of_ble_eq_true rfl⟩) hD hS hA (fun x_66 σ1 μ1 H locs hw_67 hP hD hS => ?_)
            obtain ⟨I_68, J_69, ri_70, hu_71, hg_72, hp_74, hr_73⟩ := hw_67
            obtain ⟨hu_71a, hu_71b⟩ := Prod.mk.inj hu_71
            rw [hu_71a, hu_71b] at hP hD
            have hG := GM.tr hG hg_72 (by decide)
            have tt_75 : (I_68 396 this).toInt = (I_42 396 this).toInt := by rw [hg_72.2.1 396 (by decide) (by decide)]
            have tt_76 : (I_68 397 this).toInt = (I_42 397 this).toInt := by rw [hg_72.2.1 397 (by decide) (by decide)]
            refine lv_istore_n (lv' := [(3, .int x_66), (2, .int x_35), (1, .int x_1), (0, .ref this)]) hx hb dX12_clause_102 rfl hl (by decide) rfl (fun ls hl => ?_)
            refine lv_aload_n hx hb dX12_clause_103 rfl (lv_at hl 3 rfl) ?_
            refine pg_f (v := .ref this_a) (C := RX12) (T := TX12) (N := 31) hx hb hts (tw_i inlX12) hown hK hP hL_this hK_this (by decide) rfl 0 (by decide) (hts _ (tw_c tw_176)) (pq_hv rfl hR_this_a) dX12_clause_104 ?_
            refine lv_iload_n hx hb dX12_clause_107 rfl (lv_at hl 1 rfl) ?_
            refine lv_iconst (v := 3) hx hb dX12_clause_108 (by decide) ?_
            refine lv_iadd hx hb dX12_clause_109 ?_
            refine lv_topi (fun x_77 ex_77 => ?_)
            have h_78 : rg x_77 3724 12052 := rg_of_eq ex_77 (rg_add h_37 (rg_k (3 : Int32) 3 rfl) (by decide))
            have uh_78 := h_78.1
            have vh_78 := h_78.2
            have tx_77 : (x_77).toInt = (x_35).toInt + 3 := by rw [ex_77]; exact i_add_rg (a2 := (x_35).toInt) (b2 := 3) rfl rfl h_37 (rg_k (3 : Int32) 3 rfl) (by decide)
            refine lv_aload_n hx hb dX12_clause_110 rfl (lv_at hl 3 rfl) ?_
            refine pg_f (v := .int (I_68 398 this)) (C := RX12) (T := TX12) (N := 31) hx hb hts (tw_i inlX12) hown hK hP hL_this hK_this (by decide) rfl 14 (by decide) (hts _ (tw_c tw_827)) rfl dX12_clause_111 ?_
            have h_79 : rg (I_68 398 this) 0 300 := GM.rI hG 398 rfl
            have uh_79 := h_79.1
            have vh_79 := h_79.2
            refine pt_i hx hb hK hP hD hS hL_this_a hK_this_a hN_this_a (rg_in h_78 (by decide)) dX12_clause_114 (fun r_80 H locs er_80 hP hD hS => ?_)
            have hG := GM.wt hG hT_this_a (by decide) er_80 (zn_tc (t := (ri this_a 6).toNatClampNeg) (c := (I 397 this).toNatClampNeg) (k := 3) (by have z_i := clampE x_77; have z_0 := clampE (ri this_a 6); have z_1 := clampE (I 397 this); omega) (rg_cl1 ⟨hc1.2.1, hc1.2.2⟩ (by decide)) (rg_cl1 hC19 (by decide)) (by decide)) rfl (rg_w h_79 (by decide)) (by have z6 := congrArg Int32.toInt (hG.2.2.1 this_a hT_this_a 6 (by decide) (by decide)); have z_i := clampE x_77; omega) (by decide)
            refine lv_goto (tgt := 167) hx hb dX12_clause_115 (by decide) ?_
            refine lv_iload_n hx hb dX12_clause_167 rfl (lv_at hl 0 rfl) ?_
            refine lv_if_eq (tgt := 173) hx hb dX12_clause_168 (by decide) (fun c_81 => ?_) (fun c_81 => ?_)
            · have tc_82 : (x_66).toInt = 0 := congrArg Int32.toInt c_81
              have h_83 : rg x_66 0 0 := rg_and hr_73 (rg_of_eq c_81 (rg_k (0 : Int32) 0 rfl)) (by decide)
              have uh_83 := h_83.1
              have vh_83 := h_83.2
              refine lv_aload_n hx hb dX12_clause_173 rfl (lv_at hl 3 rfl) ?_
              refine pg_f (v := .int (I_68 393 this)) (C := RX12) (T := TX12) (N := 31) hx hb hts (tw_i inlX12) hown hK hP hL_this hK_this (by decide) rfl 9 (by decide) (hts _ (tw_c tw_831)) rfl dX12_clause_174 ?_
              refine lv_bipush (v := 59) hx hb dX12_clause_177 (by decide) ?_
              refine lv_icmp_eq (tgt := 184) hx hb dX12_clause_179 (by decide) (fun c_84 => ?_) (fun c_84 => ?_)
              · have tc_85 : (I_68 393 this).toInt = 59 := congrArg Int32.toInt c_84
                have h_86 : rg (I_68 393 this) 59 59 := rg_and (rg_full _) (rg_of_eq c_84 (rg_k (59 : Int32) 59 rfl)) (by decide)
                have uh_86 := h_86.1
                have vh_86 := h_86.2
                refine lv_aload_n hx hb dX12_clause_184 rfl (lv_at hl 3 rfl) ?_
                refine lv_dup hx hb dX12_clause_185 rfl ?_
                refine pg_f (v := .int (I_68 397 this)) (C := RX12) (T := TX12) (N := 31) hx hb hts (tw_i inlX12) hown hK hP hL_this hK_this (by decide) rfl 13 (by decide) (hts _ (tw_c tw_822)) rfl dX12_clause_186 ?_
                have h_87 : rg (I_68 397 this) 0 19 := (by rw [hg_72.2.1 397 (by decide) (by decide)]; exact (by rw [hg_45.2.1 397 (by decide) (by decide)]; exact h_32))
                have uh_87 := h_87.1
                have vh_87 := h_87.2
                refine lv_iconst (v := 1) hx hb dX12_clause_189 (by decide) ?_
                refine lv_iadd hx hb dX12_clause_190 ?_
                refine lv_topi (fun x_88 ex_88 => ?_)
                have h_89 : rg x_88 1 20 := rg_of_eq ex_88 (rg_add h_87 (rg_k (1 : Int32) 1 rfl) (by decide))
                have uh_89 := h_89.1
                have vh_89 := h_89.2
                have tx_88 : (x_88).toInt = (I_68 397 this).toInt + 1 := by rw [ex_88]; exact i_add_rg (a2 := (I_68 397 this).toInt) (b2 := 1) rfl rfl h_87 (rg_k (1 : Int32) 1 rfl) (by decide)
                refine pp_i (v := x_88) (ty := .int) (C := RX12) (T := TX12) (N := 31) hx hb hts (tw_i inlX12) tyX12 tyX12_ok nmX12 hown hK hP hD hS hL_this hK_this (by decide) rfl 13 397 (by decide) (hts _ (tw_c tw_822)) rfl (by decide +kernel) rfl rfl (Nat.le_of_ble_eq_true rfl) (ps_397 _ _ _ _ _) dX12_clause_191 (fun I_90 H locs eI_90 hP hD hS => ?_)
                have hG := GM.wI hG 397 rfl eI_90 (rg_w h_89 (by decide)) (by decide)
                have tt_91 : (I_90 396 this).toInt = (I_68 396 this).toInt := by rw [eI_90, pq_uf _ _ _ (by decide)]
                have tt_92 : (I_90 398 this).toInt = (I_68 398 this).toInt := by rw [eI_90, pq_uf _ _ _ (by decide)]
                have tt_93 : (I_90 401 this).toInt = (I_68 401 this).toInt := by rw [eI_90, pq_uf _ _ _ (by decide)]
                have tt_94 : (I_90 402 this).toInt = (I_68 402 this).toInt := by rw [eI_90, pq_uf _ _ _ (by decide)]
                have tt_95 : (I_90 391 this).toInt = (I_68 391 this).toInt := by rw [eI_90, pq_uf _ _ _ (by decide)]
                have tt_96 : (I_90 393 this).toInt = (I_68 393 this).toInt := by rw [eI_90, pq_uf _ _ _ (by decide)]
                have tt_97 : (I_90 403 this).toInt = (I_68 403 this).toInt := by rw [eI_90, pq_uf _ _ _ (by decide)]
                have tt_98 : (I_90 397 this).toInt = (x_88).toInt := by rw [eI_90, pq_us]
                refine lv_aload_n hx hb dX12_clause_194 rfl (lv_at hl 3 rfl) ?_
                refine pk_v (va_runV (As := []) (rest := []) ⟨hx, hb, hml, hown, hts⟩ (s_X12_nextToken_x l D t σ I_90 J_69 r_80 rj rq H.size tg hSH hG.1 this hL_this hK_this w_39 hR_w_39 hL_w_39 hK_w_39 hN_w_39 hT_w_39) (cwV 0 hts (tw_V tw_832 tw_833 tw_834 tw_5 tw_835) rfl rfl rfl (by decide +kernel) ⟨Nat.le_of_ble_eq_true rfl, Nat.le_of_ble_eq_true rfl⟩) ⟨pq_blind, pq_recv hK hP hL_this hK_this (by decide) rfl, pq_pre hK hN hP hD⟩ rfl rfl hl.1 rfl (lv_room (Nat.le_of_ble_eq_true rfl)) dX12_clause_195 ⟨Nat.le_of_ble_eq_true rfl, Nat.le_of_ble_eq_true rfl⟩) hD hS hA (fun σ1 μ1 H locs hw_100 hP hD hS => ?_)
                obtain ⟨I_101, J_102, hu_103, hg_104, hp_106, hp_107, hp_108⟩ := hw_100
                obtain ⟨hu_103a, hu_103b⟩ := Prod.mk.inj hu_103
                rw [hu_103a, hu_103b] at hP hD
                have tt_109 := hp_106
                have tt_110 := hp_107
                have tt_111 := hp_108
                have tt_112 : (I_101 391 this).toInt ≤ 300 := by have z := hg_104.1.1 391 this; exact z.2
                have hG := GM.tr hG hg_104 (by decide)
                have tt_113 : (I_101 396 this).toInt = (I_90 396 this).toInt := by rw [hg_104.2.1 396 (by decide) (by decide)]
                have tt_114 : (I_101 398 this).toInt = (I_90 398 this).toInt := by rw [hg_104.2.1 398 (by decide) (by decide)]
                have tt_115 : (I_101 401 this).toInt = (I_90 401 this).toInt := by rw [hg_104.2.1 401 (by decide) (by decide)]
                have tt_116 : (I_101 402 this).toInt = (I_90 402 this).toInt := by rw [hg_104.2.1 402 (by decide) (by decide)]
                have tt_117 : (I_101 397 this).toInt = (I_90 397 this).toInt := by rw [hg_104.2.1 397 (by decide) (by decide)]
                refine lv_iconst (v := 0) hx hb dX12_clause_198 (by decide) ?_
                subst hQ
                exact W.iret (v := 0) hx hb hr (fun t1 ht hW => ⟨⟨0, (σ, I_101, J_102, r_80, rj, rq), rfl, ⟨I_101, J_102, r_80, rfl, hG, (Or.inr ⟨(CLz_mk (by rw [show r_80 this_a 6 = ri this_a 6 from hG.2.2.1 this_a hT_this_a 6 (by decide) (by decide)]; omega) (by rw [show (I_101 397 this).toInt = (((I 397 this).toNatClampNeg + 1 : Nat) : Int) from by omega]; have q := TXQ_code (f := ri this_a) (w := (I_42 398 this).toInt) (n := (I 397 this).toNatClampNeg) (ci := (x_35).toNatClampNeg) (by rw [show (((I 397 this).toNatClampNeg : Nat) : Int) = (I 397 this).toInt from by omega, show (I_42 398 this).toInt = (I 398 this).toInt from by omega]; exact hcl.2.1) (by omega) ⟨by omega, by omega⟩ (by omega) (by omega) ((congrFun er_38 _).trans (va_up_self _ _ _)) (by have z0 := clampE x_62; omega) ((congrFun er_65 _).trans (va_up_self _ _ _)) (hp_74.resolve_left (fun q => q (by omega))).1 (by have z0 := clampE x_77; omega) ((congrFun er_80 _).trans (va_up_self _ _ _)) (by omega) (by omega); rw [show (I_101 398 this).toInt = (I_68 398 this).toInt from by omega]; exact q) (by omega) (by omega) (by omega) (fun q => by omega) (by omega)), (by have l1 : tmM (I_101 391 this).toInt (I_101 393 this).toInt < tmM (I_90 391 this).toInt (I_90 393 this).toInt := tm_lt (by omega) (by omega) (by omega); have l2 : tmM (I_90 391 this).toInt (I_90 393 this).toInt = tmM (I_68 391 this).toInt (I_68 393 this).toInt := by rw [show (I_90 391 this).toInt = (I_68 391 this).toInt from by omega, show (I_90 393 this).toInt = (I_68 393 this).toInt from by omega]; have l3 := (Int.le_trans (hp_74.resolve_left (fun q => q (by omega))).2 htmH); omega)⟩), (rg_w (rg_k (0 : Int32) 0 rfl) (by decide))⟩, by rw [ht]; exact hP, va_K.moved hW.alike hK, hD⟩, hS.F ht⟩) hS.2.2 dX12_clause_199
              · have tc_118 : (I_68 393 this).toInt ≠ 59 := fun q => c_84 (Int32.toInt_inj.mp q)
                refine lv_iconst (v := 1) hx hb dX12_clause_182 (by decide) ?_
                subst hQ
                exact W.iret (v := 1) hx hb hr (fun t1 ht hW => ⟨⟨1, (σ, I_68, J_69, r_80, rj, rq), rfl, ⟨I_68, J_69, r_80, rfl, hG, (Or.inl (by decide)), (rg_w (rg_k (1 : Int32) 1 rfl) (by decide))⟩, by rw [ht]; exact hP, va_K.moved hW.alike hK, hD⟩, hS.F ht⟩) hS.2.2 dX12_clause_183
            · have tc_119 : (x_66).toInt ≠ 0 := fun q => c_81 (Int32.toInt_inj.mp q)
              have h_120 : rg x_66 1 3 := rg_ne c_81 hr_73 0 rfl (by decide)
              have uh_120 := h_120.1
              have vh_120 := h_120.2
              refine lv_iload_n hx hb dX12_clause_171 rfl (lv_at hl 0 rfl) ?_
              subst hQ
              exact W.iret (v := x_66) hx hb hr (fun t1 ht hW => ⟨⟨x_66, (σ, I_68, J_69, r_80, rj, rq), rfl, ⟨I_68, J_69, r_80, rfl, hG, (Or.inl (by omega)), (rg_w h_120 (by decide))⟩, by rw [ht]; exact hP, va_K.moved hW.alike hK, hD⟩, hS.F ht⟩) hS.2.2 dX12_clause_172
        · have tc_121 : (I 397 this).toInt = 20 := congrArg Int32.toInt c_15
          have h_122 : rg (I 397 this) 20 20 := rg_and h_14 (rg_of_eq c_15 (rg_k (20 : Int32) 20 rfl)) (by decide)
          have uh_122 := h_122.1
          have vh_122 := h_122.2
          refine lv_iconst (v := 5) hx hb dX12_clause_39 (by decide) ?_
          subst hQ
          exact W.iret (v := 5) hx hb hr (fun t1 ht hW => ⟨⟨5, (σ, I, J, ri, rj, rq), rfl, ⟨I, J, ri, rfl, hG, (Or.inl (by decide)), (rg_w (rg_k (5 : Int32) 5 rfl) (by decide))⟩, by rw [ht]; exact hP, va_K.moved hW.alike hK, hD⟩, hS.F ht⟩) hS.2.2 dX12_clause_40
      · have tc_123 : 5 ≤ (x_1).toInt := Int32.le_iff_toInt_le.mp (nlt c_11)
        have h_124 : rg x_1 5 9 := rg_le2 (nlt c_11) (rg_k (5 : Int32) 5 rfl) h_10 (by decide)
        have uh_124 := h_124.1
        have vh_124 := h_124.2
        refine lv_aload_n hx hb dX12_clause_16 rfl (lv_at hl 1 rfl) ?_
        refine pg_f (v := .int (I 399 this)) (C := RX12) (T := TX12) (N := 31) hx hb hts (tw_i inlX12) hown hK hP hL_this hK_this (by decide) rfl 15 (by decide) (hts _ (tw_c tw_829)) rfl dX12_clause_17 ?_
        refine lv_iload_n hx hb dX12_clause_20 rfl (lv_at hl 0 rfl) ?_
        refine lv_ishr hx hb dX12_clause_21 ?_
        refine lv_topi (fun x_125 ex_125 => ?_)
        refine lv_iconst (v := 1) hx hb dX12_clause_22 (by decide) ?_
        refine lv_iand hx hb dX12_clause_23 ?_
        refine lv_topi (fun x_126 ex_126 => ?_)
        refine lv_iconst (v := 1) hx hb dX12_clause_24 (by decide) ?_
        refine lv_icmp_ne (tgt := 30) hx hb dX12_clause_25 (by decide) (fun c_127 => ?_) (fun c_127 => ?_)
        · have tc_128 : (x_126).toInt ≠ 1 := fun q => c_127 (Int32.toInt_inj.mp q)
          refine lv_aload_n hx hb dX12_clause_30 rfl (lv_at hl 1 rfl) ?_
          refine pg_f (v := .int (I 397 this)) (C := RX12) (T := TX12) (N := 31) hx hb hts (tw_i inlX12) hown hK hP hL_this hK_this (by decide) rfl 13 (by decide) (hts _ (tw_c tw_822)) rfl dX12_clause_31 ?_
          have h_129 : rg (I 397 this) 0 20 := GM.rI hG 397 rfl
          have uh_129 := h_129.1
          have vh_129 := h_129.2
          refine lv_bipush (v := 20) hx hb dX12_clause_34 (by decide) ?_
          refine lv_icmp_ne (tgt := 41) hx hb dX12_clause_36 (by decide) (fun c_130 => ?_) (fun c_130 => ?_)
          · have tc_131 : (I 397 this).toInt ≠ 20 := fun q => c_130 (Int32.toInt_inj.mp q)
            have h_132 : rg (I 397 this) 0 19 := rg_ne c_130 h_129 20 rfl (by decide)
            have uh_132 := h_132.1
            have vh_132 := h_132.2
            refine lv_aload_n hx hb dX12_clause_41 rfl (lv_at hl 1 rfl) ?_
            refine lv_dup hx hb dX12_clause_42 rfl ?_
            refine pg_f (v := .int (I 399 this)) (C := RX12) (T := TX12) (N := 31) hx hb hts (tw_i inlX12) hown hK hP hL_this hK_this (by decide) rfl 15 (by decide) (hts _ (tw_c tw_829)) rfl dX12_clause_43 ?_
            refine lv_iconst (v := 1) hx hb dX12_clause_46 (by decide) ?_
            refine lv_iload_n hx hb dX12_clause_47 rfl (lv_at hl 0 rfl) ?_
            refine lv_ishl hx hb dX12_clause_48 ?_
            refine lv_topi (fun x_133 ex_133 => ?_)
            refine lv_ior hx hb dX12_clause_49 ?_
            refine lv_topi (fun x_134 ex_134 => ?_)
            refine pp_i (v := x_134) (ty := .int) (C := RX12) (T := TX12) (N := 31) hx hb hts (tw_i inlX12) tyX12 tyX12_ok nmX12 hown hK hP hD hS hL_this hK_this (by decide) rfl 15 399 (by decide) (hts _ (tw_c tw_829)) rfl (by decide +kernel) rfl rfl (Nat.le_of_ble_eq_true rfl) (ps_399 _ _ _ _ _) dX12_clause_50 (fun I_135 H locs eI_135 hP hD hS => ?_)
            have hG := GM.wI hG 399 rfl eI_135 (rg_w (rg_full _) (by decide)) (by decide)
            have tt_136 : (I_135 396 this).toInt = (I 396 this).toInt := by rw [eI_135, pq_uf _ _ _ (by decide)]
            have tt_137 : (I_135 398 this).toInt = (I 398 this).toInt := by rw [eI_135, pq_uf _ _ _ (by decide)]
            have tt_138 : (I_135 401 this).toInt = (I 401 this).toInt := by rw [eI_135, pq_uf _ _ _ (by decide)]
            have tt_139 : (I_135 402 this).toInt = (I 402 this).toInt := by rw [eI_135, pq_uf _ _ _ (by decide)]
            have tt_140 : (I_135 391 this).toInt = (I 391 this).toInt := by rw [eI_135, pq_uf _ _ _ (by decide)]
            have tt_141 : (I_135 393 this).toInt = (I 393 this).toInt := by rw [eI_135, pq_uf _ _ _ (by decide)]
            have tt_142 : (I_135 403 this).toInt = (I 403 this).toInt := by rw [eI_135, pq_uf _ _ _ (by decide)]
            have tt_143 : (I_135 397 this).toInt = (I 397 this).toInt := by rw [eI_135, pq_uf _ _ _ (by decide)]
            refine lv_aload_n hx hb dX12_clause_53 rfl (lv_at hl 1 rfl) ?_
            refine pg_f (v := .int (I_135 396 this)) (C := RX12) (T := TX12) (N := 31) hx hb hts (tw_i inlX12) hown hK hP hL_this hK_this (by decide) rfl 12 (by decide) (hts _ (tw_c tw_821)) rfl dX12_clause_54 ?_
            have h_144 : rg (I_135 396 this) 0 11820 := GM.rI hG 396 rfl
            have uh_144 := h_144.1
            have vh_144 := h_144.2
            refine lv_iconst (v := 1) hx hb dX12_clause_57 (by decide) ?_
            refine lv_iadd hx hb dX12_clause_58 ?_
            refine lv_topi (fun x_145 ex_145 => ?_)
            have h_146 : rg x_145 1 11821 := rg_of_eq ex_145 (rg_add h_144 (rg_k (1 : Int32) 1 rfl) (by decide))
            have uh_146 := h_146.1
            have vh_146 := h_146.2
            have tx_145 : (x_145).toInt = (I_135 396 this).toInt + 1 := by rw [ex_145]; exact i_add_rg (a2 := (I_135 396 this).toInt) (b2 := 1) rfl rfl h_144 (rg_k (1 : Int32) 1 rfl) (by decide)
            refine lv_bipush (v := 12) hx hb dX12_clause_59 (by decide) ?_
            refine lv_aload_n hx hb dX12_clause_61 rfl (lv_at hl 1 rfl) ?_
            refine pg_f (v := .int (I_135 397 this)) (C := RX12) (T := TX12) (N := 31) hx hb hts (tw_i inlX12) hown hK hP hL_this hK_this (by decide) rfl 13 (by decide) (hts _ (tw_c tw_822)) rfl dX12_clause_62 ?_
            have h_147 : rg (I_135 397 this) 0 19 := (by rw [eI_135, pq_uf _ _ _ (by decide)]; exact h_132)
            have uh_147 := h_147.1
            have vh_147 := h_147.2
            refine lv_imul hx hb dX12_clause_65 ?_
            refine lv_topi (fun x_148 ex_148 => ?_)
            have h_149 : rg x_148 0 228 := rg_of_eq ex_148 (rg_mul (rg_k (12 : Int32) 12 rfl) h_147 (by decide))
            have uh_149 := h_149.1
            have vh_149 := h_149.2
            have tx_148 : (x_148).toInt = 12 * (I_135 397 this).toInt := by rw [ex_148]; exact i_mul_rg (a2 := 12) (b2 := (I_135 397 this).toInt) rfl rfl (rg_k (12 : Int32) 12 rfl) h_147 (by decide)
            refine lv_iadd hx hb dX12_clause_66 ?_
            refine lv_topi (fun x_150 ex_150 => ?_)
            have h_151 : rg x_150 1 12049 := rg_of_eq ex_150 (rg_add h_146 h_149 (by decide))
            have uh_151 := h_151.1
            have vh_151 := h_151.2
            have tx_150 : (x_150).toInt = (x_145).toInt + (x_148).toInt := by rw [ex_150]; exact i_add_rg (a2 := (x_145).toInt) (b2 := (x_148).toInt) rfl rfl h_146 h_149 (by decide)
            have hcx : (x_150).toInt = 3721 + 900 * (ri this_a 6).toInt + 12 * (I 397 this).toInt := by omega
            have hC19 : rg (I 397 this) 0 19 := ⟨by omega, by omega⟩
            have h_152 : rg x_150 3721 12049 := ⟨by omega, by omega⟩
            have uh_152 := h_152.1
            have vh_152 := h_152.2
            have ceX := clampE x_150
            refine lv_istore_n (lv' := [(2, .int x_150), (1, .int x_1), (0, .ref this)]) hx hb dX12_clause_67 rfl hl (by decide) rfl (fun ls hl => ?_)
            refine lv_aload_n hx hb dX12_clause_68 rfl (lv_at hl 2 rfl) ?_
            refine pg_f (v := .ref this_a) (C := RX12) (T := TX12) (N := 31) hx hb hts (tw_i inlX12) hown hK hP hL_this hK_this (by decide) rfl 0 (by decide) (hts _ (tw_c tw_176)) (pq_hv rfl hR_this_a) dX12_clause_69 ?_
            refine lv_iload_n hx hb dX12_clause_72 rfl (lv_at hl 0 rfl) ?_
            refine lv_iload_n hx hb dX12_clause_73 rfl (lv_at hl 1 rfl) ?_
            refine pt_i hx hb hK hP hD hS hL_this_a hK_this_a hN_this_a (rg_in h_152 (by decide)) dX12_clause_74 (fun r_153 H locs er_153 hP hD hS => ?_)
            have hG := GM.wt hG hT_this_a (by decide) er_153 (zn_tc (t := (ri this_a 6).toNatClampNeg) (c := (I 397 this).toNatClampNeg) (k := 0) (by have z_i := clampE x_150; have z_0 := clampE (ri this_a 6); have z_1 := clampE (I 397 this); omega) (rg_cl1 ⟨hc1.2.1, hc1.2.2⟩ (by decide)) (rg_cl1 hC19 (by decide)) (by decide)) rfl (rg_w h_124 (by decide)) (by have z6 := congrArg Int32.toInt (hG.2.2.1 this_a hT_this_a 6 (by decide) (by decide)); have z_i := clampE x_150; omega) (by decide)
            refine lv_aload_n hx hb dX12_clause_75 rfl (lv_at hl 2 rfl) ?_
            obtain ⟨w_154, hR_w_154, hL_w_154, hK_w_154, hN_w_154, hT_w_154⟩ := sh_a hSH 387 (ci := 12) (kd := 13) (len := 300) rfl (by decide) hL_this hK_this
            refine pk_v (va_runV (As := []) (rest := []) ⟨hx, hb, hml, hown, hts⟩ (s_X12_nextToken_x l D t σ I_135 J r_153 rj rq H.size tg hSH hG.1 this hL_this hK_this w_154 hR_w_154 hL_w_154 hK_w_154 hN_w_154 hT_w_154) (cwV 0 hts (tw_V tw_832 tw_833 tw_834 tw_5 tw_835) rfl rfl rfl (by decide +kernel) ⟨Nat.le_of_ble_eq_true rfl, Nat.le_of_ble_eq_true rfl⟩) ⟨pq_blind, pq_recv hK hP hL_this hK_this (by decide) rfl, pq_pre hK hN hP hD⟩ rfl rfl hl.1 rfl (lv_room (Nat.le_of_ble_eq_true rfl)) dX12_clause_76 ⟨Nat.le_of_ble_eq_true rfl, Nat.le_of_ble_eq_true rfl⟩) hD hS hA (fun σ1 μ1 H locs hw_156 hP hD hS => ?_)
            obtain ⟨I_157, J_158, hu_159, hg_160, hp_162, hp_163, hp_164⟩ := hw_156
            obtain ⟨hu_159a, hu_159b⟩ := Prod.mk.inj hu_159
            rw [hu_159a, hu_159b] at hP hD
            have tt_165 := hp_162
            have tt_166 := hp_163
            have tt_167 := hp_164
            have tt_168 : (I_157 391 this).toInt ≤ 300 := by have z := hg_160.1.1 391 this; exact z.2
            have hG := GM.tr hG hg_160 (by decide)
            have tt_169 : (I_157 396 this).toInt = (I_135 396 this).toInt := by rw [hg_160.2.1 396 (by decide) (by decide)]
            have tt_170 : (I_157 398 this).toInt = (I_135 398 this).toInt := by rw [hg_160.2.1 398 (by decide) (by decide)]
            have tt_171 : (I_157 401 this).toInt = (I_135 401 this).toInt := by rw [hg_160.2.1 401 (by decide) (by decide)]
            have tt_172 : (I_157 402 this).toInt = (I_135 402 this).toInt := by rw [hg_160.2.1 402 (by decide) (by decide)]
            have tt_173 : (I_157 397 this).toInt = (I_135 397 this).toInt := by rw [hg_160.2.1 397 (by decide) (by decide)]
            have htmH : tmM (I_157 391 this).toInt (I_157 393 this).toInt ≤ tmM (I 391 this).toInt (I 393 this).toInt := Int.le_of_lt (tm_lt (by omega) (by omega) (by omega))
            refine lv_iconst (v := 0) hx hb dX12_clause_79 (by decide) ?_
            refine lv_istore_n (lv' := [(3, .int 0), (2, .int x_150), (1, .int x_1), (0, .ref this)]) hx hb dX12_clause_80 rfl hl (by decide) rfl (fun ls hl => ?_)
            refine lv_iload_n hx hb dX12_clause_81 rfl (lv_at hl 2 rfl) ?_
            refine lv_iconst (v := 4) hx hb dX12_clause_82 (by decide) ?_
            refine lv_icmp_gt (tgt := 118) hx hb dX12_clause_83 (by decide) (fun c_174 => ?_) (fun c_174 => ?_)
            · have tc_175 : 4 < (x_1).toInt := Int32.lt_iff_toInt_lt.mp c_174
              refine lv_iload_n hx hb dX12_clause_118 rfl (lv_at hl 2 rfl) ?_
              refine lv_bipush (v := 6) hx hb dX12_clause_119 (by decide) ?_
              refine lv_icmp_gt (tgt := 133) hx hb dX12_clause_121 (by decide) (fun c_176 => ?_) (fun c_176 => ?_)
              · have tc_177 : 6 < (x_1).toInt := Int32.lt_iff_toInt_lt.mp c_176
                have h_178 : rg x_1 7 9 := rg_lt2 c_176 (rg_k (6 : Int32) 6 rfl) h_124 (by decide)
                have uh_178 := h_178.1
                have vh_178 := h_178.2
                refine lv_aload_n hx hb dX12_clause_133 rfl (lv_at hl 3 rfl) ?_
                refine lv_iload_n hx hb dX12_clause_134 rfl (lv_at hl 2 rfl) ?_
                refine lv_bipush (v := 7) hx hb dX12_clause_135 (by decide) ?_
                refine lv_icmp_ne (tgt := 145) hx hb dX12_clause_137 (by decide) (fun c_179 => ?_) (fun c_179 => ?_)
                · have tc_180 : (x_1).toInt ≠ 7 := fun q => c_179 (Int32.toInt_inj.mp q)
                  have h_181 : rg x_1 8 9 := rg_ne c_179 h_178 7 rfl (by decide)
                  have uh_181 := h_181.1
                  have vh_181 := h_181.2
                  refine lv_iload_n hx hb dX12_clause_145 rfl (lv_at hl 2 rfl) ?_
                  refine lv_bipush (v := 8) hx hb dX12_clause_146 (by decide) ?_
                  refine lv_icmp_ne (tgt := 157) hx hb dX12_clause_148 (by decide) (fun c_182 => ?_) (fun c_182 => ?_)
                  · have tc_183 : (x_1).toInt ≠ 8 := fun q => c_182 (Int32.toInt_inj.mp q)
                    have h_184 : rg x_1 9 9 := rg_ne c_182 h_181 8 rfl (by decide)
                    have uh_184 := h_184.1
                    have vh_184 := h_184.2
                    refine lv_sipush (v := 1000) hx hb dX12_clause_157 (by decide) ?_
                    refine lv_iload_n hx hb dX12_clause_160 rfl (lv_at hl 1 rfl) ?_
                    refine lv_iconst (v := 1) hx hb dX12_clause_161 (by decide) ?_
                    refine lv_iadd hx hb dX12_clause_162 ?_
                    refine lv_topi (fun x_185 ex_185 => ?_)
                    have h_186 : rg x_185 3722 12050 := rg_of_eq ex_185 (rg_add h_152 (rg_k (1 : Int32) 1 rfl) (by decide))
                    have uh_186 := h_186.1
                    have vh_186 := h_186.2
                    have tx_185 : (x_185).toInt = (x_150).toInt + 1 := by rw [ex_185]; exact i_add_rg (a2 := (x_150).toInt) (b2 := 1) rfl rfl h_152 (rg_k (1 : Int32) 1 rfl) (by decide)
                    refine pk_i (va_runV (As := [.int 1000, .int x_185]) (rest := []) ⟨hx, hb, hml, hown, hts⟩ (s_X12_take l D t σ I_157 J_158 r_153 rj rq H.size tg hSH hG.1 this (1000 : Int32) x_185 hL_this hK_this this_a hR_this_a hL_this_a hK_this_a hN_this_a hT_this_a (by omega)) (cwV 2 hts (tw_V tw_933 tw_934 tw_935 tw_5 tw_936) rfl rfl rfl (by decide +kernel) ⟨Nat.le_of_ble_eq_true rfl, Nat.le_of_ble_eq_true rfl⟩) ⟨pq_blind, pq_recv hK hP hL_this hK_this (by decide) rfl, pq_pre hK hN hP hD⟩ rfl rfl hl.1 rfl (lv_room (Nat.le_of_ble_eq_true rfl)) dX12_clause_163 ⟨Nat.le_of_ble_eq_true rfl, Nat.le_of_ble_eq_true rfl⟩) hD hS hA (fun x_187 σ1 μ1 H locs hw_188 hP hD hS => ?_)
                    obtain ⟨I_189, J_190, ri_191, hu_192, hg_193, hp_195, hp_196, hp_197, hr_194⟩ := hw_188
                    obtain ⟨hu_192a, hu_192b⟩ := Prod.mk.inj hu_192
                    rw [hu_192a, hu_192b] at hP hD
                    have tt_198 := hp_195
                    have hG := GM.tr hG hg_193 (by decide)
                    have tt_199 : (I_189 396 this).toInt = (I_157 396 this).toInt := by rw [hg_193.2.1 396 (by decide) (by decide)]
                    have tt_200 : (I_189 398 this).toInt = (I_157 398 this).toInt := by rw [hg_193.2.1 398 (by decide) (by decide)]
                    have tt_201 : (I_189 401 this).toInt = (I_157 401 this).toInt := by rw [hg_193.2.1 401 (by decide) (by decide)]
                    have tt_202 : (I_189 402 this).toInt = (I_157 402 this).toInt := by rw [hg_193.2.1 402 (by decide) (by decide)]
                    have tt_203 : (I_189 397 this).toInt = (I_157 397 this).toInt := by rw [hg_193.2.1 397 (by decide) (by decide)]
                    refine lv_istore_n (lv' := [(3, .int x_187), (2, .int x_150), (1, .int x_1), (0, .ref this)]) hx hb dX12_clause_166 rfl hl (by decide) rfl (fun ls hl => ?_)
                    refine lv_iload_n hx hb dX12_clause_167 rfl (lv_at hl 0 rfl) ?_
                    refine lv_if_eq (tgt := 173) hx hb dX12_clause_168 (by decide) (fun c_204 => ?_) (fun c_204 => ?_)
                    · have tc_205 : (x_187).toInt = 0 := congrArg Int32.toInt c_204
                      have h_206 : rg x_187 0 0 := rg_and hr_194 (rg_of_eq c_204 (rg_k (0 : Int32) 0 rfl)) (by decide)
                      have uh_206 := h_206.1
                      have vh_206 := h_206.2
                      refine lv_aload_n hx hb dX12_clause_173 rfl (lv_at hl 3 rfl) ?_
                      refine pg_f (v := .int (I_189 393 this)) (C := RX12) (T := TX12) (N := 31) hx hb hts (tw_i inlX12) hown hK hP hL_this hK_this (by decide) rfl 9 (by decide) (hts _ (tw_c tw_831)) rfl dX12_clause_174 ?_
                      refine lv_bipush (v := 59) hx hb dX12_clause_177 (by decide) ?_
                      refine lv_icmp_eq (tgt := 184) hx hb dX12_clause_179 (by decide) (fun c_207 => ?_) (fun c_207 => ?_)
                      · have tc_208 : (I_189 393 this).toInt = 59 := congrArg Int32.toInt c_207
                        have h_209 : rg (I_189 393 this) 59 59 := rg_and (rg_full _) (rg_of_eq c_207 (rg_k (59 : Int32) 59 rfl)) (by decide)
                        have uh_209 := h_209.1
                        have vh_209 := h_209.2
                        refine lv_aload_n hx hb dX12_clause_184 rfl (lv_at hl 3 rfl) ?_
                        refine lv_dup hx hb dX12_clause_185 rfl ?_
                        refine pg_f (v := .int (I_189 397 this)) (C := RX12) (T := TX12) (N := 31) hx hb hts (tw_i inlX12) hown hK hP hL_this hK_this (by decide) rfl 13 (by decide) (hts _ (tw_c tw_822)) rfl dX12_clause_186 ?_
                        have h_210 : rg (I_189 397 this) 0 19 := (by rw [hg_193.2.1 397 (by decide) (by decide)]; exact (by rw [hg_160.2.1 397 (by decide) (by decide)]; exact h_147))
                        have uh_210 := h_210.1
                        have vh_210 := h_210.2
                        refine lv_iconst (v := 1) hx hb dX12_clause_189 (by decide) ?_
                        refine lv_iadd hx hb dX12_clause_190 ?_
                        refine lv_topi (fun x_211 ex_211 => ?_)
                        have h_212 : rg x_211 1 20 := rg_of_eq ex_211 (rg_add h_210 (rg_k (1 : Int32) 1 rfl) (by decide))
                        have uh_212 := h_212.1
                        have vh_212 := h_212.2
                        have tx_211 : (x_211).toInt = (I_189 397 this).toInt + 1 := by rw [ex_211]; exact i_add_rg (a2 := (I_189 397 this).toInt) (b2 := 1) rfl rfl h_210 (rg_k (1 : Int32) 1 rfl) (by decide)
                        refine pp_i (v := x_211) (ty := .int) (C := RX12) (T := TX12) (N := 31) hx hb hts (tw_i inlX12) tyX12 tyX12_ok nmX12 hown hK hP hD hS hL_this hK_this (by decide) rfl 13 397 (by decide) (hts _ (tw_c tw_822)) rfl (by decide +kernel) rfl rfl (Nat.le_of_ble_eq_true rfl) (ps_397 _ _ _ _ _) dX12_clause_191 (fun I_213 H locs eI_213 hP hD hS => ?_)
                        have hG := GM.wI hG 397 rfl eI_213 (rg_w h_212 (by decide)) (by decide)
                        have tt_214 : (I_213 396 this).toInt = (I_189 396 this).toInt := by rw [eI_213, pq_uf _ _ _ (by decide)]
                        have tt_215 : (I_213 398 this).toInt = (I_189 398 this).toInt := by rw [eI_213, pq_uf _ _ _ (by decide)]
                        have tt_216 : (I_213 401 this).toInt = (I_189 401 this).toInt := by rw [eI_213, pq_uf _ _ _ (by decide)]
                        have tt_217 : (I_213 402 this).toInt = (I_189 402 this).toInt := by rw [eI_213, pq_uf _ _ _ (by decide)]
                        have tt_218 : (I_213 391 this).toInt = (I_189 391 this).toInt := by rw [eI_213, pq_uf _ _ _ (by decide)]
                        have tt_219 : (I_213 393 this).toInt = (I_189 393 this).toInt := by rw [eI_213, pq_uf _ _ _ (by decide)]
                        have tt_220 : (I_213 403 this).toInt = (I_189 403 this).toInt := by rw [eI_213, pq_uf _ _ _ (by decide)]
                        have tt_221 : (I_213 397 this).toInt = (x_211).toInt := by rw [eI_213, pq_us]
                        refine lv_aload_n hx hb dX12_clause_194 rfl (lv_at hl 3 rfl) ?_
                        refine pk_v (va_runV (As := []) (rest := []) ⟨hx, hb, hml, hown, hts⟩ (s_X12_nextToken_x l D t σ I_213 J_190 ri_191 rj rq H.size tg hSH hG.1 this hL_this hK_this w_154 hR_w_154 hL_w_154 hK_w_154 hN_w_154 hT_w_154) (cwV 0 hts (tw_V tw_832 tw_833 tw_834 tw_5 tw_835) rfl rfl rfl (by decide +kernel) ⟨Nat.le_of_ble_eq_true rfl, Nat.le_of_ble_eq_true rfl⟩) ⟨pq_blind, pq_recv hK hP hL_this hK_this (by decide) rfl, pq_pre hK hN hP hD⟩ rfl rfl hl.1 rfl (lv_room (Nat.le_of_ble_eq_true rfl)) dX12_clause_195 ⟨Nat.le_of_ble_eq_true rfl, Nat.le_of_ble_eq_true rfl⟩) hD hS hA (fun σ1 μ1 H locs hw_223 hP hD hS => ?_)
                        obtain ⟨I_224, J_225, hu_226, hg_227, hp_229, hp_230, hp_231⟩ := hw_223
                        obtain ⟨hu_226a, hu_226b⟩ := Prod.mk.inj hu_226
                        rw [hu_226a, hu_226b] at hP hD
                        have tt_232 := hp_229
                        have tt_233 := hp_230
                        have tt_234 := hp_231
                        have tt_235 : (I_224 391 this).toInt ≤ 300 := by have z := hg_227.1.1 391 this; exact z.2
                        have hG := GM.tr hG hg_227 (by decide)
                        have tt_236 : (I_224 396 this).toInt = (I_213 396 this).toInt := by rw [hg_227.2.1 396 (by decide) (by decide)]
                        have tt_237 : (I_224 398 this).toInt = (I_213 398 this).toInt := by rw [hg_227.2.1 398 (by decide) (by decide)]
                        have tt_238 : (I_224 401 this).toInt = (I_213 401 this).toInt := by rw [hg_227.2.1 401 (by decide) (by decide)]
                        have tt_239 : (I_224 402 this).toInt = (I_213 402 this).toInt := by rw [hg_227.2.1 402 (by decide) (by decide)]
                        have tt_240 : (I_224 397 this).toInt = (I_213 397 this).toInt := by rw [hg_227.2.1 397 (by decide) (by decide)]
                        refine lv_iconst (v := 0) hx hb dX12_clause_198 (by decide) ?_
                        subst hQ
                        exact W.iret (v := 0) hx hb hr (fun t1 ht hW => ⟨⟨0, (σ, I_224, J_225, ri_191, rj, rq), rfl, ⟨I_224, J_225, ri_191, rfl, hG, (Or.inr ⟨(CLz_mk (by rw [show ri_191 this_a 6 = ri this_a 6 from hG.2.2.1 this_a hT_this_a 6 (by decide) (by decide)]; omega) (by rw [show (I_224 397 this).toInt = (((I 397 this).toNatClampNeg + 1 : Nat) : Int) from by omega]; have q := TXQ_other (f := ri this_a) (w := (I 398 this).toInt) (n := (I 397 this).toNatClampNeg) (ci := (x_150).toNatClampNeg) (by rw [show (((I 397 this).toNatClampNeg : Nat) : Int) = (I 397 this).toInt from by omega]; exact hcl.2.1) (by omega) ⟨by omega, by omega⟩ (by omega) (by omega) ((congrFun er_153 _).trans (va_up_self _ _ _)) (by omega) (fun j hj => hp_196 j (by omega)); rw [show (I_224 398 this).toInt = (I 398 this).toInt from by omega]; exact q) (by omega) (by omega) (by omega) (fun q => by omega) (by omega)), (by have l1 : tmM (I_224 391 this).toInt (I_224 393 this).toInt < tmM (I_213 391 this).toInt (I_213 393 this).toInt := tm_lt (by omega) (by omega) (by omega); have l2 : tmM (I_213 391 this).toInt (I_213 393 this).toInt = tmM (I_189 391 this).toInt (I_189 393 this).toInt := by rw [show (I_213 391 this).toInt = (I_189 391 this).toInt from by omega, show (I_213 393 this).toInt = (I_189 393 this).toInt from by omega]; have l3 := (Int.le_trans hp_197 htmH); omega)⟩), (rg_w (rg_k (0 : Int32) 0 rfl) (by decide))⟩, by rw [ht]; exact hP, va_K.moved hW.alike hK, hD⟩, hS.F ht⟩) hS.2.2 dX12_clause_199
                      · have tc_241 : (I_189 393 this).toInt ≠ 59 := fun q => c_207 (Int32.toInt_inj.mp q)
                        refine lv_iconst (v := 1) hx hb dX12_clause_182 (by decide) ?_
                        subst hQ
                        exact W.iret (v := 1) hx hb hr (fun t1 ht hW => ⟨⟨1, (σ, I_189, J_190, ri_191, rj, rq), rfl, ⟨I_189, J_190, ri_191, rfl, hG, (Or.inl (by decide)), (rg_w (rg_k (1 : Int32) 1 rfl) (by decide))⟩, by rw [ht]; exact hP, va_K.moved hW.alike hK, hD⟩, hS.F ht⟩) hS.2.2 dX12_clause_183
                    · have tc_242 : (x_187).toInt ≠ 0 := fun q => c_204 (Int32.toInt_inj.mp q)
                      have h_243 : rg x_187 1 2 := rg_ne c_204 hr_194 0 rfl (by decide)
                      have uh_243 := h_243.1
                      have vh_243 := h_243.2
                      refine lv_iload_n hx hb dX12_clause_171 rfl (lv_at hl 0 rfl) ?_
                      subst hQ
                      exact W.iret (v := x_187) hx hb hr (fun t1 ht hW => ⟨⟨x_187, (σ, I_189, J_190, ri_191, rj, rq), rfl, ⟨I_189, J_190, ri_191, rfl, hG, (Or.inl (by omega)), (rg_w h_243 (by decide))⟩, by rw [ht]; exact hP, va_K.moved hW.alike hK, hD⟩, hS.F ht⟩) hS.2.2 dX12_clause_172
                  · have tc_244 : (x_1).toInt = 8 := congrArg Int32.toInt c_182
                    have h_245 : rg x_1 8 8 := rg_and h_181 (rg_of_eq c_182 (rg_k (8 : Int32) 8 rfl)) (by decide)
                    have uh_245 := h_245.1
                    have vh_245 := h_245.2
                    refine lv_sipush (v := 599) hx hb dX12_clause_151 (by decide) ?_
                    refine lv_goto (tgt := 160) hx hb dX12_clause_154 (by decide) ?_
                    refine lv_iload_n hx hb dX12_clause_160 rfl (lv_at hl 1 rfl) ?_
                    refine lv_iconst (v := 1) hx hb dX12_clause_161 (by decide) ?_
                    refine lv_iadd hx hb dX12_clause_162 ?_
                    refine lv_topi (fun x_246 ex_246 => ?_)
                    have h_247 : rg x_246 3722 12050 := rg_of_eq ex_246 (rg_add h_152 (rg_k (1 : Int32) 1 rfl) (by decide))
                    have uh_247 := h_247.1
                    have vh_247 := h_247.2
                    have tx_246 : (x_246).toInt = (x_150).toInt + 1 := by rw [ex_246]; exact i_add_rg (a2 := (x_150).toInt) (b2 := 1) rfl rfl h_152 (rg_k (1 : Int32) 1 rfl) (by decide)
                    refine pk_i (va_runV (As := [.int 599, .int x_246]) (rest := []) ⟨hx, hb, hml, hown, hts⟩ (s_X12_take l D t σ I_157 J_158 r_153 rj rq H.size tg hSH hG.1 this (599 : Int32) x_246 hL_this hK_this this_a hR_this_a hL_this_a hK_this_a hN_this_a hT_this_a (by omega)) (cwV 2 hts (tw_V tw_933 tw_934 tw_935 tw_5 tw_936) rfl rfl rfl (by decide +kernel) ⟨Nat.le_of_ble_eq_true rfl, Nat.le_of_ble_eq_true rfl⟩) ⟨pq_blind, pq_recv hK hP hL_this hK_this (by decide) rfl, pq_pre hK hN hP hD⟩ rfl rfl hl.1 rfl (lv_room (Nat.le_of_ble_eq_true rfl)) dX12_clause_163 ⟨Nat.le_of_ble_eq_true rfl, Nat.le_of_ble_eq_true rfl⟩) hD hS hA (fun x_248 σ1 μ1 H locs hw_249 hP hD hS => ?_)
                    obtain ⟨I_250, J_251, ri_252, hu_253, hg_254, hp_256, hp_257, hp_258, hr_255⟩ := hw_249
                    obtain ⟨hu_253a, hu_253b⟩ := Prod.mk.inj hu_253
                    rw [hu_253a, hu_253b] at hP hD
                    have tt_259 := hp_256
                    have hG := GM.tr hG hg_254 (by decide)
                    have tt_260 : (I_250 396 this).toInt = (I_157 396 this).toInt := by rw [hg_254.2.1 396 (by decide) (by decide)]
                    have tt_261 : (I_250 398 this).toInt = (I_157 398 this).toInt := by rw [hg_254.2.1 398 (by decide) (by decide)]
                    have tt_262 : (I_250 401 this).toInt = (I_157 401 this).toInt := by rw [hg_254.2.1 401 (by decide) (by decide)]
                    have tt_263 : (I_250 402 this).toInt = (I_157 402 this).toInt := by rw [hg_254.2.1 402 (by decide) (by decide)]
                    have tt_264 : (I_250 397 this).toInt = (I_157 397 this).toInt := by rw [hg_254.2.1 397 (by decide) (by decide)]
                    refine lv_istore_n (lv' := [(3, .int x_248), (2, .int x_150), (1, .int x_1), (0, .ref this)]) hx hb dX12_clause_166 rfl hl (by decide) rfl (fun ls hl => ?_)
                    refine lv_iload_n hx hb dX12_clause_167 rfl (lv_at hl 0 rfl) ?_
                    refine lv_if_eq (tgt := 173) hx hb dX12_clause_168 (by decide) (fun c_265 => ?_) (fun c_265 => ?_)
                    · have tc_266 : (x_248).toInt = 0 := congrArg Int32.toInt c_265
                      have h_267 : rg x_248 0 0 := rg_and hr_255 (rg_of_eq c_265 (rg_k (0 : Int32) 0 rfl)) (by decide)
                      have uh_267 := h_267.1
                      have vh_267 := h_267.2
                      refine lv_aload_n hx hb dX12_clause_173 rfl (lv_at hl 3 rfl) ?_
                      refine pg_f (v := .int (I_250 393 this)) (C := RX12) (T := TX12) (N := 31) hx hb hts (tw_i inlX12) hown hK hP hL_this hK_this (by decide) rfl 9 (by decide) (hts _ (tw_c tw_831)) rfl dX12_clause_174 ?_
                      refine lv_bipush (v := 59) hx hb dX12_clause_177 (by decide) ?_
                      refine lv_icmp_eq (tgt := 184) hx hb dX12_clause_179 (by decide) (fun c_268 => ?_) (fun c_268 => ?_)
                      · have tc_269 : (I_250 393 this).toInt = 59 := congrArg Int32.toInt c_268
                        have h_270 : rg (I_250 393 this) 59 59 := rg_and (rg_full _) (rg_of_eq c_268 (rg_k (59 : Int32) 59 rfl)) (by decide)
                        have uh_270 := h_270.1
                        have vh_270 := h_270.2
                        refine lv_aload_n hx hb dX12_clause_184 rfl (lv_at hl 3 rfl) ?_
                        refine lv_dup hx hb dX12_clause_185 rfl ?_
                        refine pg_f (v := .int (I_250 397 this)) (C := RX12) (T := TX12) (N := 31) hx hb hts (tw_i inlX12) hown hK hP hL_this hK_this (by decide) rfl 13 (by decide) (hts _ (tw_c tw_822)) rfl dX12_clause_186 ?_
                        have h_271 : rg (I_250 397 this) 0 19 := (by rw [hg_254.2.1 397 (by decide) (by decide)]; exact (by rw [hg_160.2.1 397 (by decide) (by decide)]; exact h_147))
                        have uh_271 := h_271.1
                        have vh_271 := h_271.2
                        refine lv_iconst (v := 1) hx hb dX12_clause_189 (by decide) ?_
                        refine lv_iadd hx hb dX12_clause_190 ?_
                        refine lv_topi (fun x_272 ex_272 => ?_)
                        have h_273 : rg x_272 1 20 := rg_of_eq ex_272 (rg_add h_271 (rg_k (1 : Int32) 1 rfl) (by decide))
                        have uh_273 := h_273.1
                        have vh_273 := h_273.2
                        have tx_272 : (x_272).toInt = (I_250 397 this).toInt + 1 := by rw [ex_272]; exact i_add_rg (a2 := (I_250 397 this).toInt) (b2 := 1) rfl rfl h_271 (rg_k (1 : Int32) 1 rfl) (by decide)
                        refine pp_i (v := x_272) (ty := .int) (C := RX12) (T := TX12) (N := 31) hx hb hts (tw_i inlX12) tyX12 tyX12_ok nmX12 hown hK hP hD hS hL_this hK_this (by decide) rfl 13 397 (by decide) (hts _ (tw_c tw_822)) rfl (by decide +kernel) rfl rfl (Nat.le_of_ble_eq_true rfl) (ps_397 _ _ _ _ _) dX12_clause_191 (fun I_274 H locs eI_274 hP hD hS => ?_)
                        have hG := GM.wI hG 397 rfl eI_274 (rg_w h_273 (by decide)) (by decide)
                        have tt_275 : (I_274 396 this).toInt = (I_250 396 this).toInt := by rw [eI_274, pq_uf _ _ _ (by decide)]
                        have tt_276 : (I_274 398 this).toInt = (I_250 398 this).toInt := by rw [eI_274, pq_uf _ _ _ (by decide)]
                        have tt_277 : (I_274 401 this).toInt = (I_250 401 this).toInt := by rw [eI_274, pq_uf _ _ _ (by decide)]
                        have tt_278 : (I_274 402 this).toInt = (I_250 402 this).toInt := by rw [eI_274, pq_uf _ _ _ (by decide)]
                        have tt_279 : (I_274 391 this).toInt = (I_250 391 this).toInt := by rw [eI_274, pq_uf _ _ _ (by decide)]
                        have tt_280 : (I_274 393 this).toInt = (I_250 393 this).toInt := by rw [eI_274, pq_uf _ _ _ (by decide)]
                        have tt_281 : (I_274 403 this).toInt = (I_250 403 this).toInt := by rw [eI_274, pq_uf _ _ _ (by decide)]
                        have tt_282 : (I_274 397 this).toInt = (x_272).toInt := by rw [eI_274, pq_us]
                        refine lv_aload_n hx hb dX12_clause_194 rfl (lv_at hl 3 rfl) ?_
                        refine pk_v (va_runV (As := []) (rest := []) ⟨hx, hb, hml, hown, hts⟩ (s_X12_nextToken_x l D t σ I_274 J_251 ri_252 rj rq H.size tg hSH hG.1 this hL_this hK_this w_154 hR_w_154 hL_w_154 hK_w_154 hN_w_154 hT_w_154) (cwV 0 hts (tw_V tw_832 tw_833 tw_834 tw_5 tw_835) rfl rfl rfl (by decide +kernel) ⟨Nat.le_of_ble_eq_true rfl, Nat.le_of_ble_eq_true rfl⟩) ⟨pq_blind, pq_recv hK hP hL_this hK_this (by decide) rfl, pq_pre hK hN hP hD⟩ rfl rfl hl.1 rfl (lv_room (Nat.le_of_ble_eq_true rfl)) dX12_clause_195 ⟨Nat.le_of_ble_eq_true rfl, Nat.le_of_ble_eq_true rfl⟩) hD hS hA (fun σ1 μ1 H locs hw_284 hP hD hS => ?_)
                        obtain ⟨I_285, J_286, hu_287, hg_288, hp_290, hp_291, hp_292⟩ := hw_284
                        obtain ⟨hu_287a, hu_287b⟩ := Prod.mk.inj hu_287
                        rw [hu_287a, hu_287b] at hP hD
                        have tt_293 := hp_290
                        have tt_294 := hp_291
                        have tt_295 := hp_292
                        have tt_296 : (I_285 391 this).toInt ≤ 300 := by have z := hg_288.1.1 391 this; exact z.2
                        have hG := GM.tr hG hg_288 (by decide)
                        have tt_297 : (I_285 396 this).toInt = (I_274 396 this).toInt := by rw [hg_288.2.1 396 (by decide) (by decide)]
                        have tt_298 : (I_285 398 this).toInt = (I_274 398 this).toInt := by rw [hg_288.2.1 398 (by decide) (by decide)]
                        have tt_299 : (I_285 401 this).toInt = (I_274 401 this).toInt := by rw [hg_288.2.1 401 (by decide) (by decide)]
                        have tt_300 : (I_285 402 this).toInt = (I_274 402 this).toInt := by rw [hg_288.2.1 402 (by decide) (by decide)]
                        have tt_301 : (I_285 397 this).toInt = (I_274 397 this).toInt := by rw [hg_288.2.1 397 (by decide) (by decide)]
                        refine lv_iconst (v := 0) hx hb dX12_clause_198 (by decide) ?_
                        subst hQ
                        exact W.iret (v := 0) hx hb hr (fun t1 ht hW => ⟨⟨0, (σ, I_285, J_286, ri_252, rj, rq), rfl, ⟨I_285, J_286, ri_252, rfl, hG, (Or.inr ⟨(CLz_mk (by rw [show ri_252 this_a 6 = ri this_a 6 from hG.2.2.1 this_a hT_this_a 6 (by decide) (by decide)]; omega) (by rw [show (I_285 397 this).toInt = (((I 397 this).toNatClampNeg + 1 : Nat) : Int) from by omega]; have q := TXQ_other (f := ri this_a) (w := (I 398 this).toInt) (n := (I 397 this).toNatClampNeg) (ci := (x_150).toNatClampNeg) (by rw [show (((I 397 this).toNatClampNeg : Nat) : Int) = (I 397 this).toInt from by omega]; exact hcl.2.1) (by omega) ⟨by omega, by omega⟩ (by omega) (by omega) ((congrFun er_153 _).trans (va_up_self _ _ _)) (by omega) (fun j hj => hp_257 j (by omega)); rw [show (I_285 398 this).toInt = (I 398 this).toInt from by omega]; exact q) (by omega) (by omega) (by omega) (fun q => by omega) (by omega)), (by have l1 : tmM (I_285 391 this).toInt (I_285 393 this).toInt < tmM (I_274 391 this).toInt (I_274 393 this).toInt := tm_lt (by omega) (by omega) (by omega); have l2 : tmM (I_274 391 this).toInt (I_274 393 this).toInt = tmM (I_250 391 this).toInt (I_250 393 this).toInt := by rw [show (I_274 391 this).toInt = (I_250 391 this).toInt from by omega, show (I_274 393 this).toInt = (I_250 393 this).toInt from by omega]; have l3 := (Int.le_trans hp_258 htmH); omega)⟩), (rg_w (rg_k (0 : Int32) 0 rfl) (by decide))⟩, by rw [ht]; exact hP, va_K.moved hW.alike hK, hD⟩, hS.F ht⟩) hS.2.2 dX12_clause_199
                      · have tc_302 : (I_250 393 this).toInt ≠ 59 := fun q => c_268 (Int32.toInt_inj.mp q)
                        refine lv_iconst (v := 1) hx hb dX12_clause_182 (by decide) ?_
                        subst hQ
                        exact W.iret (v := 1) hx hb hr (fun t1 ht hW => ⟨⟨1, (σ, I_250, J_251, ri_252, rj, rq), rfl, ⟨I_250, J_251, ri_252, rfl, hG, (Or.inl (by decide)), (rg_w (rg_k (1 : Int32) 1 rfl) (by decide))⟩, by rw [ht]; exact hP, va_K.moved hW.alike hK, hD⟩, hS.F ht⟩) hS.2.2 dX12_clause_183
                    · have tc_303 : (x_248).toInt ≠ 0 := fun q => c_265 (Int32.toInt_inj.mp q)
                      have h_304 : rg x_248 1 2 := rg_ne c_265 hr_255 0 rfl (by decide)
                      have uh_304 := h_304.1
                      have vh_304 := h_304.2
                      refine lv_iload_n hx hb dX12_clause_171 rfl (lv_at hl 0 rfl) ?_
                      subst hQ
                      exact W.iret (v := x_248) hx hb hr (fun t1 ht hW => ⟨⟨x_248, (σ, I_250, J_251, ri_252, rj, rq), rfl, ⟨I_250, J_251, ri_252, rfl, hG, (Or.inl (by omega)), (rg_w h_304 (by decide))⟩, by rw [ht]; exact hP, va_K.moved hW.alike hK, hD⟩, hS.F ht⟩) hS.2.2 dX12_clause_172
                · have tc_305 : (x_1).toInt = 7 := congrArg Int32.toInt c_179
                  have h_306 : rg x_1 7 7 := rg_and h_178 (rg_of_eq c_179 (rg_k (7 : Int32) 7 rfl)) (by decide)
                  have uh_306 := h_306.1
                  have vh_306 := h_306.2
                  refine lv_bipush (v := 100) hx hb dX12_clause_140 (by decide) ?_
                  refine lv_goto (tgt := 160) hx hb dX12_clause_142 (by decide) ?_
                  refine lv_iload_n hx hb dX12_clause_160 rfl (lv_at hl 1 rfl) ?_
                  refine lv_iconst (v := 1) hx hb dX12_clause_161 (by decide) ?_
                  refine lv_iadd hx hb dX12_clause_162 ?_
                  refine lv_topi (fun x_307 ex_307 => ?_)
                  have h_308 : rg x_307 3722 12050 := rg_of_eq ex_307 (rg_add h_152 (rg_k (1 : Int32) 1 rfl) (by decide))
                  have uh_308 := h_308.1
                  have vh_308 := h_308.2
                  have tx_307 : (x_307).toInt = (x_150).toInt + 1 := by rw [ex_307]; exact i_add_rg (a2 := (x_150).toInt) (b2 := 1) rfl rfl h_152 (rg_k (1 : Int32) 1 rfl) (by decide)
                  refine pk_i (va_runV (As := [.int 100, .int x_307]) (rest := []) ⟨hx, hb, hml, hown, hts⟩ (s_X12_take l D t σ I_157 J_158 r_153 rj rq H.size tg hSH hG.1 this (100 : Int32) x_307 hL_this hK_this this_a hR_this_a hL_this_a hK_this_a hN_this_a hT_this_a (by omega)) (cwV 2 hts (tw_V tw_933 tw_934 tw_935 tw_5 tw_936) rfl rfl rfl (by decide +kernel) ⟨Nat.le_of_ble_eq_true rfl, Nat.le_of_ble_eq_true rfl⟩) ⟨pq_blind, pq_recv hK hP hL_this hK_this (by decide) rfl, pq_pre hK hN hP hD⟩ rfl rfl hl.1 rfl (lv_room (Nat.le_of_ble_eq_true rfl)) dX12_clause_163 ⟨Nat.le_of_ble_eq_true rfl, Nat.le_of_ble_eq_true rfl⟩) hD hS hA (fun x_309 σ1 μ1 H locs hw_310 hP hD hS => ?_)
                  obtain ⟨I_311, J_312, ri_313, hu_314, hg_315, hp_317, hp_318, hp_319, hr_316⟩ := hw_310
                  obtain ⟨hu_314a, hu_314b⟩ := Prod.mk.inj hu_314
                  rw [hu_314a, hu_314b] at hP hD
                  have tt_320 := hp_317
                  have hG := GM.tr hG hg_315 (by decide)
                  have tt_321 : (I_311 396 this).toInt = (I_157 396 this).toInt := by rw [hg_315.2.1 396 (by decide) (by decide)]
                  have tt_322 : (I_311 398 this).toInt = (I_157 398 this).toInt := by rw [hg_315.2.1 398 (by decide) (by decide)]
                  have tt_323 : (I_311 401 this).toInt = (I_157 401 this).toInt := by rw [hg_315.2.1 401 (by decide) (by decide)]
                  have tt_324 : (I_311 402 this).toInt = (I_157 402 this).toInt := by rw [hg_315.2.1 402 (by decide) (by decide)]
                  have tt_325 : (I_311 397 this).toInt = (I_157 397 this).toInt := by rw [hg_315.2.1 397 (by decide) (by decide)]
                  refine lv_istore_n (lv' := [(3, .int x_309), (2, .int x_150), (1, .int x_1), (0, .ref this)]) hx hb dX12_clause_166 rfl hl (by decide) rfl (fun ls hl => ?_)
                  refine lv_iload_n hx hb dX12_clause_167 rfl (lv_at hl 0 rfl) ?_
                  refine lv_if_eq (tgt := 173) hx hb dX12_clause_168 (by decide) (fun c_326 => ?_) (fun c_326 => ?_)
                  · have tc_327 : (x_309).toInt = 0 := congrArg Int32.toInt c_326
                    have h_328 : rg x_309 0 0 := rg_and hr_316 (rg_of_eq c_326 (rg_k (0 : Int32) 0 rfl)) (by decide)
                    have uh_328 := h_328.1
                    have vh_328 := h_328.2
                    refine lv_aload_n hx hb dX12_clause_173 rfl (lv_at hl 3 rfl) ?_
                    refine pg_f (v := .int (I_311 393 this)) (C := RX12) (T := TX12) (N := 31) hx hb hts (tw_i inlX12) hown hK hP hL_this hK_this (by decide) rfl 9 (by decide) (hts _ (tw_c tw_831)) rfl dX12_clause_174 ?_
                    refine lv_bipush (v := 59) hx hb dX12_clause_177 (by decide) ?_
                    refine lv_icmp_eq (tgt := 184) hx hb dX12_clause_179 (by decide) (fun c_329 => ?_) (fun c_329 => ?_)
                    · have tc_330 : (I_311 393 this).toInt = 59 := congrArg Int32.toInt c_329
                      have h_331 : rg (I_311 393 this) 59 59 := rg_and (rg_full _) (rg_of_eq c_329 (rg_k (59 : Int32) 59 rfl)) (by decide)
                      have uh_331 := h_331.1
                      have vh_331 := h_331.2
                      refine lv_aload_n hx hb dX12_clause_184 rfl (lv_at hl 3 rfl) ?_
                      refine lv_dup hx hb dX12_clause_185 rfl ?_
                      refine pg_f (v := .int (I_311 397 this)) (C := RX12) (T := TX12) (N := 31) hx hb hts (tw_i inlX12) hown hK hP hL_this hK_this (by decide) rfl 13 (by decide) (hts _ (tw_c tw_822)) rfl dX12_clause_186 ?_
                      have h_332 : rg (I_311 397 this) 0 19 := (by rw [hg_315.2.1 397 (by decide) (by decide)]; exact (by rw [hg_160.2.1 397 (by decide) (by decide)]; exact h_147))
                      have uh_332 := h_332.1
                      have vh_332 := h_332.2
                      refine lv_iconst (v := 1) hx hb dX12_clause_189 (by decide) ?_
                      refine lv_iadd hx hb dX12_clause_190 ?_
                      refine lv_topi (fun x_333 ex_333 => ?_)
                      have h_334 : rg x_333 1 20 := rg_of_eq ex_333 (rg_add h_332 (rg_k (1 : Int32) 1 rfl) (by decide))
                      have uh_334 := h_334.1
                      have vh_334 := h_334.2
                      have tx_333 : (x_333).toInt = (I_311 397 this).toInt + 1 := by rw [ex_333]; exact i_add_rg (a2 := (I_311 397 this).toInt) (b2 := 1) rfl rfl h_332 (rg_k (1 : Int32) 1 rfl) (by decide)
                      refine pp_i (v := x_333) (ty := .int) (C := RX12) (T := TX12) (N := 31) hx hb hts (tw_i inlX12) tyX12 tyX12_ok nmX12 hown hK hP hD hS hL_this hK_this (by decide) rfl 13 397 (by decide) (hts _ (tw_c tw_822)) rfl (by decide +kernel) rfl rfl (Nat.le_of_ble_eq_true rfl) (ps_397 _ _ _ _ _) dX12_clause_191 (fun I_335 H locs eI_335 hP hD hS => ?_)
                      have hG := GM.wI hG 397 rfl eI_335 (rg_w h_334 (by decide)) (by decide)
                      have tt_336 : (I_335 396 this).toInt = (I_311 396 this).toInt := by rw [eI_335, pq_uf _ _ _ (by decide)]
                      have tt_337 : (I_335 398 this).toInt = (I_311 398 this).toInt := by rw [eI_335, pq_uf _ _ _ (by decide)]
                      have tt_338 : (I_335 401 this).toInt = (I_311 401 this).toInt := by rw [eI_335, pq_uf _ _ _ (by decide)]
                      have tt_339 : (I_335 402 this).toInt = (I_311 402 this).toInt := by rw [eI_335, pq_uf _ _ _ (by decide)]
                      have tt_340 : (I_335 391 this).toInt = (I_311 391 this).toInt := by rw [eI_335, pq_uf _ _ _ (by decide)]
                      have tt_341 : (I_335 393 this).toInt = (I_311 393 this).toInt := by rw [eI_335, pq_uf _ _ _ (by decide)]
                      have tt_342 : (I_335 403 this).toInt = (I_311 403 this).toInt := by rw [eI_335, pq_uf _ _ _ (by decide)]
                      have tt_343 : (I_335 397 this).toInt = (x_333).toInt := by rw [eI_335, pq_us]
                      refine lv_aload_n hx hb dX12_clause_194 rfl (lv_at hl 3 rfl) ?_
                      refine pk_v (va_runV (As := []) (rest := []) ⟨hx, hb, hml, hown, hts⟩ (s_X12_nextToken_x l D t σ I_335 J_312 ri_313 rj rq H.size tg hSH hG.1 this hL_this hK_this w_154 hR_w_154 hL_w_154 hK_w_154 hN_w_154 hT_w_154) (cwV 0 hts (tw_V tw_832 tw_833 tw_834 tw_5 tw_835) rfl rfl rfl (by decide +kernel) ⟨Nat.le_of_ble_eq_true rfl, Nat.le_of_ble_eq_true rfl⟩) ⟨pq_blind, pq_recv hK hP hL_this hK_this (by decide) rfl, pq_pre hK hN hP hD⟩ rfl rfl hl.1 rfl (lv_room (Nat.le_of_ble_eq_true rfl)) dX12_clause_195 ⟨Nat.le_of_ble_eq_true rfl, Nat.le_of_ble_eq_true rfl⟩) hD hS hA (fun σ1 μ1 H locs hw_345 hP hD hS => ?_)
                      obtain ⟨I_346, J_347, hu_348, hg_349, hp_351, hp_352, hp_353⟩ := hw_345
                      obtain ⟨hu_348a, hu_348b⟩ := Prod.mk.inj hu_348
                      rw [hu_348a, hu_348b] at hP hD
                      have tt_354 := hp_351
                      have tt_355 := hp_352
                      have tt_356 := hp_353
                      have tt_357 : (I_346 391 this).toInt ≤ 300 := by have z := hg_349.1.1 391 this; exact z.2
                      have hG := GM.tr hG hg_349 (by decide)
                      have tt_358 : (I_346 396 this).toInt = (I_335 396 this).toInt := by rw [hg_349.2.1 396 (by decide) (by decide)]
                      have tt_359 : (I_346 398 this).toInt = (I_335 398 this).toInt := by rw [hg_349.2.1 398 (by decide) (by decide)]
                      have tt_360 : (I_346 401 this).toInt = (I_335 401 this).toInt := by rw [hg_349.2.1 401 (by decide) (by decide)]
                      have tt_361 : (I_346 402 this).toInt = (I_335 402 this).toInt := by rw [hg_349.2.1 402 (by decide) (by decide)]
                      have tt_362 : (I_346 397 this).toInt = (I_335 397 this).toInt := by rw [hg_349.2.1 397 (by decide) (by decide)]
                      refine lv_iconst (v := 0) hx hb dX12_clause_198 (by decide) ?_
                      subst hQ
                      exact W.iret (v := 0) hx hb hr (fun t1 ht hW => ⟨⟨0, (σ, I_346, J_347, ri_313, rj, rq), rfl, ⟨I_346, J_347, ri_313, rfl, hG, (Or.inr ⟨(CLz_mk (by rw [show ri_313 this_a 6 = ri this_a 6 from hG.2.2.1 this_a hT_this_a 6 (by decide) (by decide)]; omega) (by rw [show (I_346 397 this).toInt = (((I 397 this).toNatClampNeg + 1 : Nat) : Int) from by omega]; have q := TXQ_other (f := ri this_a) (w := (I 398 this).toInt) (n := (I 397 this).toNatClampNeg) (ci := (x_150).toNatClampNeg) (by rw [show (((I 397 this).toNatClampNeg : Nat) : Int) = (I 397 this).toInt from by omega]; exact hcl.2.1) (by omega) ⟨by omega, by omega⟩ (by omega) (by omega) ((congrFun er_153 _).trans (va_up_self _ _ _)) (by omega) (fun j hj => hp_318 j (by omega)); rw [show (I_346 398 this).toInt = (I 398 this).toInt from by omega]; exact q) (by omega) (by omega) (by omega) (fun q => by omega) (by omega)), (by have l1 : tmM (I_346 391 this).toInt (I_346 393 this).toInt < tmM (I_335 391 this).toInt (I_335 393 this).toInt := tm_lt (by omega) (by omega) (by omega); have l2 : tmM (I_335 391 this).toInt (I_335 393 this).toInt = tmM (I_311 391 this).toInt (I_311 393 this).toInt := by rw [show (I_335 391 this).toInt = (I_311 391 this).toInt from by omega, show (I_335 393 this).toInt = (I_311 393 this).toInt from by omega]; have l3 := (Int.le_trans hp_319 htmH); omega)⟩), (rg_w (rg_k (0 : Int32) 0 rfl) (by decide))⟩, by rw [ht]; exact hP, va_K.moved hW.alike hK, hD⟩, hS.F ht⟩) hS.2.2 dX12_clause_199
                    · have tc_363 : (I_311 393 this).toInt ≠ 59 := fun q => c_329 (Int32.toInt_inj.mp q)
                      refine lv_iconst (v := 1) hx hb dX12_clause_182 (by decide) ?_
                      subst hQ
                      exact W.iret (v := 1) hx hb hr (fun t1 ht hW => ⟨⟨1, (σ, I_311, J_312, ri_313, rj, rq), rfl, ⟨I_311, J_312, ri_313, rfl, hG, (Or.inl (by decide)), (rg_w (rg_k (1 : Int32) 1 rfl) (by decide))⟩, by rw [ht]; exact hP, va_K.moved hW.alike hK, hD⟩, hS.F ht⟩) hS.2.2 dX12_clause_183
                  · have tc_364 : (x_309).toInt ≠ 0 := fun q => c_326 (Int32.toInt_inj.mp q)
                    have h_365 : rg x_309 1 2 := rg_ne c_326 hr_316 0 rfl (by decide)
                    have uh_365 := h_365.1
                    have vh_365 := h_365.2
                    refine lv_iload_n hx hb dX12_clause_171 rfl (lv_at hl 0 rfl) ?_
                    subst hQ
                    exact W.iret (v := x_309) hx hb hr (fun t1 ht hW => ⟨⟨x_309, (σ, I_311, J_312, ri_313, rj, rq), rfl, ⟨I_311, J_312, ri_313, rfl, hG, (Or.inl (by omega)), (rg_w h_365 (by decide))⟩, by rw [ht]; exact hP, va_K.moved hW.alike hK, hD⟩, hS.F ht⟩) hS.2.2 dX12_clause_172
              · have tc_366 : (x_1).toInt ≤ 6 := Int32.le_iff_toInt_le.mp (nlt c_176)
                have h_367 : rg x_1 5 6 := rg_le1 (nlt c_176) h_124 (rg_k (6 : Int32) 6 rfl) (by decide)
                have uh_367 := h_367.1
                have vh_367 := h_367.2
                refine lv_aload_n hx hb dX12_clause_124 rfl (lv_at hl 3 rfl) ?_
                refine lv_iload_n hx hb dX12_clause_125 rfl (lv_at hl 1 rfl) ?_
                refine pk_i (va_runV (As := [.int x_150]) (rest := []) ⟨hx, hb, hml, hown, hts⟩ (s_X12_keys l D t σ I_157 J_158 r_153 rj rq H.size tg hSH hG.1 this x_150 hL_this hK_this this_a hR_this_a hL_this_a hK_this_a hN_this_a hT_this_a (by omega)) (cwV 1 hts (tw_V tw_929 tw_930 tw_931 tw_5 tw_932) rfl rfl rfl (by decide +kernel) ⟨Nat.le_of_ble_eq_true rfl, Nat.le_of_ble_eq_true rfl⟩) ⟨pq_blind, pq_recv hK hP hL_this hK_this (by decide) rfl, pq_pre hK hN hP hD⟩ rfl rfl hl.1 rfl (lv_room (Nat.le_of_ble_eq_true rfl)) dX12_clause_126 ⟨Nat.le_of_ble_eq_true rfl, Nat.le_of_ble_eq_true rfl⟩) hD hS hA (fun x_368 σ1 μ1 H locs hw_369 hP hD hS => ?_)
                obtain ⟨I_370, J_371, ri_372, hu_373, hg_374, hp_376, hp_377, hp_378, hr_375⟩ := hw_369
                obtain ⟨hu_373a, hu_373b⟩ := Prod.mk.inj hu_373
                rw [hu_373a, hu_373b] at hP hD
                have tt_379 := hp_376
                have hG := GM.tr hG hg_374 (by decide)
                have tt_380 : (I_370 396 this).toInt = (I_157 396 this).toInt := by rw [hg_374.2.1 396 (by decide) (by decide)]
                have tt_381 : (I_370 398 this).toInt = (I_157 398 this).toInt := by rw [hg_374.2.1 398 (by decide) (by decide)]
                have tt_382 : (I_370 401 this).toInt = (I_157 401 this).toInt := by rw [hg_374.2.1 401 (by decide) (by decide)]
                have tt_383 : (I_370 402 this).toInt = (I_157 402 this).toInt := by rw [hg_374.2.1 402 (by decide) (by decide)]
                have tt_384 : (I_370 397 this).toInt = (I_157 397 this).toInt := by rw [hg_374.2.1 397 (by decide) (by decide)]
                refine lv_istore_n (lv' := [(3, .int x_368), (2, .int x_150), (1, .int x_1), (0, .ref this)]) hx hb dX12_clause_129 rfl hl (by decide) rfl (fun ls hl => ?_)
                refine lv_goto (tgt := 167) hx hb dX12_clause_130 (by decide) ?_
                refine lv_iload_n hx hb dX12_clause_167 rfl (lv_at hl 0 rfl) ?_
                refine lv_if_eq (tgt := 173) hx hb dX12_clause_168 (by decide) (fun c_385 => ?_) (fun c_385 => ?_)
                · have tc_386 : (x_368).toInt = 0 := congrArg Int32.toInt c_385
                  have h_387 : rg x_368 0 0 := rg_and hr_375 (rg_of_eq c_385 (rg_k (0 : Int32) 0 rfl)) (by decide)
                  have uh_387 := h_387.1
                  have vh_387 := h_387.2
                  refine lv_aload_n hx hb dX12_clause_173 rfl (lv_at hl 3 rfl) ?_
                  refine pg_f (v := .int (I_370 393 this)) (C := RX12) (T := TX12) (N := 31) hx hb hts (tw_i inlX12) hown hK hP hL_this hK_this (by decide) rfl 9 (by decide) (hts _ (tw_c tw_831)) rfl dX12_clause_174 ?_
                  refine lv_bipush (v := 59) hx hb dX12_clause_177 (by decide) ?_
                  refine lv_icmp_eq (tgt := 184) hx hb dX12_clause_179 (by decide) (fun c_388 => ?_) (fun c_388 => ?_)
                  · have tc_389 : (I_370 393 this).toInt = 59 := congrArg Int32.toInt c_388
                    have h_390 : rg (I_370 393 this) 59 59 := rg_and (rg_full _) (rg_of_eq c_388 (rg_k (59 : Int32) 59 rfl)) (by decide)
                    have uh_390 := h_390.1
                    have vh_390 := h_390.2
                    refine lv_aload_n hx hb dX12_clause_184 rfl (lv_at hl 3 rfl) ?_
                    refine lv_dup hx hb dX12_clause_185 rfl ?_
                    refine pg_f (v := .int (I_370 397 this)) (C := RX12) (T := TX12) (N := 31) hx hb hts (tw_i inlX12) hown hK hP hL_this hK_this (by decide) rfl 13 (by decide) (hts _ (tw_c tw_822)) rfl dX12_clause_186 ?_
                    have h_391 : rg (I_370 397 this) 0 19 := (by rw [hg_374.2.1 397 (by decide) (by decide)]; exact (by rw [hg_160.2.1 397 (by decide) (by decide)]; exact h_147))
                    have uh_391 := h_391.1
                    have vh_391 := h_391.2
                    refine lv_iconst (v := 1) hx hb dX12_clause_189 (by decide) ?_
                    refine lv_iadd hx hb dX12_clause_190 ?_
                    refine lv_topi (fun x_392 ex_392 => ?_)
                    have h_393 : rg x_392 1 20 := rg_of_eq ex_392 (rg_add h_391 (rg_k (1 : Int32) 1 rfl) (by decide))
                    have uh_393 := h_393.1
                    have vh_393 := h_393.2
                    have tx_392 : (x_392).toInt = (I_370 397 this).toInt + 1 := by rw [ex_392]; exact i_add_rg (a2 := (I_370 397 this).toInt) (b2 := 1) rfl rfl h_391 (rg_k (1 : Int32) 1 rfl) (by decide)
                    refine pp_i (v := x_392) (ty := .int) (C := RX12) (T := TX12) (N := 31) hx hb hts (tw_i inlX12) tyX12 tyX12_ok nmX12 hown hK hP hD hS hL_this hK_this (by decide) rfl 13 397 (by decide) (hts _ (tw_c tw_822)) rfl (by decide +kernel) rfl rfl (Nat.le_of_ble_eq_true rfl) (ps_397 _ _ _ _ _) dX12_clause_191 (fun I_394 H locs eI_394 hP hD hS => ?_)
                    have hG := GM.wI hG 397 rfl eI_394 (rg_w h_393 (by decide)) (by decide)
                    have tt_395 : (I_394 396 this).toInt = (I_370 396 this).toInt := by rw [eI_394, pq_uf _ _ _ (by decide)]
                    have tt_396 : (I_394 398 this).toInt = (I_370 398 this).toInt := by rw [eI_394, pq_uf _ _ _ (by decide)]
                    have tt_397 : (I_394 401 this).toInt = (I_370 401 this).toInt := by rw [eI_394, pq_uf _ _ _ (by decide)]
                    have tt_398 : (I_394 402 this).toInt = (I_370 402 this).toInt := by rw [eI_394, pq_uf _ _ _ (by decide)]
                    have tt_399 : (I_394 391 this).toInt = (I_370 391 this).toInt := by rw [eI_394, pq_uf _ _ _ (by decide)]
                    have tt_400 : (I_394 393 this).toInt = (I_370 393 this).toInt := by rw [eI_394, pq_uf _ _ _ (by decide)]
                    have tt_401 : (I_394 403 this).toInt = (I_370 403 this).toInt := by rw [eI_394, pq_uf _ _ _ (by decide)]
                    have tt_402 : (I_394 397 this).toInt = (x_392).toInt := by rw [eI_394, pq_us]
                    refine lv_aload_n hx hb dX12_clause_194 rfl (lv_at hl 3 rfl) ?_
                    refine pk_v (va_runV (As := []) (rest := []) ⟨hx, hb, hml, hown, hts⟩ (s_X12_nextToken_x l D t σ I_394 J_371 ri_372 rj rq H.size tg hSH hG.1 this hL_this hK_this w_154 hR_w_154 hL_w_154 hK_w_154 hN_w_154 hT_w_154) (cwV 0 hts (tw_V tw_832 tw_833 tw_834 tw_5 tw_835) rfl rfl rfl (by decide +kernel) ⟨Nat.le_of_ble_eq_true rfl, Nat.le_of_ble_eq_true rfl⟩) ⟨pq_blind, pq_recv hK hP hL_this hK_this (by decide) rfl, pq_pre hK hN hP hD⟩ rfl rfl hl.1 rfl (lv_room (Nat.le_of_ble_eq_true rfl)) dX12_clause_195 ⟨Nat.le_of_ble_eq_true rfl, Nat.le_of_ble_eq_true rfl⟩) hD hS hA (fun σ1 μ1 H locs hw_404 hP hD hS => ?_)
                    obtain ⟨I_405, J_406, hu_407, hg_408, hp_410, hp_411, hp_412⟩ := hw_404
                    obtain ⟨hu_407a, hu_407b⟩ := Prod.mk.inj hu_407
                    rw [hu_407a, hu_407b] at hP hD
                    have tt_413 := hp_410
                    have tt_414 := hp_411
                    have tt_415 := hp_412
                    have tt_416 : (I_405 391 this).toInt ≤ 300 := by have z := hg_408.1.1 391 this; exact z.2
                    have hG := GM.tr hG hg_408 (by decide)
                    have tt_417 : (I_405 396 this).toInt = (I_394 396 this).toInt := by rw [hg_408.2.1 396 (by decide) (by decide)]
                    have tt_418 : (I_405 398 this).toInt = (I_394 398 this).toInt := by rw [hg_408.2.1 398 (by decide) (by decide)]
                    have tt_419 : (I_405 401 this).toInt = (I_394 401 this).toInt := by rw [hg_408.2.1 401 (by decide) (by decide)]
                    have tt_420 : (I_405 402 this).toInt = (I_394 402 this).toInt := by rw [hg_408.2.1 402 (by decide) (by decide)]
                    have tt_421 : (I_405 397 this).toInt = (I_394 397 this).toInt := by rw [hg_408.2.1 397 (by decide) (by decide)]
                    refine lv_iconst (v := 0) hx hb dX12_clause_198 (by decide) ?_
                    subst hQ
                    exact W.iret (v := 0) hx hb hr (fun t1 ht hW => ⟨⟨0, (σ, I_405, J_406, ri_372, rj, rq), rfl, ⟨I_405, J_406, ri_372, rfl, hG, (Or.inr ⟨(CLz_mk (by rw [show ri_372 this_a 6 = ri this_a 6 from hG.2.2.1 this_a hT_this_a 6 (by decide) (by decide)]; omega) (by rw [show (I_405 397 this).toInt = (((I 397 this).toNatClampNeg + 1 : Nat) : Int) from by omega]; have q := TXQ_other (f := ri this_a) (w := (I 398 this).toInt) (n := (I 397 this).toNatClampNeg) (ci := (x_150).toNatClampNeg) (by rw [show (((I 397 this).toNatClampNeg : Nat) : Int) = (I 397 this).toInt from by omega]; exact hcl.2.1) (by omega) ⟨by omega, by omega⟩ (by omega) (by omega) ((congrFun er_153 _).trans (va_up_self _ _ _)) (by omega) (fun j hj => hp_377 j (by omega)); rw [show (I_405 398 this).toInt = (I 398 this).toInt from by omega]; exact q) (by omega) (by omega) (by omega) (fun q => by omega) (by omega)), (by have l1 : tmM (I_405 391 this).toInt (I_405 393 this).toInt < tmM (I_394 391 this).toInt (I_394 393 this).toInt := tm_lt (by omega) (by omega) (by omega); have l2 : tmM (I_394 391 this).toInt (I_394 393 this).toInt = tmM (I_370 391 this).toInt (I_370 393 this).toInt := by rw [show (I_394 391 this).toInt = (I_370 391 this).toInt from by omega, show (I_394 393 this).toInt = (I_370 393 this).toInt from by omega]; have l3 := (Int.le_trans hp_378 htmH); omega)⟩), (rg_w (rg_k (0 : Int32) 0 rfl) (by decide))⟩, by rw [ht]; exact hP, va_K.moved hW.alike hK, hD⟩, hS.F ht⟩) hS.2.2 dX12_clause_199
                  · have tc_422 : (I_370 393 this).toInt ≠ 59 := fun q => c_388 (Int32.toInt_inj.mp q)
                    refine lv_iconst (v := 1) hx hb dX12_clause_182 (by decide) ?_
                    subst hQ
                    exact W.iret (v := 1) hx hb hr (fun t1 ht hW => ⟨⟨1, (σ, I_370, J_371, ri_372, rj, rq), rfl, ⟨I_370, J_371, ri_372, rfl, hG, (Or.inl (by decide)), (rg_w (rg_k (1 : Int32) 1 rfl) (by decide))⟩, by rw [ht]; exact hP, va_K.moved hW.alike hK, hD⟩, hS.F ht⟩) hS.2.2 dX12_clause_183
                · have tc_423 : (x_368).toInt ≠ 0 := fun q => c_385 (Int32.toInt_inj.mp q)
                  have h_424 : rg x_368 1 5 := rg_ne c_385 hr_375 0 rfl (by decide)
                  have uh_424 := h_424.1
                  have vh_424 := h_424.2
                  refine lv_iload_n hx hb dX12_clause_171 rfl (lv_at hl 0 rfl) ?_
                  subst hQ
                  exact W.iret (v := x_368) hx hb hr (fun t1 ht hW => ⟨⟨x_368, (σ, I_370, J_371, ri_372, rj, rq), rfl, ⟨I_370, J_371, ri_372, rfl, hG, (Or.inl (by omega)), (rg_w h_424 (by decide))⟩, by rw [ht]; exact hP, va_K.moved hW.alike hK, hD⟩, hS.F ht⟩) hS.2.2 dX12_clause_172
            · have tc_425 : (x_1).toInt ≤ 4 := Int32.le_iff_toInt_le.mp (nlt c_174)
              exact (rg_empty (rg_le1 (nlt c_174) h_124 (rg_k (4 : Int32) 4 rfl) (lo := 5) (hi := 4) (by decide)) (by decide)).elim
          · have tc_426 : (I 397 this).toInt = 20 := congrArg Int32.toInt c_130
            have h_427 : rg (I 397 this) 20 20 := rg_and h_129 (rg_of_eq c_130 (rg_k (20 : Int32) 20 rfl)) (by decide)
            have uh_427 := h_427.1
            have vh_427 := h_427.2
            refine lv_iconst (v := 5) hx hb dX12_clause_39 (by decide) ?_
            subst hQ
            exact W.iret (v := 5) hx hb hr (fun t1 ht hW => ⟨⟨5, (σ, I, J, ri, rj, rq), rfl, ⟨I, J, ri, rfl, hG, (Or.inl (by decide)), (rg_w (rg_k (5 : Int32) 5 rfl) (by decide))⟩, by rw [ht]; exact hP, va_K.moved hW.alike hK, hD⟩, hS.F ht⟩) hS.2.2 dX12_clause_40
        · have tc_428 : (x_126).toInt = 1 := congrArg Int32.toInt c_127
          have h_429 : rg x_126 1 1 := rg_and (rg_full _) (rg_of_eq c_127 (rg_k (1 : Int32) 1 rfl)) (by decide)
          have uh_429 := h_429.1
          have vh_429 := h_429.2
          refine lv_iconst (v := 4) hx hb dX12_clause_28 (by decide) ?_
          subst hQ
          exact W.iret (v := 4) hx hb hr (fun t1 ht hW => ⟨⟨4, (σ, I, J, ri, rj, rq), rfl, ⟨I, J, ri, rfl, hG, (Or.inl (by decide)), (rg_w (rg_k (4 : Int32) 4 rfl) (by decide))⟩, by rw [ht]; exact hP, va_K.moved hW.alike hK, hD⟩, hS.F ht⟩) hS.2.2 dX12_clause_29
    · have tc_430 : (x_1).toInt = 0 := congrArg Int32.toInt c_8
      have h_431 : rg x_1 0 0 := rg_and hr_5 (rg_of_eq c_8 (rg_k (0 : Int32) 0 rfl)) (by decide)
      have uh_431 := h_431.1
      have vh_431 := h_431.2
      refine lv_iconst (v := 1) hx hb dX12_clause_9 (by decide) ?_
      subst hQ
      exact W.iret (v := 1) hx hb hr (fun t1 ht hW => ⟨⟨1, (σ, I, J, ri, rj, rq), rfl, ⟨I, J, ri, rfl, hG, (Or.inl (by decide)), (rg_w (rg_k (1 : Int32) 1 rfl) (by decide))⟩, by rw [ht]; exact hP, va_K.moved hW.alike hK, hD⟩, hS.F ht⟩) hS.2.2 dX12_clause_10
  exact go _ _ _ hP hD hS hl
