theorem dX12_isOfKin_0 : decode cX12_isOfKin 0 = .ok (.iload_n 1, 1) := oc_27 (by decide +kernel)
theorem dX12_isOfKin_1 : decode cX12_isOfKin 1 = .ok (.iload_n 2, 1) := oc_28 (by decide +kernel)
theorem dX12_isOfKin_39 : decode cX12_isOfKin 39 = .ok (.iconst 1, 1) := oc_4 (by decide +kernel)
theorem dX12_isOfKin_40 : decode cX12_isOfKin 40 = .ok (.goto 4, 3) := oc_167 (a := 0) (b := 4) (by decide +kernel)
theorem dX12_isOfKin_44 : decode cX12_isOfKin 44 = .ok (.ireturn, 1) := oc_172 (by decide +kernel)
theorem dX12_isOfKin_2 : decode cX12_isOfKin 2 = .ok (.if_icmp .eq 37, 3) := oc_159 (a := 0) (b := 37) (by decide +kernel)
theorem dX12_isOfKin_5 : decode cX12_isOfKin 5 = .ok (.aload_n 0, 1) := oc_42 (by decide +kernel)
theorem tw_189 : Cond.fieldLink RX12 49 "RingsUnderModel" "looked" "[Z" ∈ wsL_law := sg_8 _ (List.mem_of_getElem? (i := 21) rfl)
theorem dX12_isOfKin_6 : decode cX12_isOfKin 6 = .ok (.getfield 49, 3) := oc_180 (a := 0) (b := 49) (by decide +kernel)
theorem dX12_isOfKin_9 : decode cX12_isOfKin 9 = .ok (.iload_n 1, 1) := oc_27 (by decide +kernel)
theorem dX12_isOfKin_10 : decode cX12_isOfKin 10 = .ok (.baload, 1) := oc_51 (by decide +kernel)
theorem dX12_isOfKin_43 : decode cX12_isOfKin 43 = .ok (.iconst 0, 1) := oc_3 (by decide +kernel)
theorem dX12_isOfKin_11 : decode cX12_isOfKin 11 = .ok (.ifCond .ne 32, 3) := oc_154 (a := 0) (b := 32) (by decide +kernel)
theorem dX12_isOfKin_14 : decode cX12_isOfKin 14 = .ok (.aload_n 0, 1) := oc_42 (by decide +kernel)
theorem dX12_isOfKin_15 : decode cX12_isOfKin 15 = .ok (.iload_n 1, 1) := oc_27 (by decide +kernel)
theorem dX12_isOfKin_16 : decode cX12_isOfKin 16 = .ok (.iconst 0, 1) := oc_3 (by decide +kernel)
theorem dX12_isOfKin_17 : decode cX12_isOfKin 17 = .ok (.invokevirtual 94, 3) := oc_182 (a := 0) (b := 94) (by decide +kernel)
theorem dX12_isOfKin_20 : decode cX12_isOfKin 20 = .ok (.aload_n 0, 1) := oc_42 (by decide +kernel)
theorem dX12_isOfKin_21 : decode cX12_isOfKin 21 = .ok (.iload_n 2, 1) := oc_28 (by decide +kernel)
theorem dX12_isOfKin_22 : decode cX12_isOfKin 22 = .ok (.iconst 0, 1) := oc_3 (by decide +kernel)
theorem dX12_isOfKin_23 : decode cX12_isOfKin 23 = .ok (.invokevirtual 94, 3) := oc_182 (a := 0) (b := 94) (by decide +kernel)
theorem dX12_isOfKin_26 : decode cX12_isOfKin 26 = .ok (.if_icmp .ne 17, 3) := oc_160 (a := 0) (b := 17) (by decide +kernel)
theorem dX12_isOfKin_29 : decode cX12_isOfKin 29 = .ok (.aload_n 0, 1) := oc_42 (by decide +kernel)
theorem dX12_isOfKin_30 : decode cX12_isOfKin 30 = .ok (.iload_n 1, 1) := oc_27 (by decide +kernel)
theorem dX12_isOfKin_31 : decode cX12_isOfKin 31 = .ok (.iconst 3, 1) := oc_6 (by decide +kernel)
theorem dX12_isOfKin_32 : decode cX12_isOfKin 32 = .ok (.invokevirtual 94, 3) := oc_182 (a := 0) (b := 94) (by decide +kernel)
theorem dX12_isOfKin_35 : decode cX12_isOfKin 35 = .ok (.iload_n 3, 1) := oc_29 (by decide +kernel)
theorem dX12_isOfKin_36 : decode cX12_isOfKin 36 = .ok (.if_icmp .ne 7, 3) := oc_160 (a := 0) (b := 7) (by decide +kernel)
theorem dX12_family_0 : decode cX12_family 0 = .ok (.aload_n 0, 1) := oc_42 (by decide +kernel)
theorem dX12_family_1 : decode cX12_family 1 = .ok (.iload_n 1, 1) := oc_27 (by decide +kernel)
theorem dX12_family_2 : decode cX12_family 2 = .ok (.iconst 3, 1) := oc_6 (by decide +kernel)
theorem dX12_family_3 : decode cX12_family 3 = .ok (.invokevirtual 94, 3) := oc_182 (a := 0) (b := 94) (by decide +kernel)
theorem dX12_family_6 : decode cX12_family 6 = .ok (.istore 4, 2) := oc_54 (by decide +kernel)
theorem dX12_family_8 : decode cX12_family 8 = .ok (.iconst 0, 1) := oc_3 (by decide +kernel)
theorem dX12_family_9 : decode cX12_family 9 = .ok (.istore 5, 2) := oc_54 (by decide +kernel)
theorem dX12_family_11 : decode cX12_family 11 = .ok (.iconst 0, 1) := oc_3 (by decide +kernel)
theorem dX12_family_12 : decode cX12_family 12 = .ok (.istore 6, 2) := oc_54 (by decide +kernel)
theorem dX12_family_14 : decode cX12_family 14 = .ok (.iload 6, 2) := oc_21 (by decide +kernel)
theorem dX12_family_16 : decode cX12_family 16 = .ok (.aload_n 0, 1) := oc_42 (by decide +kernel)
theorem dX12_family_17 : decode cX12_family 17 = .ok (.getfield 7, 3) := oc_180 (a := 0) (b := 7) (by decide +kernel)
theorem dX12_family_20 : decode cX12_family 20 = .ok (.iconst 5, 1) := oc_8 (by decide +kernel)
theorem dX12_family_21 : decode cX12_family 21 = .ok (.iaload, 1) := oc_46 (by decide +kernel)
theorem dX12_family_22 : decode cX12_family 22 = .ok (.if_icmp .ge 31, 3) := oc_162 (a := 0) (b := 31) (by decide +kernel)
theorem dX12_family_53 : decode cX12_family 53 = .ok (.iconst 0, 1) := oc_3 (by decide +kernel)
theorem dX12_family_54 : decode cX12_family 54 = .ok (.istore 6, 2) := oc_54 (by decide +kernel)
theorem dX12_family_56 : decode cX12_family 56 = .ok (.iload 6, 2) := oc_21 (by decide +kernel)
theorem dX12_family_58 : decode cX12_family 58 = .ok (.aload_n 0, 1) := oc_42 (by decide +kernel)
theorem dX12_family_59 : decode cX12_family 59 = .ok (.getfield 7, 3) := oc_180 (a := 0) (b := 7) (by decide +kernel)
theorem dX12_family_62 : decode cX12_family 62 = .ok (.iconst 4, 1) := oc_7 (by decide +kernel)
theorem dX12_family_63 : decode cX12_family 63 = .ok (.iaload, 1) := oc_46 (by decide +kernel)
theorem dX12_family_84 : decode cX12_family 84 = .ok (.iload 5, 2) := oc_21 (by decide +kernel)
theorem dX12_family_86 : decode cX12_family 86 = .ok (.iload_n 3, 1) := oc_29 (by decide +kernel)
theorem dX12_family_106 : decode cX12_family 106 = .ok (.istore 7, 2) := oc_54 (by decide +kernel)
theorem dX12_family_108 : decode cX12_family 108 = .ok (.iconst 0, 1) := oc_3 (by decide +kernel)
theorem dX12_family_109 : decode cX12_family 109 = .ok (.istore 8, 2) := oc_54 (by decide +kernel)
theorem dX12_family_111 : decode cX12_family 111 = .ok (.iload 8, 2) := oc_21 (by decide +kernel)
theorem dX12_family_113 : decode cX12_family 113 = .ok (.aload_n 0, 1) := oc_42 (by decide +kernel)
theorem dX12_family_114 : decode cX12_family 114 = .ok (.getfield 7, 3) := oc_180 (a := 0) (b := 7) (by decide +kernel)
theorem dX12_family_117 : decode cX12_family 117 = .ok (.iconst 5, 1) := oc_8 (by decide +kernel)
theorem dX12_family_118 : decode cX12_family 118 = .ok (.iaload, 1) := oc_46 (by decide +kernel)
theorem dX12_family_119 : decode cX12_family 119 = .ok (.if_icmp .ge 55, 3) := oc_162 (a := 0) (b := 55) (by decide +kernel)
theorem dX12_family_174 : decode cX12_family 174 = .ok (.iload 7, 2) := oc_21 (by decide +kernel)
theorem dX12_family_187 : decode cX12_family 187 = .ok (.iload 7, 2) := oc_21 (by decide +kernel)
theorem dX12_family_189 : decode cX12_family 189 = .ok (.ifCond .eq 8, 3) := oc_153 (a := 0) (b := 8) (by decide +kernel)
theorem dX12_family_192 : decode cX12_family 192 = .ok (.iload 5, 2) := oc_21 (by decide +kernel)
theorem dX12_family_194 : decode cX12_family 194 = .ok (.goto 4, 3) := oc_167 (a := 0) (b := 4) (by decide +kernel)
theorem dX12_family_198 : decode cX12_family 198 = .ok (.ireturn, 1) := oc_172 (by decide +kernel)
theorem dX12_family_176 : decode cX12_family 176 = .ok (.ifCond .eq 11, 3) := oc_153 (a := 0) (b := 11) (by decide +kernel)
theorem dX12_family_179 : decode cX12_family 179 = .ok (.aload_n 0, 1) := oc_42 (by decide +kernel)
theorem dX12_family_180 : decode cX12_family 180 = .ok (.iload_n 1, 1) := oc_27 (by decide +kernel)
theorem dX12_family_181 : decode cX12_family 181 = .ok (.iload 6, 2) := oc_21 (by decide +kernel)
theorem dX12_family_183 : decode cX12_family 183 = .ok (.iload_n 2, 1) := oc_28 (by decide +kernel)
theorem tw_1263 : Cond.methodLink RX12 344 yX12_sails ∈ wsL_law := sg_53 _ (List.mem_of_getElem? (i := 15) rfl)
theorem tw_1264 : Cond.instanceMethod yX12_sails ∈ wsL_law := sg_53 _ (List.mem_of_getElem? (i := 16) rfl)
theorem tw_1265 : Cond.selects RX12 yX12_sails yX12_sails ∈ wsL_law := sg_53 _ (List.mem_of_getElem? (i := 17) rfl)
theorem tw_1266 : Cond.code yX12_sails cX12_sails 4 none ∈ wsL_law := sg_53 _ (List.mem_of_getElem? (i := 18) rfl)
theorem dX12_family_184 : decode cX12_family 184 = .ok (.invokevirtual 344, 3) := oc_182 (a := 1) (b := 88) (by decide +kernel)
theorem dX12_family_122 : decode cX12_family 122 = .ok (.aload_n 0, 1) := oc_42 (by decide +kernel)
theorem dX12_family_123 : decode cX12_family 123 = .ok (.iload 8, 2) := oc_21 (by decide +kernel)
theorem dX12_family_125 : decode cX12_family 125 = .ok (.iload_n 1, 1) := oc_27 (by decide +kernel)
theorem dX12_family_126 : decode cX12_family 126 = .ok (.iload 4, 2) := oc_21 (by decide +kernel)
theorem tw_1259 : Cond.methodLink RX12 341 yX12_isOfKin ∈ wsL_law := sg_53 _ (List.mem_of_getElem? (i := 11) rfl)
theorem tw_1260 : Cond.instanceMethod yX12_isOfKin ∈ wsL_law := sg_53 _ (List.mem_of_getElem? (i := 12) rfl)
theorem tw_1261 : Cond.selects RX12 yX12_isOfKin yX12_isOfKin ∈ wsL_law := sg_53 _ (List.mem_of_getElem? (i := 13) rfl)
theorem tw_1262 : Cond.code yX12_isOfKin cX12_isOfKin 4 (some .boolean) ∈ wsL_law := sg_53 _ (List.mem_of_getElem? (i := 14) rfl)
theorem dX12_family_128 : decode cX12_family 128 = .ok (.invokevirtual 341, 3) := oc_182 (a := 1) (b := 85) (by decide +kernel)
theorem dX12_family_168 : decode cX12_family 168 = .ok (.iinc 8 1, 3) := oc_132 (b := 1) (by decide +kernel)
theorem dX12_family_171 : decode cX12_family 171 = .ok (.goto (-60), 3) := oc_167 (a := 255) (b := 196) (by decide +kernel)
theorem dX12_family_131 : decode cX12_family 131 = .ok (.ifCond .ne 6, 3) := oc_154 (a := 0) (b := 6) (by decide +kernel)
theorem dX12_family_137 : decode cX12_family 137 = .ok (.aload_n 0, 1) := oc_42 (by decide +kernel)
theorem dX12_family_138 : decode cX12_family 138 = .ok (.getfield 49, 3) := oc_180 (a := 0) (b := 49) (by decide +kernel)
theorem dX12_family_141 : decode cX12_family 141 = .ok (.iload 8, 2) := oc_21 (by decide +kernel)
theorem dX12_family_143 : decode cX12_family 143 = .ok (.iconst 1, 1) := oc_4 (by decide +kernel)
theorem dX12_family_144 : decode cX12_family 144 = .ok (.bastore, 1) := oc_84 (by decide +kernel)
theorem dX12_family_145 : decode cX12_family 145 = .ok (.iload 8, 2) := oc_21 (by decide +kernel)
theorem dX12_family_147 : decode cX12_family 147 = .ok (.iload_n 1, 1) := oc_27 (by decide +kernel)
theorem dX12_family_148 : decode cX12_family 148 = .ok (.if_icmp .ne 6, 3) := oc_160 (a := 0) (b := 6) (by decide +kernel)
theorem dX12_family_154 : decode cX12_family 154 = .ok (.iload 7, 2) := oc_21 (by decide +kernel)
theorem dX12_family_156 : decode cX12_family 156 = .ok (.ifCond .eq 12, 3) := oc_153 (a := 0) (b := 12) (by decide +kernel)
theorem dX12_family_159 : decode cX12_family 159 = .ok (.aload_n 0, 1) := oc_42 (by decide +kernel)
theorem dX12_family_160 : decode cX12_family 160 = .ok (.iload 8, 2) := oc_21 (by decide +kernel)
theorem dX12_family_162 : decode cX12_family 162 = .ok (.iload 6, 2) := oc_21 (by decide +kernel)
theorem dX12_family_164 : decode cX12_family 164 = .ok (.iload_n 2, 1) := oc_28 (by decide +kernel)
theorem dX12_family_165 : decode cX12_family 165 = .ok (.invokevirtual 344, 3) := oc_182 (a := 1) (b := 88) (by decide +kernel)
theorem dX12_family_151 : decode cX12_family 151 = .ok (.goto 17, 3) := oc_167 (a := 0) (b := 17) (by decide +kernel)
theorem dX12_family_134 : decode cX12_family 134 = .ok (.goto 34, 3) := oc_167 (a := 0) (b := 34) (by decide +kernel)
theorem dX12_family_197 : decode cX12_family 197 = .ok (.iconst 0, 1) := oc_3 (by decide +kernel)
theorem dX12_family_105 : decode cX12_family 105 = .ok (.iconst 0, 1) := oc_3 (by decide +kernel)
theorem dX12_family_87 : decode cX12_family 87 = .ok (.if_icmp .gt 18, 3) := oc_163 (a := 0) (b := 18) (by decide +kernel)
theorem dX12_family_90 : decode cX12_family 90 = .ok (.iload 6, 2) := oc_21 (by decide +kernel)
theorem dX12_family_92 : decode cX12_family 92 = .ok (.aload_n 0, 1) := oc_42 (by decide +kernel)
theorem dX12_family_93 : decode cX12_family 93 = .ok (.getfield 7, 3) := oc_180 (a := 0) (b := 7) (by decide +kernel)
theorem dX12_family_96 : decode cX12_family 96 = .ok (.iconst 4, 1) := oc_7 (by decide +kernel)
theorem dX12_family_97 : decode cX12_family 97 = .ok (.iaload, 1) := oc_46 (by decide +kernel)
theorem dX12_family_98 : decode cX12_family 98 = .ok (.if_icmp .ge 7, 3) := oc_162 (a := 0) (b := 7) (by decide +kernel)
theorem dX12_family_101 : decode cX12_family 101 = .ok (.iconst 1, 1) := oc_4 (by decide +kernel)
theorem dX12_family_102 : decode cX12_family 102 = .ok (.goto 4, 3) := oc_167 (a := 0) (b := 4) (by decide +kernel)
theorem dX12_family_64 : decode cX12_family 64 = .ok (.if_icmp .ge 20, 3) := oc_162 (a := 0) (b := 20) (by decide +kernel)
theorem dX12_family_67 : decode cX12_family 67 = .ok (.aload_n 0, 1) := oc_42 (by decide +kernel)
theorem dX12_family_68 : decode cX12_family 68 = .ok (.iload 6, 2) := oc_21 (by decide +kernel)
theorem dX12_family_70 : decode cX12_family 70 = .ok (.invokevirtual 110, 3) := oc_182 (a := 0) (b := 110) (by decide +kernel)
theorem dX12_family_73 : decode cX12_family 73 = .ok (.iload 5, 2) := oc_21 (by decide +kernel)
theorem dX12_family_75 : decode cX12_family 75 = .ok (.if_icmp .ge 9, 3) := oc_162 (a := 0) (b := 9) (by decide +kernel)
theorem dX12_family_78 : decode cX12_family 78 = .ok (.iinc 6 1, 3) := oc_132 (b := 1) (by decide +kernel)
theorem dX12_family_81 : decode cX12_family 81 = .ok (.goto (-25), 3) := oc_167 (a := 255) (b := 231) (by decide +kernel)
theorem dX12_family_25 : decode cX12_family 25 = .ok (.iload 5, 2) := oc_21 (by decide +kernel)
theorem dX12_family_27 : decode cX12_family 27 = .ok (.aload_n 0, 1) := oc_42 (by decide +kernel)
theorem dX12_family_28 : decode cX12_family 28 = .ok (.iload 6, 2) := oc_21 (by decide +kernel)
theorem dX12_family_30 : decode cX12_family 30 = .ok (.iload_n 1, 1) := oc_27 (by decide +kernel)
theorem dX12_family_31 : decode cX12_family 31 = .ok (.iload 4, 2) := oc_21 (by decide +kernel)
theorem dX12_family_33 : decode cX12_family 33 = .ok (.invokevirtual 341, 3) := oc_182 (a := 1) (b := 85) (by decide +kernel)
theorem dX12_family_44 : decode cX12_family 44 = .ok (.iadd, 1) := oc_96 (by decide +kernel)
theorem dX12_family_45 : decode cX12_family 45 = .ok (.istore 5, 2) := oc_54 (by decide +kernel)
theorem dX12_family_47 : decode cX12_family 47 = .ok (.iinc 6 1, 3) := oc_132 (b := 1) (by decide +kernel)
theorem dX12_family_50 : decode cX12_family 50 = .ok (.goto (-36), 3) := oc_167 (a := 255) (b := 220) (by decide +kernel)
theorem dX12_family_36 : decode cX12_family 36 = .ok (.ifCond .eq 7, 3) := oc_153 (a := 0) (b := 7) (by decide +kernel)
theorem dX12_family_43 : decode cX12_family 43 = .ok (.iconst 0, 1) := oc_3 (by decide +kernel)
theorem dX12_family_39 : decode cX12_family 39 = .ok (.iconst 1, 1) := oc_4 (by decide +kernel)
theorem dX12_family_40 : decode cX12_family 40 = .ok (.goto 4, 3) := oc_167 (a := 0) (b := 4) (by decide +kernel)
theorem dX12_boatsGo_0 : decode cX12_boatsGo 0 = .ok (.aload_n 0, 1) := oc_42 (by decide +kernel)
theorem dX12_boatsGo_1 : decode cX12_boatsGo 1 = .ok (.iconst 5, 1) := oc_8 (by decide +kernel)
theorem dX12_boatsGo_2 : decode cX12_boatsGo 2 = .ok (.iload_n 1, 1) := oc_27 (by decide +kernel)
theorem dX12_boatsGo_3 : decode cX12_boatsGo 3 = .ok (.invokevirtual 113, 3) := oc_182 (a := 0) (b := 113) (by decide +kernel)
theorem dX12_boatsGo_6 : decode cX12_boatsGo 6 = .ok (.istore_n 2, 1) := oc_61 (by decide +kernel)
theorem dX12_boatsGo_7 : decode cX12_boatsGo 7 = .ok (.iconst 0, 1) := oc_3 (by decide +kernel)
theorem dX12_boatsGo_8 : decode cX12_boatsGo 8 = .ok (.istore_n 3, 1) := oc_62 (by decide +kernel)
theorem dX12_boatsGo_9 : decode cX12_boatsGo 9 = .ok (.iconst 0, 1) := oc_3 (by decide +kernel)
theorem dX12_boatsGo_10 : decode cX12_boatsGo 10 = .ok (.istore 4, 2) := oc_54 (by decide +kernel)
theorem dX12_boatsGo_12 : decode cX12_boatsGo 12 = .ok (.iload 4, 2) := oc_21 (by decide +kernel)
theorem dX12_boatsGo_14 : decode cX12_boatsGo 14 = .ok (.aload_n 0, 1) := oc_42 (by decide +kernel)
theorem dX12_boatsGo_15 : decode cX12_boatsGo 15 = .ok (.getfield 7, 3) := oc_180 (a := 0) (b := 7) (by decide +kernel)
theorem dX12_boatsGo_18 : decode cX12_boatsGo 18 = .ok (.iconst 5, 1) := oc_8 (by decide +kernel)
theorem dX12_boatsGo_19 : decode cX12_boatsGo 19 = .ok (.iaload, 1) := oc_46 (by decide +kernel)
theorem dX12_boatsGo_20 : decode cX12_boatsGo 20 = .ok (.if_icmp .ge 110, 3) := oc_162 (a := 0) (b := 110) (by decide +kernel)
theorem dX12_boatsGo_130 : decode cX12_boatsGo 130 = .ok (.aload_n 0, 1) := oc_42 (by decide +kernel)
theorem dX12_boatsGo_131 : decode cX12_boatsGo 131 = .ok (.getfield 7, 3) := oc_180 (a := 0) (b := 7) (by decide +kernel)
theorem dX12_boatsGo_134 : decode cX12_boatsGo 134 = .ok (.bipush 11, 2) := oc_16 (a := 11) (by decide +kernel)
theorem dX12_boatsGo_136 : decode cX12_boatsGo 136 = .ok (.iaload, 1) := oc_46 (by decide +kernel)
theorem dX12_boatsGo_137 : decode cX12_boatsGo 137 = .ok (.istore 4, 2) := oc_54 (by decide +kernel)
theorem dX12_boatsGo_139 : decode cX12_boatsGo 139 = .ok (.iconst 0, 1) := oc_3 (by decide +kernel)
theorem dX12_boatsGo_140 : decode cX12_boatsGo 140 = .ok (.istore 5, 2) := oc_54 (by decide +kernel)
theorem dX12_boatsGo_142 : decode cX12_boatsGo 142 = .ok (.iload 5, 2) := oc_21 (by decide +kernel)
theorem dX12_boatsGo_144 : decode cX12_boatsGo 144 = .ok (.iload_n 3, 1) := oc_29 (by decide +kernel)
theorem dX12_boatsGo_145 : decode cX12_boatsGo 145 = .ok (.if_icmp .ge 43, 3) := oc_162 (a := 0) (b := 43) (by decide +kernel)
theorem dX12_boatsGo_188 : decode cX12_boatsGo 188 = .ok (.return_, 1) := oc_177 (by decide +kernel)
theorem dX12_boatsGo_148 : decode cX12_boatsGo 148 = .ok (.aload_n 0, 1) := oc_42 (by decide +kernel)
theorem dX12_boatsGo_149 : decode cX12_boatsGo 149 = .ok (.getfield 49, 3) := oc_180 (a := 0) (b := 49) (by decide +kernel)
theorem dX12_boatsGo_152 : decode cX12_boatsGo 152 = .ok (.aload_n 0, 1) := oc_42 (by decide +kernel)
theorem tw_188 : Cond.fieldLink RX12 46 "RingsUnderModel" "row" "[I" ∈ wsL_law := sg_8 _ (List.mem_of_getElem? (i := 20) rfl)
theorem dX12_boatsGo_153 : decode cX12_boatsGo 153 = .ok (.getfield 46, 3) := oc_180 (a := 0) (b := 46) (by decide +kernel)
theorem dX12_boatsGo_156 : decode cX12_boatsGo 156 = .ok (.iload 5, 2) := oc_21 (by decide +kernel)
theorem dX12_boatsGo_158 : decode cX12_boatsGo 158 = .ok (.iaload, 1) := oc_46 (by decide +kernel)
theorem dX12_boatsGo_159 : decode cX12_boatsGo 159 = .ok (.baload, 1) := oc_51 (by decide +kernel)
theorem dX12_boatsGo_182 : decode cX12_boatsGo 182 = .ok (.iinc 5 1, 3) := oc_132 (b := 1) (by decide +kernel)
theorem dX12_boatsGo_185 : decode cX12_boatsGo 185 = .ok (.goto (-43), 3) := oc_167 (a := 255) (b := 213) (by decide +kernel)
theorem dX12_boatsGo_160 : decode cX12_boatsGo 160 = .ok (.ifCond .ne 22, 3) := oc_154 (a := 0) (b := 22) (by decide +kernel)
theorem dX12_boatsGo_163 : decode cX12_boatsGo 163 = .ok (.iload 4, 2) := oc_21 (by decide +kernel)
theorem dX12_boatsGo_165 : decode cX12_boatsGo 165 = .ok (.aload_n 0, 1) := oc_42 (by decide +kernel)
theorem dX12_boatsGo_166 : decode cX12_boatsGo 166 = .ok (.aload_n 0, 1) := oc_42 (by decide +kernel)
theorem dX12_boatsGo_167 : decode cX12_boatsGo 167 = .ok (.getfield 46, 3) := oc_180 (a := 0) (b := 46) (by decide +kernel)
theorem dX12_boatsGo_170 : decode cX12_boatsGo 170 = .ok (.iload 5, 2) := oc_21 (by decide +kernel)
theorem dX12_boatsGo_172 : decode cX12_boatsGo 172 = .ok (.iaload, 1) := oc_46 (by decide +kernel)
theorem dX12_boatsGo_173 : decode cX12_boatsGo 173 = .ok (.iload_n 1, 1) := oc_27 (by decide +kernel)
theorem dX12_boatsGo_174 : decode cX12_boatsGo 174 = .ok (.iload 4, 2) := oc_21 (by decide +kernel)
theorem tw_1255 : Cond.methodLink RX12 338 yX12_family ∈ wsL_law := sg_53 _ (List.mem_of_getElem? (i := 7) rfl)
theorem tw_1256 : Cond.instanceMethod yX12_family ∈ wsL_law := sg_53 _ (List.mem_of_getElem? (i := 8) rfl)
theorem tw_1257 : Cond.selects RX12 yX12_family yX12_family ∈ wsL_law := sg_53 _ (List.mem_of_getElem? (i := 9) rfl)
theorem tw_1258 : Cond.code yX12_family cX12_family 9 (some .int) ∈ wsL_law := sg_53 _ (List.mem_of_getElem? (i := 10) rfl)
theorem dX12_boatsGo_176 : decode cX12_boatsGo 176 = .ok (.invokevirtual 338, 3) := oc_182 (a := 1) (b := 82) (by decide +kernel)
theorem dX12_boatsGo_179 : decode cX12_boatsGo 179 = .ok (.isub, 1) := oc_100 (by decide +kernel)
theorem dX12_boatsGo_180 : decode cX12_boatsGo 180 = .ok (.istore 4, 2) := oc_54 (by decide +kernel)
theorem dX12_boatsGo_23 : decode cX12_boatsGo 23 = .ok (.aload_n 0, 1) := oc_42 (by decide +kernel)
theorem dX12_boatsGo_24 : decode cX12_boatsGo 24 = .ok (.getfield 49, 3) := oc_180 (a := 0) (b := 49) (by decide +kernel)
theorem dX12_boatsGo_27 : decode cX12_boatsGo 27 = .ok (.iload 4, 2) := oc_21 (by decide +kernel)
theorem dX12_boatsGo_29 : decode cX12_boatsGo 29 = .ok (.iconst 1, 1) := oc_4 (by decide +kernel)
theorem dX12_boatsGo_30 : decode cX12_boatsGo 30 = .ok (.bastore, 1) := oc_84 (by decide +kernel)
theorem dX12_boatsGo_31 : decode cX12_boatsGo 31 = .ok (.aload_n 0, 1) := oc_42 (by decide +kernel)
theorem dX12_boatsGo_32 : decode cX12_boatsGo 32 = .ok (.iload 4, 2) := oc_21 (by decide +kernel)
theorem dX12_boatsGo_34 : decode cX12_boatsGo 34 = .ok (.invokevirtual 316, 3) := oc_182 (a := 1) (b := 60) (by decide +kernel)
theorem dX12_boatsGo_37 : decode cX12_boatsGo 37 = .ok (.ifCond .eq 87, 3) := oc_153 (a := 0) (b := 87) (by decide +kernel)
theorem dX12_boatsGo_124 : decode cX12_boatsGo 124 = .ok (.iinc 4 1, 3) := oc_132 (b := 1) (by decide +kernel)
theorem dX12_boatsGo_127 : decode cX12_boatsGo 127 = .ok (.goto (-115), 3) := oc_167 (a := 255) (b := 141) (by decide +kernel)
theorem dX12_boatsGo_40 : decode cX12_boatsGo 40 = .ok (.aload_n 0, 1) := oc_42 (by decide +kernel)
theorem dX12_boatsGo_41 : decode cX12_boatsGo 41 = .ok (.iconst 3, 1) := oc_6 (by decide +kernel)
theorem dX12_boatsGo_42 : decode cX12_boatsGo 42 = .ok (.iload 4, 2) := oc_21 (by decide +kernel)
theorem dX12_boatsGo_44 : decode cX12_boatsGo 44 = .ok (.iload_n 1, 1) := oc_27 (by decide +kernel)
theorem dX12_boatsGo_45 : decode cX12_boatsGo 45 = .ok (.invokevirtual 301, 3) := oc_182 (a := 1) (b := 45) (by decide +kernel)
theorem dX12_boatsGo_48 : decode cX12_boatsGo 48 = .ok (.ifCond .ne 6, 3) := oc_154 (a := 0) (b := 6) (by decide +kernel)
theorem dX12_boatsGo_54 : decode cX12_boatsGo 54 = .ok (.aload_n 0, 1) := oc_42 (by decide +kernel)
theorem dX12_boatsGo_55 : decode cX12_boatsGo 55 = .ok (.getfield 49, 3) := oc_180 (a := 0) (b := 49) (by decide +kernel)
theorem dX12_boatsGo_58 : decode cX12_boatsGo 58 = .ok (.iload 4, 2) := oc_21 (by decide +kernel)
theorem dX12_boatsGo_60 : decode cX12_boatsGo 60 = .ok (.iconst 0, 1) := oc_3 (by decide +kernel)
theorem dX12_boatsGo_61 : decode cX12_boatsGo 61 = .ok (.bastore, 1) := oc_84 (by decide +kernel)
theorem dX12_boatsGo_62 : decode cX12_boatsGo 62 = .ok (.iload_n 3, 1) := oc_29 (by decide +kernel)
theorem dX12_boatsGo_63 : decode cX12_boatsGo 63 = .ok (.istore 5, 2) := oc_54 (by decide +kernel)
theorem dX12_boatsGo_65 : decode cX12_boatsGo 65 = .ok (.iload 5, 2) := oc_21 (by decide +kernel)
theorem dX12_boatsGo_112 : decode cX12_boatsGo 112 = .ok (.aload_n 0, 1) := oc_42 (by decide +kernel)
theorem dX12_boatsGo_113 : decode cX12_boatsGo 113 = .ok (.getfield 46, 3) := oc_180 (a := 0) (b := 46) (by decide +kernel)
theorem dX12_boatsGo_116 : decode cX12_boatsGo 116 = .ok (.iload 5, 2) := oc_21 (by decide +kernel)
theorem dX12_boatsGo_118 : decode cX12_boatsGo 118 = .ok (.iload 4, 2) := oc_21 (by decide +kernel)
theorem dX12_boatsGo_120 : decode cX12_boatsGo 120 = .ok (.iastore, 1) := oc_79 (by decide +kernel)
theorem dX12_boatsGo_121 : decode cX12_boatsGo 121 = .ok (.iinc 3 1, 3) := oc_132 (b := 1) (by decide +kernel)
theorem dX12_boatsGo_67 : decode cX12_boatsGo 67 = .ok (.ifCond .le 45, 3) := oc_158 (a := 0) (b := 45) (by decide +kernel)
theorem dX12_boatsGo_70 : decode cX12_boatsGo 70 = .ok (.aload_n 0, 1) := oc_42 (by decide +kernel)
theorem dX12_boatsGo_71 : decode cX12_boatsGo 71 = .ok (.iload 4, 2) := oc_21 (by decide +kernel)
theorem dX12_boatsGo_73 : decode cX12_boatsGo 73 = .ok (.aload_n 0, 1) := oc_42 (by decide +kernel)
theorem dX12_boatsGo_74 : decode cX12_boatsGo 74 = .ok (.getfield 46, 3) := oc_180 (a := 0) (b := 46) (by decide +kernel)
theorem dX12_boatsGo_77 : decode cX12_boatsGo 77 = .ok (.iload 5, 2) := oc_21 (by decide +kernel)
theorem dX12_boatsGo_79 : decode cX12_boatsGo 79 = .ok (.iconst 1, 1) := oc_4 (by decide +kernel)
theorem dX12_boatsGo_80 : decode cX12_boatsGo 80 = .ok (.isub, 1) := oc_100 (by decide +kernel)
theorem dX12_boatsGo_81 : decode cX12_boatsGo 81 = .ok (.iaload, 1) := oc_46 (by decide +kernel)
theorem dX12_boatsGo_82 : decode cX12_boatsGo 82 = .ok (.iload_n 1, 1) := oc_27 (by decide +kernel)
theorem dX12_boatsGo_83 : decode cX12_boatsGo 83 = .ok (.iload_n 2, 1) := oc_28 (by decide +kernel)
theorem tw_1251 : Cond.methodLink RX12 334 yX12_goesAhead ∈ wsL_law := sg_53 _ (List.mem_of_getElem? (i := 3) rfl)
theorem tw_1252 : Cond.instanceMethod yX12_goesAhead ∈ wsL_law := sg_53 _ (List.mem_of_getElem? (i := 4) rfl)
theorem tw_1253 : Cond.selects RX12 yX12_goesAhead yX12_goesAhead ∈ wsL_law := sg_53 _ (List.mem_of_getElem? (i := 5) rfl)
theorem tw_1254 : Cond.code yX12_goesAhead cX12_goesAhead 5 (some .boolean) ∈ wsL_law := sg_53 _ (List.mem_of_getElem? (i := 6) rfl)
theorem dX12_boatsGo_84 : decode cX12_boatsGo 84 = .ok (.invokevirtual 334, 3) := oc_182 (a := 1) (b := 78) (by decide +kernel)
theorem dX12_boatsGo_87 : decode cX12_boatsGo 87 = .ok (.ifCond .eq 25, 3) := oc_153 (a := 0) (b := 25) (by decide +kernel)
theorem dX12_boatsGo_90 : decode cX12_boatsGo 90 = .ok (.aload_n 0, 1) := oc_42 (by decide +kernel)
theorem dX12_boatsGo_91 : decode cX12_boatsGo 91 = .ok (.getfield 46, 3) := oc_180 (a := 0) (b := 46) (by decide +kernel)
theorem dX12_boatsGo_94 : decode cX12_boatsGo 94 = .ok (.iload 5, 2) := oc_21 (by decide +kernel)
theorem dX12_boatsGo_96 : decode cX12_boatsGo 96 = .ok (.aload_n 0, 1) := oc_42 (by decide +kernel)
theorem dX12_boatsGo_97 : decode cX12_boatsGo 97 = .ok (.getfield 46, 3) := oc_180 (a := 0) (b := 46) (by decide +kernel)
theorem dX12_boatsGo_100 : decode cX12_boatsGo 100 = .ok (.iload 5, 2) := oc_21 (by decide +kernel)
theorem dX12_boatsGo_102 : decode cX12_boatsGo 102 = .ok (.iconst 1, 1) := oc_4 (by decide +kernel)
theorem dX12_boatsGo_103 : decode cX12_boatsGo 103 = .ok (.isub, 1) := oc_100 (by decide +kernel)
theorem dX12_boatsGo_104 : decode cX12_boatsGo 104 = .ok (.iaload, 1) := oc_46 (by decide +kernel)
theorem dX12_boatsGo_105 : decode cX12_boatsGo 105 = .ok (.iastore, 1) := oc_79 (by decide +kernel)
theorem dX12_boatsGo_106 : decode cX12_boatsGo 106 = .ok (.iinc 5 (-1), 3) := oc_132 (b := 255) (by decide +kernel)
theorem dX12_boatsGo_109 : decode cX12_boatsGo 109 = .ok (.goto (-44), 3) := oc_167 (a := 255) (b := 212) (by decide +kernel)
theorem dX12_boatsGo_51 : decode cX12_boatsGo 51 = .ok (.goto 73, 3) := oc_167 (a := 0) (b := 73) (by decide +kernel)
set_option maxRecDepth 100000 in
def g_X12_isOfKin_K39 (I : Nat → Int32) (J : Nat → Int64) (ri : Nat → Nat → Int32) (rj : Nat → Nat → Int64) (rq : Nat → Nat → Option Nat) : Int32 × vM := ((1 : Int32), I, J, ri, rj, rq)
set_option maxRecDepth 100000 in
theorem g_X12_isOfKin_K39_e {I : Nat → Int32} {J : Nat → Int64} {ri : Nat → Nat → Int32} {rj : Nat → Nat → Int64} {rq : Nat → Nat → Option Nat} : g_X12_isOfKin_K39 I J ri rj rq  = ((1 : Int32), I, J, ri, rj, rq) := rfl
set_option maxRecDepth 100000 in
def g_X12_isOfKin_K43 (I : Nat → Int32) (J : Nat → Int64) (ri : Nat → Nat → Int32) (rj : Nat → Nat → Int64) (rq : Nat → Nat → Option Nat) : Int32 × vM := ((0 : Int32), I, J, ri, rj, rq)
set_option maxRecDepth 100000 in
theorem g_X12_isOfKin_K43_e {I : Nat → Int32} {J : Nat → Int64} {ri : Nat → Nat → Int32} {rj : Nat → Nat → Int64} {rq : Nat → Nat → Option Nat} : g_X12_isOfKin_K43 I J ri rj rq  = ((0 : Int32), I, J, ri, rj, rq) := rfl
set_option maxRecDepth 100000 in
def g_X12_isOfKin (a0 : Int32) (a1 : Int32) (a2 : Int32) (I : Nat → Int32) (J : Nat → Int64) (ri : Nat → Nat → Int32) (rj : Nat → Nat → Int64) (rq : Nat → Nat → Option Nat) : Int32 × vM := (if a0 = a1 then (g_X12_isOfKin_K39 I J ri rj rq ) else (ap1 (ri 412 (a0).toNatClampNeg) fun (x_53 : Int32) => (if x_53 = (0 : Int32) then (bnI (g_X12_personAt_c0 a0 I J ri rj rq) fun (x_105 : Int32) (_ : Nat → Int32) (_ : Nat → Int64) (_ : Nat → Nat → Int32) (_ : Nat → Nat → Int64) (_ : Nat → Nat → Option Nat) => (bnI (g_X12_personAt_c0 a1 I J ri rj rq) fun (x_113 : Int32) (_ : Nat → Int32) (_ : Nat → Int64) (_ : Nat → Nat → Int32) (_ : Nat → Nat → Int64) (_ : Nat → Nat → Option Nat) => (if x_105 = x_113 then (bnI (g_X12_personAt_c3 a0 I J ri rj rq) fun (x_126 : Int32) (_ : Nat → Int32) (_ : Nat → Int64) (_ : Nat → Nat → Int32) (_ : Nat → Nat → Int64) (_ : Nat → Nat → Option Nat) => (if x_126 = a2 then (g_X12_isOfKin_K39 I J ri rj rq ) else (g_X12_isOfKin_K43 I J ri rj rq ))) else (g_X12_isOfKin_K43 I J ri rj rq )))) else (g_X12_isOfKin_K43 I J ri rj rq ))))
set_option maxRecDepth 100000 in
theorem g_X12_isOfKin_e {a0 : Int32} {a1 : Int32} {a2 : Int32} {I : Nat → Int32} {J : Nat → Int64} {ri : Nat → Nat → Int32} {rj : Nat → Nat → Int64} {rq : Nat → Nat → Option Nat} : g_X12_isOfKin a0 a1 a2 I J ri rj rq = (if a0 = a1 then (g_X12_isOfKin_K39 I J ri rj rq ) else (ap1 (ri 412 (a0).toNatClampNeg) fun (x_53 : Int32) => (if x_53 = (0 : Int32) then (bnI (g_X12_personAt_c0 a0 I J ri rj rq) fun (x_105 : Int32) (_ : Nat → Int32) (_ : Nat → Int64) (_ : Nat → Nat → Int32) (_ : Nat → Nat → Int64) (_ : Nat → Nat → Option Nat) => (bnI (g_X12_personAt_c0 a1 I J ri rj rq) fun (x_113 : Int32) (_ : Nat → Int32) (_ : Nat → Int64) (_ : Nat → Nat → Int32) (_ : Nat → Nat → Int64) (_ : Nat → Nat → Option Nat) => (if x_105 = x_113 then (bnI (g_X12_personAt_c3 a0 I J ri rj rq) fun (x_126 : Int32) (_ : Nat → Int32) (_ : Nat → Int64) (_ : Nat → Nat → Int32) (_ : Nat → Nat → Int64) (_ : Nat → Nat → Option Nat) => (if x_126 = a2 then (g_X12_isOfKin_K39 I J ri rj rq ) else (g_X12_isOfKin_K43 I J ri rj rq ))) else (g_X12_isOfKin_K43 I J ri rj rq )))) else (g_X12_isOfKin_K43 I J ri rj rq )))) := rfl
set_option maxHeartbeats 4000000 in
set_option maxRecDepth 100000 in
theorem s_X12_isOfKin (l : Launch) (D : va_G) (t : pq_T) (σ : pq_S) (I : Nat → Nat → Int32) (J : Nat → Nat → Int64) (ri : Nat → Nat → Int32) (rj : Nat → Nat → Int64) (rq : Nat → Nat → Option Nat) (sz : Nat) (tg : Nat → Nat) (hSH : SH σ tg) (hG0 : GT tg I ri) (this : Nat) (a0 : Int32) (a1 : Int32) (a2 : Int32) (hL_this : this ∈ σ.1) (hK_this : σ.2.1 this = 12) (h_a0 : rg a0 0 39) (h_a1 : rg a1 0 39) : MetI l yX12_isOfKin (wa yX12_isOfKin cX12_isOfKin 4 (some .boolean)) ({ frames := 1, cells := 0, slots := 0, locals := 22 }) [.ref this, .int a0, .int a1, .int a2] D t σ (I, J, ri, rj, rq) sz 0 0 (fun (r : Int32) (u : pq_S × pq_M) => u = (σ, I, J, ri, rj, rq) ∧ g_X12_isOfKin a0 a1 a2 (vI 12 σ this I) (vJ 12 σ this J) (vR 12 σ this ri) (vL 12 σ this rj) (vQ 12 σ this rq) = (r, (vI 12 σ this I), (vJ 12 σ this J), (vR 12 σ this ri), (vL 12 σ this rj), (vQ 12 σ this rq)) ∧ ((r = 1 ∧ True) ∨ (r = 0 ∧ True))) := by
  refine Met.ofW (cc := cX12_isOfKin) (maxL := 4) (ret := (some .boolean)) (by decide +kernel) rfl ?_
  intro p e s m args below meth c s₁ B hml hv
  obtain ⟨rfl, hsz, hP, hK, hD0, hN⟩ := hv
  have hx := B.exec
  have hb := B.bytes
  have hr := B.returns
  have hts := atoms_spec (ws := (wa yX12_isOfKin cX12_isOfKin 4 (some .boolean))) B.pre
  have hown : s.vm.findClass RX12 = some m.cls := findClass_of_methodNamed B.named
  have hlocks := B.notSynchronized
  subst hsz
  have hD : va_D (pq_B t σ (I, J, ri, rj, rq) s.heap.size) (pq_P t σ (I, J, ri, rj, rq)) := hD0.self
  generalize hAe : pq_B t σ (I, J, ri, rj, rq) s.heap.size = A at hD ⊢
  have hA : ∀ q : Nat, s.heap.size ≤ q → A q := fun q h => by rw [← hAe]; exact Or.inr h
  have hS : va_S A s.heap s.heap [] := va_S.rf
  have hG : GM [] tg σ I ri I ri rq := ⟨hG0, fun _ _ _ => rfl, fun _ _ _ _ _ => rfl, fun _ _ _ _ _ _ => rfl⟩
  have hl := lv_entry ([.ref this, .int a0, .int a1, .int a2]) (n := 4) (Nat.le_of_ble_eq_true rfl)
  rw [lg_entry_eq]
  generalize (lg_sl ([.ref this, .int a0, .int a1, .int a2]) ++ List.replicate (4 - (lg_sl ([.ref this, .int a0, .int a1, .int a2])).length) Slot.unset).toArray = ls at hl ⊢
  have hl : lv_has ls 4 [(0, .ref this), (1, .int a0), (2, .int a1), (3, .int a2)] := hl
  refine q_gen (fun Q hQ => ?_)
  have go : ∀ (H : Heap) (locs : List Loc) (ls : Array Slot), va_P D vwCl (pq_P t σ (I, J, ri, rj, rq)) H → va_D A (pq_P t σ (I, J, ri, rj, rq)) → va_S A s.heap H locs → lv_has ls 4 [(0, .ref this), (1, .int a0), (2, .int a1), (3, .int a2)] → W p l e ({ frames := 1, cells := 0, slots := 0, locals := 22 } : Room) s m (List.toArray ([.ref this, .int a0, .int a1, .int a2] : List Value)) below meth c H locs 0 0 Q (F0 m 0 ls []) := by
    intro H locs ls hP hD hS hl
    have hO_this : this = vo σ 12 this := rfl
    have hVT : VT 12 σ tg this := vt_12 hSH hL_this hK_this
    have hFr : FR 12 tg σ this (I, J, ri, rj, rq) (I, J, ri, rj, rq) := fr_rf
    obtain ⟨F, hF0⟩ : ∃ F, F = g_X12_isOfKin a0 a1 a2 (vI 12 σ this I) (vJ 12 σ this J) (vR 12 σ this ri) (vL 12 σ this rj) (vQ 12 σ this rq) := ⟨_, rfl⟩
    have hF := hF0.trans g_X12_isOfKin_e
    refine lv_iload_n hx hb dX12_isOfKin_0 rfl (lv_at hl 1 rfl) ?_
    refine lv_iload_n hx hb dX12_isOfKin_1 rfl (lv_at hl 2 rfl) ?_
    have K_46 : ∀  (H : Heap) (locs : List Loc) (ls : Array Slot), F = g_X12_isOfKin_K39 (vI 12 σ this I) (vJ 12 σ this J) (vR 12 σ this ri) (vL 12 σ this rj) (vQ 12 σ this rq)  → FR 12 tg σ this (I, J, ri, rj, rq) (I, J, ri, rj, rq) → GM [] tg σ I ri I ri rq → va_P D vwCl (pq_P t σ (I, J, ri, rj, rq)) H → va_D A (pq_P t σ (I, J, ri, rj, rq)) → va_S A s.heap H locs → lv_has ls 4 [] → W p l e ({ frames := 1, cells := 0, slots := 0, locals := 22 } : Room) s m (List.toArray ([.ref this, .int a0, .int a1, .int a2] : List Value)) below meth c H locs 0 0 Q (F0 m 39 ls []) := by
      intro H locs ls hF hFr hG hP hD hS hl
      replace hF := hF.trans g_X12_isOfKin_K39_e
      refine lv_iconst (v := 1) hx hb dX12_isOfKin_39 (by decide +kernel) ?_
      refine lv_goto (tgt := 44) hx hb dX12_isOfKin_40 (by decide +kernel) ?_
      subst hQ
      exact W.zret (v := 1) hx hb hr (by decide +kernel) (fun t1 ht hW => ⟨⟨1, (σ, I, J, ri, rj, rq), rfl, ⟨rfl, (hF0.symm.trans hF), (Or.inl ⟨rfl, trivial⟩)⟩, by rw [ht]; exact hP, va_K.moved hW.alike hK, hD⟩, hS.F ht⟩) hS.2.2 dX12_isOfKin_44
    refine lv_icmp_eq (tgt := 39) hx hb dX12_isOfKin_2 (by decide +kernel) (fun c_47 => ?_) (fun c_47 => ?_)
    · replace hF := hF.trans (if_pos c_47)
      have tc_50 : (a0).toInt = (a1).toInt := congrArg Int32.toInt c_47
      exact K_46 _ _ _ hF hFr hG hP hD hS (lv_sub hl [] rfl)
    · replace hF := hF.trans (if_neg c_47)
      have tc_51 : (a0).toInt ≠ (a1).toInt := fun q => c_47 (Int32.toInt_inj.mp q)
      refine lv_aload_n hx hb dX12_isOfKin_5 rfl (lv_at hl 0 rfl) ?_
      obtain ⟨w_52, hR_w_52, hL_w_52, hK_w_52, hN_w_52, hT_w_52⟩ := sh_a hSH 412 (ci := 12) (kd := 15) (len := 40) rfl (by decide +kernel) hL_this hK_this
      have hO_w_52 : w_52 = vrow σ 412 this := vo_k (c := 12) hO_this hR_w_52
      refine pg_f (v := .ref w_52) (C := RX12) (T := TX12) (N := 31) hx hb hts (tw_i inlX12) hown hK hP hL_this hK_this (by decide +kernel) rfl 28 (by decide +kernel) (hts _ (tw_c tw_189)) (pq_hv rfl hR_w_52) dX12_isOfKin_6 ?_
      refine lv_iload_n hx hb dX12_isOfKin_9 rfl (lv_at hl 1 rfl) ?_
      refine pl_z hx hb hK hP hL_w_52 hK_w_52 hN_w_52 (rg_in h_a0 (by decide +kernel)) dX12_isOfKin_10 ?_
      refine lv_topi (fun x_53 ex_53 => ?_)
      replace hF := hF.trans (ap_n (vR_r hO_w_52 (by decide +kernel) ex_53))
      have h_54 : rg x_53 0 1 := rg_of_eq ex_53 (GM.rR hG hT_w_52 rfl)
      have uh_54 := h_54.1
      have vh_54 := h_54.2
      have K_94 : ∀  (H : Heap) (locs : List Loc) (ls : Array Slot), F = g_X12_isOfKin_K43 (vI 12 σ this I) (vJ 12 σ this J) (vR 12 σ this ri) (vL 12 σ this rj) (vQ 12 σ this rq)  → FR 12 tg σ this (I, J, ri, rj, rq) (I, J, ri, rj, rq) → GM [] tg σ I ri I ri rq → va_P D vwCl (pq_P t σ (I, J, ri, rj, rq)) H → va_D A (pq_P t σ (I, J, ri, rj, rq)) → va_S A s.heap H locs → lv_has ls 4 [] → W p l e ({ frames := 1, cells := 0, slots := 0, locals := 22 } : Room) s m (List.toArray ([.ref this, .int a0, .int a1, .int a2] : List Value)) below meth c H locs 0 0 Q (F0 m 43 ls []) := by
        intro H locs ls hF hFr hG hP hD hS hl
        replace hF := hF.trans g_X12_isOfKin_K43_e
        refine lv_iconst (v := 0) hx hb dX12_isOfKin_43 (by decide +kernel) ?_
        subst hQ
        exact W.zret (v := 0) hx hb hr (by decide +kernel) (fun t1 ht hW => ⟨⟨0, (σ, I, J, ri, rj, rq), rfl, ⟨rfl, (hF0.symm.trans hF), (Or.inr ⟨rfl, trivial⟩)⟩, by rw [ht]; exact hP, va_K.moved hW.alike hK, hD⟩, hS.F ht⟩) hS.2.2 dX12_isOfKin_44
      refine lv_if_ne (tgt := 43) hx hb dX12_isOfKin_11 (by decide +kernel) (fun c_95 => ?_) (fun c_95 => ?_)
      · replace hF := hF.trans (if_neg c_95)
        have tc_100 : (x_53).toInt ≠ 0 := fun q => c_95 (Int32.toInt_inj.mp q)
        have h_101 : rg x_53 1 1 := rg_ne c_95 h_54 0 rfl (by decide +kernel)
        have uh_101 := h_101.1
        have vh_101 := h_101.2
        exact K_94 _ _ _ hF hFr hG hP hD hS (lv_sub hl [] rfl)
      · replace hF := hF.trans (if_pos c_95)
        have tc_102 : (x_53).toInt = 0 := congrArg Int32.toInt c_95
        have h_103 : rg x_53 0 0 := rg_and h_54 (rg_of_eq c_95 (rg_k (0 : Int32) 0 rfl)) (by decide +kernel)
        have uh_103 := h_103.1
        have vh_103 := h_103.2
        refine lv_aload_n hx hb dX12_isOfKin_14 rfl (lv_at hl 0 rfl) ?_
        refine lv_iload_n hx hb dX12_isOfKin_15 rfl (lv_at hl 1 rfl) ?_
        refine lv_iconst (v := 0) hx hb dX12_isOfKin_16 (by decide +kernel) ?_
        obtain ⟨w_104, hR_w_104, hL_w_104, hK_w_104, hN_w_104, hT_w_104⟩ := sh_a hSH 384 (ci := 12) (kd := 13) (len := 12720) rfl (by decide +kernel) hL_this hK_this
        have hO_w_104 : w_104 = vrow σ 384 this := vo_k (c := 12) hO_this hR_w_104
        refine pk_i (va_runV (As := [.int a0, .int 0]) (rest := []) ⟨hx, hb, hml, hown, hts⟩ (s_X12_personAt_c0 l D t σ I J ri rj rq H.size tg hSH hG.1 this a0 hL_this hK_this (rg_w h_a0 (by decide +kernel)) w_104 hR_w_104 hL_w_104 hK_w_104 hN_w_104 hT_w_104) (cwV 2 hts (tw_V tw_437 tw_438 tw_439 tw_5 tw_440) rfl rfl rfl cv_yX12_personAt_2 ⟨Nat.le_of_ble_eq_true rfl, Nat.le_of_ble_eq_true rfl⟩) ⟨pq_blind, pq_recv hK hP hL_this hK_this (by decide +kernel) rfl, pq_pre hK hN hP hD⟩ rfl rfl hl.1 rfl (lv_room (Nat.le_of_ble_eq_true rfl)) dX12_isOfKin_17 ⟨Nat.le_of_ble_eq_true rfl, Nat.le_of_ble_eq_true rfl⟩) hD hS hA (fun x_105 σ1 μ1 H locs hw_106 hP hD hS => ?_)
        obtain ⟨hu_107, hp_110, hfn_111⟩ := hw_106
        obtain ⟨hu_107a, hu_107b⟩ := Prod.mk.inj hu_107
        rw [hu_107a, hu_107b] at hP hD
        replace hF := hF.trans (bn_n hfn_111)
        refine lv_aload_n hx hb dX12_isOfKin_20 rfl (lv_at hl 0 rfl) ?_
        refine lv_iload_n hx hb dX12_isOfKin_21 rfl (lv_at hl 2 rfl) ?_
        refine lv_iconst (v := 0) hx hb dX12_isOfKin_22 (by decide +kernel) ?_
        refine pk_i (va_runV (As := [.int a1, .int 0]) (rest := [.int x_105]) ⟨hx, hb, hml, hown, hts⟩ (s_X12_personAt_c0 l D t σ I J ri rj rq H.size tg hSH hG.1 this a1 hL_this hK_this (rg_w h_a1 (by decide +kernel)) w_104 hR_w_104 hL_w_104 hK_w_104 hN_w_104 hT_w_104) (cwV 2 hts (tw_V tw_437 tw_438 tw_439 tw_5 tw_440) rfl rfl rfl cv_yX12_personAt_2 ⟨Nat.le_of_ble_eq_true rfl, Nat.le_of_ble_eq_true rfl⟩) ⟨pq_blind, pq_recv hK hP hL_this hK_this (by decide +kernel) rfl, pq_pre hK hN hP hD⟩ rfl rfl hl.1 rfl (lv_room (Nat.le_of_ble_eq_true rfl)) dX12_isOfKin_23 ⟨Nat.le_of_ble_eq_true rfl, Nat.le_of_ble_eq_true rfl⟩) hD hS hA (fun x_113 σ1 μ1 H locs hw_114 hP hD hS => ?_)
        obtain ⟨hu_115, hp_118, hfn_119⟩ := hw_114
        obtain ⟨hu_115a, hu_115b⟩ := Prod.mk.inj hu_115
        rw [hu_115a, hu_115b] at hP hD
        replace hF := hF.trans (bn_n hfn_119)
        refine lv_icmp_ne (tgt := 43) hx hb dX12_isOfKin_26 (by decide +kernel) (fun c_121 => ?_) (fun c_121 => ?_)
        · replace hF := hF.trans (if_neg c_121)
          have tc_124 : (x_105).toInt ≠ (x_113).toInt := fun q => c_121 (Int32.toInt_inj.mp q)
          exact K_94 _ _ _ hF hFr hG hP hD hS (lv_sub hl [] rfl)
        · replace hF := hF.trans (if_pos c_121)
          have tc_125 : (x_105).toInt = (x_113).toInt := congrArg Int32.toInt c_121
          refine lv_aload_n hx hb dX12_isOfKin_29 rfl (lv_at hl 0 rfl) ?_
          refine lv_iload_n hx hb dX12_isOfKin_30 rfl (lv_at hl 1 rfl) ?_
          refine lv_iconst (v := 3) hx hb dX12_isOfKin_31 (by decide +kernel) ?_
          refine pk_i (va_runV (As := [.int a0, .int 3]) (rest := []) ⟨hx, hb, hml, hown, hts⟩ (s_X12_personAt_c3 l D t σ I J ri rj rq H.size tg hSH hG.1 this a0 hL_this hK_this (rg_w h_a0 (by decide +kernel)) w_104 hR_w_104 hL_w_104 hK_w_104 hN_w_104 hT_w_104) (cwV 2 hts (tw_V tw_437 tw_438 tw_439 tw_5 tw_440) rfl rfl rfl cv_yX12_personAt_2 ⟨Nat.le_of_ble_eq_true rfl, Nat.le_of_ble_eq_true rfl⟩) ⟨pq_blind, pq_recv hK hP hL_this hK_this (by decide +kernel) rfl, pq_pre hK hN hP hD⟩ rfl rfl hl.1 rfl (lv_room (Nat.le_of_ble_eq_true rfl)) dX12_isOfKin_32 ⟨Nat.le_of_ble_eq_true rfl, Nat.le_of_ble_eq_true rfl⟩) hD hS hA (fun x_126 σ1 μ1 H locs hw_127 hP hD hS => ?_)
          obtain ⟨hu_128, hp_131, hp_132, hfn_133, hr_130⟩ := hw_127
          obtain ⟨hu_128a, hu_128b⟩ := Prod.mk.inj hu_128
          rw [hu_128a, hu_128b] at hP hD
          replace hF := hF.trans (bn_n hfn_133)
          have tt_135 := hp_132
          refine lv_iload_n hx hb dX12_isOfKin_35 rfl (lv_at hl 3 rfl) ?_
          refine lv_icmp_ne (tgt := 43) hx hb dX12_isOfKin_36 (by decide +kernel) (fun c_136 => ?_) (fun c_136 => ?_)
          · replace hF := hF.trans (if_neg c_136)
            have tc_140 : (x_126).toInt ≠ (a2).toInt := fun q => c_136 (Int32.toInt_inj.mp q)
            exact K_94 _ _ _ hF hFr hG hP hD hS (lv_sub hl [] rfl)
          · replace hF := hF.trans (if_pos c_136)
            have tc_141 : (x_126).toInt = (a2).toInt := congrArg Int32.toInt c_136
            have h_142 : rg a2 0 300 := rg_and (rg_full _) (rg_of_eq c_136.symm hr_130) (by decide +kernel)
            have uh_142 := h_142.1
            have vh_142 := h_142.2
            exact K_46 _ _ _ hF hFr hG hP hD hS (lv_sub hl [] rfl)
  exact go _ _ _ hP hD hS hl

set_option maxRecDepth 100000 in
def g_X12_family_K187 (I : Nat → Int32) (J : Nat → Int64) (rj : Nat → Nat → Int64) (rq : Nat → Nat → Option Nat) (x_187655 : Int32) (ri_208453 : Nat → Nat → Int32) : Int32 × vM := (x_187655, I, J, ri_208453, rj, rq)
set_option maxRecDepth 100000 in
theorem g_X12_family_K187_e {I : Nat → Int32} {J : Nat → Int64} {rj : Nat → Nat → Int64} {rq : Nat → Nat → Option Nat} {x_187655 : Int32} {ri_208453 : Nat → Nat → Int32} : g_X12_family_K187 I J rj rq x_187655 ri_208453 = (x_187655, I, J, ri_208453, rj, rq) := rfl
set_option maxRecDepth 100000 in
def g_X12_family_K168 (x_208383 : Int32) (k_g_X12_family_L111 : (Int32) → (Nat → Nat → Int32) → Int32 × vM) (ri_208496 : Nat → Nat → Int32) : Int32 × vM := (ap1 (x_208383 + Int32.ofInt 1) fun (x_208500 : Int32) => (k_g_X12_family_L111 x_208500 ri_208496))
set_option maxRecDepth 100000 in
theorem g_X12_family_K168_e {x_208383 : Int32} {k_g_X12_family_L111 : (Int32) → (Nat → Nat → Int32) → Int32 × vM} {ri_208496 : Nat → Nat → Int32} : g_X12_family_K168 x_208383 k_g_X12_family_L111 ri_208496 = (ap1 (x_208383 + Int32.ofInt 1) fun (x_208500 : Int32) => (k_g_X12_family_L111 x_208500 ri_208496)) := rfl
set_option maxRecDepth 100000 in
def g_X12_family_L111 (a0 : Int32) (a1 : Int32) (I : Nat → Int32) (J : Nat → Int64) (rj : Nat → Nat → Int64) (rq : Nat → Nat → Option Nat) (x_2 : Int32) (x_187655 : Int32) (y_197153 : Int32) (x_204252 : Int32) : Nat → (Int32) → (Nat → Nat → Int32) → Int32 × vM
  | 0, x_208383, ri_208384 => ((0 : Int32), I, J, ri_208384, rj, rq)
  | n_208433 + 1, x_208383, ri_208384 => (if (y_197153) ≤ x_208383 then (bnV (g_X12_sails a0 x_204252 a1 I J ri_208384 rj rq) fun (_ : Nat → Int32) (_ : Nat → Int64) (ri_208460 : Nat → Nat → Int32) (_ : Nat → Nat → Int64) (_ : Nat → Nat → Option Nat) => (g_X12_family_K187 I J rj rq x_187655 ri_208460)) else (bnI (g_X12_isOfKin x_208383 a0 x_2 I J ri_208384 rj rq) fun (x_208469 : Int32) (_ : Nat → Int32) (_ : Nat → Int64) (_ : Nat → Nat → Int32) (_ : Nat → Nat → Int64) (_ : Nat → Nat → Option Nat) => (if x_208469 = (0 : Int32) then (g_X12_family_K168 x_208383 (g_X12_family_L111 a0 a1 I J rj rq x_2 x_187655 y_197153 x_204252 n_208433) ri_208384) else (ap1 (va_up ri_208384 412 (upd (ri_208384 412) (x_208383).toNatClampNeg (1 : Int32))) fun (r_208510 : Nat → Nat → Int32) => (if x_208383 = a0 then (g_X12_family_K168 x_208383 (g_X12_family_L111 a0 a1 I J rj rq x_2 x_187655 y_197153 x_204252 n_208433) r_208510) else (bnV (g_X12_sails x_208383 x_204252 a1 I J r_208510 rj rq) fun (_ : Nat → Int32) (_ : Nat → Int64) (ri_208518 : Nat → Nat → Int32) (_ : Nat → Nat → Int64) (_ : Nat → Nat → Option Nat) => (g_X12_family_K168 x_208383 (g_X12_family_L111 a0 a1 I J rj rq x_2 x_187655 y_197153 x_204252 n_208433) ri_208518)))))))
set_option maxRecDepth 100000 in
theorem g_X12_family_L111_e {a0 : Int32} {a1 : Int32} {I : Nat → Int32} {J : Nat → Int64} {rj : Nat → Nat → Int64} {rq : Nat → Nat → Option Nat} {x_2 : Int32} {x_187655 : Int32} {y_197153 : Int32} {x_204252 : Int32} {n_208433 : Nat} {x_208383 : Int32} {ri_208384 : Nat → Nat → Int32} : g_X12_family_L111 a0 a1 I J rj rq x_2 x_187655 y_197153 x_204252 (n_208433 + 1) x_208383 ri_208384 = (if (y_197153) ≤ x_208383 then (bnV (g_X12_sails a0 x_204252 a1 I J ri_208384 rj rq) fun (_ : Nat → Int32) (_ : Nat → Int64) (ri_208460 : Nat → Nat → Int32) (_ : Nat → Nat → Int64) (_ : Nat → Nat → Option Nat) => (g_X12_family_K187 I J rj rq x_187655 ri_208460)) else (bnI (g_X12_isOfKin x_208383 a0 x_2 I J ri_208384 rj rq) fun (x_208469 : Int32) (_ : Nat → Int32) (_ : Nat → Int64) (_ : Nat → Nat → Int32) (_ : Nat → Nat → Int64) (_ : Nat → Nat → Option Nat) => (if x_208469 = (0 : Int32) then (g_X12_family_K168 x_208383 (g_X12_family_L111 a0 a1 I J rj rq x_2 x_187655 y_197153 x_204252 n_208433) ri_208384) else (ap1 (va_up ri_208384 412 (upd (ri_208384 412) (x_208383).toNatClampNeg (1 : Int32))) fun (r_208510 : Nat → Nat → Int32) => (if x_208383 = a0 then (g_X12_family_K168 x_208383 (g_X12_family_L111 a0 a1 I J rj rq x_2 x_187655 y_197153 x_204252 n_208433) r_208510) else (bnV (g_X12_sails x_208383 x_204252 a1 I J r_208510 rj rq) fun (_ : Nat → Int32) (_ : Nat → Int64) (ri_208518 : Nat → Nat → Int32) (_ : Nat → Nat → Int64) (_ : Nat → Nat → Option Nat) => (g_X12_family_K168 x_208383 (g_X12_family_L111 a0 a1 I J rj rq x_2 x_187655 y_197153 x_204252 n_208433) ri_208518))))))) := rfl
set_option maxRecDepth 100000 in
def g_X12_family_K106 (a0 : Int32) (a1 : Int32) (I : Nat → Int32) (J : Nat → Int64) (ri : Nat → Nat → Int32) (rj : Nat → Nat → Int64) (rq : Nat → Nat → Option Nat) (x_2 : Int32) (x_187655 : Int32) (y_197153 : Int32) (x_204252 : Int32) : Int32 × vM := (g_X12_family_L111 a0 a1 I J rj rq x_2 x_187655 y_197153 x_204252 ((40 - ((0 : Int32)).toInt).toNat + 1) (0 : Int32) ri)
set_option maxRecDepth 100000 in
theorem g_X12_family_K106_e {a0 : Int32} {a1 : Int32} {I : Nat → Int32} {J : Nat → Int64} {ri : Nat → Nat → Int32} {rj : Nat → Nat → Int64} {rq : Nat → Nat → Option Nat} {x_2 : Int32} {x_187655 : Int32} {y_197153 : Int32} {x_204252 : Int32} : g_X12_family_K106 a0 a1 I J ri rj rq x_2 x_187655 y_197153 x_204252  = (g_X12_family_L111 a0 a1 I J rj rq x_2 x_187655 y_197153 x_204252 ((40 - ((0 : Int32)).toInt).toNat + 1) (0 : Int32) ri) := rfl
set_option maxRecDepth 100000 in
def g_X12_family_K187_2 (I : Nat → Int32) (J : Nat → Int64) (rj : Nat → Nat → Int64) (rq : Nat → Nat → Option Nat) (ri_208920 : Nat → Nat → Int32) : Int32 × vM := ((0 : Int32), I, J, ri_208920, rj, rq)
set_option maxRecDepth 100000 in
theorem g_X12_family_K187_2_e {I : Nat → Int32} {J : Nat → Int64} {rj : Nat → Nat → Int64} {rq : Nat → Nat → Option Nat} {ri_208920 : Nat → Nat → Int32} : g_X12_family_K187_2 I J rj rq ri_208920  = ((0 : Int32), I, J, ri_208920, rj, rq) := rfl
set_option maxRecDepth 100000 in
def g_X12_family_K168_2 (x_208919 : Int32) (k_g_X12_family_L111_2 : (Int32) → (Nat → Nat → Int32) → Int32 × vM) (ri_208990 : Nat → Nat → Int32) : Int32 × vM := (ap1 (x_208919 + Int32.ofInt 1) fun (x_208994 : Int32) => (k_g_X12_family_L111_2 x_208994 ri_208990))
set_option maxRecDepth 100000 in
theorem g_X12_family_K168_2_e {x_208919 : Int32} {k_g_X12_family_L111_2 : (Int32) → (Nat → Nat → Int32) → Int32 × vM} {ri_208990 : Nat → Nat → Int32} : g_X12_family_K168_2 x_208919 k_g_X12_family_L111_2 ri_208990 = (ap1 (x_208919 + Int32.ofInt 1) fun (x_208994 : Int32) => (k_g_X12_family_L111_2 x_208994 ri_208990)) := rfl
set_option maxRecDepth 100000 in
def g_X12_family_L111_2 (a0 : Int32) (I : Nat → Int32) (J : Nat → Int64) (rj : Nat → Nat → Int64) (rq : Nat → Nat → Option Nat) (x_2 : Int32) (y_197153 : Int32) : Nat → (Int32) → (Nat → Nat → Int32) → Int32 × vM
  | 0, x_208919, ri_208920 => ((0 : Int32), I, J, ri_208920, rj, rq)
  | n_208952 + 1, x_208919, ri_208920 => (if (y_197153) ≤ x_208919 then (g_X12_family_K187_2 I J rj rq ri_208920 ) else (bnI (g_X12_isOfKin x_208919 a0 x_2 I J ri_208920 rj rq) fun (x_208971 : Int32) (_ : Nat → Int32) (_ : Nat → Int64) (_ : Nat → Nat → Int32) (_ : Nat → Nat → Int64) (_ : Nat → Nat → Option Nat) => (if x_208971 = (0 : Int32) then (g_X12_family_K168_2 x_208919 (g_X12_family_L111_2 a0 I J rj rq x_2 y_197153 n_208952) ri_208920) else (ap1 (va_up ri_208920 412 (upd (ri_208920 412) (x_208919).toNatClampNeg (1 : Int32))) fun (r_209004 : Nat → Nat → Int32) => (if x_208919 = a0 then (g_X12_family_K168_2 x_208919 (g_X12_family_L111_2 a0 I J rj rq x_2 y_197153 n_208952) r_209004) else (g_X12_family_K168_2 x_208919 (g_X12_family_L111_2 a0 I J rj rq x_2 y_197153 n_208952) r_209004))))))
set_option maxRecDepth 100000 in
theorem g_X12_family_L111_2_e {a0 : Int32} {I : Nat → Int32} {J : Nat → Int64} {rj : Nat → Nat → Int64} {rq : Nat → Nat → Option Nat} {x_2 : Int32} {y_197153 : Int32} {n_208952 : Nat} {x_208919 : Int32} {ri_208920 : Nat → Nat → Int32} : g_X12_family_L111_2 a0 I J rj rq x_2 y_197153 (n_208952 + 1) x_208919 ri_208920 = (if (y_197153) ≤ x_208919 then (g_X12_family_K187_2 I J rj rq ri_208920 ) else (bnI (g_X12_isOfKin x_208919 a0 x_2 I J ri_208920 rj rq) fun (x_208971 : Int32) (_ : Nat → Int32) (_ : Nat → Int64) (_ : Nat → Nat → Int32) (_ : Nat → Nat → Int64) (_ : Nat → Nat → Option Nat) => (if x_208971 = (0 : Int32) then (g_X12_family_K168_2 x_208919 (g_X12_family_L111_2 a0 I J rj rq x_2 y_197153 n_208952) ri_208920) else (ap1 (va_up ri_208920 412 (upd (ri_208920 412) (x_208919).toNatClampNeg (1 : Int32))) fun (r_209004 : Nat → Nat → Int32) => (if x_208919 = a0 then (g_X12_family_K168_2 x_208919 (g_X12_family_L111_2 a0 I J rj rq x_2 y_197153 n_208952) r_209004) else (g_X12_family_K168_2 x_208919 (g_X12_family_L111_2 a0 I J rj rq x_2 y_197153 n_208952) r_209004)))))) := rfl
set_option maxRecDepth 100000 in
def g_X12_family_K106_2 (a0 : Int32) (I : Nat → Int32) (J : Nat → Int64) (ri : Nat → Nat → Int32) (rj : Nat → Nat → Int64) (rq : Nat → Nat → Option Nat) (x_2 : Int32) (y_197153 : Int32) : Int32 × vM := (g_X12_family_L111_2 a0 I J rj rq x_2 y_197153 ((40 - ((0 : Int32)).toInt).toNat + 1) (0 : Int32) ri)
set_option maxRecDepth 100000 in
theorem g_X12_family_K106_2_e {a0 : Int32} {I : Nat → Int32} {J : Nat → Int64} {ri : Nat → Nat → Int32} {rj : Nat → Nat → Int64} {rq : Nat → Nat → Option Nat} {x_2 : Int32} {y_197153 : Int32} : g_X12_family_K106_2 a0 I J ri rj rq x_2 y_197153  = (g_X12_family_L111_2 a0 I J rj rq x_2 y_197153 ((40 - ((0 : Int32)).toInt).toNat + 1) (0 : Int32) ri) := rfl
set_option maxRecDepth 100000 in
def g_X12_family_K105 (a0 : Int32) (I : Nat → Int32) (J : Nat → Int64) (ri : Nat → Nat → Int32) (rj : Nat → Nat → Int64) (rq : Nat → Nat → Option Nat) (x_2 : Int32) (y_197153 : Int32) : Int32 × vM := (g_X12_family_K106_2 a0 I J ri rj rq x_2 y_197153 )
set_option maxRecDepth 100000 in
theorem g_X12_family_K105_e {a0 : Int32} {I : Nat → Int32} {J : Nat → Int64} {ri : Nat → Nat → Int32} {rj : Nat → Nat → Int64} {rq : Nat → Nat → Option Nat} {x_2 : Int32} {y_197153 : Int32} : g_X12_family_K105 a0 I J ri rj rq x_2 y_197153  = (g_X12_family_K106_2 a0 I J ri rj rq x_2 y_197153 ) := rfl
set_option maxRecDepth 100000 in
def g_X12_family_K84 (a0 : Int32) (a1 : Int32) (a2 : Int32) (I : Nat → Int32) (J : Nat → Int64) (ri : Nat → Nat → Int32) (rj : Nat → Nat → Int64) (rq : Nat → Nat → Option Nat) (x_2 : Int32) (x_187655 : Int32) (y_197153 : Int32) (x_204252 : Int32) (y_205442 : Int32) : Int32 × vM := (if a2 < x_187655 then (g_X12_family_K105 a0 I J ri rj rq x_2 y_197153 ) else (if (y_205442) ≤ x_204252 then (g_X12_family_K105 a0 I J ri rj rq x_2 y_197153 ) else (g_X12_family_K106 a0 a1 I J ri rj rq x_2 x_187655 y_197153 x_204252 )))
set_option maxRecDepth 100000 in
theorem g_X12_family_K84_e {a0 : Int32} {a1 : Int32} {a2 : Int32} {I : Nat → Int32} {J : Nat → Int64} {ri : Nat → Nat → Int32} {rj : Nat → Nat → Int64} {rq : Nat → Nat → Option Nat} {x_2 : Int32} {x_187655 : Int32} {y_197153 : Int32} {x_204252 : Int32} {y_205442 : Int32} : g_X12_family_K84 a0 a1 a2 I J ri rj rq x_2 x_187655 y_197153 x_204252 y_205442  = (if a2 < x_187655 then (g_X12_family_K105 a0 I J ri rj rq x_2 y_197153 ) else (if (y_205442) ≤ x_204252 then (g_X12_family_K105 a0 I J ri rj rq x_2 y_197153 ) else (g_X12_family_K106 a0 a1 I J ri rj rq x_2 x_187655 y_197153 x_204252 ))) := rfl
set_option maxRecDepth 100000 in
def g_X12_family_L56 (a0 : Int32) (a1 : Int32) (a2 : Int32) (I : Nat → Int32) (J : Nat → Int64) (ri : Nat → Nat → Int32) (rj : Nat → Nat → Int64) (rq : Nat → Nat → Option Nat) (x_2 : Int32) (x_187655 : Int32) (y_197153 : Int32) : Nat → (Int32) → Int32 × vM
  | 0, x_204252 => ((0 : Int32), I, J, ri, rj, rq)
  | n_205436 + 1, x_204252 => (ap1 (ri 384 4) fun (y_205442 : Int32) => (if (y_205442) ≤ x_204252 then (g_X12_family_K84 a0 a1 a2 I J ri rj rq x_2 x_187655 y_197153 x_204252 y_205442 ) else (bnI (g_X12_freeIn x_204252 I J ri rj rq) fun (x_209041 : Int32) (_ : Nat → Int32) (_ : Nat → Int64) (_ : Nat → Nat → Int32) (_ : Nat → Nat → Int64) (_ : Nat → Nat → Option Nat) => (if x_187655 ≤ x_209041 then (g_X12_family_K84 a0 a1 a2 I J ri rj rq x_2 x_187655 y_197153 x_204252 y_205442 ) else (ap1 (x_204252 + Int32.ofInt 1) fun (x_209057 : Int32) => ((g_X12_family_L56 a0 a1 a2 I J ri rj rq x_2 x_187655 y_197153 n_205436) x_209057))))))
set_option maxRecDepth 100000 in
theorem g_X12_family_L56_e {a0 : Int32} {a1 : Int32} {a2 : Int32} {I : Nat → Int32} {J : Nat → Int64} {ri : Nat → Nat → Int32} {rj : Nat → Nat → Int64} {rq : Nat → Nat → Option Nat} {x_2 : Int32} {x_187655 : Int32} {y_197153 : Int32} {n_205436 : Nat} {x_204252 : Int32} : g_X12_family_L56 a0 a1 a2 I J ri rj rq x_2 x_187655 y_197153 (n_205436 + 1) x_204252 = (ap1 (ri 384 4) fun (y_205442 : Int32) => (if (y_205442) ≤ x_204252 then (g_X12_family_K84 a0 a1 a2 I J ri rj rq x_2 x_187655 y_197153 x_204252 y_205442 ) else (bnI (g_X12_freeIn x_204252 I J ri rj rq) fun (x_209041 : Int32) (_ : Nat → Int32) (_ : Nat → Int64) (_ : Nat → Nat → Int32) (_ : Nat → Nat → Int64) (_ : Nat → Nat → Option Nat) => (if x_187655 ≤ x_209041 then (g_X12_family_K84 a0 a1 a2 I J ri rj rq x_2 x_187655 y_197153 x_204252 y_205442 ) else (ap1 (x_204252 + Int32.ofInt 1) fun (x_209057 : Int32) => ((g_X12_family_L56 a0 a1 a2 I J ri rj rq x_2 x_187655 y_197153 n_205436) x_209057)))))) := rfl
set_option maxRecDepth 100000 in
def g_X12_family_K44 (x_187655 : Int32) (x_187656 : Int32) (k_g_X12_family_L14 : (Int32) → (Int32) → Int32 × vM) : Int32 × vM := (ap1 (x_187655 + (0 : Int32)) fun (x_209087 : Int32) => (ap1 (x_187656 + Int32.ofInt 1) fun (x_209089 : Int32) => (k_g_X12_family_L14 x_209087 x_209089)))
set_option maxRecDepth 100000 in
theorem g_X12_family_K44_e {x_187655 : Int32} {x_187656 : Int32} {k_g_X12_family_L14 : (Int32) → (Int32) → Int32 × vM} : g_X12_family_K44 x_187655 x_187656 k_g_X12_family_L14  = (ap1 (x_187655 + (0 : Int32)) fun (x_209087 : Int32) => (ap1 (x_187656 + Int32.ofInt 1) fun (x_209089 : Int32) => (k_g_X12_family_L14 x_209087 x_209089))) := rfl
set_option maxRecDepth 100000 in
def g_X12_family_K44_2 (x_187655 : Int32) (x_187656 : Int32) (k_g_X12_family_L14 : (Int32) → (Int32) → Int32 × vM) : Int32 × vM := (ap1 (x_187655 + (1 : Int32)) fun (x_209094 : Int32) => (ap1 (x_187656 + Int32.ofInt 1) fun (x_209095 : Int32) => (k_g_X12_family_L14 x_209094 x_209095)))
set_option maxRecDepth 100000 in
theorem g_X12_family_K44_2_e {x_187655 : Int32} {x_187656 : Int32} {k_g_X12_family_L14 : (Int32) → (Int32) → Int32 × vM} : g_X12_family_K44_2 x_187655 x_187656 k_g_X12_family_L14  = (ap1 (x_187655 + (1 : Int32)) fun (x_209094 : Int32) => (ap1 (x_187656 + Int32.ofInt 1) fun (x_209095 : Int32) => (k_g_X12_family_L14 x_209094 x_209095))) := rfl
set_option maxRecDepth 100000 in
def g_X12_family_L14 (a0 : Int32) (a1 : Int32) (a2 : Int32) (I : Nat → Int32) (J : Nat → Int64) (ri : Nat → Nat → Int32) (rj : Nat → Nat → Int64) (rq : Nat → Nat → Option Nat) (x_2 : Int32) : Nat → (Int32) → (Int32) → Int32 × vM
  | 0, x_187655, x_187656 => ((0 : Int32), I, J, ri, rj, rq)
  | n_197147 + 1, x_187655, x_187656 => (ap1 (ri 384 5) fun (y_197153 : Int32) => (if (y_197153) ≤ x_187656 then (g_X12_family_L56 a0 a1 a2 I J ri rj rq x_2 x_187655 y_197153 ((5 - ((0 : Int32)).toInt).toNat + 1) (0 : Int32)) else (bnI (g_X12_isOfKin x_187656 a0 x_2 I J ri rj rq) fun (x_209062 : Int32) (_ : Nat → Int32) (_ : Nat → Int64) (_ : Nat → Nat → Int32) (_ : Nat → Nat → Int64) (_ : Nat → Nat → Option Nat) => (if x_209062 = (0 : Int32) then (g_X12_family_K44 x_187655 x_187656 (g_X12_family_L14 a0 a1 a2 I J ri rj rq x_2 n_197147) ) else (g_X12_family_K44_2 x_187655 x_187656 (g_X12_family_L14 a0 a1 a2 I J ri rj rq x_2 n_197147) )))))
set_option maxRecDepth 100000 in
theorem g_X12_family_L14_e {a0 : Int32} {a1 : Int32} {a2 : Int32} {I : Nat → Int32} {J : Nat → Int64} {ri : Nat → Nat → Int32} {rj : Nat → Nat → Int64} {rq : Nat → Nat → Option Nat} {x_2 : Int32} {n_197147 : Nat} {x_187655 : Int32} {x_187656 : Int32} : g_X12_family_L14 a0 a1 a2 I J ri rj rq x_2 (n_197147 + 1) x_187655 x_187656 = (ap1 (ri 384 5) fun (y_197153 : Int32) => (if (y_197153) ≤ x_187656 then (g_X12_family_L56 a0 a1 a2 I J ri rj rq x_2 x_187655 y_197153 ((5 - ((0 : Int32)).toInt).toNat + 1) (0 : Int32)) else (bnI (g_X12_isOfKin x_187656 a0 x_2 I J ri rj rq) fun (x_209062 : Int32) (_ : Nat → Int32) (_ : Nat → Int64) (_ : Nat → Nat → Int32) (_ : Nat → Nat → Int64) (_ : Nat → Nat → Option Nat) => (if x_209062 = (0 : Int32) then (g_X12_family_K44 x_187655 x_187656 (g_X12_family_L14 a0 a1 a2 I J ri rj rq x_2 n_197147) ) else (g_X12_family_K44_2 x_187655 x_187656 (g_X12_family_L14 a0 a1 a2 I J ri rj rq x_2 n_197147) ))))) := rfl
set_option maxRecDepth 100000 in
def g_X12_family (a0 : Int32) (a1 : Int32) (a2 : Int32) (I : Nat → Int32) (J : Nat → Int64) (ri : Nat → Nat → Int32) (rj : Nat → Nat → Int64) (rq : Nat → Nat → Option Nat) : Int32 × vM := (bnI (g_X12_personAt_c3 a0 I J ri rj rq) fun (x_2 : Int32) (_ : Nat → Int32) (_ : Nat → Int64) (_ : Nat → Nat → Int32) (_ : Nat → Nat → Int64) (_ : Nat → Nat → Option Nat) => (g_X12_family_L14 a0 a1 a2 I J ri rj rq x_2 ((40 - ((0 : Int32)).toInt).toNat + 1) (0 : Int32) (0 : Int32)))
set_option maxRecDepth 100000 in
theorem g_X12_family_e {a0 : Int32} {a1 : Int32} {a2 : Int32} {I : Nat → Int32} {J : Nat → Int64} {ri : Nat → Nat → Int32} {rj : Nat → Nat → Int64} {rq : Nat → Nat → Option Nat} : g_X12_family a0 a1 a2 I J ri rj rq = (bnI (g_X12_personAt_c3 a0 I J ri rj rq) fun (x_2 : Int32) (_ : Nat → Int32) (_ : Nat → Int64) (_ : Nat → Nat → Int32) (_ : Nat → Nat → Int64) (_ : Nat → Nat → Option Nat) => (g_X12_family_L14 a0 a1 a2 I J ri rj rq x_2 ((40 - ((0 : Int32)).toInt).toNat + 1) (0 : Int32) (0 : Int32))) := rfl
set_option maxHeartbeats 4000000 in
set_option maxRecDepth 100000 in
theorem s_X12_family (l : Launch) (D : va_G) (t : pq_T) (σ : pq_S) (I : Nat → Nat → Int32) (J : Nat → Nat → Int64) (ri : Nat → Nat → Int32) (rj : Nat → Nat → Int64) (rq : Nat → Nat → Option Nat) (sz : Nat) (tg : Nat → Nat) (hSH : SH σ tg) (hG0 : GT tg I ri) (this : Nat) (a0 : Int32) (a1 : Int32) (a2 : Int32) (hL_this : this ∈ σ.1) (hK_this : σ.2.1 this = 12) (h_a0 : rg a0 0 39) : MetI l yX12_family (wa yX12_family cX12_family 9 (some .int)) ({ frames := 3, cells := 0, slots := 0, locals := 66 }) [.ref this, .int a0, .int a1, .int a2] D t σ (I, J, ri, rj, rq) sz 0 0 (fun (r : Int32) (u : pq_S × pq_M) => ∃ ri' : Nat → Nat → Int32, u = (σ, I, J, ri', rj, rq) ∧ GM [1403] tg σ I ri I ri' rq ∧ g_X12_family a0 a1 a2 (vI 12 σ this I) (vJ 12 σ this J) (vR 12 σ this ri) (vL 12 σ this rj) (vQ 12 σ this rq) = (r, (vI 12 σ this I), (vJ 12 σ this J), (vR 12 σ this ri'), (vL 12 σ this rj), (vQ 12 σ this rq)) ∧ FR 12 tg σ this (I, J, ri, rj, rq) (I, J, ri', rj, rq)) := by
  refine Met.ofW (cc := cX12_family) (maxL := 9) (ret := (some .int)) (by decide +kernel) rfl ?_
  intro p e s m args below meth c s₁ B hml hv
  obtain ⟨rfl, hsz, hP, hK, hD0, hN⟩ := hv
  have hx := B.exec
  have hb := B.bytes
  have hr := B.returns
  have hts := atoms_spec (ws := (wa yX12_family cX12_family 9 (some .int))) B.pre
  have hown : s.vm.findClass RX12 = some m.cls := findClass_of_methodNamed B.named
  have hlocks := B.notSynchronized
  subst hsz
  have hD : va_D (pq_B t σ (I, J, ri, rj, rq) s.heap.size) (pq_P t σ (I, J, ri, rj, rq)) := hD0.self
  generalize hAe : pq_B t σ (I, J, ri, rj, rq) s.heap.size = A at hD ⊢
  have hA : ∀ q : Nat, s.heap.size ≤ q → A q := fun q h => by rw [← hAe]; exact Or.inr h
  have hS : va_S A s.heap s.heap [] := va_S.rf
  have hG : GM [1403] tg σ I ri I ri rq := ⟨hG0, fun _ _ _ => rfl, fun _ _ _ _ _ => rfl, fun _ _ _ _ _ _ => rfl⟩
  have hl := lv_entry ([.ref this, .int a0, .int a1, .int a2]) (n := 9) (Nat.le_of_ble_eq_true rfl)
  rw [lg_entry_eq]
  generalize (lg_sl ([.ref this, .int a0, .int a1, .int a2]) ++ List.replicate (9 - (lg_sl ([.ref this, .int a0, .int a1, .int a2])).length) Slot.unset).toArray = ls at hl ⊢
  have hl : lv_has ls 9 [(0, .ref this), (1, .int a0), (2, .int a1), (3, .int a2)] := hl
  refine q_gen (fun Q hQ => ?_)
  have go : ∀ (H : Heap) (locs : List Loc) (ls : Array Slot), va_P D vwCl (pq_P t σ (I, J, ri, rj, rq)) H → va_D A (pq_P t σ (I, J, ri, rj, rq)) → va_S A s.heap H locs → lv_has ls 9 [(0, .ref this), (1, .int a0), (2, .int a1), (3, .int a2)] → W p l e ({ frames := 3, cells := 0, slots := 0, locals := 66 } : Room) s m (List.toArray ([.ref this, .int a0, .int a1, .int a2] : List Value)) below meth c H locs 0 0 Q (F0 m 0 ls []) := by
    intro H locs ls hP hD hS hl
    have hO_this : this = vo σ 12 this := rfl
    have hVT : VT 12 σ tg this := vt_12 hSH hL_this hK_this
    have hFr : FR 12 tg σ this (I, J, ri, rj, rq) (I, J, ri, rj, rq) := fr_rf
    obtain ⟨F, hF0⟩ : ∃ F, F = g_X12_family a0 a1 a2 (vI 12 σ this I) (vJ 12 σ this J) (vR 12 σ this ri) (vL 12 σ this rj) (vQ 12 σ this rq) := ⟨_, rfl⟩
    have hF := hF0.trans g_X12_family_e
    refine lv_aload_n hx hb dX12_family_0 rfl (lv_at hl 0 rfl) ?_
    refine lv_iload_n hx hb dX12_family_1 rfl (lv_at hl 1 rfl) ?_
    refine lv_iconst (v := 3) hx hb dX12_family_2 (by decide +kernel) ?_
    obtain ⟨w_1, hR_w_1, hL_w_1, hK_w_1, hN_w_1, hT_w_1⟩ := sh_a hSH 384 (ci := 12) (kd := 13) (len := 12720) rfl (by decide +kernel) hL_this hK_this
    have hO_w_1 : w_1 = vrow σ 384 this := vo_k (c := 12) hO_this hR_w_1
    refine pk_i (va_runV (As := [.int a0, .int 3]) (rest := []) ⟨hx, hb, hml, hown, hts⟩ (s_X12_personAt_c3 l D t σ I J ri rj rq H.size tg hSH hG.1 this a0 hL_this hK_this (rg_w h_a0 (by decide +kernel)) w_1 hR_w_1 hL_w_1 hK_w_1 hN_w_1 hT_w_1) (cwV 2 hts (tw_V tw_437 tw_438 tw_439 tw_5 tw_440) rfl rfl rfl cv_yX12_personAt_2 ⟨Nat.le_of_ble_eq_true rfl, Nat.le_of_ble_eq_true rfl⟩) ⟨pq_blind, pq_recv hK hP hL_this hK_this (by decide +kernel) rfl, pq_pre hK hN hP hD⟩ rfl rfl hl.1 rfl (lv_room (Nat.le_of_ble_eq_true rfl)) dX12_family_3 ⟨Nat.le_of_ble_eq_true rfl, Nat.le_of_ble_eq_true rfl⟩) hD hS hA (fun x_2 σ1 μ1 H locs hw_3 hP hD hS => ?_)
    obtain ⟨hu_4, hp_7, hp_8, hfn_9, hr_6⟩ := hw_3
    obtain ⟨hu_4a, hu_4b⟩ := Prod.mk.inj hu_4
    rw [hu_4a, hu_4b] at hP hD
    replace hF := hF.trans (bn_n hfn_9)
    have tt_11 := hp_8
    refine lv_istore (lv' := [(4, .int x_2), (0, .ref this), (1, .int a0), (2, .int a1), (3, .int a2)]) hx hb dX12_family_6 hl (by decide +kernel) rfl (fun ls hl => ?_)
    refine lv_iconst (v := 0) hx hb dX12_family_8 (by decide +kernel) ?_
    refine lv_istore (lv' := [(5, .int 0), (4, .int x_2), (0, .ref this), (1, .int a0), (2, .int a1), (3, .int a2)]) hx hb dX12_family_9 hl (by decide +kernel) rfl (fun ls hl => ?_)
    refine lv_iconst (v := 0) hx hb dX12_family_11 (by decide +kernel) ?_
    refine lv_istore (lv' := [(6, .int 0), (5, .int 0), (4, .int x_2), (0, .ref this), (1, .int a0), (2, .int a1), (3, .int a2)]) hx hb dX12_family_12 hl (by decide +kernel) rfl (fun ls hl => ?_)
    have L_197148 : ∀ (n_197147 : Nat) (x_187655 : Int32) (x_187656 : Int32) (H : Heap) (locs : List Loc) (ls : Array Slot), rg x_187656 0 40 → (40 - (x_187656).toInt).toNat < n_197147 → F = g_X12_family_L14 a0 a1 a2 (vI 12 σ this I) (vJ 12 σ this J) (vR 12 σ this ri) (vL 12 σ this rj) (vQ 12 σ this rq) x_2 n_197147 x_187655 x_187656 → FR 12 tg σ this (I, J, ri, rj, rq) (I, J, ri, rj, rq) → GM [1403] tg σ I ri I ri rq → va_P D vwCl (pq_P t σ (I, J, ri, rj, rq)) H → va_D A (pq_P t σ (I, J, ri, rj, rq)) → va_S A s.heap H locs → lv_has ls 9 [(0, .ref this), (1, .int a0), (2, .int a1), (3, .int a2), (4, .int x_2), (5, .int x_187655), (6, .int x_187656)] → W p l e ({ frames := 3, cells := 0, slots := 0, locals := 66 } : Room) s m (List.toArray ([.ref this, .int a0, .int a1, .int a2] : List Value)) below meth c H locs 0 0 Q (F0 m 14 ls []) := by
      intro n_197147
      induction n_197147 with
      | zero => intro x_187655 x_187656 H locs ls h_197151 hm_197146 hF hFr hG hP hD hS hl; exact absurd hm_197146 (Nat.not_lt_zero _)
      | succ n_197147 ih_197149 =>
        intro x_187655 x_187656 H locs ls h_197151 hm_197146 hF hFr hG hP hD hS hl
        have uh_197151 := h_197151.1
        have vh_197151 := h_197151.2
        replace hF := hF.trans g_X12_family_L14_e
        refine lv_iload hx hb dX12_family_14 (lv_at hl 6 rfl) ?_
        refine lv_aload_n hx hb dX12_family_16 rfl (lv_at hl 0 rfl) ?_
        refine pg_f (v := .ref w_1) (C := RX12) (T := TX12) (N := 31) hx hb hts (tw_i inlX12) hown hK hP hL_this hK_this (by decide +kernel) rfl 0 (by decide +kernel) (hts _ (tw_c tw_176)) (pq_hv rfl hR_w_1) dX12_family_17 ?_
        refine lv_iconst (v := 5) hx hb dX12_family_20 (by decide +kernel) ?_
        refine pl_i hx hb hK hP hL_w_1 hK_w_1 hN_w_1 (vp_in_iff.mpr (by decide +kernel)) dX12_family_21 ?_
        refine lv_tov (ri w_1 5) rfl ?_
        have h_197152 : rg (ri w_1 5) 0 40 := GM.z0 hG0 (by rw [hT_w_1]; decide) (i := 5) (k := 5) (by decide +kernel) rfl
        have uh_197152 := h_197152.1
        have vh_197152 := h_197152.2
        replace hF := hF.trans (ap_n (vR_r hO_w_1 (by decide +kernel) rfl))
        refine lv_icmp_ge (tgt := 53) hx hb dX12_family_22 (by decide +kernel) (fun c_197154 => ?_) (fun c_197154 => ?_)
        · replace hF := hF.trans (if_pos c_197154)
          have tc_197159 : (ri w_1 5).toInt ≤ (x_187656).toInt := Int32.le_iff_toInt_le.mp c_197154
          refine lv_iconst (v := 0) hx hb dX12_family_53 (by decide +kernel) ?_
          refine lv_istore (lv' := [(6, .int 0), (0, .ref this), (1, .int a0), (2, .int a1), (3, .int a2), (4, .int x_2), (5, .int x_187655)]) hx hb dX12_family_54 hl (by decide +kernel) rfl (fun ls hl => ?_)
          have L_205437 : ∀ (n_205436 : Nat) (x_204252 : Int32) (H : Heap) (locs : List Loc) (ls : Array Slot), rg x_204252 0 5 → (5 - (x_204252).toInt).toNat < n_205436 → F = g_X12_family_L56 a0 a1 a2 (vI 12 σ this I) (vJ 12 σ this J) (vR 12 σ this ri) (vL 12 σ this rj) (vQ 12 σ this rq) x_2 x_187655 (ri w_1 5) n_205436 x_204252 → FR 12 tg σ this (I, J, ri, rj, rq) (I, J, ri, rj, rq) → GM [1403] tg σ I ri I ri rq → va_P D vwCl (pq_P t σ (I, J, ri, rj, rq)) H → va_D A (pq_P t σ (I, J, ri, rj, rq)) → va_S A s.heap H locs → lv_has ls 9 [(0, .ref this), (1, .int a0), (2, .int a1), (3, .int a2), (4, .int x_2), (5, .int x_187655), (6, .int x_204252)] → W p l e ({ frames := 3, cells := 0, slots := 0, locals := 66 } : Room) s m (List.toArray ([.ref this, .int a0, .int a1, .int a2] : List Value)) below meth c H locs 0 0 Q (F0 m 56 ls []) := by
            intro n_205436
            induction n_205436 with
            | zero => intro x_204252 H locs ls h_205440 hm_205435 hF hFr hG hP hD hS hl; exact absurd hm_205435 (Nat.not_lt_zero _)
            | succ n_205436 ih_205438 =>
              intro x_204252 H locs ls h_205440 hm_205435 hF hFr hG hP hD hS hl
              have uh_205440 := h_205440.1
              have vh_205440 := h_205440.2
              replace hF := hF.trans g_X12_family_L56_e
              refine lv_iload hx hb dX12_family_56 (lv_at hl 6 rfl) ?_
              refine lv_aload_n hx hb dX12_family_58 rfl (lv_at hl 0 rfl) ?_
              refine pg_f (v := .ref w_1) (C := RX12) (T := TX12) (N := 31) hx hb hts (tw_i inlX12) hown hK hP hL_this hK_this (by decide +kernel) rfl 0 (by decide +kernel) (hts _ (tw_c tw_176)) (pq_hv rfl hR_w_1) dX12_family_59 ?_
              refine lv_iconst (v := 4) hx hb dX12_family_62 (by decide +kernel) ?_
              refine pl_i hx hb hK hP hL_w_1 hK_w_1 hN_w_1 (vp_in_iff.mpr (by decide +kernel)) dX12_family_63 ?_
              refine lv_tov (ri w_1 4) rfl ?_
              have h_205441 : rg (ri w_1 4) 0 5 := GM.z0 hG0 (by rw [hT_w_1]; decide) (i := 4) (k := 4) (by decide +kernel) rfl
              have uh_205441 := h_205441.1
              have vh_205441 := h_205441.2
              replace hF := hF.trans (ap_n (vR_r hO_w_1 (by decide +kernel) rfl))
              have K_206622 : ∀  (H : Heap) (locs : List Loc) (ls : Array Slot), F = g_X12_family_K84 a0 a1 a2 (vI 12 σ this I) (vJ 12 σ this J) (vR 12 σ this ri) (vL 12 σ this rj) (vQ 12 σ this rq) x_2 x_187655 (ri w_1 5) x_204252 (ri w_1 4)  → FR 12 tg σ this (I, J, ri, rj, rq) (I, J, ri, rj, rq) → GM [1403] tg σ I ri I ri rq → va_P D vwCl (pq_P t σ (I, J, ri, rj, rq)) H → va_D A (pq_P t σ (I, J, ri, rj, rq)) → va_S A s.heap H locs → lv_has ls 9 [(0, .ref this), (1, .int a0), (2, .int a1), (3, .int a2), (4, .int x_2), (5, .int x_187655), (6, .int x_204252)] → W p l e ({ frames := 3, cells := 0, slots := 0, locals := 66 } : Room) s m (List.toArray ([.ref this, .int a0, .int a1, .int a2] : List Value)) below meth c H locs 0 0 Q (F0 m 84 ls []) := by
                intro H locs ls hF hFr hG hP hD hS hl
                replace hF := hF.trans g_X12_family_K84_e
                refine lv_iload hx hb dX12_family_84 (lv_at hl 5 rfl) ?_
                refine lv_iload_n hx hb dX12_family_86 rfl (lv_at hl 3 rfl) ?_
                have K_207783 : ∀  (H : Heap) (locs : List Loc) (ls : Array Slot), rg (ri w_1 4) 1 5 → rg (x_204252) 0 4 → F = g_X12_family_K106 a0 a1 (vI 12 σ this I) (vJ 12 σ this J) (vR 12 σ this ri) (vL 12 σ this rj) (vQ 12 σ this rq) x_2 x_187655 (ri w_1 5) x_204252  → FR 12 tg σ this (I, J, ri, rj, rq) (I, J, ri, rj, rq) → GM [1403] tg σ I ri I ri rq → va_P D vwCl (pq_P t σ (I, J, ri, rj, rq)) H → va_D A (pq_P t σ (I, J, ri, rj, rq)) → va_S A s.heap H locs → lv_has ls 9 [(0, .ref this), (1, .int a0), (2, .int a1), (4, .int x_2), (5, .int x_187655), (6, .int x_204252)] → W p l e ({ frames := 3, cells := 0, slots := 0, locals := 66 } : Room) s m (List.toArray ([.ref this, .int a0, .int a1, .int a2] : List Value)) below meth c H locs 0 0 Q (F0 m 106 ls [.int 1]) := by
                  intro H locs ls h_207786 h_207787 hF hFr hG hP hD hS hl
                  have uh_207786 := h_207786.1
                  have vh_207786 := h_207786.2
                  have uh_207787 := h_207787.1
                  have vh_207787 := h_207787.2
                  replace hF := hF.trans g_X12_family_K106_e
                  refine lv_istore (lv' := [(7, .int 1), (0, .ref this), (1, .int a0), (2, .int a1), (4, .int x_2), (5, .int x_187655), (6, .int x_204252)]) hx hb dX12_family_106 hl (by decide +kernel) rfl (fun ls hl => ?_)
                  refine lv_iconst (v := 0) hx hb dX12_family_108 (by decide +kernel) ?_
                  refine lv_istore (lv' := [(8, .int 0), (7, .int 1), (0, .ref this), (1, .int a0), (2, .int a1), (4, .int x_2), (5, .int x_187655), (6, .int x_204252)]) hx hb dX12_family_109 hl (by decide +kernel) rfl (fun ls hl => ?_)
                  have L_208434 : ∀ (n_208433 : Nat) (x_208383 : Int32) (ri_208384 : Nat → Nat → Int32) (H : Heap) (locs : List Loc) (ls : Array Slot), rg x_208383 0 40 → (40 - (x_208383).toInt).toNat < n_208433 → F = g_X12_family_L111 a0 a1 (vI 12 σ this I) (vJ 12 σ this J) (vL 12 σ this rj) (vQ 12 σ this rq) x_2 x_187655 (ri w_1 5) x_204252 n_208433 x_208383 (vR 12 σ this ri_208384) → FR 12 tg σ this (I, J, ri, rj, rq) (I, J, ri_208384, rj, rq) → GM [1403] tg σ I ri I ri_208384 rq → va_P D vwCl (pq_P t σ (I, J, ri_208384, rj, rq)) H → va_D A (pq_P t σ (I, J, ri_208384, rj, rq)) → va_S A s.heap H locs → lv_has ls 9 [(0, .ref this), (1, .int a0), (2, .int a1), (4, .int x_2), (5, .int x_187655), (6, .int x_204252), (7, .int 1), (8, .int x_208383)] → W p l e ({ frames := 3, cells := 0, slots := 0, locals := 66 } : Room) s m (List.toArray ([.ref this, .int a0, .int a1, .int a2] : List Value)) below meth c H locs 0 0 Q (F0 m 111 ls []) := by
                    intro n_208433
                    induction n_208433 with
                    | zero => intro x_208383 ri_208384 H locs ls h_208437 hm_208432 hF hFr hG hP hD hS hl; exact absurd hm_208432 (Nat.not_lt_zero _)
                    | succ n_208433 ih_208435 =>
                      intro x_208383 ri_208384 H locs ls h_208437 hm_208432 hF hFr hG hP hD hS hl
                      have uh_208437 := h_208437.1
                      have vh_208437 := h_208437.2
                      replace hF := hF.trans g_X12_family_L111_e
                      refine lv_iload hx hb dX12_family_111 (lv_at hl 7 rfl) ?_
                      refine lv_aload_n hx hb dX12_family_113 rfl (lv_at hl 0 rfl) ?_
                      refine pg_f (v := .ref w_1) (C := RX12) (T := TX12) (N := 31) hx hb hts (tw_i inlX12) hown hK hP hL_this hK_this (by decide +kernel) rfl 0 (by decide +kernel) (hts _ (tw_c tw_176)) (pq_hv rfl hR_w_1) dX12_family_114 ?_
                      refine lv_iconst (v := 5) hx hb dX12_family_117 (by decide +kernel) ?_
                      refine pl_i hx hb hK hP hL_w_1 hK_w_1 hN_w_1 (vp_in_iff.mpr (by decide +kernel)) dX12_family_118 ?_
                      refine lv_tov (ri w_1 5) (hG.2.2.1 w_1 hT_w_1 5 (by decide +kernel) (by decide +kernel)) ?_
                      refine lv_icmp_ge (tgt := 174) hx hb dX12_family_119 (by decide +kernel) (fun c_208438 => ?_) (fun c_208438 => ?_)
                      · replace hF := hF.trans (if_pos c_208438)
                        have tc_208443 : (ri w_1 5).toInt ≤ (x_208383).toInt := Int32.le_iff_toInt_le.mp c_208438
                        refine lv_iload hx hb dX12_family_174 (lv_at hl 6 rfl) ?_
                        have K_208455 : ∀  (ri_208453 : Nat → Nat → Int32) (H : Heap) (locs : List Loc) (ls : Array Slot), F = g_X12_family_K187 (vI 12 σ this I) (vJ 12 σ this J) (vL 12 σ this rj) (vQ 12 σ this rq) x_187655 (vR 12 σ this ri_208453) → FR 12 tg σ this (I, J, ri, rj, rq) (I, J, ri_208453, rj, rq) → GM [1403] tg σ I ri I ri_208453 rq → va_P D vwCl (pq_P t σ (I, J, ri_208453, rj, rq)) H → va_D A (pq_P t σ (I, J, ri_208453, rj, rq)) → va_S A s.heap H locs → lv_has ls 9 [(5, .int x_187655), (7, .int 1)] → W p l e ({ frames := 3, cells := 0, slots := 0, locals := 66 } : Room) s m (List.toArray ([.ref this, .int a0, .int a1, .int a2] : List Value)) below meth c H locs 0 0 Q (F0 m 187 ls []) := by
                          intro ri_208453 H locs ls hF hFr hG hP hD hS hl
                          replace hF := hF.trans g_X12_family_K187_e
                          refine lv_iload hx hb dX12_family_187 (lv_at hl 1 rfl) ?_
                          refine lv_if_eq (tgt := 197) hx hb dX12_family_189 (by decide +kernel) (fun c_208456 => absurd c_208456 (by decide +kernel)) (fun c_208456 => ?_)
                          refine lv_iload hx hb dX12_family_192 (lv_at hl 0 rfl) ?_
                          refine lv_goto (tgt := 198) hx hb dX12_family_194 (by decide +kernel) ?_
                          subst hQ
                          exact W.iret (v := x_187655) hx hb hr (fun t1 ht hW => ⟨⟨x_187655, (σ, I, J, ri_208453, rj, rq), rfl, ⟨ri_208453, rfl, hG, (hF0.symm.trans hF), hFr⟩, by rw [ht]; exact hP, va_K.moved hW.alike hK, hD⟩, hS.F ht⟩) hS.2.2 dX12_family_198
                        refine lv_if_eq (tgt := 187) hx hb dX12_family_176 (by decide +kernel) (fun c_208457 => absurd c_208457 (by decide +kernel)) (fun c_208457 => ?_)
                        refine lv_aload_n hx hb dX12_family_179 rfl (lv_at hl 0 rfl) ?_
                        refine lv_iload_n hx hb dX12_family_180 rfl (lv_at hl 1 rfl) ?_
                        refine lv_iload hx hb dX12_family_181 (lv_at hl 5 rfl) ?_
                        refine lv_iload_n hx hb dX12_family_183 rfl (lv_at hl 2 rfl) ?_
                        refine pk_v (va_runV (As := [.int a0, .int x_204252, .int a1]) (rest := []) ⟨hx, hb, hml, hown, hts⟩ (s_X12_sails l D t σ I J ri_208384 rj rq H.size tg hSH hG.1 this a0 x_204252 a1 hL_this hK_this (rg_w h_a0 (by decide +kernel)) (rg_w h_207787 (by decide +kernel))) (cwV 3 hts (tw_V tw_1263 tw_1264 tw_1265 tw_5 tw_1266) rfl rfl rfl cv_yX12_sails_3 ⟨Nat.le_of_ble_eq_true rfl, Nat.le_of_ble_eq_true rfl⟩) ⟨pq_blind, pq_recv hK hP hL_this hK_this (by decide +kernel) rfl, pq_pre hK hN hP hD⟩ rfl rfl hl.1 rfl (lv_room (Nat.le_of_ble_eq_true rfl)) dX12_family_184 ⟨Nat.le_of_ble_eq_true rfl, Nat.le_of_ble_eq_true rfl⟩) hD hS hA (fun σ1 μ1 H locs hw_208459 hP hD hS => ?_)
                        obtain ⟨ri_208460, hu_208461, hg_208462, hfn_208464, hfr_208465⟩ := hw_208459
                        obtain ⟨hu_208461a, hu_208461b⟩ := Prod.mk.inj hu_208461
                        rw [hu_208461a, hu_208461b] at hP hD
                        replace hF := hF.trans (bv_n hfn_208464)
                        replace hFr := fr_tr hFr hfr_208465
                        have hG := GM.tr hG hg_208462 (by decide +kernel)
                        exact K_208455 ri_208460 _ _ _ hF hFr hG hP hD hS (lv_sub hl [4, 6] rfl)
                      · replace hF := hF.trans (if_neg c_208438)
                        have tc_208466 : (x_208383).toInt < (ri w_1 5).toInt := Int32.lt_iff_toInt_lt.mp (nle c_208438)
                        have h_208467 : rg x_208383 0 39 := rg_lt1 (nle c_208438) h_208437 h_197152 (by decide +kernel)
                        have uh_208467 := h_208467.1
                        have vh_208467 := h_208467.2
                        have h_208468 : rg (ri w_1 5) 1 40 := rg_lt2 (nle c_208438) h_208437 h_197152 (by decide +kernel)
                        have uh_208468 := h_208468.1
                        have vh_208468 := h_208468.2
                        refine lv_aload_n hx hb dX12_family_122 rfl (lv_at hl 0 rfl) ?_
                        refine lv_iload hx hb dX12_family_123 (lv_at hl 7 rfl) ?_
                        refine lv_iload_n hx hb dX12_family_125 rfl (lv_at hl 1 rfl) ?_
                        refine lv_iload hx hb dX12_family_126 (lv_at hl 3 rfl) ?_
                        refine pk_i (va_runV (As := [.int x_208383, .int a0, .int x_2]) (rest := []) ⟨hx, hb, hml, hown, hts⟩ (s_X12_isOfKin l D t σ I J ri_208384 rj rq H.size tg hSH hG.1 this x_208383 a0 x_2 hL_this hK_this (rg_w h_208467 (by decide +kernel)) (rg_w h_a0 (by decide +kernel))) (cwV 3 hts (tw_V tw_1259 tw_1260 tw_1261 tw_5 tw_1262) rfl rfl rfl cv_yX12_isOfKin_3 ⟨Nat.le_of_ble_eq_true rfl, Nat.le_of_ble_eq_true rfl⟩) ⟨pq_blind, pq_recv hK hP hL_this hK_this (by decide +kernel) rfl, pq_pre hK hN hP hD⟩ rfl rfl hl.1 rfl (lv_room (Nat.le_of_ble_eq_true rfl)) dX12_family_128 ⟨Nat.le_of_ble_eq_true rfl, Nat.le_of_ble_eq_true rfl⟩) hD hS hA (fun x_208469 σ1 μ1 H locs hw_208470 hP hD hS => ?_)
                        obtain ⟨hu_208471, hfn_208474, hr_208473⟩ := hw_208470
                        obtain ⟨hu_208471a, hu_208471b⟩ := Prod.mk.inj hu_208471
                        rw [hu_208471a, hu_208471b] at hP hD
                        replace hF := hF.trans (bn_n hfn_208474)
                        have h_208476 : rg x_208469 0 1 := by rcases hr_208473 with ⟨q, -⟩ | ⟨q, -⟩ <;> rw [q] <;> exact ⟨by decide +kernel, by decide +kernel⟩
                        have uh_208476 := h_208476.1
                        have vh_208476 := h_208476.2
                        have K_208499 : ∀  (ri_208496 : Nat → Nat → Int32) (H : Heap) (locs : List Loc) (ls : Array Slot), F = g_X12_family_K168 x_208383 (g_X12_family_L111 a0 a1 (vI 12 σ this I) (vJ 12 σ this J) (vL 12 σ this rj) (vQ 12 σ this rq) x_2 x_187655 (ri w_1 5) x_204252 n_208433) (vR 12 σ this ri_208496) → FR 12 tg σ this (I, J, ri, rj, rq) (I, J, ri_208496, rj, rq) → GM [1403] tg σ I ri I ri_208496 rq → va_P D vwCl (pq_P t σ (I, J, ri_208496, rj, rq)) H → va_D A (pq_P t σ (I, J, ri_208496, rj, rq)) → va_S A s.heap H locs → lv_has ls 9 [(0, .ref this), (1, .int a0), (2, .int a1), (4, .int x_2), (5, .int x_187655), (6, .int x_204252), (7, .int 1), (8, .int x_208383)] → W p l e ({ frames := 3, cells := 0, slots := 0, locals := 66 } : Room) s m (List.toArray ([.ref this, .int a0, .int a1, .int a2] : List Value)) below meth c H locs 0 0 Q (F0 m 168 ls []) := by
                          intro ri_208496 H locs ls hF hFr hG hP hD hS hl
                          replace hF := hF.trans g_X12_family_K168_e
                          obtain ⟨x_208500, ex_208500⟩ : ∃ y : Int32, y = x_208383 + Int32.ofInt 1 := ⟨_, rfl⟩
                          replace hF := hF.trans (ap_n ex_208500)
                          have h_208501 : rg x_208500 1 40 := rg_of_eq ex_208500 (rg_add h_208467 (rg_k (Int32.ofInt 1) 1 rfl) (by decide +kernel))
                          have uh_208501 := h_208501.1
                          have vh_208501 := h_208501.2
                          have tx_208500 : (x_208500).toInt = (x_208383).toInt + 1 := by rw [ex_208500]; exact i_add_rg (a2 := (x_208383).toInt) (b2 := 1) rfl rfl h_208467 (rg_k (Int32.ofInt 1) 1 rfl) (by decide +kernel)
                          refine lv_iinc (v := x_208500) (lv' := [(8, .int x_208500), (0, .ref this), (1, .int a0), (2, .int a1), (4, .int x_2), (5, .int x_187655), (6, .int x_204252), (7, .int 1)]) hx hb dX12_family_168 hl (k := 7) rfl ex_208500.symm (by decide +kernel) rfl (fun ls hl => ?_)
                          refine lv_goto (tgt := 111) hx hb dX12_family_171 (by decide +kernel) ?_
                          exact ih_208435 x_208500 ri_208496 _ _ _ (rg_w h_208501 (by decide +kernel)) (ms_up 1 hm_208432 ex_208500 rfl (by decide +kernel) h_208467 (by decide +kernel) (by decide +kernel)) hF hFr hG hP hD hS (lv_sub hl [1, 2, 3, 4, 5, 6, 7, 0] rfl)
                        refine lv_if_ne (tgt := 137) hx hb dX12_family_131 (by decide +kernel) (fun c_208502 => ?_) (fun c_208502 => ?_)
                        · replace hF := hF.trans (if_neg c_208502)
                          have tc_208507 : (x_208469).toInt ≠ 0 := fun q => c_208502 (Int32.toInt_inj.mp q)
                          have h_208508 : rg x_208469 1 1 := rg_ne c_208502 h_208476 0 rfl (by decide +kernel)
                          have uh_208508 := h_208508.1
                          have vh_208508 := h_208508.2
                          refine lv_aload_n hx hb dX12_family_137 rfl (lv_at hl 0 rfl) ?_
                          obtain ⟨w_208509, hR_w_208509, hL_w_208509, hK_w_208509, hN_w_208509, hT_w_208509⟩ := sh_a hSH 412 (ci := 12) (kd := 15) (len := 40) rfl (by decide +kernel) hL_this hK_this
                          have hO_w_208509 : w_208509 = vrow σ 412 this := vo_k (c := 12) hO_this hR_w_208509
                          refine pg_f (v := .ref w_208509) (C := RX12) (T := TX12) (N := 31) hx hb hts (tw_i inlX12) hown hK hP hL_this hK_this (by decide +kernel) rfl 28 (by decide +kernel) (hts _ (tw_c tw_189)) (pq_hv rfl hR_w_208509) dX12_family_138 ?_
                          refine lv_iload hx hb dX12_family_141 (lv_at hl 7 rfl) ?_
                          refine lv_iconst (v := 1) hx hb dX12_family_143 (by decide +kernel) ?_
                          refine pt_z hx hb hK hP hD hS hL_w_208509 hK_w_208509 hN_w_208509 (rg_in h_208467 (by decide +kernel)) (rg_w (rg_k (1 : Int32) 1 rfl) (by decide +kernel)) dX12_family_144 (fun r_208510 H locs er_208510 hP hD hS => ?_)
                          replace hFr := fr_R hFr hO_w_208509 (by decide +kernel) er_208510
                          replace hF := hF.trans (ap_n (vR_st hVT hO_w_208509 (by decide +kernel) er_208510))
                          have hG := GM.wR hG hSH hT_w_208509 rfl er_208510 (rg_w (rg_k (1 : Int32) 1 rfl) (by decide +kernel)) (by decide +kernel)
                          refine lv_iload hx hb dX12_family_145 (lv_at hl 7 rfl) ?_
                          refine lv_iload_n hx hb dX12_family_147 rfl (lv_at hl 1 rfl) ?_
                          refine lv_icmp_ne (tgt := 154) hx hb dX12_family_148 (by decide +kernel) (fun c_208511 => ?_) (fun c_208511 => ?_)
                          · replace hF := hF.trans (if_neg c_208511)
                            have tc_208514 : (x_208383).toInt ≠ (a0).toInt := fun q => c_208511 (Int32.toInt_inj.mp q)
                            refine lv_iload hx hb dX12_family_154 (lv_at hl 6 rfl) ?_
                            refine lv_if_eq (tgt := 168) hx hb dX12_family_156 (by decide +kernel) (fun c_208515 => absurd c_208515 (by decide +kernel)) (fun c_208515 => ?_)
                            refine lv_aload_n hx hb dX12_family_159 rfl (lv_at hl 0 rfl) ?_
                            refine lv_iload hx hb dX12_family_160 (lv_at hl 7 rfl) ?_
                            refine lv_iload hx hb dX12_family_162 (lv_at hl 5 rfl) ?_
                            refine lv_iload_n hx hb dX12_family_164 rfl (lv_at hl 2 rfl) ?_
                            refine pk_v (va_runV (As := [.int x_208383, .int x_204252, .int a1]) (rest := []) ⟨hx, hb, hml, hown, hts⟩ (s_X12_sails l D t σ I J r_208510 rj rq H.size tg hSH hG.1 this x_208383 x_204252 a1 hL_this hK_this (rg_w h_208467 (by decide +kernel)) (rg_w h_207787 (by decide +kernel))) (cwV 3 hts (tw_V tw_1263 tw_1264 tw_1265 tw_5 tw_1266) rfl rfl rfl cv_yX12_sails_3 ⟨Nat.le_of_ble_eq_true rfl, Nat.le_of_ble_eq_true rfl⟩) ⟨pq_blind, pq_recv hK hP hL_this hK_this (by decide +kernel) rfl, pq_pre hK hN hP hD⟩ rfl rfl hl.1 rfl (lv_room (Nat.le_of_ble_eq_true rfl)) dX12_family_165 ⟨Nat.le_of_ble_eq_true rfl, Nat.le_of_ble_eq_true rfl⟩) hD hS hA (fun σ1 μ1 H locs hw_208517 hP hD hS => ?_)
                            obtain ⟨ri_208518, hu_208519, hg_208520, hfn_208522, hfr_208523⟩ := hw_208517
                            obtain ⟨hu_208519a, hu_208519b⟩ := Prod.mk.inj hu_208519
                            rw [hu_208519a, hu_208519b] at hP hD
                            replace hF := hF.trans (bv_n hfn_208522)
                            replace hFr := fr_tr hFr hfr_208523
                            have hG := GM.tr hG hg_208520 (by decide +kernel)
                            exact K_208499 ri_208518 _ _ _ hF hFr hG hP hD hS (lv_sub hl [0, 1, 2, 3, 4, 5, 6, 7] rfl)
                          · replace hF := hF.trans (if_pos c_208511)
                            have tc_208524 : (x_208383).toInt = (a0).toInt := congrArg Int32.toInt c_208511
                            refine lv_goto (tgt := 168) hx hb dX12_family_151 (by decide +kernel) ?_
                            exact K_208499 r_208510 _ _ _ hF hFr hG hP hD hS (lv_sub hl [0, 1, 2, 3, 4, 5, 6, 7] rfl)
                        · replace hF := hF.trans (if_pos c_208502)
                          have tc_208525 : (x_208469).toInt = 0 := congrArg Int32.toInt c_208502
                          have h_208526 : rg x_208469 0 0 := rg_and h_208476 (rg_of_eq c_208502 (rg_k (0 : Int32) 0 rfl)) (by decide +kernel)
                          have uh_208526 := h_208526.1
                          have vh_208526 := h_208526.2
                          refine lv_goto (tgt := 168) hx hb dX12_family_134 (by decide +kernel) ?_
                          exact K_208499 ri_208384 _ _ _ hF hFr hG hP hD hS (lv_sub hl [0, 1, 2, 3, 4, 5, 6, 7] rfl)
                  exact L_208434 _ (0 : Int32) ri _ _ _ (rg_w (rg_k (0 : Int32) 0 rfl) (by decide +kernel)) (Nat.lt_succ_self _) hF hFr hG hP hD hS (lv_sub hl [2, 3, 4, 5, 6, 7, 1, 0] rfl)
                have K_208527 : ∀  (H : Heap) (locs : List Loc) (ls : Array Slot), F = g_X12_family_K106_2 a0 (vI 12 σ this I) (vJ 12 σ this J) (vR 12 σ this ri) (vL 12 σ this rj) (vQ 12 σ this rq) x_2 (ri w_1 5)  → FR 12 tg σ this (I, J, ri, rj, rq) (I, J, ri, rj, rq) → GM [1403] tg σ I ri I ri rq → va_P D vwCl (pq_P t σ (I, J, ri, rj, rq)) H → va_D A (pq_P t σ (I, J, ri, rj, rq)) → va_S A s.heap H locs → lv_has ls 9 [(0, .ref this), (1, .int a0), (2, .int a1), (4, .int x_2), (5, .int x_187655), (6, .int x_204252)] → W p l e ({ frames := 3, cells := 0, slots := 0, locals := 66 } : Room) s m (List.toArray ([.ref this, .int a0, .int a1, .int a2] : List Value)) below meth c H locs 0 0 Q (F0 m 106 ls [.int 0]) := by
                  intro H locs ls hF hFr hG hP hD hS hl
                  replace hF := hF.trans g_X12_family_K106_2_e
                  refine lv_istore (lv' := [(7, .int 0), (0, .ref this), (1, .int a0), (2, .int a1), (4, .int x_2), (5, .int x_187655), (6, .int x_204252)]) hx hb dX12_family_106 hl (by decide +kernel) rfl (fun ls hl => ?_)
                  refine lv_iconst (v := 0) hx hb dX12_family_108 (by decide +kernel) ?_
                  refine lv_istore (lv' := [(8, .int 0), (7, .int 0), (0, .ref this), (1, .int a0), (2, .int a1), (4, .int x_2), (5, .int x_187655), (6, .int x_204252)]) hx hb dX12_family_109 hl (by decide +kernel) rfl (fun ls hl => ?_)
                  have L_208953 : ∀ (n_208952 : Nat) (x_208919 : Int32) (ri_208920 : Nat → Nat → Int32) (H : Heap) (locs : List Loc) (ls : Array Slot), rg x_208919 0 40 → (40 - (x_208919).toInt).toNat < n_208952 → F = g_X12_family_L111_2 a0 (vI 12 σ this I) (vJ 12 σ this J) (vL 12 σ this rj) (vQ 12 σ this rq) x_2 (ri w_1 5) n_208952 x_208919 (vR 12 σ this ri_208920) → FR 12 tg σ this (I, J, ri, rj, rq) (I, J, ri_208920, rj, rq) → GM [1403] tg σ I ri I ri_208920 rq → va_P D vwCl (pq_P t σ (I, J, ri_208920, rj, rq)) H → va_D A (pq_P t σ (I, J, ri_208920, rj, rq)) → va_S A s.heap H locs → lv_has ls 9 [(0, .ref this), (1, .int a0), (2, .int a1), (4, .int x_2), (5, .int x_187655), (6, .int x_204252), (7, .int 0), (8, .int x_208919)] → W p l e ({ frames := 3, cells := 0, slots := 0, locals := 66 } : Room) s m (List.toArray ([.ref this, .int a0, .int a1, .int a2] : List Value)) below meth c H locs 0 0 Q (F0 m 111 ls []) := by
                    intro n_208952
                    induction n_208952 with
                    | zero => intro x_208919 ri_208920 H locs ls h_208956 hm_208951 hF hFr hG hP hD hS hl; exact absurd hm_208951 (Nat.not_lt_zero _)
                    | succ n_208952 ih_208954 =>
                      intro x_208919 ri_208920 H locs ls h_208956 hm_208951 hF hFr hG hP hD hS hl
                      have uh_208956 := h_208956.1
                      have vh_208956 := h_208956.2
                      replace hF := hF.trans g_X12_family_L111_2_e
                      refine lv_iload hx hb dX12_family_111 (lv_at hl 7 rfl) ?_
                      refine lv_aload_n hx hb dX12_family_113 rfl (lv_at hl 0 rfl) ?_
                      refine pg_f (v := .ref w_1) (C := RX12) (T := TX12) (N := 31) hx hb hts (tw_i inlX12) hown hK hP hL_this hK_this (by decide +kernel) rfl 0 (by decide +kernel) (hts _ (tw_c tw_176)) (pq_hv rfl hR_w_1) dX12_family_114 ?_
                      refine lv_iconst (v := 5) hx hb dX12_family_117 (by decide +kernel) ?_
                      refine pl_i hx hb hK hP hL_w_1 hK_w_1 hN_w_1 (vp_in_iff.mpr (by decide +kernel)) dX12_family_118 ?_
                      refine lv_tov (ri w_1 5) (hG.2.2.1 w_1 hT_w_1 5 (by decide +kernel) (by decide +kernel)) ?_
                      refine lv_icmp_ge (tgt := 174) hx hb dX12_family_119 (by decide +kernel) (fun c_208957 => ?_) (fun c_208957 => ?_)
                      · replace hF := hF.trans (if_pos c_208957)
                        have tc_208962 : (ri w_1 5).toInt ≤ (x_208919).toInt := Int32.le_iff_toInt_le.mp c_208957
                        refine lv_iload hx hb dX12_family_174 (lv_at hl 6 rfl) ?_
                        have K_208965 : ∀  (H : Heap) (locs : List Loc) (ls : Array Slot), F = g_X12_family_K187_2 (vI 12 σ this I) (vJ 12 σ this J) (vL 12 σ this rj) (vQ 12 σ this rq) (vR 12 σ this ri_208920)  → FR 12 tg σ this (I, J, ri, rj, rq) (I, J, ri_208920, rj, rq) → GM [1403] tg σ I ri I ri_208920 rq → va_P D vwCl (pq_P t σ (I, J, ri_208920, rj, rq)) H → va_D A (pq_P t σ (I, J, ri_208920, rj, rq)) → va_S A s.heap H locs → lv_has ls 9 [(5, .int x_187655), (7, .int 0)] → W p l e ({ frames := 3, cells := 0, slots := 0, locals := 66 } : Room) s m (List.toArray ([.ref this, .int a0, .int a1, .int a2] : List Value)) below meth c H locs 0 0 Q (F0 m 187 ls []) := by
                          intro H locs ls hF hFr hG hP hD hS hl
                          replace hF := hF.trans g_X12_family_K187_2_e
                          refine lv_iload hx hb dX12_family_187 (lv_at hl 1 rfl) ?_
                          refine lv_if_eq (tgt := 197) hx hb dX12_family_189 (by decide +kernel) (fun c_208966 => ?_) (fun c_208966 => absurd c_208966 (by decide +kernel))
                          refine lv_iconst (v := 0) hx hb dX12_family_197 (by decide +kernel) ?_
                          subst hQ
                          exact W.iret (v := 0) hx hb hr (fun t1 ht hW => ⟨⟨0, (σ, I, J, ri_208920, rj, rq), rfl, ⟨ri_208920, rfl, hG, (hF0.symm.trans hF), hFr⟩, by rw [ht]; exact hP, va_K.moved hW.alike hK, hD⟩, hS.F ht⟩) hS.2.2 dX12_family_198
                        refine lv_if_eq (tgt := 187) hx hb dX12_family_176 (by decide +kernel) (fun c_208967 => ?_) (fun c_208967 => absurd c_208967 (by decide +kernel))
                        exact K_208965 _ _ _ hF hFr hG hP hD hS (lv_sub hl [4, 6] rfl)
                      · replace hF := hF.trans (if_neg c_208957)
                        have tc_208968 : (x_208919).toInt < (ri w_1 5).toInt := Int32.lt_iff_toInt_lt.mp (nle c_208957)
                        have h_208969 : rg x_208919 0 39 := rg_lt1 (nle c_208957) h_208956 h_197152 (by decide +kernel)
                        have uh_208969 := h_208969.1
                        have vh_208969 := h_208969.2
                        have h_208970 : rg (ri w_1 5) 1 40 := rg_lt2 (nle c_208957) h_208956 h_197152 (by decide +kernel)
                        have uh_208970 := h_208970.1
                        have vh_208970 := h_208970.2
                        refine lv_aload_n hx hb dX12_family_122 rfl (lv_at hl 0 rfl) ?_
                        refine lv_iload hx hb dX12_family_123 (lv_at hl 7 rfl) ?_
                        refine lv_iload_n hx hb dX12_family_125 rfl (lv_at hl 1 rfl) ?_
                        refine lv_iload hx hb dX12_family_126 (lv_at hl 3 rfl) ?_
                        refine pk_i (va_runV (As := [.int x_208919, .int a0, .int x_2]) (rest := []) ⟨hx, hb, hml, hown, hts⟩ (s_X12_isOfKin l D t σ I J ri_208920 rj rq H.size tg hSH hG.1 this x_208919 a0 x_2 hL_this hK_this (rg_w h_208969 (by decide +kernel)) (rg_w h_a0 (by decide +kernel))) (cwV 3 hts (tw_V tw_1259 tw_1260 tw_1261 tw_5 tw_1262) rfl rfl rfl cv_yX12_isOfKin_3 ⟨Nat.le_of_ble_eq_true rfl, Nat.le_of_ble_eq_true rfl⟩) ⟨pq_blind, pq_recv hK hP hL_this hK_this (by decide +kernel) rfl, pq_pre hK hN hP hD⟩ rfl rfl hl.1 rfl (lv_room (Nat.le_of_ble_eq_true rfl)) dX12_family_128 ⟨Nat.le_of_ble_eq_true rfl, Nat.le_of_ble_eq_true rfl⟩) hD hS hA (fun x_208971 σ1 μ1 H locs hw_208972 hP hD hS => ?_)
                        obtain ⟨hu_208973, hfn_208976, hr_208975⟩ := hw_208972
                        obtain ⟨hu_208973a, hu_208973b⟩ := Prod.mk.inj hu_208973
                        rw [hu_208973a, hu_208973b] at hP hD
                        replace hF := hF.trans (bn_n hfn_208976)
                        have h_208978 : rg x_208971 0 1 := by rcases hr_208975 with ⟨q, -⟩ | ⟨q, -⟩ <;> rw [q] <;> exact ⟨by decide +kernel, by decide +kernel⟩
                        have uh_208978 := h_208978.1
                        have vh_208978 := h_208978.2
                        have K_208993 : ∀  (ri_208990 : Nat → Nat → Int32) (H : Heap) (locs : List Loc) (ls : Array Slot), F = g_X12_family_K168_2 x_208919 (g_X12_family_L111_2 a0 (vI 12 σ this I) (vJ 12 σ this J) (vL 12 σ this rj) (vQ 12 σ this rq) x_2 (ri w_1 5) n_208952) (vR 12 σ this ri_208990) → FR 12 tg σ this (I, J, ri, rj, rq) (I, J, ri_208990, rj, rq) → GM [1403] tg σ I ri I ri_208990 rq → va_P D vwCl (pq_P t σ (I, J, ri_208990, rj, rq)) H → va_D A (pq_P t σ (I, J, ri_208990, rj, rq)) → va_S A s.heap H locs → lv_has ls 9 [(0, .ref this), (1, .int a0), (2, .int a1), (4, .int x_2), (5, .int x_187655), (6, .int x_204252), (7, .int 0), (8, .int x_208919)] → W p l e ({ frames := 3, cells := 0, slots := 0, locals := 66 } : Room) s m (List.toArray ([.ref this, .int a0, .int a1, .int a2] : List Value)) below meth c H locs 0 0 Q (F0 m 168 ls []) := by
                          intro ri_208990 H locs ls hF hFr hG hP hD hS hl
                          replace hF := hF.trans g_X12_family_K168_2_e
                          obtain ⟨x_208994, ex_208994⟩ : ∃ y : Int32, y = x_208919 + Int32.ofInt 1 := ⟨_, rfl⟩
                          replace hF := hF.trans (ap_n ex_208994)
                          have h_208995 : rg x_208994 1 40 := rg_of_eq ex_208994 (rg_add h_208969 (rg_k (Int32.ofInt 1) 1 rfl) (by decide +kernel))
                          have uh_208995 := h_208995.1
                          have vh_208995 := h_208995.2
                          have tx_208994 : (x_208994).toInt = (x_208919).toInt + 1 := by rw [ex_208994]; exact i_add_rg (a2 := (x_208919).toInt) (b2 := 1) rfl rfl h_208969 (rg_k (Int32.ofInt 1) 1 rfl) (by decide +kernel)
                          refine lv_iinc (v := x_208994) (lv' := [(8, .int x_208994), (0, .ref this), (1, .int a0), (2, .int a1), (4, .int x_2), (5, .int x_187655), (6, .int x_204252), (7, .int 0)]) hx hb dX12_family_168 hl (k := 7) rfl ex_208994.symm (by decide +kernel) rfl (fun ls hl => ?_)
                          refine lv_goto (tgt := 111) hx hb dX12_family_171 (by decide +kernel) ?_
                          exact ih_208954 x_208994 ri_208990 _ _ _ (rg_w h_208995 (by decide +kernel)) (ms_up 1 hm_208951 ex_208994 rfl (by decide +kernel) h_208969 (by decide +kernel) (by decide +kernel)) hF hFr hG hP hD hS (lv_sub hl [1, 2, 3, 4, 5, 6, 7, 0] rfl)
                        refine lv_if_ne (tgt := 137) hx hb dX12_family_131 (by decide +kernel) (fun c_208996 => ?_) (fun c_208996 => ?_)
                        · replace hF := hF.trans (if_neg c_208996)
                          have tc_209001 : (x_208971).toInt ≠ 0 := fun q => c_208996 (Int32.toInt_inj.mp q)
                          have h_209002 : rg x_208971 1 1 := rg_ne c_208996 h_208978 0 rfl (by decide +kernel)
                          have uh_209002 := h_209002.1
                          have vh_209002 := h_209002.2
                          refine lv_aload_n hx hb dX12_family_137 rfl (lv_at hl 0 rfl) ?_
                          obtain ⟨w_209003, hR_w_209003, hL_w_209003, hK_w_209003, hN_w_209003, hT_w_209003⟩ := sh_a hSH 412 (ci := 12) (kd := 15) (len := 40) rfl (by decide +kernel) hL_this hK_this
                          have hO_w_209003 : w_209003 = vrow σ 412 this := vo_k (c := 12) hO_this hR_w_209003
                          refine pg_f (v := .ref w_209003) (C := RX12) (T := TX12) (N := 31) hx hb hts (tw_i inlX12) hown hK hP hL_this hK_this (by decide +kernel) rfl 28 (by decide +kernel) (hts _ (tw_c tw_189)) (pq_hv rfl hR_w_209003) dX12_family_138 ?_
                          refine lv_iload hx hb dX12_family_141 (lv_at hl 7 rfl) ?_
                          refine lv_iconst (v := 1) hx hb dX12_family_143 (by decide +kernel) ?_
                          refine pt_z hx hb hK hP hD hS hL_w_209003 hK_w_209003 hN_w_209003 (rg_in h_208969 (by decide +kernel)) (rg_w (rg_k (1 : Int32) 1 rfl) (by decide +kernel)) dX12_family_144 (fun r_209004 H locs er_209004 hP hD hS => ?_)
                          replace hFr := fr_R hFr hO_w_209003 (by decide +kernel) er_209004
                          replace hF := hF.trans (ap_n (vR_st hVT hO_w_209003 (by decide +kernel) er_209004))
                          have hG := GM.wR hG hSH hT_w_209003 rfl er_209004 (rg_w (rg_k (1 : Int32) 1 rfl) (by decide +kernel)) (by decide +kernel)
                          refine lv_iload hx hb dX12_family_145 (lv_at hl 7 rfl) ?_
                          refine lv_iload_n hx hb dX12_family_147 rfl (lv_at hl 1 rfl) ?_
                          refine lv_icmp_ne (tgt := 154) hx hb dX12_family_148 (by decide +kernel) (fun c_209005 => ?_) (fun c_209005 => ?_)
                          · replace hF := hF.trans (if_neg c_209005)
                            have tc_209008 : (x_208919).toInt ≠ (a0).toInt := fun q => c_209005 (Int32.toInt_inj.mp q)
                            refine lv_iload hx hb dX12_family_154 (lv_at hl 6 rfl) ?_
                            refine lv_if_eq (tgt := 168) hx hb dX12_family_156 (by decide +kernel) (fun c_209009 => ?_) (fun c_209009 => absurd c_209009 (by decide +kernel))
                            exact K_208993 r_209004 _ _ _ hF hFr hG hP hD hS (lv_sub hl [0, 1, 2, 3, 4, 5, 6, 7] rfl)
                          · replace hF := hF.trans (if_pos c_209005)
                            have tc_209010 : (x_208919).toInt = (a0).toInt := congrArg Int32.toInt c_209005
                            refine lv_goto (tgt := 168) hx hb dX12_family_151 (by decide +kernel) ?_
                            exact K_208993 r_209004 _ _ _ hF hFr hG hP hD hS (lv_sub hl [0, 1, 2, 3, 4, 5, 6, 7] rfl)
                        · replace hF := hF.trans (if_pos c_208996)
                          have tc_209011 : (x_208971).toInt = 0 := congrArg Int32.toInt c_208996
                          have h_209012 : rg x_208971 0 0 := rg_and h_208978 (rg_of_eq c_208996 (rg_k (0 : Int32) 0 rfl)) (by decide +kernel)
                          have uh_209012 := h_209012.1
                          have vh_209012 := h_209012.2
                          refine lv_goto (tgt := 168) hx hb dX12_family_134 (by decide +kernel) ?_
                          exact K_208993 ri_208920 _ _ _ hF hFr hG hP hD hS (lv_sub hl [0, 1, 2, 3, 4, 5, 6, 7] rfl)
                  exact L_208953 _ (0 : Int32) ri _ _ _ (rg_w (rg_k (0 : Int32) 0 rfl) (by decide +kernel)) (Nat.lt_succ_self _) hF hFr hG hP hD hS (lv_sub hl [2, 3, 4, 5, 6, 7, 1, 0] rfl)
                have K_209013 : ∀  (H : Heap) (locs : List Loc) (ls : Array Slot), F = g_X12_family_K105 a0 (vI 12 σ this I) (vJ 12 σ this J) (vR 12 σ this ri) (vL 12 σ this rj) (vQ 12 σ this rq) x_2 (ri w_1 5)  → FR 12 tg σ this (I, J, ri, rj, rq) (I, J, ri, rj, rq) → GM [1403] tg σ I ri I ri rq → va_P D vwCl (pq_P t σ (I, J, ri, rj, rq)) H → va_D A (pq_P t σ (I, J, ri, rj, rq)) → va_S A s.heap H locs → lv_has ls 9 [(0, .ref this), (1, .int a0), (2, .int a1), (4, .int x_2), (5, .int x_187655), (6, .int x_204252)] → W p l e ({ frames := 3, cells := 0, slots := 0, locals := 66 } : Room) s m (List.toArray ([.ref this, .int a0, .int a1, .int a2] : List Value)) below meth c H locs 0 0 Q (F0 m 105 ls []) := by
                  intro H locs ls hF hFr hG hP hD hS hl
                  replace hF := hF.trans g_X12_family_K105_e
                  refine lv_iconst (v := 0) hx hb dX12_family_105 (by decide +kernel) ?_
                  exact K_208527 _ _ _ hF hFr hG hP hD hS (lv_sub hl [0, 1, 2, 3, 4, 5] rfl)
                refine lv_icmp_gt (tgt := 105) hx hb dX12_family_87 (by decide +kernel) (fun c_209014 => ?_) (fun c_209014 => ?_)
                · replace hF := hF.trans (if_pos c_209014)
                  have tc_209019 : (a2).toInt < (x_187655).toInt := Int32.lt_iff_toInt_lt.mp c_209014
                  have h_209020 : rg a2 (-2147483648) 2147483646 := rg_lt1 c_209014 (rg_full _) (rg_full _) (by decide +kernel)
                  have uh_209020 := h_209020.1
                  have vh_209020 := h_209020.2
                  have h_209021 : rg x_187655 (-2147483647) 2147483647 := rg_lt2 c_209014 (rg_full _) (rg_full _) (by decide +kernel)
                  have uh_209021 := h_209021.1
                  have vh_209021 := h_209021.2
                  exact K_209013 _ _ _ hF hFr hG hP hD hS (lv_sub hl [0, 1, 2, 4, 5, 6] rfl)
                · replace hF := hF.trans (if_neg c_209014)
                  have tc_209022 : (x_187655).toInt ≤ (a2).toInt := Int32.le_iff_toInt_le.mp (nlt c_209014)
                  refine lv_iload hx hb dX12_family_90 (lv_at hl 6 rfl) ?_
                  refine lv_aload_n hx hb dX12_family_92 rfl (lv_at hl 0 rfl) ?_
                  refine pg_f (v := .ref w_1) (C := RX12) (T := TX12) (N := 31) hx hb hts (tw_i inlX12) hown hK hP hL_this hK_this (by decide +kernel) rfl 0 (by decide +kernel) (hts _ (tw_c tw_176)) (pq_hv rfl hR_w_1) dX12_family_93 ?_
                  refine lv_iconst (v := 4) hx hb dX12_family_96 (by decide +kernel) ?_
                  refine pl_i hx hb hK hP hL_w_1 hK_w_1 hN_w_1 (vp_in_iff.mpr (by decide +kernel)) dX12_family_97 ?_
                  refine lv_tov (ri w_1 4) rfl ?_
                  refine lv_icmp_ge (tgt := 105) hx hb dX12_family_98 (by decide +kernel) (fun c_209023 => ?_) (fun c_209023 => ?_)
                  · replace hF := hF.trans (if_pos c_209023)
                    have tc_209028 : (ri w_1 4).toInt ≤ (x_204252).toInt := Int32.le_iff_toInt_le.mp c_209023
                    exact K_209013 _ _ _ hF hFr hG hP hD hS (lv_sub hl [0, 1, 2, 4, 5, 6] rfl)
                  · replace hF := hF.trans (if_neg c_209023)
                    have tc_209029 : (x_204252).toInt < (ri w_1 4).toInt := Int32.lt_iff_toInt_lt.mp (nle c_209023)
                    have h_209030 : rg x_204252 0 4 := rg_lt1 (nle c_209023) h_205440 h_205441 (by decide +kernel)
                    have uh_209030 := h_209030.1
                    have vh_209030 := h_209030.2
                    have h_209031 : rg (ri w_1 4) 1 5 := rg_lt2 (nle c_209023) h_205440 h_205441 (by decide +kernel)
                    have uh_209031 := h_209031.1
                    have vh_209031 := h_209031.2
                    refine lv_iconst (v := 1) hx hb dX12_family_101 (by decide +kernel) ?_
                    refine lv_goto (tgt := 106) hx hb dX12_family_102 (by decide +kernel) ?_
                    exact K_207783 _ _ _ (rg_w h_209031 (by decide +kernel)) (rg_w h_209030 (by decide +kernel)) hF hFr hG hP hD hS (lv_sub hl [0, 1, 2, 4, 5, 6] rfl)
              refine lv_icmp_ge (tgt := 84) hx hb dX12_family_64 (by decide +kernel) (fun c_209032 => ?_) (fun c_209032 => ?_)
              · replace hF := hF.trans (if_pos c_209032)
                have tc_209037 : (ri w_1 4).toInt ≤ (x_204252).toInt := Int32.le_iff_toInt_le.mp c_209032
                exact K_206622 _ _ _ hF hFr hG hP hD hS (lv_sub hl [0, 1, 2, 3, 4, 5, 6] rfl)
              · replace hF := hF.trans (if_neg c_209032)
                have tc_209038 : (x_204252).toInt < (ri w_1 4).toInt := Int32.lt_iff_toInt_lt.mp (nle c_209032)
                have h_209039 : rg x_204252 0 4 := rg_lt1 (nle c_209032) h_205440 h_205441 (by decide +kernel)
                have uh_209039 := h_209039.1
                have vh_209039 := h_209039.2
                have h_209040 : rg (ri w_1 4) 1 5 := rg_lt2 (nle c_209032) h_205440 h_205441 (by decide +kernel)
                have uh_209040 := h_209040.1
                have vh_209040 := h_209040.2
                refine lv_aload_n hx hb dX12_family_67 rfl (lv_at hl 0 rfl) ?_
                refine lv_iload hx hb dX12_family_68 (lv_at hl 6 rfl) ?_
                refine pk_i (va_runV (As := [.int x_204252]) (rest := []) ⟨hx, hb, hml, hown, hts⟩ (s_X12_freeIn l D t σ I J ri rj rq H.size tg hSH hG.1 this x_204252 hL_this hK_this (rg_w h_209039 (by decide +kernel))) (cwV 1 hts (tw_V tw_441 tw_442 tw_443 tw_5 tw_444) rfl rfl rfl cv_yX12_freeIn_1 ⟨Nat.le_of_ble_eq_true rfl, Nat.le_of_ble_eq_true rfl⟩) ⟨pq_blind, pq_recv hK hP hL_this hK_this (by decide +kernel) rfl, pq_pre hK hN hP hD⟩ rfl rfl hl.1 rfl (lv_room (Nat.le_of_ble_eq_true rfl)) dX12_family_70 ⟨Nat.le_of_ble_eq_true rfl, Nat.le_of_ble_eq_true rfl⟩) hD hS hA (fun x_209041 σ1 μ1 H locs hw_209042 hP hD hS => ?_)
                obtain ⟨hu_209043, hfn_209046⟩ := hw_209042
                obtain ⟨hu_209043a, hu_209043b⟩ := Prod.mk.inj hu_209043
                rw [hu_209043a, hu_209043b] at hP hD
                replace hF := hF.trans (bn_n hfn_209046)
                refine lv_iload hx hb dX12_family_73 (lv_at hl 5 rfl) ?_
                refine lv_icmp_ge (tgt := 84) hx hb dX12_family_75 (by decide +kernel) (fun c_209048 => ?_) (fun c_209048 => ?_)
                · replace hF := hF.trans (if_pos c_209048)
                  have tc_209053 : (x_187655).toInt ≤ (x_209041).toInt := Int32.le_iff_toInt_le.mp c_209048
                  exact K_206622 _ _ _ hF hFr hG hP hD hS (lv_sub hl [0, 1, 2, 3, 4, 5, 6] rfl)
                · replace hF := hF.trans (if_neg c_209048)
                  have tc_209054 : (x_209041).toInt < (x_187655).toInt := Int32.lt_iff_toInt_lt.mp (nle c_209048)
                  have h_209055 : rg x_209041 (-2147483648) 2147483646 := rg_lt1 (nle c_209048) (rg_full _) (rg_full _) (by decide +kernel)
                  have uh_209055 := h_209055.1
                  have vh_209055 := h_209055.2
                  have h_209056 : rg x_187655 (-2147483647) 2147483647 := rg_lt2 (nle c_209048) (rg_full _) (rg_full _) (by decide +kernel)
                  have uh_209056 := h_209056.1
                  have vh_209056 := h_209056.2
                  obtain ⟨x_209057, ex_209057⟩ : ∃ y : Int32, y = x_204252 + Int32.ofInt 1 := ⟨_, rfl⟩
                  replace hF := hF.trans (ap_n ex_209057)
                  have h_209058 : rg x_209057 1 5 := rg_of_eq ex_209057 (rg_add h_209039 (rg_k (Int32.ofInt 1) 1 rfl) (by decide +kernel))
                  have uh_209058 := h_209058.1
                  have vh_209058 := h_209058.2
                  have tx_209057 : (x_209057).toInt = (x_204252).toInt + 1 := by rw [ex_209057]; exact i_add_rg (a2 := (x_204252).toInt) (b2 := 1) rfl rfl h_209039 (rg_k (Int32.ofInt 1) 1 rfl) (by decide +kernel)
                  refine lv_iinc (v := x_209057) (lv' := [(6, .int x_209057), (0, .ref this), (1, .int a0), (2, .int a1), (3, .int a2), (4, .int x_2), (5, .int x_187655)]) hx hb dX12_family_78 hl (k := 6) rfl ex_209057.symm (by decide +kernel) rfl (fun ls hl => ?_)
                  refine lv_goto (tgt := 56) hx hb dX12_family_81 (by decide +kernel) ?_
                  exact ih_205438 x_209057 _ _ _ (rg_w h_209058 (by decide +kernel)) (ms_up 1 hm_205435 ex_209057 rfl (by decide +kernel) h_209039 (by decide +kernel) (by decide +kernel)) hF hFr hG hP hD hS (lv_sub hl [1, 2, 3, 4, 5, 6, 0] rfl)
          exact L_205437 _ (0 : Int32) _ _ _ (rg_w (rg_k (0 : Int32) 0 rfl) (by decide +kernel)) (Nat.lt_succ_self _) hF hFr hG hP hD hS (lv_sub hl [1, 2, 3, 4, 5, 6, 0] rfl)
        · replace hF := hF.trans (if_neg c_197154)
          have tc_209059 : (x_187656).toInt < (ri w_1 5).toInt := Int32.lt_iff_toInt_lt.mp (nle c_197154)
          have h_209060 : rg x_187656 0 39 := rg_lt1 (nle c_197154) h_197151 h_197152 (by decide +kernel)
          have uh_209060 := h_209060.1
          have vh_209060 := h_209060.2
          have h_209061 : rg (ri w_1 5) 1 40 := rg_lt2 (nle c_197154) h_197151 h_197152 (by decide +kernel)
          have uh_209061 := h_209061.1
          have vh_209061 := h_209061.2
          refine lv_iload hx hb dX12_family_25 (lv_at hl 5 rfl) ?_
          refine lv_aload_n hx hb dX12_family_27 rfl (lv_at hl 0 rfl) ?_
          refine lv_iload hx hb dX12_family_28 (lv_at hl 6 rfl) ?_
          refine lv_iload_n hx hb dX12_family_30 rfl (lv_at hl 1 rfl) ?_
          refine lv_iload hx hb dX12_family_31 (lv_at hl 4 rfl) ?_
          refine pk_i (va_runV (As := [.int x_187656, .int a0, .int x_2]) (rest := [.int x_187655]) ⟨hx, hb, hml, hown, hts⟩ (s_X12_isOfKin l D t σ I J ri rj rq H.size tg hSH hG.1 this x_187656 a0 x_2 hL_this hK_this (rg_w h_209060 (by decide +kernel)) (rg_w h_a0 (by decide +kernel))) (cwV 3 hts (tw_V tw_1259 tw_1260 tw_1261 tw_5 tw_1262) rfl rfl rfl cv_yX12_isOfKin_3 ⟨Nat.le_of_ble_eq_true rfl, Nat.le_of_ble_eq_true rfl⟩) ⟨pq_blind, pq_recv hK hP hL_this hK_this (by decide +kernel) rfl, pq_pre hK hN hP hD⟩ rfl rfl hl.1 rfl (lv_room (Nat.le_of_ble_eq_true rfl)) dX12_family_33 ⟨Nat.le_of_ble_eq_true rfl, Nat.le_of_ble_eq_true rfl⟩) hD hS hA (fun x_209062 σ1 μ1 H locs hw_209063 hP hD hS => ?_)
          obtain ⟨hu_209064, hfn_209067, hr_209066⟩ := hw_209063
          obtain ⟨hu_209064a, hu_209064b⟩ := Prod.mk.inj hu_209064
          rw [hu_209064a, hu_209064b] at hP hD
          replace hF := hF.trans (bn_n hfn_209067)
          have h_209069 : rg x_209062 0 1 := by rcases hr_209066 with ⟨q, -⟩ | ⟨q, -⟩ <;> rw [q] <;> exact ⟨by decide +kernel, by decide +kernel⟩
          have uh_209069 := h_209069.1
          have vh_209069 := h_209069.2
          have K_209084 : ∀  (H : Heap) (locs : List Loc) (ls : Array Slot), rg (x_209062) 0 0 → F = g_X12_family_K44 x_187655 x_187656 (g_X12_family_L14 a0 a1 a2 (vI 12 σ this I) (vJ 12 σ this J) (vR 12 σ this ri) (vL 12 σ this rj) (vQ 12 σ this rq) x_2 n_197147)  → FR 12 tg σ this (I, J, ri, rj, rq) (I, J, ri, rj, rq) → GM [1403] tg σ I ri I ri rq → va_P D vwCl (pq_P t σ (I, J, ri, rj, rq)) H → va_D A (pq_P t σ (I, J, ri, rj, rq)) → va_S A s.heap H locs → lv_has ls 9 [(0, .ref this), (1, .int a0), (2, .int a1), (3, .int a2), (4, .int x_2), (6, .int x_187656)] → W p l e ({ frames := 3, cells := 0, slots := 0, locals := 66 } : Room) s m (List.toArray ([.ref this, .int a0, .int a1, .int a2] : List Value)) below meth c H locs 0 0 Q (F0 m 44 ls [.int 0, .int x_187655]) := by
            intro H locs ls h_209086 hF hFr hG hP hD hS hl
            have uh_209086 := h_209086.1
            have vh_209086 := h_209086.2
            replace hF := hF.trans g_X12_family_K44_e
            refine lv_iadd hx hb dX12_family_44 ?_
            refine lv_topi (fun x_209087 ex_209087 => ?_)
            replace hF := hF.trans (ap_n ex_209087)
            have h_209088 : rg x_209087 (-2147483648) 2147483647 := rg_of_eq ex_209087 (rg_add (rg_full _) (rg_k (0 : Int32) 0 rfl) (by decide +kernel))
            have uh_209088 := h_209088.1
            have vh_209088 := h_209088.2
            have tx_209087 : (x_209087).toInt = (x_187655).toInt + 0 := by rw [ex_209087]; exact i_add_rg (a2 := (x_187655).toInt) (b2 := 0) rfl rfl (rg_full _) (rg_k (0 : Int32) 0 rfl) (by decide +kernel)
            refine lv_istore (lv' := [(5, .int x_209087), (0, .ref this), (1, .int a0), (2, .int a1), (3, .int a2), (4, .int x_2), (6, .int x_187656)]) hx hb dX12_family_45 hl (by decide +kernel) rfl (fun ls hl => ?_)
            obtain ⟨x_209089, ex_209089⟩ : ∃ y : Int32, y = x_187656 + Int32.ofInt 1 := ⟨_, rfl⟩
            replace hF := hF.trans (ap_n ex_209089)
            have h_209090 : rg x_209089 1 40 := rg_of_eq ex_209089 (rg_add h_209060 (rg_k (Int32.ofInt 1) 1 rfl) (by decide +kernel))
            have uh_209090 := h_209090.1
            have vh_209090 := h_209090.2
            have tx_209089 : (x_209089).toInt = (x_187656).toInt + 1 := by rw [ex_209089]; exact i_add_rg (a2 := (x_187656).toInt) (b2 := 1) rfl rfl h_209060 (rg_k (Int32.ofInt 1) 1 rfl) (by decide +kernel)
            refine lv_iinc (v := x_209089) (lv' := [(6, .int x_209089), (5, .int x_209087), (0, .ref this), (1, .int a0), (2, .int a1), (3, .int a2), (4, .int x_2)]) hx hb dX12_family_47 hl (k := 6) rfl ex_209089.symm (by decide +kernel) rfl (fun ls hl => ?_)
            refine lv_goto (tgt := 14) hx hb dX12_family_50 (by decide +kernel) ?_
            exact ih_197149 x_209087 x_209089 _ _ _ (rg_w h_209090 (by decide +kernel)) (ms_up 1 hm_197146 ex_209089 rfl (by decide +kernel) h_209060 (by decide +kernel) (by decide +kernel)) hF hFr hG hP hD hS (lv_sub hl [2, 3, 4, 5, 6, 1, 0] rfl)
          have K_209091 : ∀  (H : Heap) (locs : List Loc) (ls : Array Slot), rg (x_209062) 1 1 → F = g_X12_family_K44_2 x_187655 x_187656 (g_X12_family_L14 a0 a1 a2 (vI 12 σ this I) (vJ 12 σ this J) (vR 12 σ this ri) (vL 12 σ this rj) (vQ 12 σ this rq) x_2 n_197147)  → FR 12 tg σ this (I, J, ri, rj, rq) (I, J, ri, rj, rq) → GM [1403] tg σ I ri I ri rq → va_P D vwCl (pq_P t σ (I, J, ri, rj, rq)) H → va_D A (pq_P t σ (I, J, ri, rj, rq)) → va_S A s.heap H locs → lv_has ls 9 [(0, .ref this), (1, .int a0), (2, .int a1), (3, .int a2), (4, .int x_2), (6, .int x_187656)] → W p l e ({ frames := 3, cells := 0, slots := 0, locals := 66 } : Room) s m (List.toArray ([.ref this, .int a0, .int a1, .int a2] : List Value)) below meth c H locs 0 0 Q (F0 m 44 ls [.int 1, .int x_187655]) := by
            intro H locs ls h_209093 hF hFr hG hP hD hS hl
            have uh_209093 := h_209093.1
            have vh_209093 := h_209093.2
            replace hF := hF.trans g_X12_family_K44_2_e
            refine lv_iadd hx hb dX12_family_44 ?_
            refine lv_topi (fun x_209094 ex_209094 => ?_)
            replace hF := hF.trans (ap_n ex_209094)
            refine lv_istore (lv' := [(5, .int x_209094), (0, .ref this), (1, .int a0), (2, .int a1), (3, .int a2), (4, .int x_2), (6, .int x_187656)]) hx hb dX12_family_45 hl (by decide +kernel) rfl (fun ls hl => ?_)
            obtain ⟨x_209095, ex_209095⟩ : ∃ y : Int32, y = x_187656 + Int32.ofInt 1 := ⟨_, rfl⟩
            replace hF := hF.trans (ap_n ex_209095)
            have h_209096 : rg x_209095 1 40 := rg_of_eq ex_209095 (rg_add h_209060 (rg_k (Int32.ofInt 1) 1 rfl) (by decide +kernel))
            have uh_209096 := h_209096.1
            have vh_209096 := h_209096.2
            have tx_209095 : (x_209095).toInt = (x_187656).toInt + 1 := by rw [ex_209095]; exact i_add_rg (a2 := (x_187656).toInt) (b2 := 1) rfl rfl h_209060 (rg_k (Int32.ofInt 1) 1 rfl) (by decide +kernel)
            refine lv_iinc (v := x_209095) (lv' := [(6, .int x_209095), (5, .int x_209094), (0, .ref this), (1, .int a0), (2, .int a1), (3, .int a2), (4, .int x_2)]) hx hb dX12_family_47 hl (k := 6) rfl ex_209095.symm (by decide +kernel) rfl (fun ls hl => ?_)
            refine lv_goto (tgt := 14) hx hb dX12_family_50 (by decide +kernel) ?_
            exact ih_197149 x_209094 x_209095 _ _ _ (rg_w h_209096 (by decide +kernel)) (ms_up 1 hm_197146 ex_209095 rfl (by decide +kernel) h_209060 (by decide +kernel) (by decide +kernel)) hF hFr hG hP hD hS (lv_sub hl [2, 3, 4, 5, 6, 1, 0] rfl)
          refine lv_if_eq (tgt := 43) hx hb dX12_family_36 (by decide +kernel) (fun c_209097 => ?_) (fun c_209097 => ?_)
          · replace hF := hF.trans (if_pos c_209097)
            have tc_209102 : (x_209062).toInt = 0 := congrArg Int32.toInt c_209097
            have h_209103 : rg x_209062 0 0 := rg_and h_209069 (rg_of_eq c_209097 (rg_k (0 : Int32) 0 rfl)) (by decide +kernel)
            have uh_209103 := h_209103.1
            have vh_209103 := h_209103.2
            refine lv_iconst (v := 0) hx hb dX12_family_43 (by decide +kernel) ?_
            exact K_209084 _ _ _ (rg_w h_209103 (by decide +kernel)) hF hFr hG hP hD hS (lv_sub hl [0, 1, 2, 3, 4, 6] rfl)
          · replace hF := hF.trans (if_neg c_209097)
            have tc_209104 : (x_209062).toInt ≠ 0 := fun q => c_209097 (Int32.toInt_inj.mp q)
            have h_209105 : rg x_209062 1 1 := rg_ne c_209097 h_209069 0 rfl (by decide +kernel)
            have uh_209105 := h_209105.1
            have vh_209105 := h_209105.2
            refine lv_iconst (v := 1) hx hb dX12_family_39 (by decide +kernel) ?_
            refine lv_goto (tgt := 44) hx hb dX12_family_40 (by decide +kernel) ?_
            exact K_209091 _ _ _ (rg_w h_209105 (by decide +kernel)) hF hFr hG hP hD hS (lv_sub hl [0, 1, 2, 3, 4, 6] rfl)
    exact L_197148 _ (0 : Int32) (0 : Int32) _ _ _ (rg_w (rg_k (0 : Int32) 0 rfl) (by decide +kernel)) (Nat.lt_succ_self _) hF hFr hG hP hD hS (lv_sub hl [3, 4, 5, 6, 2, 1, 0] rfl)
  exact go _ _ _ hP hD hS hl

set_option maxRecDepth 100000 in
def g_X12_boatsGo_K182 (x_7200 : Int32) (k_g_X12_boatsGo_L142 : (Int32) → (Int32) → (Nat → Nat → Int32) → vM) (x_7266 : Int32) (ri_7267 : Nat → Nat → Int32) : vM := (ap1 (x_7200 + Int32.ofInt 1) fun (x_7271 : Int32) => (k_g_X12_boatsGo_L142 x_7266 x_7271 ri_7267))
set_option maxRecDepth 100000 in
theorem g_X12_boatsGo_K182_e {x_7200 : Int32} {k_g_X12_boatsGo_L142 : (Int32) → (Int32) → (Nat → Nat → Int32) → vM} {x_7266 : Int32} {ri_7267 : Nat → Nat → Int32} : g_X12_boatsGo_K182 x_7200 k_g_X12_boatsGo_L142 x_7266 ri_7267 = (ap1 (x_7200 + Int32.ofInt 1) fun (x_7271 : Int32) => (k_g_X12_boatsGo_L142 x_7266 x_7271 ri_7267)) := rfl
set_option maxRecDepth 100000 in
def g_X12_boatsGo_L142 (a0 : Int32) (J : Nat → Int64) (rq : Nat → Nat → Option Nat) (I_3 : Nat → Int32) (x_6086 : Int32) (rj_6089 : Nat → Nat → Int64) : Nat → (Int32) → (Int32) → (Nat → Nat → Int32) → vM
  | 0, x_7199, x_7200, ri_7201 => (I_3, J, ri_7201, rj_6089, rq)
  | n_7232 + 1, x_7199, x_7200, ri_7201 => (if x_6086 ≤ x_7200 then (I_3, J, ri_7201, rj_6089, rq) else (ap1 (ri_7201 411 (x_7200).toNatClampNeg) fun (x_7248 : Int32) => (ap1 (ri_7201 412 (x_7248).toNatClampNeg) fun (x_7250 : Int32) => (if x_7250 = (0 : Int32) then (bnI (g_X12_family x_7248 a0 x_7199 I_3 J ri_7201 rj_6089 rq) fun (x_7282 : Int32) (_ : Nat → Int32) (_ : Nat → Int64) (ri_7284 : Nat → Nat → Int32) (_ : Nat → Nat → Int64) (_ : Nat → Nat → Option Nat) => (ap1 (x_7199 - x_7282) fun (x_7290 : Int32) => (g_X12_boatsGo_K182 x_7200 (g_X12_boatsGo_L142 a0 J rq I_3 x_6086 rj_6089 n_7232) x_7290 ri_7284))) else (g_X12_boatsGo_K182 x_7200 (g_X12_boatsGo_L142 a0 J rq I_3 x_6086 rj_6089 n_7232) x_7199 ri_7201)))))
set_option maxRecDepth 100000 in
theorem g_X12_boatsGo_L142_e {a0 : Int32} {J : Nat → Int64} {rq : Nat → Nat → Option Nat} {I_3 : Nat → Int32} {x_6086 : Int32} {rj_6089 : Nat → Nat → Int64} {n_7232 : Nat} {x_7199 : Int32} {x_7200 : Int32} {ri_7201 : Nat → Nat → Int32} : g_X12_boatsGo_L142 a0 J rq I_3 x_6086 rj_6089 (n_7232 + 1) x_7199 x_7200 ri_7201 = (if x_6086 ≤ x_7200 then (I_3, J, ri_7201, rj_6089, rq) else (ap1 (ri_7201 411 (x_7200).toNatClampNeg) fun (x_7248 : Int32) => (ap1 (ri_7201 412 (x_7248).toNatClampNeg) fun (x_7250 : Int32) => (if x_7250 = (0 : Int32) then (bnI (g_X12_family x_7248 a0 x_7199 I_3 J ri_7201 rj_6089 rq) fun (x_7282 : Int32) (_ : Nat → Int32) (_ : Nat → Int64) (ri_7284 : Nat → Nat → Int32) (_ : Nat → Nat → Int64) (_ : Nat → Nat → Option Nat) => (ap1 (x_7199 - x_7282) fun (x_7290 : Int32) => (g_X12_boatsGo_K182 x_7200 (g_X12_boatsGo_L142 a0 J rq I_3 x_6086 rj_6089 n_7232) x_7290 ri_7284))) else (g_X12_boatsGo_K182 x_7200 (g_X12_boatsGo_L142 a0 J rq I_3 x_6086 rj_6089 n_7232) x_7199 ri_7201))))) := rfl
set_option maxRecDepth 100000 in
def g_X12_boatsGo_K112 (x_6086 : Int32) (x_6087 : Int32) (k_g_X12_boatsGo_L12 : (Int32) → (Int32) → (Nat → Nat → Int32) → (Nat → Nat → Int64) → vM) (rj_7321 : Nat → Nat → Int64) (x_7465 : Int32) (ri_7466 : Nat → Nat → Int32) : vM := (ap1 (va_up ri_7466 411 (upd (ri_7466 411) (x_7465).toNatClampNeg x_6087)) fun (r_7561 : Nat → Nat → Int32) => (ap1 (x_6086 + Int32.ofInt 1) fun (x_7564 : Int32) => (ap1 (x_6087 + Int32.ofInt 1) fun (x_7566 : Int32) => (k_g_X12_boatsGo_L12 x_7564 x_7566 r_7561 rj_7321))))
set_option maxRecDepth 100000 in
theorem g_X12_boatsGo_K112_e {x_6086 : Int32} {x_6087 : Int32} {k_g_X12_boatsGo_L12 : (Int32) → (Int32) → (Nat → Nat → Int32) → (Nat → Nat → Int64) → vM} {rj_7321 : Nat → Nat → Int64} {x_7465 : Int32} {ri_7466 : Nat → Nat → Int32} : g_X12_boatsGo_K112 x_6086 x_6087 k_g_X12_boatsGo_L12 rj_7321 x_7465 ri_7466  = (ap1 (va_up ri_7466 411 (upd (ri_7466 411) (x_7465).toNatClampNeg x_6087)) fun (r_7561 : Nat → Nat → Int32) => (ap1 (x_6086 + Int32.ofInt 1) fun (x_7564 : Int32) => (ap1 (x_6087 + Int32.ofInt 1) fun (x_7566 : Int32) => (k_g_X12_boatsGo_L12 x_7564 x_7566 r_7561 rj_7321)))) := rfl
set_option maxRecDepth 100000 in
def g_X12_boatsGo_L65 (a0 : Int32) (J : Nat → Int64) (rq : Nat → Nat → Option Nat) (I_3 : Nat → Int32) (x_1 : Int32) (x_6086 : Int32) (x_6087 : Int32) (k_g_X12_boatsGo_L12 : (Int32) → (Int32) → (Nat → Nat → Int32) → (Nat → Nat → Int64) → vM) (rj_7321 : Nat → Nat → Int64) : Nat → (Int32) → (Nat → Nat → Int32) → vM
  | 0, x_7465, ri_7466 => (I_3, J, ri_7466, rj_7321, rq)
  | n_7510 + 1, x_7465, ri_7466 => (if x_7465 ≤ (0 : Int32) then (g_X12_boatsGo_K112 x_6086 x_6087 k_g_X12_boatsGo_L12 rj_7321 x_7465 ri_7466 ) else (ap1 (x_7465 - (1 : Int32)) fun (x_7577 : Int32) => (ap1 (ri_7466 411 (x_7577).toNatClampNeg) fun (x_7579 : Int32) => (bnI (g_X12_goesAhead x_6087 x_7579 a0 x_1 I_3 J ri_7466 rj_7321 rq) fun (x_7581 : Int32) (_ : Nat → Int32) (_ : Nat → Int64) (_ : Nat → Nat → Int32) (_ : Nat → Nat → Int64) (_ : Nat → Nat → Option Nat) => (if x_7581 = (0 : Int32) then (g_X12_boatsGo_K112 x_6086 x_6087 k_g_X12_boatsGo_L12 rj_7321 x_7465 ri_7466 ) else (ap1 (x_7465 - (1 : Int32)) fun (x_7598 : Int32) => (ap1 (ri_7466 411 (x_7598).toNatClampNeg) fun (x_7600 : Int32) => (ap1 (va_up ri_7466 411 (upd (ri_7466 411) (x_7465).toNatClampNeg x_7600)) fun (r_7602 : Nat → Nat → Int32) => (ap1 (x_7465 + Int32.ofInt (-1)) fun (x_7604 : Int32) => ((g_X12_boatsGo_L65 a0 J rq I_3 x_1 x_6086 x_6087 k_g_X12_boatsGo_L12 rj_7321 n_7510) x_7604 r_7602))))))))))
set_option maxRecDepth 100000 in
theorem g_X12_boatsGo_L65_e {a0 : Int32} {J : Nat → Int64} {rq : Nat → Nat → Option Nat} {I_3 : Nat → Int32} {x_1 : Int32} {x_6086 : Int32} {x_6087 : Int32} {k_g_X12_boatsGo_L12 : (Int32) → (Int32) → (Nat → Nat → Int32) → (Nat → Nat → Int64) → vM} {rj_7321 : Nat → Nat → Int64} {n_7510 : Nat} {x_7465 : Int32} {ri_7466 : Nat → Nat → Int32} : g_X12_boatsGo_L65 a0 J rq I_3 x_1 x_6086 x_6087 k_g_X12_boatsGo_L12 rj_7321 (n_7510 + 1) x_7465 ri_7466 = (if x_7465 ≤ (0 : Int32) then (g_X12_boatsGo_K112 x_6086 x_6087 k_g_X12_boatsGo_L12 rj_7321 x_7465 ri_7466 ) else (ap1 (x_7465 - (1 : Int32)) fun (x_7577 : Int32) => (ap1 (ri_7466 411 (x_7577).toNatClampNeg) fun (x_7579 : Int32) => (bnI (g_X12_goesAhead x_6087 x_7579 a0 x_1 I_3 J ri_7466 rj_7321 rq) fun (x_7581 : Int32) (_ : Nat → Int32) (_ : Nat → Int64) (_ : Nat → Nat → Int32) (_ : Nat → Nat → Int64) (_ : Nat → Nat → Option Nat) => (if x_7581 = (0 : Int32) then (g_X12_boatsGo_K112 x_6086 x_6087 k_g_X12_boatsGo_L12 rj_7321 x_7465 ri_7466 ) else (ap1 (x_7465 - (1 : Int32)) fun (x_7598 : Int32) => (ap1 (ri_7466 411 (x_7598).toNatClampNeg) fun (x_7600 : Int32) => (ap1 (va_up ri_7466 411 (upd (ri_7466 411) (x_7465).toNatClampNeg x_7600)) fun (r_7602 : Nat → Nat → Int32) => (ap1 (x_7465 + Int32.ofInt (-1)) fun (x_7604 : Int32) => ((g_X12_boatsGo_L65 a0 J rq I_3 x_1 x_6086 x_6087 k_g_X12_boatsGo_L12 rj_7321 n_7510) x_7604 r_7602)))))))))) := rfl
set_option maxRecDepth 100000 in
def g_X12_boatsGo_L12 (a0 : Int32) (J : Nat → Int64) (ri : Nat → Nat → Int32) (rq : Nat → Nat → Option Nat) (I_3 : Nat → Int32) (x_1 : Int32) : Nat → (Int32) → (Int32) → (Nat → Nat → Int32) → (Nat → Nat → Int64) → vM
  | 0, x_6086, x_6087, ri_6088, rj_6089 => (I_3, J, ri_6088, rj_6089, rq)
  | n_6799 + 1, x_6086, x_6087, ri_6088, rj_6089 => (ap1 (ri 384 5) fun (y_6811 : Int32) => (if (y_6811) ≤ x_6087 then (ap1 (ri_6088 384 ((11 : Int32)).toNatClampNeg) fun (x_6818 : Int32) => (g_X12_boatsGo_L142 a0 J rq I_3 x_6086 rj_6089 ((40 - ((0 : Int32)).toInt).toNat + 1) x_6818 (0 : Int32) ri_6088)) else (ap1 (va_up ri_6088 412 (upd (ri_6088 412) (x_6087).toNatClampNeg (1 : Int32))) fun (r_7294 : Nat → Nat → Int32) => (bnI (g_X12_isOnRing x_6087 I_3 J r_7294 rj_6089 rq) fun (x_7295 : Int32) (_ : Nat → Int32) (_ : Nat → Int64) (_ : Nat → Nat → Int32) (_ : Nat → Nat → Int64) (_ : Nat → Nat → Option Nat) => (if x_7295 = (0 : Int32) then (ap1 (x_6087 + Int32.ofInt 1) fun (x_7313 : Int32) => ((g_X12_boatsGo_L12 a0 J ri rq I_3 x_1 n_6799) x_6086 x_7313 r_7294 rj_6089)) else (bnI (g_X12_isFor (3 : Int32) x_6087 a0 I_3 J r_7294 rj_6089 rq) fun (x_7318 : Int32) (_ : Nat → Int32) (_ : Nat → Int64) (ri_7320 : Nat → Nat → Int32) (rj_7321 : Nat → Nat → Int64) (_ : Nat → Nat → Option Nat) => (if x_7318 = (0 : Int32) then (ap1 (x_6087 + Int32.ofInt 1) fun (x_7608 : Int32) => ((g_X12_boatsGo_L12 a0 J ri rq I_3 x_1 n_6799) x_6086 x_7608 ri_7320 rj_7321)) else (ap1 (va_up ri_7320 412 (upd (ri_7320 412) (x_6087).toNatClampNeg (0 : Int32))) fun (r_7336 : Nat → Nat → Int32) => (g_X12_boatsGo_L65 a0 J rq I_3 x_1 x_6086 x_6087 (g_X12_boatsGo_L12 a0 J ri rq I_3 x_1 n_6799) rj_7321 (((x_6086).toInt).toNat + 1) x_6086 r_7336)))))))))
set_option maxRecDepth 100000 in
theorem g_X12_boatsGo_L12_e {a0 : Int32} {J : Nat → Int64} {ri : Nat → Nat → Int32} {rq : Nat → Nat → Option Nat} {I_3 : Nat → Int32} {x_1 : Int32} {n_6799 : Nat} {x_6086 : Int32} {x_6087 : Int32} {ri_6088 : Nat → Nat → Int32} {rj_6089 : Nat → Nat → Int64} : g_X12_boatsGo_L12 a0 J ri rq I_3 x_1 (n_6799 + 1) x_6086 x_6087 ri_6088 rj_6089 = (ap1 (ri 384 5) fun (y_6811 : Int32) => (if (y_6811) ≤ x_6087 then (ap1 (ri_6088 384 ((11 : Int32)).toNatClampNeg) fun (x_6818 : Int32) => (g_X12_boatsGo_L142 a0 J rq I_3 x_6086 rj_6089 ((40 - ((0 : Int32)).toInt).toNat + 1) x_6818 (0 : Int32) ri_6088)) else (ap1 (va_up ri_6088 412 (upd (ri_6088 412) (x_6087).toNatClampNeg (1 : Int32))) fun (r_7294 : Nat → Nat → Int32) => (bnI (g_X12_isOnRing x_6087 I_3 J r_7294 rj_6089 rq) fun (x_7295 : Int32) (_ : Nat → Int32) (_ : Nat → Int64) (_ : Nat → Nat → Int32) (_ : Nat → Nat → Int64) (_ : Nat → Nat → Option Nat) => (if x_7295 = (0 : Int32) then (ap1 (x_6087 + Int32.ofInt 1) fun (x_7313 : Int32) => ((g_X12_boatsGo_L12 a0 J ri rq I_3 x_1 n_6799) x_6086 x_7313 r_7294 rj_6089)) else (bnI (g_X12_isFor (3 : Int32) x_6087 a0 I_3 J r_7294 rj_6089 rq) fun (x_7318 : Int32) (_ : Nat → Int32) (_ : Nat → Int64) (ri_7320 : Nat → Nat → Int32) (rj_7321 : Nat → Nat → Int64) (_ : Nat → Nat → Option Nat) => (if x_7318 = (0 : Int32) then (ap1 (x_6087 + Int32.ofInt 1) fun (x_7608 : Int32) => ((g_X12_boatsGo_L12 a0 J ri rq I_3 x_1 n_6799) x_6086 x_7608 ri_7320 rj_7321)) else (ap1 (va_up ri_7320 412 (upd (ri_7320 412) (x_6087).toNatClampNeg (0 : Int32))) fun (r_7336 : Nat → Nat → Int32) => (g_X12_boatsGo_L65 a0 J rq I_3 x_1 x_6086 x_6087 (g_X12_boatsGo_L12 a0 J ri rq I_3 x_1 n_6799) rj_7321 (((x_6086).toInt).toNat + 1) x_6086 r_7336))))))))) := rfl
set_option maxRecDepth 100000 in
def g_X12_boatsGo (a0 : Int32) (I : Nat → Int32) (J : Nat → Int64) (ri : Nat → Nat → Int32) (rj : Nat → Nat → Int64) (rq : Nat → Nat → Option Nat) : vM := (bnI (g_X12_keysFor (5 : Int32) a0 I J ri rj rq) fun (x_1 : Int32) (I_3 : Nat → Int32) (_ : Nat → Int64) (_ : Nat → Nat → Int32) (_ : Nat → Nat → Int64) (_ : Nat → Nat → Option Nat) => (g_X12_boatsGo_L12 a0 J ri rq I_3 x_1 ((40 - ((0 : Int32)).toInt).toNat + 1) (0 : Int32) (0 : Int32) ri rj))
set_option maxRecDepth 100000 in
theorem g_X12_boatsGo_e {a0 : Int32} {I : Nat → Int32} {J : Nat → Int64} {ri : Nat → Nat → Int32} {rj : Nat → Nat → Int64} {rq : Nat → Nat → Option Nat} : g_X12_boatsGo a0 I J ri rj rq = (bnI (g_X12_keysFor (5 : Int32) a0 I J ri rj rq) fun (x_1 : Int32) (I_3 : Nat → Int32) (_ : Nat → Int64) (_ : Nat → Nat → Int32) (_ : Nat → Nat → Int64) (_ : Nat → Nat → Option Nat) => (g_X12_boatsGo_L12 a0 J ri rq I_3 x_1 ((40 - ((0 : Int32)).toInt).toNat + 1) (0 : Int32) (0 : Int32) ri rj)) := rfl
set_option maxHeartbeats 4000000 in
set_option maxRecDepth 100000 in
theorem s_X12_boatsGo (l : Launch) (D : va_G) (t : pq_T) (σ : pq_S) (I : Nat → Nat → Int32) (J : Nat → Nat → Int64) (ri : Nat → Nat → Int32) (rj : Nat → Nat → Int64) (rq : Nat → Nat → Option Nat) (sz : Nat) (tg : Nat → Nat) (hSH : SH σ tg) (hG0 : GT tg I ri) (this : Nat) (a0 : Int32) (hL_this : this ∈ σ.1) (hK_this : σ.2.1 this = 12) (h_a0 : rg a0 0 599) (this_a : Nat) (hR_this_a : σ.2.2.1 384 this = some this_a) (hL_this_a : this_a ∈ σ.1) (hK_this_a : σ.2.1 this_a = 13) (hN_this_a : σ.2.2.2 this_a = 12720) (hT_this_a : tg this_a = 384) (this_row : Nat) (hR_this_row : σ.2.2.1 411 this = some this_row) (hL_this_row : this_row ∈ σ.1) (hK_this_row : σ.2.1 this_row = 13) (hN_this_row : σ.2.2.2 this_row = 40) (hT_this_row : tg this_row = 411) (this_looked : Nat) (hR_this_looked : σ.2.2.1 412 this = some this_looked) (hL_this_looked : this_looked ∈ σ.1) (hK_this_looked : σ.2.1 this_looked = 15) (hN_this_looked : σ.2.2.2 this_looked = 40) (hT_this_looked : tg this_looked = 412) : MetV l yX12_boatsGo (wa yX12_boatsGo cX12_boatsGo 6 none) ({ frames := 5, cells := 0, slots := 0, locals := 125 }) [.ref this, .int a0] D t σ (I, J, ri, rj, rq) sz 0 0 (fun (u : pq_S × pq_M) => ∃ I' : Nat → Nat → Int32, ∃ ri' : Nat → Nat → Int32, ∃ rj' : Nat → Nat → Int64, u = (σ, I', J, ri', rj', rq) ∧ GM [1403] tg σ I ri I' ri' rq ∧ g_X12_boatsGo a0 (vI 12 σ this I) (vJ 12 σ this J) (vR 12 σ this ri) (vL 12 σ this rj) (vQ 12 σ this rq) = ((vI 12 σ this I'), (vJ 12 σ this J), (vR 12 σ this ri'), (vL 12 σ this rj'), (vQ 12 σ this rq)) ∧ FR 12 tg σ this (I, J, ri, rj, rq) (I', J, ri', rj', rq)) := by
  refine Met.ofW (cc := cX12_boatsGo) (maxL := 6) (ret := none) (by decide +kernel) rfl ?_
  intro p e s m args below meth c s₁ B hml hv
  obtain ⟨rfl, hsz, hP, hK, hD0, hN⟩ := hv
  have hx := B.exec
  have hb := B.bytes
  have hr := B.returns
  have hts := atoms_spec (ws := (wa yX12_boatsGo cX12_boatsGo 6 none)) B.pre
  have hown : s.vm.findClass RX12 = some m.cls := findClass_of_methodNamed B.named
  have hlocks := B.notSynchronized
  subst hsz
  have hD : va_D (pq_B t σ (I, J, ri, rj, rq) s.heap.size) (pq_P t σ (I, J, ri, rj, rq)) := hD0.self
  generalize hAe : pq_B t σ (I, J, ri, rj, rq) s.heap.size = A at hD ⊢
  have hA : ∀ q : Nat, s.heap.size ≤ q → A q := fun q h => by rw [← hAe]; exact Or.inr h
  have hS : va_S A s.heap s.heap [] := va_S.rf
  have hG : GM [1403] tg σ I ri I ri rq := ⟨hG0, fun _ _ _ => rfl, fun _ _ _ _ _ => rfl, fun _ _ _ _ _ _ => rfl⟩
  have hl := lv_entry ([.ref this, .int a0]) (n := 6) (Nat.le_of_ble_eq_true rfl)
  rw [lg_entry_eq]
  generalize (lg_sl ([.ref this, .int a0]) ++ List.replicate (6 - (lg_sl ([.ref this, .int a0])).length) Slot.unset).toArray = ls at hl ⊢
  have hl : lv_has ls 6 [(0, .ref this), (1, .int a0)] := hl
  refine q_gen (fun Q hQ => ?_)
  have go : ∀ (H : Heap) (locs : List Loc) (ls : Array Slot), va_P D vwCl (pq_P t σ (I, J, ri, rj, rq)) H → va_D A (pq_P t σ (I, J, ri, rj, rq)) → va_S A s.heap H locs → lv_has ls 6 [(0, .ref this), (1, .int a0)] → W p l e ({ frames := 5, cells := 0, slots := 0, locals := 125 } : Room) s m (List.toArray ([.ref this, .int a0] : List Value)) below meth c H locs 0 0 Q (F0 m 0 ls []) := by
    intro H locs ls hP hD hS hl
    have hO_this : this = vo σ 12 this := rfl
    have hVT : VT 12 σ tg this := vt_12 hSH hL_this hK_this
    have hFr : FR 12 tg σ this (I, J, ri, rj, rq) (I, J, ri, rj, rq) := fr_rf
    have hO_this_a : this_a = vrow σ 384 this := vo_k (c := 12) hO_this hR_this_a
    have hO_this_row : this_row = vrow σ 411 this := vo_k (c := 12) hO_this hR_this_row
    have hO_this_looked : this_looked = vrow σ 412 this := vo_k (c := 12) hO_this hR_this_looked
    obtain ⟨F, hF0⟩ : ∃ F, F = g_X12_boatsGo a0 (vI 12 σ this I) (vJ 12 σ this J) (vR 12 σ this ri) (vL 12 σ this rj) (vQ 12 σ this rq) := ⟨_, rfl⟩
    have hF := hF0.trans g_X12_boatsGo_e
    refine lv_aload_n hx hb dX12_boatsGo_0 rfl (lv_at hl 0 rfl) ?_
    refine lv_iconst (v := 5) hx hb dX12_boatsGo_1 (by decide +kernel) ?_
    refine lv_iload_n hx hb dX12_boatsGo_2 rfl (lv_at hl 1 rfl) ?_
    refine pk_i (va_runV (As := [.int 5, .int a0]) (rest := []) ⟨hx, hb, hml, hown, hts⟩ (s_X12_keysFor l D t σ I J ri rj rq H.size tg hSH hG.1 this (5 : Int32) a0 hL_this hK_this this_a hR_this_a hL_this_a hK_this_a hN_this_a hT_this_a) (cwV 2 hts (tw_V tw_503 tw_504 tw_505 tw_5 tw_506) rfl rfl rfl cv_yX12_keysFor_2 ⟨Nat.le_of_ble_eq_true rfl, Nat.le_of_ble_eq_true rfl⟩) ⟨pq_blind, pq_recv hK hP hL_this hK_this (by decide +kernel) rfl, pq_pre hK hN hP hD⟩ rfl rfl hl.1 rfl (lv_room (Nat.le_of_ble_eq_true rfl)) dX12_boatsGo_3 ⟨Nat.le_of_ble_eq_true rfl, Nat.le_of_ble_eq_true rfl⟩) hD hS hA (fun x_1 σ1 μ1 H locs hw_2 hP hD hS => ?_)
    obtain ⟨I_3, hu_4, hg_5, hfn_7, hfr_8, hr_6⟩ := hw_2
    obtain ⟨hu_4a, hu_4b⟩ := Prod.mk.inj hu_4
    rw [hu_4a, hu_4b] at hP hD
    replace hF := hF.trans (bn_n hfn_7)
    replace hFr := fr_tr hFr hfr_8
    have hG := GM.tr hG hg_5 (by decide +kernel)
    have h_9 : rg x_1 0 1 := by rcases hr_6 with ⟨q, -⟩ | ⟨q, -⟩ <;> rw [q] <;> exact ⟨by decide +kernel, by decide +kernel⟩
    have uh_9 := h_9.1
    have vh_9 := h_9.2
    refine lv_istore_n (lv' := [(2, .int x_1), (0, .ref this), (1, .int a0)]) hx hb dX12_boatsGo_6 rfl hl (by decide +kernel) rfl (fun ls hl => ?_)
    refine lv_iconst (v := 0) hx hb dX12_boatsGo_7 (by decide +kernel) ?_
    refine lv_istore_n (lv' := [(3, .int 0), (2, .int x_1), (0, .ref this), (1, .int a0)]) hx hb dX12_boatsGo_8 rfl hl (by decide +kernel) rfl (fun ls hl => ?_)
    refine lv_iconst (v := 0) hx hb dX12_boatsGo_9 (by decide +kernel) ?_
    refine lv_istore (lv' := [(4, .int 0), (3, .int 0), (2, .int x_1), (0, .ref this), (1, .int a0)]) hx hb dX12_boatsGo_10 hl (by decide +kernel) rfl (fun ls hl => ?_)
    have L_6800 : ∀ (n_6799 : Nat) (x_6086 : Int32) (x_6087 : Int32) (ri_6088 : Nat → Nat → Int32) (rj_6089 : Nat → Nat → Int64) (H : Heap) (locs : List Loc) (ls : Array Slot), rg x_6086 0 40 → rg x_6087 0 40 → (0 ≤ (x_6086).toInt ∧ (x_6086).toInt ≤ (x_6087).toInt) → (rwP this_a this_row ri_6088 (x_6086).toInt) → (40 - (x_6087).toInt).toNat < n_6799 → F = g_X12_boatsGo_L12 a0 (vJ 12 σ this J) (vR 12 σ this ri) (vQ 12 σ this rq) (vI 12 σ this I_3) x_1 n_6799 x_6086 x_6087 (vR 12 σ this ri_6088) (vL 12 σ this rj_6089) → FR 12 tg σ this (I, J, ri, rj, rq) (I_3, J, ri_6088, rj_6089, rq) → GM [1403] tg σ I ri I_3 ri_6088 rq → va_P D vwCl (pq_P t σ (I_3, J, ri_6088, rj_6089, rq)) H → va_D A (pq_P t σ (I_3, J, ri_6088, rj_6089, rq)) → va_S A s.heap H locs → lv_has ls 6 [(0, .ref this), (1, .int a0), (2, .int x_1), (3, .int x_6086), (4, .int x_6087)] → W p l e ({ frames := 5, cells := 0, slots := 0, locals := 125 } : Room) s m (List.toArray ([.ref this, .int a0] : List Value)) below meth c H locs 0 0 Q (F0 m 12 ls []) := by
      intro n_6799
      induction n_6799 with
      | zero => intro x_6086 x_6087 ri_6088 rj_6089 H locs ls h_6806 h_6807 hrel_6808 hrel_6809 hm_6798 hF hFr hG hP hD hS hl; exact absurd hm_6798 (Nat.not_lt_zero _)
      | succ n_6799 ih_6801 =>
        intro x_6086 x_6087 ri_6088 rj_6089 H locs ls h_6806 h_6807 hrel_6808 hrel_6809 hm_6798 hF hFr hG hP hD hS hl
        have uh_6806 := h_6806.1
        have vh_6806 := h_6806.2
        have uh_6807 := h_6807.1
        have vh_6807 := h_6807.2
        replace hF := hF.trans g_X12_boatsGo_L12_e
        refine lv_iload hx hb dX12_boatsGo_12 (lv_at hl 4 rfl) ?_
        refine lv_aload_n hx hb dX12_boatsGo_14 rfl (lv_at hl 0 rfl) ?_
        refine pg_f (v := .ref this_a) (C := RX12) (T := TX12) (N := 31) hx hb hts (tw_i inlX12) hown hK hP hL_this hK_this (by decide +kernel) rfl 0 (by decide +kernel) (hts _ (tw_c tw_176)) (pq_hv rfl hR_this_a) dX12_boatsGo_15 ?_
        refine lv_iconst (v := 5) hx hb dX12_boatsGo_18 (by decide +kernel) ?_
        refine pl_i hx hb hK hP hL_this_a hK_this_a hN_this_a (vp_in_iff.mpr (by decide +kernel)) dX12_boatsGo_19 ?_
        refine lv_tov (ri this_a 5) (hG.2.2.1 this_a hT_this_a 5 (by decide +kernel) (by decide +kernel)) ?_
        have h_6810 : rg (ri this_a 5) 0 40 := GM.z0 hG0 (by rw [hT_this_a]; decide) (i := 5) (k := 5) (by decide +kernel) rfl
        have uh_6810 := h_6810.1
        have vh_6810 := h_6810.2
        replace hF := hF.trans (ap_n (vR_r hO_this_a (by decide +kernel) rfl))
        refine lv_icmp_ge (tgt := 130) hx hb dX12_boatsGo_20 (by decide +kernel) (fun c_6812 => ?_) (fun c_6812 => ?_)
        · replace hF := hF.trans (if_pos c_6812)
          have tc_6817 : (ri this_a 5).toInt ≤ (x_6087).toInt := Int32.le_iff_toInt_le.mp c_6812
          refine lv_aload_n hx hb dX12_boatsGo_130 rfl (lv_at hl 0 rfl) ?_
          refine pg_f (v := .ref this_a) (C := RX12) (T := TX12) (N := 31) hx hb hts (tw_i inlX12) hown hK hP hL_this hK_this (by decide +kernel) rfl 0 (by decide +kernel) (hts _ (tw_c tw_176)) (pq_hv rfl hR_this_a) dX12_boatsGo_131 ?_
          refine lv_bipush (v := 11) hx hb dX12_boatsGo_134 (by decide +kernel) ?_
          refine pl_i hx hb hK hP hL_this_a hK_this_a hN_this_a (vp_in_iff.mpr (by decide +kernel)) dX12_boatsGo_136 ?_
          refine lv_topi (fun x_6818 ex_6818 => ?_)
          replace hF := hF.trans (ap_n (vR_r hO_this_a (by decide +kernel) ex_6818))
          refine lv_istore (lv' := [(4, .int x_6818), (0, .ref this), (1, .int a0), (2, .int x_1), (3, .int x_6086)]) hx hb dX12_boatsGo_137 hl (by decide +kernel) rfl (fun ls hl => ?_)
          refine lv_iconst (v := 0) hx hb dX12_boatsGo_139 (by decide +kernel) ?_
          refine lv_istore (lv' := [(5, .int 0), (4, .int x_6818), (0, .ref this), (1, .int a0), (2, .int x_1), (3, .int x_6086)]) hx hb dX12_boatsGo_140 hl (by decide +kernel) rfl (fun ls hl => ?_)
          have L_7233 : ∀ (n_7232 : Nat) (x_7199 : Int32) (x_7200 : Int32) (ri_7201 : Nat → Nat → Int32) (H : Heap) (locs : List Loc) (ls : Array Slot), rg x_7200 0 40 → ((x_6086).toInt ≤ 40) → (40 - (x_7200).toInt).toNat < n_7232 → F = g_X12_boatsGo_L142 a0 (vJ 12 σ this J) (vQ 12 σ this rq) (vI 12 σ this I_3) x_6086 (vL 12 σ this rj_6089) n_7232 x_7199 x_7200 (vR 12 σ this ri_7201) → FR 12 tg σ this (I, J, ri, rj, rq) (I_3, J, ri_7201, rj_6089, rq) → GM [1403] tg σ I ri I_3 ri_7201 rq → va_P D vwCl (pq_P t σ (I_3, J, ri_7201, rj_6089, rq)) H → va_D A (pq_P t σ (I_3, J, ri_7201, rj_6089, rq)) → va_S A s.heap H locs → lv_has ls 6 [(0, .ref this), (1, .int a0), (3, .int x_6086), (4, .int x_7199), (5, .int x_7200)] → W p l e ({ frames := 5, cells := 0, slots := 0, locals := 125 } : Room) s m (List.toArray ([.ref this, .int a0] : List Value)) below meth c H locs 0 0 Q (F0 m 142 ls []) := by
            intro n_7232
            induction n_7232 with
            | zero => intro x_7199 x_7200 ri_7201 H locs ls h_7237 hrel_7238 hm_7231 hF hFr hG hP hD hS hl; exact absurd hm_7231 (Nat.not_lt_zero _)
            | succ n_7232 ih_7234 =>
              intro x_7199 x_7200 ri_7201 H locs ls h_7237 hrel_7238 hm_7231 hF hFr hG hP hD hS hl
              have uh_7237 := h_7237.1
              have vh_7237 := h_7237.2
              replace hF := hF.trans g_X12_boatsGo_L142_e
              refine lv_iload hx hb dX12_boatsGo_142 (lv_at hl 4 rfl) ?_
              refine lv_iload_n hx hb dX12_boatsGo_144 rfl (lv_at hl 2 rfl) ?_
              refine lv_icmp_ge (tgt := 188) hx hb dX12_boatsGo_145 (by decide +kernel) (fun c_7239 => ?_) (fun c_7239 => ?_)
              · replace hF := hF.trans (if_pos c_7239)
                have tc_7244 : (x_6086).toInt ≤ (x_7200).toInt := Int32.le_iff_toInt_le.mp c_7239
                subst hQ
                exact W.vret hx hb hr (fun t1 ht hW => ⟨⟨(σ, I_3, J, ri_7201, rj_6089, rq), rfl, ⟨I_3, ri_7201, rj_6089, rfl, hG, (hF0.symm.trans hF), hFr⟩, by rw [ht]; exact hP, va_K.moved hW.alike hK, hD⟩, hS.F ht⟩) hS.2.2 dX12_boatsGo_188
              · replace hF := hF.trans (if_neg c_7239)
                have tc_7245 : (x_7200).toInt < (x_6086).toInt := Int32.lt_iff_toInt_lt.mp (nle c_7239)
                have h_7246 : rg x_7200 0 39 := rg_lt1 (nle c_7239) h_7237 h_6806 (by decide +kernel)
                have uh_7246 := h_7246.1
                have vh_7246 := h_7246.2
                have h_7247 : rg x_6086 1 40 := rg_lt2 (nle c_7239) h_7237 h_6806 (by decide +kernel)
                have uh_7247 := h_7247.1
                have vh_7247 := h_7247.2
                refine lv_aload_n hx hb dX12_boatsGo_148 rfl (lv_at hl 0 rfl) ?_
                refine pg_f (v := .ref this_looked) (C := RX12) (T := TX12) (N := 31) hx hb hts (tw_i inlX12) hown hK hP hL_this hK_this (by decide +kernel) rfl 28 (by decide +kernel) (hts _ (tw_c tw_189)) (pq_hv rfl hR_this_looked) dX12_boatsGo_149 ?_
                refine lv_aload_n hx hb dX12_boatsGo_152 rfl (lv_at hl 0 rfl) ?_
                refine pg_f (v := .ref this_row) (C := RX12) (T := TX12) (N := 31) hx hb hts (tw_i inlX12) hown hK hP hL_this hK_this (by decide +kernel) rfl 27 (by decide +kernel) (hts _ (tw_c tw_188)) (pq_hv rfl hR_this_row) dX12_boatsGo_153 ?_
                refine lv_iload hx hb dX12_boatsGo_156 (lv_at hl 4 rfl) ?_
                refine pl_i hx hb hK hP hL_this_row hK_this_row hN_this_row (rg_in h_7246 (by decide +kernel)) dX12_boatsGo_158 ?_
                refine lv_topi (fun x_7248 ex_7248 => ?_)
                replace hF := hF.trans (ap_n (vR_r hO_this_row (by decide +kernel) ex_7248))
                have h_7249 : rg x_7248 0 39 := rg_of_eq ex_7248 (GM.rR hG hT_this_row rfl)
                have uh_7249 := h_7249.1
                have vh_7249 := h_7249.2
                refine pl_z hx hb hK hP hL_this_looked hK_this_looked hN_this_looked (rg_in h_7249 (by decide +kernel)) dX12_boatsGo_159 ?_
                refine lv_topi (fun x_7250 ex_7250 => ?_)
                replace hF := hF.trans (ap_n (vR_r hO_this_looked (by decide +kernel) ex_7250))
                have h_7251 : rg x_7250 0 1 := rg_of_eq ex_7250 (GM.rR hG hT_this_looked rfl)
                have uh_7251 := h_7251.1
                have vh_7251 := h_7251.2
                have K_7270 : ∀  (x_7266 : Int32) (ri_7267 : Nat → Nat → Int32) (H : Heap) (locs : List Loc) (ls : Array Slot), F = g_X12_boatsGo_K182 x_7200 (g_X12_boatsGo_L142 a0 (vJ 12 σ this J) (vQ 12 σ this rq) (vI 12 σ this I_3) x_6086 (vL 12 σ this rj_6089) n_7232) x_7266 (vR 12 σ this ri_7267) → FR 12 tg σ this (I, J, ri, rj, rq) (I_3, J, ri_7267, rj_6089, rq) → GM [1403] tg σ I ri I_3 ri_7267 rq → va_P D vwCl (pq_P t σ (I_3, J, ri_7267, rj_6089, rq)) H → va_D A (pq_P t σ (I_3, J, ri_7267, rj_6089, rq)) → va_S A s.heap H locs → lv_has ls 6 [(0, .ref this), (1, .int a0), (3, .int x_6086), (4, .int x_7266), (5, .int x_7200)] → W p l e ({ frames := 5, cells := 0, slots := 0, locals := 125 } : Room) s m (List.toArray ([.ref this, .int a0] : List Value)) below meth c H locs 0 0 Q (F0 m 182 ls []) := by
                  intro x_7266 ri_7267 H locs ls hF hFr hG hP hD hS hl
                  replace hF := hF.trans g_X12_boatsGo_K182_e
                  obtain ⟨x_7271, ex_7271⟩ : ∃ y : Int32, y = x_7200 + Int32.ofInt 1 := ⟨_, rfl⟩
                  replace hF := hF.trans (ap_n ex_7271)
                  have h_7272 : rg x_7271 1 40 := rg_of_eq ex_7271 (rg_add h_7246 (rg_k (Int32.ofInt 1) 1 rfl) (by decide +kernel))
                  have uh_7272 := h_7272.1
                  have vh_7272 := h_7272.2
                  have tx_7271 : (x_7271).toInt = (x_7200).toInt + 1 := by rw [ex_7271]; exact i_add_rg (a2 := (x_7200).toInt) (b2 := 1) rfl rfl h_7246 (rg_k (Int32.ofInt 1) 1 rfl) (by decide +kernel)
                  refine lv_iinc (v := x_7271) (lv' := [(5, .int x_7271), (0, .ref this), (1, .int a0), (3, .int x_6086), (4, .int x_7266)]) hx hb dX12_boatsGo_182 hl (k := 4) rfl ex_7271.symm (by decide +kernel) rfl (fun ls hl => ?_)
                  refine lv_goto (tgt := 142) hx hb dX12_boatsGo_185 (by decide +kernel) ?_
                  exact ih_7234 x_7266 x_7271 ri_7267 _ _ _ (rg_w h_7272 (by decide +kernel)) (by omega) (ms_up 1 hm_7231 ex_7271 rfl (by decide +kernel) h_7246 (by decide +kernel) (by decide +kernel)) hF hFr hG hP hD hS (lv_sub hl [1, 2, 3, 4, 0] rfl)
                refine lv_if_ne (tgt := 182) hx hb dX12_boatsGo_160 (by decide +kernel) (fun c_7273 => ?_) (fun c_7273 => ?_)
                · replace hF := hF.trans (if_neg c_7273)
                  have tc_7278 : (x_7250).toInt ≠ 0 := fun q => c_7273 (Int32.toInt_inj.mp q)
                  have h_7279 : rg x_7250 1 1 := rg_ne c_7273 h_7251 0 rfl (by decide +kernel)
                  have uh_7279 := h_7279.1
                  have vh_7279 := h_7279.2
                  exact K_7270 x_7199 ri_7201 _ _ _ hF hFr hG hP hD hS (lv_sub hl [0, 1, 2, 3, 4] rfl)
                · replace hF := hF.trans (if_pos c_7273)
                  have tc_7280 : (x_7250).toInt = 0 := congrArg Int32.toInt c_7273
                  have h_7281 : rg x_7250 0 0 := rg_and h_7251 (rg_of_eq c_7273 (rg_k (0 : Int32) 0 rfl)) (by decide +kernel)
                  have uh_7281 := h_7281.1
                  have vh_7281 := h_7281.2
                  refine lv_iload hx hb dX12_boatsGo_163 (lv_at hl 3 rfl) ?_
                  refine lv_aload_n hx hb dX12_boatsGo_165 rfl (lv_at hl 0 rfl) ?_
                  refine lv_aload_n hx hb dX12_boatsGo_166 rfl (lv_at hl 0 rfl) ?_
                  refine pg_f (v := .ref this_row) (C := RX12) (T := TX12) (N := 31) hx hb hts (tw_i inlX12) hown hK hP hL_this hK_this (by decide +kernel) rfl 27 (by decide +kernel) (hts _ (tw_c tw_188)) (pq_hv rfl hR_this_row) dX12_boatsGo_167 ?_
                  refine lv_iload hx hb dX12_boatsGo_170 (lv_at hl 4 rfl) ?_
                  refine pl_i hx hb hK hP hL_this_row hK_this_row hN_this_row (rg_in h_7246 (by decide +kernel)) dX12_boatsGo_172 ?_
                  refine lv_tov x_7248 ex_7248.symm ?_
                  refine lv_iload_n hx hb dX12_boatsGo_173 rfl (lv_at hl 1 rfl) ?_
                  refine lv_iload hx hb dX12_boatsGo_174 (lv_at hl 3 rfl) ?_
                  refine pk_i (va_runV (As := [.int x_7248, .int a0, .int x_7199]) (rest := [.int x_7199]) ⟨hx, hb, hml, hown, hts⟩ (s_X12_family l D t σ I_3 J ri_7201 rj_6089 rq H.size tg hSH hG.1 this x_7248 a0 x_7199 hL_this hK_this (rg_w h_7249 (by decide +kernel))) (cwV 3 hts (tw_V tw_1255 tw_1256 tw_1257 tw_5 tw_1258) rfl rfl rfl cv_yX12_family_3 ⟨Nat.le_of_ble_eq_true rfl, Nat.le_of_ble_eq_true rfl⟩) ⟨pq_blind, pq_recv hK hP hL_this hK_this (by decide +kernel) rfl, pq_pre hK hN hP hD⟩ rfl rfl hl.1 rfl (lv_room (Nat.le_of_ble_eq_true rfl)) dX12_boatsGo_176 ⟨Nat.le_of_ble_eq_true rfl, Nat.le_of_ble_eq_true rfl⟩) hD hS hA (fun x_7282 σ1 μ1 H locs hw_7283 hP hD hS => ?_)
                  obtain ⟨ri_7284, hu_7285, hg_7286, hfn_7288, hfr_7289⟩ := hw_7283
                  obtain ⟨hu_7285a, hu_7285b⟩ := Prod.mk.inj hu_7285
                  rw [hu_7285a, hu_7285b] at hP hD
                  replace hF := hF.trans (bn_n hfn_7288)
                  replace hFr := fr_tr hFr hfr_7289
                  have hG := GM.tr hG hg_7286 (by decide +kernel)
                  refine lv_isub hx hb dX12_boatsGo_179 ?_
                  refine lv_topi (fun x_7290 ex_7290 => ?_)
                  replace hF := hF.trans (ap_n ex_7290)
                  refine lv_istore (lv' := [(4, .int x_7290), (0, .ref this), (1, .int a0), (3, .int x_6086), (5, .int x_7200)]) hx hb dX12_boatsGo_180 hl (by decide +kernel) rfl (fun ls hl => ?_)
                  exact K_7270 x_7290 ri_7284 _ _ _ hF hFr hG hP hD hS (lv_sub hl [1, 2, 3, 0, 4] rfl)
          exact L_7233 _ x_6818 (0 : Int32) ri_6088 _ _ _ (rg_w (rg_k (0 : Int32) 0 rfl) (by decide +kernel)) (by have k0 : (0 : Int32).toInt = 0 := rfl; omega) (Nat.lt_succ_self _) hF hFr hG hP hD hS (lv_sub hl [2, 3, 5, 1, 0] rfl)
        · replace hF := hF.trans (if_neg c_6812)
          have tc_7291 : (x_6087).toInt < (ri this_a 5).toInt := Int32.lt_iff_toInt_lt.mp (nle c_6812)
          have h_7292 : rg x_6087 0 39 := rg_lt1 (nle c_6812) h_6807 h_6810 (by decide +kernel)
          have uh_7292 := h_7292.1
          have vh_7292 := h_7292.2
          have h_7293 : rg (ri this_a 5) 1 40 := rg_lt2 (nle c_6812) h_6807 h_6810 (by decide +kernel)
          have uh_7293 := h_7293.1
          have vh_7293 := h_7293.2
          refine lv_aload_n hx hb dX12_boatsGo_23 rfl (lv_at hl 0 rfl) ?_
          refine pg_f (v := .ref this_looked) (C := RX12) (T := TX12) (N := 31) hx hb hts (tw_i inlX12) hown hK hP hL_this hK_this (by decide +kernel) rfl 28 (by decide +kernel) (hts _ (tw_c tw_189)) (pq_hv rfl hR_this_looked) dX12_boatsGo_24 ?_
          refine lv_iload hx hb dX12_boatsGo_27 (lv_at hl 4 rfl) ?_
          refine lv_iconst (v := 1) hx hb dX12_boatsGo_29 (by decide +kernel) ?_
          refine pt_z hx hb hK hP hD hS hL_this_looked hK_this_looked hN_this_looked (rg_in h_7292 (by decide +kernel)) (rg_w (rg_k (1 : Int32) 1 rfl) (by decide +kernel)) dX12_boatsGo_30 (fun r_7294 H locs er_7294 hP hD hS => ?_)
          replace hFr := fr_R hFr hO_this_looked (by decide +kernel) er_7294
          replace hF := hF.trans (ap_n (vR_st hVT hO_this_looked (by decide +kernel) er_7294))
          have hG := GM.wR hG hSH hT_this_looked rfl er_7294 (rg_w (rg_k (1 : Int32) 1 rfl) (by decide +kernel)) (by decide +kernel)
          refine lv_aload_n hx hb dX12_boatsGo_31 rfl (lv_at hl 0 rfl) ?_
          refine lv_iload hx hb dX12_boatsGo_32 (lv_at hl 4 rfl) ?_
          refine pk_i (va_runV (As := [.int x_6087]) (rest := []) ⟨hx, hb, hml, hown, hts⟩ (s_X12_isOnRing l D t σ I_3 J r_7294 rj_6089 rq H.size tg hSH hG.1 this x_6087 hL_this hK_this (rg_w h_7292 (by decide +kernel)) this_a hR_this_a hL_this_a hK_this_a hN_this_a hT_this_a) (cwV 1 hts (tw_V tw_1221 tw_1222 tw_1223 tw_5 tw_1224) rfl rfl rfl cv_yX12_isOnRing_1 ⟨Nat.le_of_ble_eq_true rfl, Nat.le_of_ble_eq_true rfl⟩) ⟨pq_blind, pq_recv hK hP hL_this hK_this (by decide +kernel) rfl, pq_pre hK hN hP hD⟩ rfl rfl hl.1 rfl (lv_room (Nat.le_of_ble_eq_true rfl)) dX12_boatsGo_34 ⟨Nat.le_of_ble_eq_true rfl, Nat.le_of_ble_eq_true rfl⟩) hD hS hA (fun x_7295 σ1 μ1 H locs hw_7296 hP hD hS => ?_)
          obtain ⟨hu_7297, hfn_7300, hr_7299⟩ := hw_7296
          obtain ⟨hu_7297a, hu_7297b⟩ := Prod.mk.inj hu_7297
          rw [hu_7297a, hu_7297b] at hP hD
          replace hF := hF.trans (bn_n hfn_7300)
          have h_7302 : rg x_7295 0 1 := by rcases hr_7299 with ⟨q, -⟩ | ⟨q, -⟩ <;> rw [q] <;> exact ⟨by decide +kernel, by decide +kernel⟩
          have uh_7302 := h_7302.1
          have vh_7302 := h_7302.2
          refine lv_if_eq (tgt := 124) hx hb dX12_boatsGo_37 (by decide +kernel) (fun c_7303 => ?_) (fun c_7303 => ?_)
          · replace hF := hF.trans (if_pos c_7303)
            have f_7310 := (hr_7299.resolve_left (fun q => absurd (q.1.symm.trans c_7303) (by decide +kernel))).2
            have tc_7311 : (x_7295).toInt = 0 := congrArg Int32.toInt c_7303
            have h_7312 : rg x_7295 0 0 := rg_and h_7302 (rg_of_eq c_7303 (rg_k (0 : Int32) 0 rfl)) (by decide +kernel)
            have uh_7312 := h_7312.1
            have vh_7312 := h_7312.2
            obtain ⟨x_7313, ex_7313⟩ : ∃ y : Int32, y = x_6087 + Int32.ofInt 1 := ⟨_, rfl⟩
            replace hF := hF.trans (ap_n ex_7313)
            have h_7314 : rg x_7313 1 40 := rg_of_eq ex_7313 (rg_add h_7292 (rg_k (Int32.ofInt 1) 1 rfl) (by decide +kernel))
            have uh_7314 := h_7314.1
            have vh_7314 := h_7314.2
            have tx_7313 : (x_7313).toInt = (x_6087).toInt + 1 := by rw [ex_7313]; exact i_add_rg (a2 := (x_6087).toInt) (b2 := 1) rfl rfl h_7292 (rg_k (Int32.ofInt 1) 1 rfl) (by decide +kernel)
            refine lv_iinc (v := x_7313) (lv' := [(4, .int x_7313), (0, .ref this), (1, .int a0), (2, .int x_1), (3, .int x_6086)]) hx hb dX12_boatsGo_124 hl (k := 4) rfl ex_7313.symm (by decide +kernel) rfl (fun ls hl => ?_)
            refine lv_goto (tgt := 12) hx hb dX12_boatsGo_127 (by decide +kernel) ?_
            exact ih_6801 x_6086 x_7313 r_7294 rj_6089 _ _ _ (rg_w h_6806 (by decide +kernel)) (rg_w h_7314 (by decide +kernel)) (by omega) (rwP_o hrel_6809 er_7294 (tg_ne hT_this_a hT_this_looked (by decide +kernel)) (tg_ne hT_this_row hT_this_looked (by decide +kernel))) (ms_up 1 hm_6798 ex_7313 rfl (by decide +kernel) h_7292 (by decide +kernel) (by decide +kernel)) hF hFr hG hP hD hS (lv_sub hl [1, 2, 3, 4, 0] rfl)
          · replace hF := hF.trans (if_neg c_7303)
            have f_7315 := (hr_7299.resolve_right (fun q => c_7303 q.1)).2
            have tc_7316 : (x_7295).toInt ≠ 0 := fun q => c_7303 (Int32.toInt_inj.mp q)
            have h_7317 : rg x_7295 1 1 := rg_ne c_7303 h_7302 0 rfl (by decide +kernel)
            have uh_7317 := h_7317.1
            have vh_7317 := h_7317.2
            refine lv_aload_n hx hb dX12_boatsGo_40 rfl (lv_at hl 0 rfl) ?_
            refine lv_iconst (v := 3) hx hb dX12_boatsGo_41 (by decide +kernel) ?_
            refine lv_iload hx hb dX12_boatsGo_42 (lv_at hl 4 rfl) ?_
            refine lv_iload_n hx hb dX12_boatsGo_44 rfl (lv_at hl 1 rfl) ?_
            refine pk_i (va_runV (As := [.int 3, .int x_6087, .int a0]) (rest := []) ⟨hx, hb, hml, hown, hts⟩ (s_X12_isFor l D t σ I_3 J r_7294 rj_6089 rq H.size tg hSH hG.1 this (3 : Int32) x_6087 a0 hL_this hK_this (rg_w (rg_k (3 : Int32) 3 rfl) (by decide +kernel)) (rg_w h_7292 (by decide +kernel)) this_a hR_this_a hL_this_a hK_this_a hN_this_a hT_this_a) (cwV 3 hts (tw_V tw_971 tw_972 tw_973 tw_5 tw_974) rfl rfl rfl cv_yX12_isFor_3 ⟨Nat.le_of_ble_eq_true rfl, Nat.le_of_ble_eq_true rfl⟩) ⟨pq_blind, pq_recv hK hP hL_this hK_this (by decide +kernel) rfl, pq_pre hK hN hP hD⟩ rfl rfl hl.1 rfl (lv_room (Nat.le_of_ble_eq_true rfl)) dX12_boatsGo_45 ⟨Nat.le_of_ble_eq_true rfl, Nat.le_of_ble_eq_true rfl⟩) hD hS hA (fun x_7318 σ1 μ1 H locs hw_7319 hP hD hS => ?_)
            obtain ⟨ri_7320, rj_7321, hu_7322, hg_7323, hp_7325, hfn_7326, hfr_7327, hr_7324⟩ := hw_7319
            obtain ⟨hu_7322a, hu_7322b⟩ := Prod.mk.inj hu_7322
            rw [hu_7322a, hu_7322b] at hP hD
            replace hF := hF.trans (bn_n hfn_7326)
            replace hFr := fr_tr hFr hfr_7327
            have hG := GM.tr hG hg_7323 (by decide +kernel)
            have h_7328 : rg x_7318 0 1 := by rcases hr_7324 with ⟨q, -⟩ | ⟨q, -⟩ <;> rw [q] <;> exact ⟨by decide +kernel, by decide +kernel⟩
            have uh_7328 := h_7328.1
            have vh_7328 := h_7328.2
            refine lv_if_ne (tgt := 54) hx hb dX12_boatsGo_48 (by decide +kernel) (fun c_7329 => ?_) (fun c_7329 => ?_)
            · replace hF := hF.trans (if_neg c_7329)
              have tc_7334 : (x_7318).toInt ≠ 0 := fun q => c_7329 (Int32.toInt_inj.mp q)
              have h_7335 : rg x_7318 1 1 := rg_ne c_7329 h_7328 0 rfl (by decide +kernel)
              have uh_7335 := h_7335.1
              have vh_7335 := h_7335.2
              refine lv_aload_n hx hb dX12_boatsGo_54 rfl (lv_at hl 0 rfl) ?_
              refine pg_f (v := .ref this_looked) (C := RX12) (T := TX12) (N := 31) hx hb hts (tw_i inlX12) hown hK hP hL_this hK_this (by decide +kernel) rfl 28 (by decide +kernel) (hts _ (tw_c tw_189)) (pq_hv rfl hR_this_looked) dX12_boatsGo_55 ?_
              refine lv_iload hx hb dX12_boatsGo_58 (lv_at hl 4 rfl) ?_
              refine lv_iconst (v := 0) hx hb dX12_boatsGo_60 (by decide +kernel) ?_
              refine pt_z hx hb hK hP hD hS hL_this_looked hK_this_looked hN_this_looked (rg_in h_7292 (by decide +kernel)) (rg_w (rg_k (0 : Int32) 0 rfl) (by decide +kernel)) dX12_boatsGo_61 (fun r_7336 H locs er_7336 hP hD hS => ?_)
              replace hFr := fr_R hFr hO_this_looked (by decide +kernel) er_7336
              replace hF := hF.trans (ap_n (vR_st hVT hO_this_looked (by decide +kernel) er_7336))
              have hG := GM.wR hG hSH hT_this_looked rfl er_7336 (rg_w (rg_k (0 : Int32) 0 rfl) (by decide +kernel)) (by decide +kernel)
              refine lv_iload_n hx hb dX12_boatsGo_62 rfl (lv_at hl 3 rfl) ?_
              refine lv_istore (lv' := [(5, .int x_6086), (0, .ref this), (1, .int a0), (2, .int x_1), (3, .int x_6086), (4, .int x_6087)]) hx hb dX12_boatsGo_63 hl (by decide +kernel) rfl (fun ls hl => ?_)
              have L_7511 : ∀ (n_7510 : Nat) (x_7465 : Int32) (ri_7466 : Nat → Nat → Int32) (H : Heap) (locs : List Loc) (ls : Array Slot), rg x_7465 0 40 → (0 ≤ (x_7465).toInt ∧ (x_7465).toInt ≤ (x_6086).toInt) → (rwP this_a this_row ri_7466 (x_6086).toInt) → ((x_7465).toInt = (x_6086).toInt ∨ rg (ri_7466 this_a (743 + 12 * (ri_7466 this_row ((x_6086).toInt).toNat).toNatClampNeg)) 0 4) → (rg (ri_7466 this_a (743 + 12 * (x_6087).toNatClampNeg)) 0 4) → ((x_7465).toInt).toNat < n_7510 → F = g_X12_boatsGo_L65 a0 (vJ 12 σ this J) (vQ 12 σ this rq) (vI 12 σ this I_3) x_1 x_6086 x_6087 (g_X12_boatsGo_L12 a0 (vJ 12 σ this J) (vR 12 σ this ri) (vQ 12 σ this rq) (vI 12 σ this I_3) x_1 n_6799) (vL 12 σ this rj_7321) n_7510 x_7465 (vR 12 σ this ri_7466) → FR 12 tg σ this (I, J, ri, rj, rq) (I_3, J, ri_7466, rj_7321, rq) → GM [1403] tg σ I ri I_3 ri_7466 rq → va_P D vwCl (pq_P t σ (I_3, J, ri_7466, rj_7321, rq)) H → va_D A (pq_P t σ (I_3, J, ri_7466, rj_7321, rq)) → va_S A s.heap H locs → lv_has ls 6 [(0, .ref this), (1, .int a0), (2, .int x_1), (3, .int x_6086), (4, .int x_6087), (5, .int x_7465)] → W p l e ({ frames := 5, cells := 0, slots := 0, locals := 125 } : Room) s m (List.toArray ([.ref this, .int a0] : List Value)) below meth c H locs 0 0 Q (F0 m 65 ls []) := by
                intro n_7510
                induction n_7510 with
                | zero => intro x_7465 ri_7466 H locs ls h_7518 hrel_7519 hrel_7520 hrel_7521 hrel_7522 hm_7509 hF hFr hG hP hD hS hl; exact absurd hm_7509 (Nat.not_lt_zero _)
                | succ n_7510 ih_7512 =>
                  intro x_7465 ri_7466 H locs ls h_7518 hrel_7519 hrel_7520 hrel_7521 hrel_7522 hm_7509 hF hFr hG hP hD hS hl
                  have uh_7518 := h_7518.1
                  have vh_7518 := h_7518.2
                  replace hF := hF.trans g_X12_boatsGo_L65_e
                  refine lv_iload hx hb dX12_boatsGo_65 (lv_at hl 5 rfl) ?_
                  have K_7560 : ∀  (H : Heap) (locs : List Loc) (ls : Array Slot), F = g_X12_boatsGo_K112 x_6086 x_6087 (g_X12_boatsGo_L12 a0 (vJ 12 σ this J) (vR 12 σ this ri) (vQ 12 σ this rq) (vI 12 σ this I_3) x_1 n_6799) (vL 12 σ this rj_7321) x_7465 (vR 12 σ this ri_7466)  → FR 12 tg σ this (I, J, ri, rj, rq) (I_3, J, ri_7466, rj_7321, rq) → GM [1403] tg σ I ri I_3 ri_7466 rq → va_P D vwCl (pq_P t σ (I_3, J, ri_7466, rj_7321, rq)) H → va_D A (pq_P t σ (I_3, J, ri_7466, rj_7321, rq)) → va_S A s.heap H locs → lv_has ls 6 [(0, .ref this), (1, .int a0), (2, .int x_1), (3, .int x_6086), (4, .int x_6087), (5, .int x_7465)] → W p l e ({ frames := 5, cells := 0, slots := 0, locals := 125 } : Room) s m (List.toArray ([.ref this, .int a0] : List Value)) below meth c H locs 0 0 Q (F0 m 112 ls []) := by
                    intro H locs ls hF hFr hG hP hD hS hl
                    replace hF := hF.trans g_X12_boatsGo_K112_e
                    refine lv_aload_n hx hb dX12_boatsGo_112 rfl (lv_at hl 0 rfl) ?_
                    refine pg_f (v := .ref this_row) (C := RX12) (T := TX12) (N := 31) hx hb hts (tw_i inlX12) hown hK hP hL_this hK_this (by decide +kernel) rfl 27 (by decide +kernel) (hts _ (tw_c tw_188)) (pq_hv rfl hR_this_row) dX12_boatsGo_113 ?_
                    refine lv_iload hx hb dX12_boatsGo_116 (lv_at hl 5 rfl) ?_
                    refine lv_iload hx hb dX12_boatsGo_118 (lv_at hl 4 rfl) ?_
                    have h_7562 : rg x_7465 0 39 := ⟨by omega, by omega⟩
                    have uh_7562 := h_7562.1
                    have vh_7562 := h_7562.2
                    refine pt_i hx hb hK hP hD hS hL_this_row hK_this_row hN_this_row (rg_in h_7562 (by decide +kernel)) dX12_boatsGo_120 (fun r_7561 H locs er_7561 hP hD hS => ?_)
                    replace hFr := fr_R hFr hO_this_row (by decide +kernel) er_7561
                    replace hF := hF.trans (ap_n (vR_st hVT hO_this_row (by decide +kernel) er_7561))
                    have hG := GM.wR hG hSH hT_this_row rfl er_7561 (rg_w h_7292 (by decide +kernel)) (by decide +kernel)
                    have h_7563 : rg x_6086 0 39 := ⟨by omega, by omega⟩
                    have uh_7563 := h_7563.1
                    have vh_7563 := h_7563.2
                    obtain ⟨x_7564, ex_7564⟩ : ∃ y : Int32, y = x_6086 + Int32.ofInt 1 := ⟨_, rfl⟩
                    replace hF := hF.trans (ap_n ex_7564)
                    have h_7565 : rg x_7564 1 40 := rg_of_eq ex_7564 (rg_add h_7563 (rg_k (Int32.ofInt 1) 1 rfl) (by decide +kernel))
                    have uh_7565 := h_7565.1
                    have vh_7565 := h_7565.2
                    have tx_7564 : (x_7564).toInt = (x_6086).toInt + 1 := by rw [ex_7564]; exact i_add_rg (a2 := (x_6086).toInt) (b2 := 1) rfl rfl h_7563 (rg_k (Int32.ofInt 1) 1 rfl) (by decide +kernel)
                    refine lv_iinc (v := x_7564) (lv' := [(3, .int x_7564), (0, .ref this), (1, .int a0), (2, .int x_1), (4, .int x_6087), (5, .int x_7465)]) hx hb dX12_boatsGo_121 hl (k := 3) rfl ex_7564.symm (by decide +kernel) rfl (fun ls hl => ?_)
                    obtain ⟨x_7566, ex_7566⟩ : ∃ y : Int32, y = x_6087 + Int32.ofInt 1 := ⟨_, rfl⟩
                    replace hF := hF.trans (ap_n ex_7566)
                    have h_7567 : rg x_7566 1 40 := rg_of_eq ex_7566 (rg_add h_7292 (rg_k (Int32.ofInt 1) 1 rfl) (by decide +kernel))
                    have uh_7567 := h_7567.1
                    have vh_7567 := h_7567.2
                    have tx_7566 : (x_7566).toInt = (x_6087).toInt + 1 := by rw [ex_7566]; exact i_add_rg (a2 := (x_6087).toInt) (b2 := 1) rfl rfl h_7292 (rg_k (Int32.ofInt 1) 1 rfl) (by decide +kernel)
                    refine lv_iinc (v := x_7566) (lv' := [(4, .int x_7566), (3, .int x_7564), (0, .ref this), (1, .int a0), (2, .int x_1), (5, .int x_7465)]) hx hb dX12_boatsGo_124 hl (k := 4) rfl ex_7566.symm (by decide +kernel) rfl (fun ls hl => ?_)
                    refine lv_goto (tgt := 12) hx hb dX12_boatsGo_127 (by decide +kernel) ?_
                    exact ih_6801 x_7564 x_7566 r_7561 rj_7321 _ _ _ (rg_w h_7565 (by decide +kernel)) (rg_w h_7567 (by decide +kernel)) (by omega) (rwP_s (rwP_w hrel_7520 er_7561 (tg_ne hT_this_a hT_this_row (by decide +kernel)) hrel_7522) (by omega) (rwP_at (k := ((x_6086).toInt).toNat) (by have z0 := clampE x_7465; exact (hrel_7521).elim (fun q => Or.inl (by omega)) Or.inr) er_7561 (tg_ne hT_this_a hT_this_row (by decide +kernel)) hrel_7522) (by omega)) (ms_up 1 hm_6798 ex_7566 rfl (by decide +kernel) h_7292 (by decide +kernel) (by decide +kernel)) hF hFr hG hP hD hS (lv_sub hl [2, 3, 4, 1, 0] rfl)
                  refine lv_if_le (tgt := 112) hx hb dX12_boatsGo_67 (by decide +kernel) (fun c_7568 => ?_) (fun c_7568 => ?_)
                  · replace hF := hF.trans (if_pos c_7568)
                    have tc_7573 : (x_7465).toInt ≤ 0 := Int32.le_iff_toInt_le.mp c_7568
                    have h_7574 : rg x_7465 0 0 := rg_le1 c_7568 h_7518 (rg_k (0 : Int32) 0 rfl) (by decide +kernel)
                    have uh_7574 := h_7574.1
                    have vh_7574 := h_7574.2
                    exact K_7560 _ _ _ hF hFr hG hP hD hS (lv_sub hl [0, 1, 2, 3, 4, 5] rfl)
                  · replace hF := hF.trans (if_neg c_7568)
                    have tc_7575 : 0 < (x_7465).toInt := Int32.lt_iff_toInt_lt.mp (nle c_7568)
                    have h_7576 : rg x_7465 1 40 := rg_lt2 (nle c_7568) (rg_k (0 : Int32) 0 rfl) h_7518 (by decide +kernel)
                    have uh_7576 := h_7576.1
                    have vh_7576 := h_7576.2
                    refine lv_aload_n hx hb dX12_boatsGo_70 rfl (lv_at hl 0 rfl) ?_
                    refine lv_iload hx hb dX12_boatsGo_71 (lv_at hl 4 rfl) ?_
                    refine lv_aload_n hx hb dX12_boatsGo_73 rfl (lv_at hl 0 rfl) ?_
                    refine pg_f (v := .ref this_row) (C := RX12) (T := TX12) (N := 31) hx hb hts (tw_i inlX12) hown hK hP hL_this hK_this (by decide +kernel) rfl 27 (by decide +kernel) (hts _ (tw_c tw_188)) (pq_hv rfl hR_this_row) dX12_boatsGo_74 ?_
                    refine lv_iload hx hb dX12_boatsGo_77 (lv_at hl 5 rfl) ?_
                    refine lv_iconst (v := 1) hx hb dX12_boatsGo_79 (by decide +kernel) ?_
                    refine lv_isub hx hb dX12_boatsGo_80 ?_
                    refine lv_topi (fun x_7577 ex_7577 => ?_)
                    replace hF := hF.trans (ap_n ex_7577)
                    have h_7578 : rg x_7577 0 39 := rg_of_eq ex_7577 (rg_sub h_7576 (rg_k (1 : Int32) 1 rfl) (by decide +kernel))
                    have uh_7578 := h_7578.1
                    have vh_7578 := h_7578.2
                    have tx_7577 : (x_7577).toInt = (x_7465).toInt - 1 := by rw [ex_7577]; exact i_sub_rg (a2 := (x_7465).toInt) (b2 := 1) rfl rfl h_7576 (rg_k (1 : Int32) 1 rfl) (by decide +kernel)
                    refine pl_i hx hb hK hP hL_this_row hK_this_row hN_this_row (rg_in h_7578 (by decide +kernel)) dX12_boatsGo_81 ?_
                    refine lv_topi (fun x_7579 ex_7579 => ?_)
                    replace hF := hF.trans (ap_n (vR_r hO_this_row (by decide +kernel) ex_7579))
                    have h_7580 : rg x_7579 0 39 := rg_of_eq ex_7579 (GM.rR hG hT_this_row rfl)
                    have uh_7580 := h_7580.1
                    have vh_7580 := h_7580.2
                    refine lv_iload_n hx hb dX12_boatsGo_82 rfl (lv_at hl 1 rfl) ?_
                    refine lv_iload_n hx hb dX12_boatsGo_83 rfl (lv_at hl 2 rfl) ?_
                    have hq0 : rg (ri_7466 this_a (743 + 12 * (x_6087).toNatClampNeg)) 0 4 := hrel_7522
                    have hq1 : rg (ri_7466 this_a (743 + 12 * (x_7579).toNatClampNeg)) 0 4 := (by rw [ex_7579]; exact hrel_7520 _ (by have z0 := clampE x_7577; omega))
                    refine pk_i (va_runV (As := [.int x_6087, .int x_7579, .int a0, .int x_1]) (rest := []) ⟨hx, hb, hml, hown, hts⟩ (s_X12_goesAhead l D t σ I_3 J ri_7466 rj_7321 rq H.size tg hSH hG.1 this x_6087 x_7579 a0 x_1 hL_this hK_this (rg_w h_7292 (by decide +kernel)) (rg_w h_7580 (by decide +kernel)) (rg_w h_9 (by decide +kernel)) this_a hR_this_a hL_this_a hK_this_a hN_this_a hT_this_a (by assumption) (by assumption)) (cwV 4 hts (tw_V tw_1251 tw_1252 tw_1253 tw_5 tw_1254) rfl rfl rfl cv_yX12_goesAhead_4 ⟨Nat.le_of_ble_eq_true rfl, Nat.le_of_ble_eq_true rfl⟩) ⟨pq_blind, pq_recv hK hP hL_this hK_this (by decide +kernel) rfl, pq_pre hK hN hP hD⟩ rfl rfl hl.1 rfl (lv_room (Nat.le_of_ble_eq_true rfl)) dX12_boatsGo_84 ⟨Nat.le_of_ble_eq_true rfl, Nat.le_of_ble_eq_true rfl⟩) hD hS hA (fun x_7581 σ1 μ1 H locs hw_7582 hP hD hS => ?_)
                    obtain ⟨hu_7583, hfn_7586, hr_7585⟩ := hw_7582
                    obtain ⟨hu_7583a, hu_7583b⟩ := Prod.mk.inj hu_7583
                    rw [hu_7583a, hu_7583b] at hP hD
                    replace hF := hF.trans (bn_n hfn_7586)
                    have h_7588 : rg x_7581 0 1 := by rcases hr_7585 with ⟨q, -⟩ | ⟨q, -⟩ <;> rw [q] <;> exact ⟨by decide +kernel, by decide +kernel⟩
                    have uh_7588 := h_7588.1
                    have vh_7588 := h_7588.2
                    refine lv_if_eq (tgt := 112) hx hb dX12_boatsGo_87 (by decide +kernel) (fun c_7589 => ?_) (fun c_7589 => ?_)
                    · replace hF := hF.trans (if_pos c_7589)
                      have tc_7594 : (x_7581).toInt = 0 := congrArg Int32.toInt c_7589
                      have h_7595 : rg x_7581 0 0 := rg_and h_7588 (rg_of_eq c_7589 (rg_k (0 : Int32) 0 rfl)) (by decide +kernel)
                      have uh_7595 := h_7595.1
                      have vh_7595 := h_7595.2
                      exact K_7560 _ _ _ hF hFr hG hP hD hS (lv_sub hl [0, 1, 2, 3, 4, 5] rfl)
                    · replace hF := hF.trans (if_neg c_7589)
                      have tc_7596 : (x_7581).toInt ≠ 0 := fun q => c_7589 (Int32.toInt_inj.mp q)
                      have h_7597 : rg x_7581 1 1 := rg_ne c_7589 h_7588 0 rfl (by decide +kernel)
                      have uh_7597 := h_7597.1
                      have vh_7597 := h_7597.2
                      refine lv_aload_n hx hb dX12_boatsGo_90 rfl (lv_at hl 0 rfl) ?_
                      refine pg_f (v := .ref this_row) (C := RX12) (T := TX12) (N := 31) hx hb hts (tw_i inlX12) hown hK hP hL_this hK_this (by decide +kernel) rfl 27 (by decide +kernel) (hts _ (tw_c tw_188)) (pq_hv rfl hR_this_row) dX12_boatsGo_91 ?_
                      refine lv_iload hx hb dX12_boatsGo_94 (lv_at hl 5 rfl) ?_
                      refine lv_aload_n hx hb dX12_boatsGo_96 rfl (lv_at hl 0 rfl) ?_
                      refine pg_f (v := .ref this_row) (C := RX12) (T := TX12) (N := 31) hx hb hts (tw_i inlX12) hown hK hP hL_this hK_this (by decide +kernel) rfl 27 (by decide +kernel) (hts _ (tw_c tw_188)) (pq_hv rfl hR_this_row) dX12_boatsGo_97 ?_
                      refine lv_iload hx hb dX12_boatsGo_100 (lv_at hl 5 rfl) ?_
                      refine lv_iconst (v := 1) hx hb dX12_boatsGo_102 (by decide +kernel) ?_
                      refine lv_isub hx hb dX12_boatsGo_103 ?_
                      refine lv_topi (fun x_7598 ex_7598 => ?_)
                      replace hF := hF.trans (ap_n ex_7598)
                      have h_7599 : rg x_7598 0 39 := rg_of_eq ex_7598 (rg_sub h_7576 (rg_k (1 : Int32) 1 rfl) (by decide +kernel))
                      have uh_7599 := h_7599.1
                      have vh_7599 := h_7599.2
                      have tx_7598 : (x_7598).toInt = (x_7465).toInt - 1 := by rw [ex_7598]; exact i_sub_rg (a2 := (x_7465).toInt) (b2 := 1) rfl rfl h_7576 (rg_k (1 : Int32) 1 rfl) (by decide +kernel)
                      refine pl_i hx hb hK hP hL_this_row hK_this_row hN_this_row (rg_in h_7599 (by decide +kernel)) dX12_boatsGo_104 ?_
                      refine lv_topi (fun x_7600 ex_7600 => ?_)
                      replace hF := hF.trans (ap_n (vR_r hO_this_row (by decide +kernel) ex_7600))
                      have h_7601 : rg x_7600 0 39 := rg_of_eq ex_7600 (GM.rR hG hT_this_row rfl)
                      have uh_7601 := h_7601.1
                      have vh_7601 := h_7601.2
                      have h_7603 : rg x_7465 1 39 := ⟨by omega, by omega⟩
                      have uh_7603 := h_7603.1
                      have vh_7603 := h_7603.2
                      refine pt_i hx hb hK hP hD hS hL_this_row hK_this_row hN_this_row (rg_in h_7603 (by decide +kernel)) dX12_boatsGo_105 (fun r_7602 H locs er_7602 hP hD hS => ?_)
                      replace hFr := fr_R hFr hO_this_row (by decide +kernel) er_7602
                      replace hF := hF.trans (ap_n (vR_st hVT hO_this_row (by decide +kernel) er_7602))
                      have hG := GM.wR hG hSH hT_this_row rfl er_7602 (rg_w h_7601 (by decide +kernel)) (by decide +kernel)
                      obtain ⟨x_7604, ex_7604⟩ : ∃ y : Int32, y = x_7465 + Int32.ofInt (-1) := ⟨_, rfl⟩
                      replace hF := hF.trans (ap_n ex_7604)
                      have h_7605 : rg x_7604 0 38 := rg_of_eq ex_7604 (rg_add h_7603 (rg_k (Int32.ofInt (-1)) (-1) rfl) (by decide +kernel))
                      have uh_7605 := h_7605.1
                      have vh_7605 := h_7605.2
                      have tx_7604 : (x_7604).toInt = (x_7465).toInt + (-1) := by rw [ex_7604]; exact i_add_rg (a2 := (x_7465).toInt) (b2 := (-1)) rfl rfl h_7603 (rg_k (Int32.ofInt (-1)) (-1) rfl) (by decide +kernel)
                      refine lv_iinc (v := x_7604) (lv' := [(5, .int x_7604), (0, .ref this), (1, .int a0), (2, .int x_1), (3, .int x_6086), (4, .int x_6087)]) hx hb dX12_boatsGo_106 hl (k := 5) rfl ex_7604.symm (by decide +kernel) rfl (fun ls hl => ?_)
                      refine lv_goto (tgt := 65) hx hb dX12_boatsGo_109 (by decide +kernel) ?_
                      exact ih_7512 x_7604 r_7602 _ _ _ (rg_w h_7605 (by decide +kernel)) (by omega) (rwP_w hrel_7520 er_7602 (tg_ne hT_this_a hT_this_row (by decide +kernel)) (by rw [ex_7600]; exact hrel_7520 _ (by have z0 := clampE x_7598; omega))) (Or.inr (rwP_at (k := ((x_6086).toInt).toNat) (by have z0 := clampE x_7465; exact (hrel_7521).elim (fun q => Or.inl (by omega)) Or.inr) er_7602 (tg_ne hT_this_a hT_this_row (by decide +kernel)) (by rw [ex_7600]; exact hrel_7520 _ (by have z0 := clampE x_7598; omega)))) (rwV_o hrel_7522 er_7602 (tg_ne hT_this_a hT_this_row (by decide +kernel))) (by omega) hF hFr hG hP hD hS (lv_sub hl [1, 2, 3, 4, 5, 0] rfl)
              exact L_7511 _ x_6086 r_7336 _ _ _ (rg_w h_6806 (by decide +kernel)) (by omega) (rwP_o (rwP_f (rwP_o hrel_6809 er_7294 (tg_ne hT_this_a hT_this_looked (by decide +kernel)) (tg_ne hT_this_row hT_this_looked (by decide +kernel))) (hp_7325 this_a (by rw [hT_this_a]; decide)) (hp_7325 this_row (by rw [hT_this_row]; decide))) er_7336 (tg_ne hT_this_a hT_this_looked (by decide +kernel)) (tg_ne hT_this_row hT_this_looked (by decide +kernel))) (Or.inl rfl) (rwV_o (rwV_f f_7315 (hp_7325 this_a (by rw [hT_this_a]; decide))) er_7336 (tg_ne hT_this_a hT_this_looked (by decide +kernel))) (Nat.lt_succ_self _) hF hFr hG hP hD hS (lv_sub hl [1, 2, 3, 4, 5, 0] rfl)
            · replace hF := hF.trans (if_pos c_7329)
              have tc_7606 : (x_7318).toInt = 0 := congrArg Int32.toInt c_7329
              have h_7607 : rg x_7318 0 0 := rg_and h_7328 (rg_of_eq c_7329 (rg_k (0 : Int32) 0 rfl)) (by decide +kernel)
              have uh_7607 := h_7607.1
              have vh_7607 := h_7607.2
              refine lv_goto (tgt := 124) hx hb dX12_boatsGo_51 (by decide +kernel) ?_
              obtain ⟨x_7608, ex_7608⟩ : ∃ y : Int32, y = x_6087 + Int32.ofInt 1 := ⟨_, rfl⟩
              replace hF := hF.trans (ap_n ex_7608)
              have h_7609 : rg x_7608 1 40 := rg_of_eq ex_7608 (rg_add h_7292 (rg_k (Int32.ofInt 1) 1 rfl) (by decide +kernel))
              have uh_7609 := h_7609.1
              have vh_7609 := h_7609.2
              have tx_7608 : (x_7608).toInt = (x_6087).toInt + 1 := by rw [ex_7608]; exact i_add_rg (a2 := (x_6087).toInt) (b2 := 1) rfl rfl h_7292 (rg_k (Int32.ofInt 1) 1 rfl) (by decide +kernel)
              refine lv_iinc (v := x_7608) (lv' := [(4, .int x_7608), (0, .ref this), (1, .int a0), (2, .int x_1), (3, .int x_6086)]) hx hb dX12_boatsGo_124 hl (k := 4) rfl ex_7608.symm (by decide +kernel) rfl (fun ls hl => ?_)
              refine lv_goto (tgt := 12) hx hb dX12_boatsGo_127 (by decide +kernel) ?_
              exact ih_6801 x_6086 x_7608 ri_7320 rj_7321 _ _ _ (rg_w h_6806 (by decide +kernel)) (rg_w h_7609 (by decide +kernel)) (by omega) (rwP_f (rwP_o hrel_6809 er_7294 (tg_ne hT_this_a hT_this_looked (by decide +kernel)) (tg_ne hT_this_row hT_this_looked (by decide +kernel))) (hp_7325 this_a (by rw [hT_this_a]; decide)) (hp_7325 this_row (by rw [hT_this_row]; decide))) (ms_up 1 hm_6798 ex_7608 rfl (by decide +kernel) h_7292 (by decide +kernel) (by decide +kernel)) hF hFr hG hP hD hS (lv_sub hl [1, 2, 3, 4, 0] rfl)
    exact L_6800 _ (0 : Int32) (0 : Int32) ri rj _ _ _ (rg_w (rg_k (0 : Int32) 0 rfl) (by decide +kernel)) (rg_w (rg_k (0 : Int32) 0 rfl) (by decide +kernel)) (by have k0 : (0 : Int32).toInt = 0 := rfl; omega) (fun j hj => by have k0 : (0 : Int32).toInt = 0 := rfl; omega) (Nat.lt_succ_self _) hF hFr hG hP hD hS (lv_sub hl [3, 4, 2, 1, 0] rfl)
  exact go _ _ _ hP hD hS hl
