theorem dX11_order_0 : decode cX11_order 0 = .ok (.aload_n 0, 1) := oc_42 (by decide +kernel)
theorem dX11_order_1 : decode cX11_order 1 = .ok (.iload_n 1, 1) := oc_27 (by decide +kernel)
theorem dX11_order_2 : decode cX11_order 2 = .ok (.iload_n 2, 1) := oc_28 (by decide +kernel)
theorem dX11_order_3 : decode cX11_order 3 = .ok (.bipush 12, 2) := oc_16 (a := 12) (by decide +kernel)
theorem dX11_order_5 : decode cX11_order 5 = .ok (.invokevirtual 260, 3) := oc_182 (a := 1) (b := 4) (by decide +kernel)
theorem dX11_order_36 : decode cX11_order 36 = .ok (.istore 4, 2) := oc_54 (by decide +kernel)
theorem dX11_order_38 : decode cX11_order 38 = .ok (.iload 4, 2) := oc_21 (by decide +kernel)
theorem dX11_order_40 : decode cX11_order 40 = .ok (.ifCond .ne 5, 3) := oc_154 (a := 0) (b := 5) (by decide +kernel)
theorem dX11_order_45 : decode cX11_order 45 = .ok (.aload_n 0, 1) := oc_42 (by decide +kernel)
theorem dX11_order_46 : decode cX11_order 46 = .ok (.getfield 19, 3) := oc_180 (a := 0) (b := 19) (by decide +kernel)
theorem dX11_order_49 : decode cX11_order 49 = .ok (.aload_n 0, 1) := oc_42 (by decide +kernel)
theorem dX11_order_50 : decode cX11_order 50 = .ok (.getfield 10, 3) := oc_180 (a := 0) (b := 10) (by decide +kernel)
theorem dX11_order_53 : decode cX11_order 53 = .ok (.invokevirtual 266, 3) := oc_182 (a := 1) (b := 10) (by decide +kernel)
theorem dX11_order_56 : decode cX11_order 56 = .ok (.aload_n 0, 1) := oc_42 (by decide +kernel)
theorem tw_22 : Cond.fieldLink RX11 25 "RingsUnder" "ringOrders" "LRingsUnder$RingOrders;" ∈ wsL_law := sg_1 _ (List.mem_of_getElem? (i := 22) rfl)
theorem dX11_order_57 : decode cX11_order 57 = .ok (.getfield 25, 3) := oc_180 (a := 0) (b := 25) (by decide +kernel)
theorem dX11_order_60 : decode cX11_order 60 = .ok (.aload_n 0, 1) := oc_42 (by decide +kernel)
theorem dX11_order_61 : decode cX11_order 61 = .ok (.getfield 10, 3) := oc_180 (a := 0) (b := 10) (by decide +kernel)
theorem dX11_order_64 : decode cX11_order 64 = .ok (.aload_n 0, 1) := oc_42 (by decide +kernel)
theorem dX11_order_65 : decode cX11_order 65 = .ok (.getfield 19, 3) := oc_180 (a := 0) (b := 19) (by decide +kernel)
theorem dX11_order_68 : decode cX11_order 68 = .ok (.iload_n 1, 1) := oc_27 (by decide +kernel)
theorem dX11_order_69 : decode cX11_order 69 = .ok (.iload_n 2, 1) := oc_28 (by decide +kernel)
theorem tw_1434 : Cond.methodLink RX11 285 yX5_seek ∈ wsL_law := sg_60 _ (List.mem_of_getElem? (i := 18) rfl)
theorem tw_1435 : Cond.instanceMethod yX5_seek ∈ wsL_law := sg_60 _ (List.mem_of_getElem? (i := 19) rfl)
theorem tw_1436 : Cond.selects RX5 yX5_seek yX5_seek ∈ wsL_law := sg_60 _ (List.mem_of_getElem? (i := 20) rfl)
theorem tw_1437 : Cond.code yX5_seek cX5_seek 9 none ∈ wsL_law := sg_60 _ (List.mem_of_getElem? (i := 21) rfl)
theorem dX11_order_70 : decode cX11_order 70 = .ok (.invokevirtual 285, 3) := oc_182 (a := 1) (b := 29) (by decide +kernel)
theorem dX11_order_73 : decode cX11_order 73 = .ok (.iload_n 3, 1) := oc_29 (by decide +kernel)
theorem dX11_order_74 : decode cX11_order 74 = .ok (.iconst (-1), 1) := oc_2 (by decide +kernel)
theorem dX11_order_75 : decode cX11_order 75 = .ok (.if_icmp .ne 13, 3) := oc_160 (a := 0) (b := 13) (by decide +kernel)
theorem dX11_order_88 : decode cX11_order 88 = .ok (.aload_n 0, 1) := oc_42 (by decide +kernel)
theorem dX11_order_89 : decode cX11_order 89 = .ok (.getfield 25, 3) := oc_180 (a := 0) (b := 25) (by decide +kernel)
theorem tw_1433 : Cond.fieldLink RX11 292 "RingsUnder$RingOrders" "best" "[I" ∈ wsL_law := sg_60 _ (List.mem_of_getElem? (i := 17) rfl)
theorem dX11_order_92 : decode cX11_order 92 = .ok (.getfield 292, 3) := oc_180 (a := 1) (b := 36) (by decide +kernel)
theorem dX11_order_95 : decode cX11_order 95 = .ok (.iload_n 3, 1) := oc_29 (by decide +kernel)
theorem dX11_order_96 : decode cX11_order 96 = .ok (.iaload, 1) := oc_46 (by decide +kernel)
theorem dX11_order_97 : decode cX11_order 97 = .ok (.ireturn, 1) := oc_172 (by decide +kernel)
theorem dX11_order_78 : decode cX11_order 78 = .ok (.aload_n 0, 1) := oc_42 (by decide +kernel)
theorem dX11_order_79 : decode cX11_order 79 = .ok (.getfield 25, 3) := oc_180 (a := 0) (b := 25) (by decide +kernel)
theorem tw_1432 : Cond.fieldLink RX11 289 "RingsUnder$RingOrders" "least" "I" ∈ wsL_law := sg_60 _ (List.mem_of_getElem? (i := 16) rfl)
theorem dX11_order_82 : decode cX11_order 82 = .ok (.getfield 289, 3) := oc_180 (a := 1) (b := 33) (by decide +kernel)
theorem dX11_order_85 : decode cX11_order 85 = .ok (.goto 12, 3) := oc_167 (a := 0) (b := 12) (by decide +kernel)
theorem dX11_order_43 : decode cX11_order 43 = .ok (.iconst (-1), 1) := oc_2 (by decide +kernel)
theorem dX11_order_44 : decode cX11_order 44 = .ok (.ireturn, 1) := oc_172 (by decide +kernel)
theorem dX11_order_35 : decode cX11_order 35 = .ok (.iconst 0, 1) := oc_3 (by decide +kernel)
theorem dX11_order_8 : decode cX11_order 8 = .ok (.ifCond .eq 27, 3) := oc_153 (a := 0) (b := 27) (by decide +kernel)
theorem dX11_order_11 : decode cX11_order 11 = .ok (.iload_n 3, 1) := oc_29 (by decide +kernel)
theorem dX11_order_12 : decode cX11_order 12 = .ok (.iconst (-1), 1) := oc_2 (by decide +kernel)
theorem dX11_order_13 : decode cX11_order 13 = .ok (.aload_n 0, 1) := oc_42 (by decide +kernel)
theorem dX11_order_14 : decode cX11_order 14 = .ok (.getfield 10, 3) := oc_180 (a := 0) (b := 10) (by decide +kernel)
theorem dX11_order_17 : decode cX11_order 17 = .ok (.getfield 36, 3) := oc_180 (a := 0) (b := 36) (by decide +kernel)
theorem dX11_order_20 : decode cX11_order 20 = .ok (.getfield 40, 3) := oc_180 (a := 0) (b := 40) (by decide +kernel)
theorem dX11_order_23 : decode cX11_order 23 = .ok (.iconst 1, 1) := oc_4 (by decide +kernel)
theorem dX11_order_24 : decode cX11_order 24 = .ok (.isub, 1) := oc_100 (by decide +kernel)
theorem dX11_order_25 : decode cX11_order 25 = .ok (.invokestatic 50, 3) := oc_184 (a := 0) (b := 50) (by decide +kernel)
theorem dX11_order_28 : decode cX11_order 28 = .ok (.ifCond .eq 7, 3) := oc_153 (a := 0) (b := 7) (by decide +kernel)
theorem dX11_order_31 : decode cX11_order 31 = .ok (.iconst 1, 1) := oc_4 (by decide +kernel)
theorem dX11_order_32 : decode cX11_order 32 = .ok (.goto 4, 3) := oc_167 (a := 0) (b := 4) (by decide +kernel)
theorem dX11_cellOf_0 : decode cX11_cellOf 0 = .ok (.aload_n 0, 1) := oc_42 (by decide +kernel)
theorem dX11_cellOf_1 : decode cX11_cellOf 1 = .ok (.iload_n 1, 1) := oc_27 (by decide +kernel)
theorem dX11_cellOf_2 : decode cX11_cellOf 2 = .ok (.invokevirtual 119, 3) := oc_182 (a := 0) (b := 119) (by decide +kernel)
theorem dX11_cellOf_5 : decode cX11_cellOf 5 = .ok (.ifCond .ne 6, 3) := oc_154 (a := 0) (b := 6) (by decide +kernel)
theorem dX11_cellOf_11 : decode cX11_cellOf 11 = .ok (.aload_n 0, 1) := oc_42 (by decide +kernel)
theorem dX11_cellOf_12 : decode cX11_cellOf 12 = .ok (.getfield 10, 3) := oc_180 (a := 0) (b := 10) (by decide +kernel)
theorem dX11_cellOf_15 : decode cX11_cellOf 15 = .ok (.getfield 36, 3) := oc_180 (a := 0) (b := 36) (by decide +kernel)
theorem dX11_cellOf_18 : decode cX11_cellOf 18 = .ok (.astore_n 3, 1) := oc_78 (by decide +kernel)
theorem dX11_cellOf_19 : decode cX11_cellOf 19 = .ok (.iload_n 2, 1) := oc_28 (by decide +kernel)
theorem dX11_cellOf_20 : decode cX11_cellOf 20 = .ok (.tableswitch 187 0 11 #[64, 71, 78, 85, 92, 99, 105, 112, 137, 162, 169, 178], 64) := by decide +kernel
theorem dX11_cellOf_84 : decode cX11_cellOf 84 = .ok (.aload_n 3, 1) := oc_45 (by decide +kernel)
theorem tw_1271 : Cond.fieldLink RX11 295 "RingsUnder$Land" "ring" "[I" ∈ wsL_law := sg_53 _ (List.mem_of_getElem? (i := 23) rfl)
theorem dX11_cellOf_85 : decode cX11_cellOf 85 = .ok (.getfield 295, 3) := oc_180 (a := 1) (b := 39) (by decide +kernel)
theorem dX11_cellOf_88 : decode cX11_cellOf 88 = .ok (.iload_n 1, 1) := oc_27 (by decide +kernel)
theorem dX11_cellOf_89 : decode cX11_cellOf 89 = .ok (.iaload, 1) := oc_46 (by decide +kernel)
theorem dX11_cellOf_90 : decode cX11_cellOf 90 = .ok (.ireturn, 1) := oc_172 (by decide +kernel)
theorem dX11_cellOf_91 : decode cX11_cellOf 91 = .ok (.aload_n 3, 1) := oc_45 (by decide +kernel)
theorem tw_1272 : Cond.fieldLink RX11 298 "RingsUnder$Land" "height" "[I" ∈ wsL_law := sg_54 _ (List.mem_of_getElem? (i := 0) rfl)
theorem dX11_cellOf_92 : decode cX11_cellOf 92 = .ok (.getfield 298, 3) := oc_180 (a := 1) (b := 42) (by decide +kernel)
theorem dX11_cellOf_95 : decode cX11_cellOf 95 = .ok (.iload_n 1, 1) := oc_27 (by decide +kernel)
theorem dX11_cellOf_96 : decode cX11_cellOf 96 = .ok (.iaload, 1) := oc_46 (by decide +kernel)
theorem dX11_cellOf_97 : decode cX11_cellOf 97 = .ok (.ireturn, 1) := oc_172 (by decide +kernel)
theorem dX11_cellOf_98 : decode cX11_cellOf 98 = .ok (.aload_n 3, 1) := oc_45 (by decide +kernel)
theorem tw_1273 : Cond.fieldLink RX11 301 "RingsUnder$Land" "sand" "[I" ∈ wsL_law := sg_54 _ (List.mem_of_getElem? (i := 1) rfl)
theorem dX11_cellOf_99 : decode cX11_cellOf 99 = .ok (.getfield 301, 3) := oc_180 (a := 1) (b := 45) (by decide +kernel)
theorem dX11_cellOf_102 : decode cX11_cellOf 102 = .ok (.iload_n 1, 1) := oc_27 (by decide +kernel)
theorem dX11_cellOf_103 : decode cX11_cellOf 103 = .ok (.iaload, 1) := oc_46 (by decide +kernel)
theorem dX11_cellOf_104 : decode cX11_cellOf 104 = .ok (.ireturn, 1) := oc_172 (by decide +kernel)
theorem dX11_cellOf_105 : decode cX11_cellOf 105 = .ok (.aload_n 3, 1) := oc_45 (by decide +kernel)
theorem tw_1274 : Cond.fieldLink RX11 304 "RingsUnder$Land" "reef" "[I" ∈ wsL_law := sg_54 _ (List.mem_of_getElem? (i := 2) rfl)
theorem dX11_cellOf_106 : decode cX11_cellOf 106 = .ok (.getfield 304, 3) := oc_180 (a := 1) (b := 48) (by decide +kernel)
theorem dX11_cellOf_109 : decode cX11_cellOf 109 = .ok (.iload_n 1, 1) := oc_27 (by decide +kernel)
theorem dX11_cellOf_110 : decode cX11_cellOf 110 = .ok (.iaload, 1) := oc_46 (by decide +kernel)
theorem dX11_cellOf_111 : decode cX11_cellOf 111 = .ok (.ireturn, 1) := oc_172 (by decide +kernel)
theorem dX11_cellOf_112 : decode cX11_cellOf 112 = .ok (.aload_n 3, 1) := oc_45 (by decide +kernel)
theorem dX11_cellOf_113 : decode cX11_cellOf 113 = .ok (.getfield 122, 3) := oc_180 (a := 0) (b := 122) (by decide +kernel)
theorem dX11_cellOf_116 : decode cX11_cellOf 116 = .ok (.iload_n 1, 1) := oc_27 (by decide +kernel)
theorem dX11_cellOf_117 : decode cX11_cellOf 117 = .ok (.iaload, 1) := oc_46 (by decide +kernel)
theorem dX11_cellOf_118 : decode cX11_cellOf 118 = .ok (.ireturn, 1) := oc_172 (by decide +kernel)
theorem dX11_cellOf_119 : decode cX11_cellOf 119 = .ok (.aload_n 3, 1) := oc_45 (by decide +kernel)
theorem dX11_cellOf_120 : decode cX11_cellOf 120 = .ok (.iload_n 1, 1) := oc_27 (by decide +kernel)
theorem tw_1278 : Cond.methodLink RX11 307 yX2_topOf ∈ wsL_law := sg_54 _ (List.mem_of_getElem? (i := 6) rfl)
theorem dX11_cellOf_121 : decode cX11_cellOf 121 = .ok (.invokevirtual 307, 3) := oc_182 (a := 1) (b := 51) (by decide +kernel)
theorem dX11_cellOf_124 : decode cX11_cellOf 124 = .ok (.ireturn, 1) := oc_172 (by decide +kernel)
theorem dX11_cellOf_125 : decode cX11_cellOf 125 = .ok (.aload_n 3, 1) := oc_45 (by decide +kernel)
theorem dX11_cellOf_126 : decode cX11_cellOf 126 = .ok (.getfield 138, 3) := oc_180 (a := 0) (b := 138) (by decide +kernel)
theorem dX11_cellOf_129 : decode cX11_cellOf 129 = .ok (.iload_n 1, 1) := oc_27 (by decide +kernel)
theorem dX11_cellOf_130 : decode cX11_cellOf 130 = .ok (.iaload, 1) := oc_46 (by decide +kernel)
theorem dX11_cellOf_131 : decode cX11_cellOf 131 = .ok (.ireturn, 1) := oc_172 (by decide +kernel)
theorem dX11_cellOf_132 : decode cX11_cellOf 132 = .ok (.aload_n 3, 1) := oc_45 (by decide +kernel)
theorem dX11_cellOf_133 : decode cX11_cellOf 133 = .ok (.getfield 125, 3) := oc_180 (a := 0) (b := 125) (by decide +kernel)
theorem dX11_cellOf_136 : decode cX11_cellOf 136 = .ok (.iload_n 1, 1) := oc_27 (by decide +kernel)
theorem dX11_cellOf_137 : decode cX11_cellOf 137 = .ok (.invokevirtual 129, 3) := oc_182 (a := 0) (b := 129) (by decide +kernel)
theorem dX11_cellOf_140 : decode cX11_cellOf 140 = .ok (.ifCond .eq 15, 3) := oc_153 (a := 0) (b := 15) (by decide +kernel)
theorem dX11_cellOf_155 : decode cX11_cellOf 155 = .ok (.iconst (-1), 1) := oc_2 (by decide +kernel)
theorem dX11_cellOf_156 : decode cX11_cellOf 156 = .ok (.ireturn, 1) := oc_172 (by decide +kernel)
theorem dX11_cellOf_143 : decode cX11_cellOf 143 = .ok (.aload_n 3, 1) := oc_45 (by decide +kernel)
theorem dX11_cellOf_144 : decode cX11_cellOf 144 = .ok (.getfield 125, 3) := oc_180 (a := 0) (b := 125) (by decide +kernel)
theorem tw_1275 : Cond.fieldLink RX11 310 "RingsUnder$Wells" "lens" "[I" ∈ wsL_law := sg_54 _ (List.mem_of_getElem? (i := 3) rfl)
theorem dX11_cellOf_147 : decode cX11_cellOf 147 = .ok (.getfield 310, 3) := oc_180 (a := 1) (b := 54) (by decide +kernel)
theorem dX11_cellOf_150 : decode cX11_cellOf 150 = .ok (.iload_n 1, 1) := oc_27 (by decide +kernel)
theorem dX11_cellOf_151 : decode cX11_cellOf 151 = .ok (.iaload, 1) := oc_46 (by decide +kernel)
theorem dX11_cellOf_152 : decode cX11_cellOf 152 = .ok (.goto 4, 3) := oc_167 (a := 0) (b := 4) (by decide +kernel)
theorem dX11_cellOf_157 : decode cX11_cellOf 157 = .ok (.aload_n 3, 1) := oc_45 (by decide +kernel)
theorem dX11_cellOf_158 : decode cX11_cellOf 158 = .ok (.getfield 125, 3) := oc_180 (a := 0) (b := 125) (by decide +kernel)
theorem dX11_cellOf_161 : decode cX11_cellOf 161 = .ok (.iload_n 1, 1) := oc_27 (by decide +kernel)
theorem dX11_cellOf_162 : decode cX11_cellOf 162 = .ok (.invokevirtual 129, 3) := oc_182 (a := 0) (b := 129) (by decide +kernel)
theorem dX11_cellOf_165 : decode cX11_cellOf 165 = .ok (.ifCond .eq 15, 3) := oc_153 (a := 0) (b := 15) (by decide +kernel)
theorem dX11_cellOf_180 : decode cX11_cellOf 180 = .ok (.iconst (-1), 1) := oc_2 (by decide +kernel)
theorem dX11_cellOf_181 : decode cX11_cellOf 181 = .ok (.ireturn, 1) := oc_172 (by decide +kernel)
theorem dX11_cellOf_168 : decode cX11_cellOf 168 = .ok (.aload_n 3, 1) := oc_45 (by decide +kernel)
theorem dX11_cellOf_169 : decode cX11_cellOf 169 = .ok (.getfield 125, 3) := oc_180 (a := 0) (b := 125) (by decide +kernel)
theorem tw_1276 : Cond.fieldLink RX11 313 "RingsUnder$Wells" "salt" "[I" ∈ wsL_law := sg_54 _ (List.mem_of_getElem? (i := 4) rfl)
theorem dX11_cellOf_172 : decode cX11_cellOf 172 = .ok (.getfield 313, 3) := oc_180 (a := 1) (b := 57) (by decide +kernel)
theorem dX11_cellOf_175 : decode cX11_cellOf 175 = .ok (.iload_n 1, 1) := oc_27 (by decide +kernel)
theorem dX11_cellOf_176 : decode cX11_cellOf 176 = .ok (.iaload, 1) := oc_46 (by decide +kernel)
theorem dX11_cellOf_177 : decode cX11_cellOf 177 = .ok (.goto 4, 3) := oc_167 (a := 0) (b := 4) (by decide +kernel)
theorem dX11_cellOf_182 : decode cX11_cellOf 182 = .ok (.aload_n 3, 1) := oc_45 (by decide +kernel)
theorem tw_1277 : Cond.fieldLink RX11 316 "RingsUnder$Land" "under" "[I" ∈ wsL_law := sg_54 _ (List.mem_of_getElem? (i := 5) rfl)
theorem dX11_cellOf_183 : decode cX11_cellOf 183 = .ok (.getfield 316, 3) := oc_180 (a := 1) (b := 60) (by decide +kernel)
theorem dX11_cellOf_186 : decode cX11_cellOf 186 = .ok (.iload_n 1, 1) := oc_27 (by decide +kernel)
theorem dX11_cellOf_187 : decode cX11_cellOf 187 = .ok (.iaload, 1) := oc_46 (by decide +kernel)
theorem dX11_cellOf_188 : decode cX11_cellOf 188 = .ok (.ireturn, 1) := oc_172 (by decide +kernel)
theorem dX11_cellOf_189 : decode cX11_cellOf 189 = .ok (.aload_n 0, 1) := oc_42 (by decide +kernel)
theorem dX11_cellOf_190 : decode cX11_cellOf 190 = .ok (.getfield 10, 3) := oc_180 (a := 0) (b := 10) (by decide +kernel)
theorem dX11_cellOf_193 : decode cX11_cellOf 193 = .ok (.iload_n 1, 1) := oc_27 (by decide +kernel)
theorem tw_1279 : Cond.methodLink RX11 319 yX10_wasDry ∈ wsL_law := sg_54 _ (List.mem_of_getElem? (i := 7) rfl)
theorem dX11_cellOf_194 : decode cX11_cellOf 194 = .ok (.invokevirtual 319, 3) := oc_182 (a := 1) (b := 63) (by decide +kernel)
theorem dX11_cellOf_197 : decode cX11_cellOf 197 = .ok (.ireturn, 1) := oc_172 (by decide +kernel)
theorem dX11_cellOf_198 : decode cX11_cellOf 198 = .ok (.aload_n 0, 1) := oc_42 (by decide +kernel)
theorem dX11_cellOf_199 : decode cX11_cellOf 199 = .ok (.getfield 10, 3) := oc_180 (a := 0) (b := 10) (by decide +kernel)
theorem dX11_cellOf_202 : decode cX11_cellOf 202 = .ok (.iload_n 1, 1) := oc_27 (by decide +kernel)
theorem tw_1280 : Cond.methodLink RX11 322 yX10_wasRock ∈ wsL_law := sg_54 _ (List.mem_of_getElem? (i := 8) rfl)
theorem tw_1281 : Cond.instanceMethod yX10_wasRock ∈ wsL_law := sg_54 _ (List.mem_of_getElem? (i := 9) rfl)
theorem tw_1282 : Cond.selects RX10 yX10_wasRock yX10_wasRock ∈ wsL_law := sg_54 _ (List.mem_of_getElem? (i := 10) rfl)
theorem tw_1283 : Cond.code yX10_wasRock cX10_wasRock 2 (some .int) ∈ wsL_law := sg_54 _ (List.mem_of_getElem? (i := 11) rfl)
theorem dX11_cellOf_203 : decode cX11_cellOf 203 = .ok (.invokevirtual 322, 3) := oc_182 (a := 1) (b := 66) (by decide +kernel)
theorem dX11_cellOf_206 : decode cX11_cellOf 206 = .ok (.ireturn, 1) := oc_172 (by decide +kernel)
theorem dX11_cellOf_207 : decode cX11_cellOf 207 = .ok (.ldc 83, 2) := oc_18 (by decide +kernel)
theorem dX11_cellOf_209 : decode cX11_cellOf 209 = .ok (.ireturn, 1) := oc_172 (by decide +kernel)
theorem dX11_cellOf_8 : decode cX11_cellOf 8 = .ok (.ldc 83, 2) := oc_18 (by decide +kernel)
theorem dX11_cellOf_10 : decode cX11_cellOf 10 = .ok (.ireturn, 1) := oc_172 (by decide +kernel)
theorem dX11_personOf_0 : decode cX11_personOf 0 = .ok (.aload_n 0, 1) := oc_42 (by decide +kernel)
theorem dX11_personOf_1 : decode cX11_personOf 1 = .ok (.iload_n 1, 1) := oc_27 (by decide +kernel)
theorem dX11_personOf_2 : decode cX11_personOf 2 = .ok (.invokevirtual 162, 3) := oc_182 (a := 0) (b := 162) (by decide +kernel)
theorem dX11_personOf_5 : decode cX11_personOf 5 = .ok (.ifCond .ne 5, 3) := oc_154 (a := 0) (b := 5) (by decide +kernel)
theorem dX11_personOf_10 : decode cX11_personOf 10 = .ok (.aload_n 0, 1) := oc_42 (by decide +kernel)
theorem dX11_personOf_11 : decode cX11_personOf 11 = .ok (.getfield 10, 3) := oc_180 (a := 0) (b := 10) (by decide +kernel)
theorem dX11_personOf_14 : decode cX11_personOf 14 = .ok (.getfield 143, 3) := oc_180 (a := 0) (b := 143) (by decide +kernel)
theorem dX11_personOf_17 : decode cX11_personOf 17 = .ok (.astore_n 3, 1) := oc_78 (by decide +kernel)
theorem dX11_personOf_18 : decode cX11_personOf 18 = .ok (.iload_n 2, 1) := oc_28 (by decide +kernel)
theorem dX11_personOf_19 : decode cX11_personOf 19 = .ok (.tableswitch 101 0 7 #[45, 52, 59, 66, 73, 80, 87, 94], 45) := by decide +kernel
theorem dX11_personOf_64 : decode cX11_personOf 64 = .ok (.aload_n 3, 1) := oc_45 (by decide +kernel)
theorem dX11_personOf_65 : decode cX11_personOf 65 = .ok (.getfield 165, 3) := oc_180 (a := 0) (b := 165) (by decide +kernel)
theorem dX11_personOf_68 : decode cX11_personOf 68 = .ok (.iload_n 1, 1) := oc_27 (by decide +kernel)
theorem dX11_personOf_69 : decode cX11_personOf 69 = .ok (.iaload, 1) := oc_46 (by decide +kernel)
theorem dX11_personOf_70 : decode cX11_personOf 70 = .ok (.ireturn, 1) := oc_172 (by decide +kernel)
theorem dX11_personOf_71 : decode cX11_personOf 71 = .ok (.aload_n 3, 1) := oc_45 (by decide +kernel)
theorem tw_1292 : Cond.fieldLink RX11 325 "RingsUnder$Folk" "kin" "[I" ∈ wsL_law := sg_54 _ (List.mem_of_getElem? (i := 20) rfl)
theorem dX11_personOf_72 : decode cX11_personOf 72 = .ok (.getfield 325, 3) := oc_180 (a := 1) (b := 69) (by decide +kernel)
theorem dX11_personOf_75 : decode cX11_personOf 75 = .ok (.iload_n 1, 1) := oc_27 (by decide +kernel)
theorem dX11_personOf_76 : decode cX11_personOf 76 = .ok (.iaload, 1) := oc_46 (by decide +kernel)
theorem dX11_personOf_77 : decode cX11_personOf 77 = .ok (.ireturn, 1) := oc_172 (by decide +kernel)
theorem dX11_personOf_78 : decode cX11_personOf 78 = .ok (.aload_n 3, 1) := oc_45 (by decide +kernel)
theorem tw_1293 : Cond.fieldLink RX11 328 "RingsUnder$Folk" "age" "[I" ∈ wsL_law := sg_54 _ (List.mem_of_getElem? (i := 21) rfl)
theorem dX11_personOf_79 : decode cX11_personOf 79 = .ok (.getfield 328, 3) := oc_180 (a := 1) (b := 72) (by decide +kernel)
theorem dX11_personOf_82 : decode cX11_personOf 82 = .ok (.iload_n 1, 1) := oc_27 (by decide +kernel)
theorem dX11_personOf_83 : decode cX11_personOf 83 = .ok (.iaload, 1) := oc_46 (by decide +kernel)
theorem dX11_personOf_84 : decode cX11_personOf 84 = .ok (.ireturn, 1) := oc_172 (by decide +kernel)
theorem dX11_personOf_85 : decode cX11_personOf 85 = .ok (.aload_n 3, 1) := oc_45 (by decide +kernel)
theorem tw_1294 : Cond.fieldLink RX11 331 "RingsUnder$Folk" "craft" "[I" ∈ wsL_law := sg_54 _ (List.mem_of_getElem? (i := 22) rfl)
theorem dX11_personOf_86 : decode cX11_personOf 86 = .ok (.getfield 331, 3) := oc_180 (a := 1) (b := 75) (by decide +kernel)
theorem dX11_personOf_89 : decode cX11_personOf 89 = .ok (.iload_n 1, 1) := oc_27 (by decide +kernel)
theorem dX11_personOf_90 : decode cX11_personOf 90 = .ok (.iaload, 1) := oc_46 (by decide +kernel)
theorem dX11_personOf_91 : decode cX11_personOf 91 = .ok (.ireturn, 1) := oc_172 (by decide +kernel)
theorem dX11_personOf_92 : decode cX11_personOf 92 = .ok (.aload_n 3, 1) := oc_45 (by decide +kernel)
theorem tw_1295 : Cond.fieldLink RX11 334 "RingsUnder$Folk" "send" "[I" ∈ wsL_law := sg_54 _ (List.mem_of_getElem? (i := 23) rfl)
theorem dX11_personOf_93 : decode cX11_personOf 93 = .ok (.getfield 334, 3) := oc_180 (a := 1) (b := 78) (by decide +kernel)
theorem dX11_personOf_96 : decode cX11_personOf 96 = .ok (.iload_n 1, 1) := oc_27 (by decide +kernel)
theorem dX11_personOf_97 : decode cX11_personOf 97 = .ok (.iaload, 1) := oc_46 (by decide +kernel)
theorem dX11_personOf_98 : decode cX11_personOf 98 = .ok (.ireturn, 1) := oc_172 (by decide +kernel)
theorem dX11_personOf_99 : decode cX11_personOf 99 = .ok (.aload_n 3, 1) := oc_45 (by decide +kernel)
theorem tw_1296 : Cond.fieldLink RX11 337 "RingsUnder$Folk" "thirst" "[I" ∈ wsL_law := sg_55 _ (List.mem_of_getElem? (i := 0) rfl)
theorem dX11_personOf_100 : decode cX11_personOf 100 = .ok (.getfield 337, 3) := oc_180 (a := 1) (b := 81) (by decide +kernel)
theorem dX11_personOf_103 : decode cX11_personOf 103 = .ok (.iload_n 1, 1) := oc_27 (by decide +kernel)
theorem dX11_personOf_104 : decode cX11_personOf 104 = .ok (.iaload, 1) := oc_46 (by decide +kernel)
theorem dX11_personOf_105 : decode cX11_personOf 105 = .ok (.ireturn, 1) := oc_172 (by decide +kernel)
theorem dX11_personOf_106 : decode cX11_personOf 106 = .ok (.aload_n 3, 1) := oc_45 (by decide +kernel)
theorem tw_1297 : Cond.fieldLink RX11 340 "RingsUnder$Folk" "noBed" "[I" ∈ wsL_law := sg_55 _ (List.mem_of_getElem? (i := 1) rfl)
theorem dX11_personOf_107 : decode cX11_personOf 107 = .ok (.getfield 340, 3) := oc_180 (a := 1) (b := 84) (by decide +kernel)
theorem dX11_personOf_110 : decode cX11_personOf 110 = .ok (.iload_n 1, 1) := oc_27 (by decide +kernel)
theorem dX11_personOf_111 : decode cX11_personOf 111 = .ok (.iaload, 1) := oc_46 (by decide +kernel)
theorem dX11_personOf_112 : decode cX11_personOf 112 = .ok (.ireturn, 1) := oc_172 (by decide +kernel)
theorem dX11_personOf_113 : decode cX11_personOf 113 = .ok (.aload_n 3, 1) := oc_45 (by decide +kernel)
theorem tw_1298 : Cond.fieldLink RX11 343 "RingsUnder$Folk" "went" "[I" ∈ wsL_law := sg_55 _ (List.mem_of_getElem? (i := 2) rfl)
theorem dX11_personOf_114 : decode cX11_personOf 114 = .ok (.getfield 343, 3) := oc_180 (a := 1) (b := 87) (by decide +kernel)
theorem dX11_personOf_117 : decode cX11_personOf 117 = .ok (.iload_n 1, 1) := oc_27 (by decide +kernel)
theorem dX11_personOf_118 : decode cX11_personOf 118 = .ok (.iaload, 1) := oc_46 (by decide +kernel)
theorem dX11_personOf_119 : decode cX11_personOf 119 = .ok (.ireturn, 1) := oc_172 (by decide +kernel)
theorem dX11_personOf_120 : decode cX11_personOf 120 = .ok (.iconst (-1), 1) := oc_2 (by decide +kernel)
theorem dX11_personOf_121 : decode cX11_personOf 121 = .ok (.ireturn, 1) := oc_172 (by decide +kernel)
theorem dX11_personOf_8 : decode cX11_personOf 8 = .ok (.iconst (-1), 1) := oc_2 (by decide +kernel)
theorem dX11_personOf_9 : decode cX11_personOf 9 = .ok (.ireturn, 1) := oc_172 (by decide +kernel)
theorem dX11_at_0 : decode cX11_at 0 = .ok (.aload_n 0, 1) := oc_42 (by decide +kernel)
theorem dX11_at_1 : decode cX11_at 1 = .ok (.iload_n 1, 1) := oc_27 (by decide +kernel)
theorem dX11_at_2 : decode cX11_at 2 = .ok (.invokevirtual 46, 3) := oc_182 (a := 0) (b := 46) (by decide +kernel)
theorem dX11_at_35 : decode cX11_at 35 = .ok (.istore_n 2, 1) := oc_61 (by decide +kernel)
theorem dX11_at_36 : decode cX11_at 36 = .ok (.iload_n 2, 1) := oc_28 (by decide +kernel)
theorem dX11_at_37 : decode cX11_at 37 = .ok (.ifCond .eq 17, 3) := oc_153 (a := 0) (b := 17) (by decide +kernel)
theorem dX11_at_54 : decode cX11_at 54 = .ok (.iconst (-1), 1) := oc_2 (by decide +kernel)
theorem dX11_at_55 : decode cX11_at 55 = .ok (.ireturn, 1) := oc_172 (by decide +kernel)
theorem dX11_at_40 : decode cX11_at 40 = .ok (.aload_n 0, 1) := oc_42 (by decide +kernel)
theorem dX11_at_41 : decode cX11_at 41 = .ok (.getfield 10, 3) := oc_180 (a := 0) (b := 10) (by decide +kernel)
theorem dX11_at_44 : decode cX11_at 44 = .ok (.getfield 143, 3) := oc_180 (a := 0) (b := 143) (by decide +kernel)
theorem dX11_at_47 : decode cX11_at 47 = .ok (.iload_n 1, 1) := oc_27 (by decide +kernel)
theorem tw_1307 : Cond.methodLink RX11 346 yX0_countAt ∈ wsL_law := sg_55 _ (List.mem_of_getElem? (i := 11) rfl)
theorem dX11_at_48 : decode cX11_at 48 = .ok (.invokevirtual 346, 3) := oc_182 (a := 1) (b := 90) (by decide +kernel)
theorem dX11_at_51 : decode cX11_at 51 = .ok (.goto 4, 3) := oc_167 (a := 0) (b := 4) (by decide +kernel)
theorem dX11_at_30 : decode cX11_at 30 = .ok (.iconst 1, 1) := oc_4 (by decide +kernel)
theorem dX11_at_31 : decode cX11_at 31 = .ok (.goto 4, 3) := oc_167 (a := 0) (b := 4) (by decide +kernel)
theorem dX11_at_5 : decode cX11_at 5 = .ok (.ifCond .ne 25, 3) := oc_154 (a := 0) (b := 25) (by decide +kernel)
theorem dX11_at_8 : decode cX11_at 8 = .ok (.aload_n 0, 1) := oc_42 (by decide +kernel)
theorem dX11_at_9 : decode cX11_at 9 = .ok (.iload_n 1, 1) := oc_27 (by decide +kernel)
theorem dX11_at_10 : decode cX11_at 10 = .ok (.invokevirtual 168, 3) := oc_182 (a := 0) (b := 168) (by decide +kernel)
theorem dX11_at_13 : decode cX11_at 13 = .ok (.ifCond .ne 17, 3) := oc_154 (a := 0) (b := 17) (by decide +kernel)
theorem dX11_at_16 : decode cX11_at 16 = .ok (.iload_n 1, 1) := oc_27 (by decide +kernel)
theorem dX11_at_17 : decode cX11_at 17 = .ok (.sipush 200, 3) := oc_17 (a := 0) (b := 200) (by decide +kernel)
theorem dX11_at_20 : decode cX11_at 20 = .ok (.if_icmp .eq 10, 3) := oc_159 (a := 0) (b := 10) (by decide +kernel)
theorem dX11_at_23 : decode cX11_at 23 = .ok (.iload_n 1, 1) := oc_27 (by decide +kernel)
theorem dX11_at_24 : decode cX11_at 24 = .ok (.sipush 300, 3) := oc_17 (a := 1) (b := 44) (by decide +kernel)
theorem dX11_at_27 : decode cX11_at 27 = .ok (.if_icmp .ne 7, 3) := oc_160 (a := 0) (b := 7) (by decide +kernel)
theorem dX11_at_34 : decode cX11_at 34 = .ok (.iconst 0, 1) := oc_3 (by decide +kernel)
theorem dX11_area_0 : decode cX11_area 0 = .ok (.aload_n 0, 1) := oc_42 (by decide +kernel)
theorem dX11_area_1 : decode cX11_area 1 = .ok (.getfield 10, 3) := oc_180 (a := 0) (b := 10) (by decide +kernel)
theorem tw_1316 : Cond.fieldLink RX11 349 "RingsUnder$World" "area" "I" ∈ wsL_law := sg_55 _ (List.mem_of_getElem? (i := 20) rfl)
theorem dX11_area_4 : decode cX11_area 4 = .ok (.getfield 349, 3) := oc_180 (a := 1) (b := 93) (by decide +kernel)
theorem dX11_area_7 : decode cX11_area 7 = .ok (.ireturn, 1) := oc_172 (by decide +kernel)
theorem dX11_sum_0 : decode cX11_sum 0 = .ok (.iconst 0, 1) := oc_3 (by decide +kernel)
theorem dX11_sum_1 : decode cX11_sum 1 = .ok (.istore_n 2, 1) := oc_61 (by decide +kernel)
theorem dX11_sum_2 : decode cX11_sum 2 = .ok (.iconst 0, 1) := oc_3 (by decide +kernel)
theorem dX11_sum_3 : decode cX11_sum 3 = .ok (.istore_n 3, 1) := oc_62 (by decide +kernel)
theorem dX11_sum_4 : decode cX11_sum 4 = .ok (.iload_n 3, 1) := oc_29 (by decide +kernel)
theorem dX11_sum_5 : decode cX11_sum 5 = .ok (.iload_n 1, 1) := oc_27 (by decide +kernel)
theorem dX11_sum_6 : decode cX11_sum 6 = .ok (.if_icmp .ge 15, 3) := oc_162 (a := 0) (b := 15) (by decide +kernel)
theorem dX11_sum_21 : decode cX11_sum 21 = .ok (.iload_n 2, 1) := oc_28 (by decide +kernel)
theorem dX11_sum_22 : decode cX11_sum 22 = .ok (.ireturn, 1) := oc_172 (by decide +kernel)
theorem dX11_sum_9 : decode cX11_sum 9 = .ok (.iload_n 2, 1) := oc_28 (by decide +kernel)
theorem dX11_sum_10 : decode cX11_sum 10 = .ok (.aload_n 0, 1) := oc_42 (by decide +kernel)
theorem dX11_sum_11 : decode cX11_sum 11 = .ok (.iload_n 3, 1) := oc_29 (by decide +kernel)
theorem dX11_sum_12 : decode cX11_sum 12 = .ok (.iaload, 1) := oc_46 (by decide +kernel)
theorem dX11_sum_13 : decode cX11_sum 13 = .ok (.iadd, 1) := oc_96 (by decide +kernel)
theorem dX11_sum_14 : decode cX11_sum 14 = .ok (.istore_n 2, 1) := oc_61 (by decide +kernel)
theorem dX11_sum_15 : decode cX11_sum 15 = .ok (.iinc 3 1, 3) := oc_132 (b := 1) (by decide +kernel)
theorem dX11_sum_18 : decode cX11_sum 18 = .ok (.goto (-14), 3) := oc_167 (a := 255) (b := 242) (by decide +kernel)
theorem dX11_about_0 : decode cX11_about 0 = .ok (.iload_n 1, 1) := oc_27 (by decide +kernel)
theorem dX11_about_1 : decode cX11_about 1 = .ok (.tableswitch 297 0 16 #[83, 91, 102, 113, 124, 135, 146, 157, 168, 176, 187, 198, 206, 214, 225, 249, 273], 83) := by decide +kernel
theorem dX11_about_84 : decode cX11_about 84 = .ok (.aload_n 0, 1) := oc_42 (by decide +kernel)
theorem dX11_about_85 : decode cX11_about 85 = .ok (.getfield 10, 3) := oc_180 (a := 0) (b := 10) (by decide +kernel)
theorem dX11_about_88 : decode cX11_about 88 = .ok (.getfield 54, 3) := oc_180 (a := 0) (b := 54) (by decide +kernel)
theorem dX11_about_91 : decode cX11_about 91 = .ok (.ireturn, 1) := oc_172 (by decide +kernel)
theorem dX11_about_92 : decode cX11_about 92 = .ok (.aload_n 0, 1) := oc_42 (by decide +kernel)
theorem dX11_about_93 : decode cX11_about 93 = .ok (.getfield 10, 3) := oc_180 (a := 0) (b := 10) (by decide +kernel)
theorem dX11_about_96 : decode cX11_about 96 = .ok (.getfield 36, 3) := oc_180 (a := 0) (b := 36) (by decide +kernel)
theorem dX11_about_99 : decode cX11_about 99 = .ok (.getfield 40, 3) := oc_180 (a := 0) (b := 40) (by decide +kernel)
theorem dX11_about_102 : decode cX11_about 102 = .ok (.ireturn, 1) := oc_172 (by decide +kernel)
theorem dX11_about_103 : decode cX11_about 103 = .ok (.aload_n 0, 1) := oc_42 (by decide +kernel)
theorem dX11_about_104 : decode cX11_about 104 = .ok (.getfield 10, 3) := oc_180 (a := 0) (b := 10) (by decide +kernel)
theorem dX11_about_107 : decode cX11_about 107 = .ok (.getfield 36, 3) := oc_180 (a := 0) (b := 36) (by decide +kernel)
theorem dX11_about_110 : decode cX11_about 110 = .ok (.getfield 57, 3) := oc_180 (a := 0) (b := 57) (by decide +kernel)
theorem dX11_about_113 : decode cX11_about 113 = .ok (.ireturn, 1) := oc_172 (by decide +kernel)
theorem dX11_about_114 : decode cX11_about 114 = .ok (.aload_n 0, 1) := oc_42 (by decide +kernel)
theorem dX11_about_115 : decode cX11_about 115 = .ok (.getfield 10, 3) := oc_180 (a := 0) (b := 10) (by decide +kernel)
theorem dX11_about_118 : decode cX11_about 118 = .ok (.getfield 70, 3) := oc_180 (a := 0) (b := 70) (by decide +kernel)
theorem dX11_about_121 : decode cX11_about 121 = .ok (.getfield 74, 3) := oc_180 (a := 0) (b := 74) (by decide +kernel)
theorem dX11_about_124 : decode cX11_about 124 = .ok (.ireturn, 1) := oc_172 (by decide +kernel)
theorem dX11_about_125 : decode cX11_about 125 = .ok (.aload_n 0, 1) := oc_42 (by decide +kernel)
theorem dX11_about_126 : decode cX11_about 126 = .ok (.getfield 10, 3) := oc_180 (a := 0) (b := 10) (by decide +kernel)
theorem dX11_about_129 : decode cX11_about 129 = .ok (.getfield 143, 3) := oc_180 (a := 0) (b := 143) (by decide +kernel)
theorem dX11_about_132 : decode cX11_about 132 = .ok (.getfield 147, 3) := oc_180 (a := 0) (b := 147) (by decide +kernel)
theorem dX11_about_135 : decode cX11_about 135 = .ok (.ireturn, 1) := oc_172 (by decide +kernel)
theorem dX11_about_136 : decode cX11_about 136 = .ok (.aload_n 0, 1) := oc_42 (by decide +kernel)
theorem dX11_about_137 : decode cX11_about 137 = .ok (.getfield 10, 3) := oc_180 (a := 0) (b := 10) (by decide +kernel)
theorem dX11_about_140 : decode cX11_about 140 = .ok (.getfield 143, 3) := oc_180 (a := 0) (b := 143) (by decide +kernel)
theorem dX11_about_143 : decode cX11_about 143 = .ok (.getfield 155, 3) := oc_180 (a := 0) (b := 155) (by decide +kernel)
theorem dX11_about_146 : decode cX11_about 146 = .ok (.ireturn, 1) := oc_172 (by decide +kernel)
theorem dX11_about_147 : decode cX11_about 147 = .ok (.aload_n 0, 1) := oc_42 (by decide +kernel)
theorem dX11_about_148 : decode cX11_about 148 = .ok (.getfield 10, 3) := oc_180 (a := 0) (b := 10) (by decide +kernel)
theorem dX11_about_151 : decode cX11_about 151 = .ok (.getfield 208, 3) := oc_180 (a := 0) (b := 208) (by decide +kernel)
theorem dX11_about_154 : decode cX11_about 154 = .ok (.getfield 212, 3) := oc_180 (a := 0) (b := 212) (by decide +kernel)
theorem dX11_about_157 : decode cX11_about 157 = .ok (.ireturn, 1) := oc_172 (by decide +kernel)
theorem dX11_about_158 : decode cX11_about 158 = .ok (.aload_n 0, 1) := oc_42 (by decide +kernel)
theorem dX11_about_159 : decode cX11_about 159 = .ok (.getfield 10, 3) := oc_180 (a := 0) (b := 10) (by decide +kernel)
theorem dX11_about_162 : decode cX11_about 162 = .ok (.getfield 208, 3) := oc_180 (a := 0) (b := 208) (by decide +kernel)
theorem dX11_about_165 : decode cX11_about 165 = .ok (.getfield 230, 3) := oc_180 (a := 0) (b := 230) (by decide +kernel)
theorem dX11_about_168 : decode cX11_about 168 = .ok (.ireturn, 1) := oc_172 (by decide +kernel)
theorem dX11_about_169 : decode cX11_about 169 = .ok (.aload_n 0, 1) := oc_42 (by decide +kernel)
theorem dX11_about_170 : decode cX11_about 170 = .ok (.getfield 10, 3) := oc_180 (a := 0) (b := 10) (by decide +kernel)
theorem dX11_about_173 : decode cX11_about 173 = .ok (.getfield 257, 3) := oc_180 (a := 1) (b := 1) (by decide +kernel)
theorem dX11_about_176 : decode cX11_about 176 = .ok (.ireturn, 1) := oc_172 (by decide +kernel)
theorem dX11_about_177 : decode cX11_about 177 = .ok (.aload_n 0, 1) := oc_42 (by decide +kernel)
theorem dX11_about_178 : decode cX11_about 178 = .ok (.getfield 10, 3) := oc_180 (a := 0) (b := 10) (by decide +kernel)
theorem dX11_about_181 : decode cX11_about 181 = .ok (.getfield 36, 3) := oc_180 (a := 0) (b := 36) (by decide +kernel)
theorem tw_1557 : Cond.fieldLink RX11 352 "RingsUnder$Land" "deep" "I" ∈ wsL_law := sg_65 _ (List.mem_of_getElem? (i := 21) rfl)
theorem dX11_about_184 : decode cX11_about 184 = .ok (.getfield 352, 3) := oc_180 (a := 1) (b := 96) (by decide +kernel)
theorem dX11_about_187 : decode cX11_about 187 = .ok (.ireturn, 1) := oc_172 (by decide +kernel)
theorem dX11_about_188 : decode cX11_about 188 = .ok (.aload_n 0, 1) := oc_42 (by decide +kernel)
theorem dX11_about_189 : decode cX11_about 189 = .ok (.getfield 10, 3) := oc_180 (a := 0) (b := 10) (by decide +kernel)
theorem tw_1499 : Cond.fieldLink RX11 355 "RingsUnder$World" "graves" "LRingsUnder$Graves;" ∈ wsL_law := sg_63 _ (List.mem_of_getElem? (i := 11) rfl)
theorem dX11_about_192 : decode cX11_about 192 = .ok (.getfield 355, 3) := oc_180 (a := 1) (b := 99) (by decide +kernel)
theorem tw_1500 : Cond.fieldLink RX11 359 "RingsUnder$Graves" "count" "I" ∈ wsL_law := sg_63 _ (List.mem_of_getElem? (i := 12) rfl)
theorem dX11_about_195 : decode cX11_about 195 = .ok (.getfield 359, 3) := oc_180 (a := 1) (b := 103) (by decide +kernel)
theorem dX11_about_198 : decode cX11_about 198 = .ok (.ireturn, 1) := oc_172 (by decide +kernel)
theorem dX11_about_199 : decode cX11_about 199 = .ok (.aload_n 0, 1) := oc_42 (by decide +kernel)
theorem dX11_about_200 : decode cX11_about 200 = .ok (.getfield 10, 3) := oc_180 (a := 0) (b := 10) (by decide +kernel)
theorem dX11_about_203 : decode cX11_about 203 = .ok (.getfield 254, 3) := oc_180 (a := 0) (b := 254) (by decide +kernel)
theorem dX11_about_206 : decode cX11_about 206 = .ok (.ireturn, 1) := oc_172 (by decide +kernel)
theorem dX11_about_207 : decode cX11_about 207 = .ok (.aload_n 0, 1) := oc_42 (by decide +kernel)
theorem dX11_about_208 : decode cX11_about 208 = .ok (.getfield 10, 3) := oc_180 (a := 0) (b := 10) (by decide +kernel)
theorem dX11_about_211 : decode cX11_about 211 = .ok (.getfield 276, 3) := oc_180 (a := 1) (b := 20) (by decide +kernel)
theorem dX11_about_214 : decode cX11_about 214 = .ok (.ireturn, 1) := oc_172 (by decide +kernel)
theorem dX11_about_215 : decode cX11_about 215 = .ok (.aload_n 0, 1) := oc_42 (by decide +kernel)
theorem dX11_about_216 : decode cX11_about 216 = .ok (.getfield 32, 3) := oc_180 (a := 0) (b := 32) (by decide +kernel)
theorem dX11_about_219 : decode cX11_about 219 = .ok (.getfield 195, 3) := oc_180 (a := 0) (b := 195) (by decide +kernel)
theorem dX11_about_222 : decode cX11_about 222 = .ok (.getfield 199, 3) := oc_180 (a := 0) (b := 199) (by decide +kernel)
theorem dX11_about_225 : decode cX11_about 225 = .ok (.ireturn, 1) := oc_172 (by decide +kernel)
theorem dX11_about_226 : decode cX11_about 226 = .ok (.aload_n 0, 1) := oc_42 (by decide +kernel)
theorem dX11_about_227 : decode cX11_about 227 = .ok (.getfield 10, 3) := oc_180 (a := 0) (b := 10) (by decide +kernel)
theorem dX11_about_230 : decode cX11_about 230 = .ok (.getfield 36, 3) := oc_180 (a := 0) (b := 36) (by decide +kernel)
theorem dX11_about_233 : decode cX11_about 233 = .ok (.getfield 301, 3) := oc_180 (a := 1) (b := 45) (by decide +kernel)
theorem dX11_about_236 : decode cX11_about 236 = .ok (.aload_n 0, 1) := oc_42 (by decide +kernel)
theorem dX11_about_237 : decode cX11_about 237 = .ok (.getfield 10, 3) := oc_180 (a := 0) (b := 10) (by decide +kernel)
theorem dX11_about_240 : decode cX11_about 240 = .ok (.getfield 36, 3) := oc_180 (a := 0) (b := 36) (by decide +kernel)
theorem dX11_about_243 : decode cX11_about 243 = .ok (.getfield 57, 3) := oc_180 (a := 0) (b := 57) (by decide +kernel)
theorem tw_1559 : Cond.methodLink RX11 364 yX11_sum ∈ wsL_law := sg_65 _ (List.mem_of_getElem? (i := 23) rfl)
theorem tw_1560 : Cond.static yX11_sum ∈ wsL_law := sg_66 _ (List.mem_of_getElem? (i := 0) rfl)
theorem tw_1561 : Cond.code yX11_sum cX11_sum 4 (some .int) ∈ wsL_law := sg_66 _ (List.mem_of_getElem? (i := 1) rfl)
theorem dX11_about_246 : decode cX11_about 246 = .ok (.invokestatic 364, 3) := oc_184 (a := 1) (b := 108) (by decide +kernel)
theorem dX11_about_249 : decode cX11_about 249 = .ok (.ireturn, 1) := oc_172 (by decide +kernel)
theorem dX11_about_250 : decode cX11_about 250 = .ok (.aload_n 0, 1) := oc_42 (by decide +kernel)
theorem dX11_about_251 : decode cX11_about 251 = .ok (.getfield 10, 3) := oc_180 (a := 0) (b := 10) (by decide +kernel)
theorem dX11_about_254 : decode cX11_about 254 = .ok (.getfield 143, 3) := oc_180 (a := 0) (b := 143) (by decide +kernel)
theorem dX11_about_257 : decode cX11_about 257 = .ok (.getfield 337, 3) := oc_180 (a := 1) (b := 81) (by decide +kernel)
theorem dX11_about_260 : decode cX11_about 260 = .ok (.aload_n 0, 1) := oc_42 (by decide +kernel)
theorem dX11_about_261 : decode cX11_about 261 = .ok (.getfield 10, 3) := oc_180 (a := 0) (b := 10) (by decide +kernel)
theorem dX11_about_264 : decode cX11_about 264 = .ok (.getfield 143, 3) := oc_180 (a := 0) (b := 143) (by decide +kernel)
theorem dX11_about_267 : decode cX11_about 267 = .ok (.getfield 155, 3) := oc_180 (a := 0) (b := 155) (by decide +kernel)
theorem dX11_about_270 : decode cX11_about 270 = .ok (.invokestatic 364, 3) := oc_184 (a := 1) (b := 108) (by decide +kernel)
theorem dX11_about_273 : decode cX11_about 273 = .ok (.ireturn, 1) := oc_172 (by decide +kernel)
theorem dX11_about_274 : decode cX11_about 274 = .ok (.aload_n 0, 1) := oc_42 (by decide +kernel)
theorem dX11_about_275 : decode cX11_about 275 = .ok (.getfield 10, 3) := oc_180 (a := 0) (b := 10) (by decide +kernel)
theorem dX11_about_278 : decode cX11_about 278 = .ok (.getfield 143, 3) := oc_180 (a := 0) (b := 143) (by decide +kernel)
theorem dX11_about_281 : decode cX11_about 281 = .ok (.getfield 340, 3) := oc_180 (a := 1) (b := 84) (by decide +kernel)
theorem dX11_about_284 : decode cX11_about 284 = .ok (.aload_n 0, 1) := oc_42 (by decide +kernel)
theorem dX11_about_285 : decode cX11_about 285 = .ok (.getfield 10, 3) := oc_180 (a := 0) (b := 10) (by decide +kernel)
theorem dX11_about_288 : decode cX11_about 288 = .ok (.getfield 143, 3) := oc_180 (a := 0) (b := 143) (by decide +kernel)
theorem dX11_about_291 : decode cX11_about 291 = .ok (.getfield 155, 3) := oc_180 (a := 0) (b := 155) (by decide +kernel)
theorem dX11_about_294 : decode cX11_about 294 = .ok (.invokestatic 364, 3) := oc_184 (a := 1) (b := 108) (by decide +kernel)
theorem dX11_about_297 : decode cX11_about 297 = .ok (.ireturn, 1) := oc_172 (by decide +kernel)
theorem tw_1558 : Cond.constant RX11 368 (-1000000000) ∈ wsL_law := sg_65 _ (List.mem_of_getElem? (i := 22) rfl)
theorem dX11_about_298 : decode cX11_about 298 = .ok (.ldc_w 368, 3) := oc_19 (a := 1) (b := 112) (by decide +kernel)
theorem dX11_about_301 : decode cX11_about 301 = .ok (.ireturn, 1) := oc_172 (by decide +kernel)
theorem dX11_grave_0 : decode cX11_grave 0 = .ok (.aload_n 0, 1) := oc_42 (by decide +kernel)
theorem dX11_grave_1 : decode cX11_grave 1 = .ok (.iload_n 1, 1) := oc_27 (by decide +kernel)
theorem dX11_grave_2 : decode cX11_grave 2 = .ok (.invokevirtual 119, 3) := oc_182 (a := 0) (b := 119) (by decide +kernel)
theorem dX11_grave_23 : decode cX11_grave 23 = .ok (.iconst (-1), 1) := oc_2 (by decide +kernel)
theorem dX11_grave_24 : decode cX11_grave 24 = .ok (.ireturn, 1) := oc_172 (by decide +kernel)
theorem dX11_grave_5 : decode cX11_grave 5 = .ok (.ifCond .eq 18, 3) := oc_153 (a := 0) (b := 18) (by decide +kernel)
theorem dX11_grave_8 : decode cX11_grave 8 = .ok (.aload_n 0, 1) := oc_42 (by decide +kernel)
theorem dX11_grave_9 : decode cX11_grave 9 = .ok (.getfield 10, 3) := oc_180 (a := 0) (b := 10) (by decide +kernel)
theorem dX11_grave_12 : decode cX11_grave 12 = .ok (.getfield 355, 3) := oc_180 (a := 1) (b := 99) (by decide +kernel)
theorem dX11_grave_15 : decode cX11_grave 15 = .ok (.getfield 359, 3) := oc_180 (a := 1) (b := 103) (by decide +kernel)
theorem dX11_grave_18 : decode cX11_grave 18 = .ok (.bipush 30, 2) := oc_16 (a := 30) (by decide +kernel)
theorem dX11_grave_20 : decode cX11_grave 20 = .ok (.if_icmp .lt 5, 3) := oc_161 (a := 0) (b := 5) (by decide +kernel)
theorem dX11_grave_25 : decode cX11_grave 25 = .ok (.aload_n 0, 1) := oc_42 (by decide +kernel)
theorem dX11_grave_26 : decode cX11_grave 26 = .ok (.getfield 10, 3) := oc_180 (a := 0) (b := 10) (by decide +kernel)
theorem dX11_grave_29 : decode cX11_grave 29 = .ok (.getfield 355, 3) := oc_180 (a := 1) (b := 99) (by decide +kernel)
theorem dX11_grave_32 : decode cX11_grave 32 = .ok (.iload_n 1, 1) := oc_27 (by decide +kernel)
theorem tw_1501 : Cond.methodLink RX11 369 yX1_dig ∈ wsL_law := sg_63 _ (List.mem_of_getElem? (i := 13) rfl)
theorem tw_1502 : Cond.instanceMethod yX1_dig ∈ wsL_law := sg_63 _ (List.mem_of_getElem? (i := 14) rfl)
theorem tw_1503 : Cond.selects RX1 yX1_dig yX1_dig ∈ wsL_law := sg_63 _ (List.mem_of_getElem? (i := 15) rfl)
theorem tw_1504 : Cond.code yX1_dig cX1_dig 2 (some .int) ∈ wsL_law := sg_63 _ (List.mem_of_getElem? (i := 16) rfl)
theorem dX11_grave_33 : decode cX11_grave 33 = .ok (.invokevirtual 369, 3) := oc_182 (a := 1) (b := 113) (by decide +kernel)
theorem dX11_grave_36 : decode cX11_grave 36 = .ok (.ireturn, 1) := oc_172 (by decide +kernel)
set_option maxHeartbeats 4000000 in
set_option maxRecDepth 100000 in
theorem s_X11_cellOf (l : Launch) (D : va_G) (t : pq_T) (σ : pq_S) (I : Nat → Nat → Int32) (J : Nat → Nat → Int64) (ri : Nat → Nat → Int32) (rj : Nat → Nat → Int64) (rq : Nat → Nat → Option Nat) (sz : Nat) (tg : Nat → Nat) (hSH : SH σ tg) (hG0 : GS tg σ I ri rq) (this : Nat) (a0 : Int32) (a1 : Int32) (hL_this : this ∈ σ.1) (hK_this : σ.2.1 this = 11) : MetI l yX11_cellOf (wa yX11_cellOf cX11_cellOf 4 (some .int)) ({ frames := 3, cells := 0, slots := 0, locals := 64 }) [.ref this, .int a0, .int a1] D t σ (I, J, ri, rj, rq) sz 0 0 (fun (r : Int32) (u : pq_S × pq_M) => u = (σ, I, J, ri, rj, rq)) := by
  refine Met.ofW (cc := cX11_cellOf) (maxL := 4) (ret := (some .int)) (by decide) rfl ?_
  intro p e s m args below meth c s₁ B hml hv
  obtain ⟨rfl, hsz, hP, hK, hD0, hN⟩ := hv
  have hx := B.exec
  have hb := B.bytes
  have hr := B.returns
  have hts := atoms_spec (ws := (wa yX11_cellOf cX11_cellOf 4 (some .int))) B.pre
  have hown : s.vm.findClass RX11 = some m.cls := findClass_of_methodNamed B.named
  have hlocks := B.notSynchronized
  subst hsz
  have hD : va_D (pq_B t σ (I, J, ri, rj, rq) s.heap.size) (pq_P t σ (I, J, ri, rj, rq)) := hD0.self
  generalize hAe : pq_B t σ (I, J, ri, rj, rq) s.heap.size = A at hD ⊢
  have hA : ∀ q : Nat, s.heap.size ≤ q → A q := fun q h => by rw [← hAe]; exact Or.inr h
  have hS : va_S A s.heap s.heap [] := va_S.rf
  have hG : GX [] tg σ I ri rj I ri rj rq := ⟨hG0, fun _ _ _ => rfl, fun _ _ _ _ _ => rfl, fun _ _ _ _ _ => rfl⟩
  have hl := lv_entry ([.ref this, .int a0, .int a1]) (n := 4) (Nat.le_of_ble_eq_true rfl)
  rw [lg_entry_eq]
  generalize (lg_sl ([.ref this, .int a0, .int a1]) ++ List.replicate (4 - (lg_sl ([.ref this, .int a0, .int a1])).length) Slot.unset).toArray = ls at hl ⊢
  have hl : lv_has ls 4 [(0, .ref this), (1, .int a0), (2, .int a1)] := hl
  refine q_gen (fun Q hQ => ?_)
  have go : ∀ (H : Heap) (locs : List Loc) (ls : Array Slot), va_P D vwCl (pq_P t σ (I, J, ri, rj, rq)) H → va_D A (pq_P t σ (I, J, ri, rj, rq)) → va_S A s.heap H locs → lv_has ls 4 [(0, .ref this), (1, .int a0), (2, .int a1)] → W p l e ({ frames := 3, cells := 0, slots := 0, locals := 64 } : Room) s m (List.toArray ([.ref this, .int a0, .int a1] : List Value)) below meth c H locs 0 0 Q (F0 m 0 ls []) := by
    intro H locs ls hP hD hS hl
    refine lv_aload_n hx hb dX11_cellOf_0 rfl (lv_at hl 0 rfl) ?_
    refine lv_iload_n hx hb dX11_cellOf_1 rfl (lv_at hl 1 rfl) ?_
    refine pk_i (va_runV (As := [.int a0]) (rest := []) ⟨hx, hb, hml, hown, hts⟩ (s_X11_isCell l D t σ I J ri rj rq H.size tg hSH hG.1 this a0 hL_this hK_this) (cwV 1 hts (tw_V tw_332 tw_333 tw_334 tw_2 tw_335) rfl rfl rfl cv_yX11_isCell_1 ⟨Nat.le_of_ble_eq_true rfl, Nat.le_of_ble_eq_true rfl⟩) ⟨pq_blind, pq_recv hK hP hL_this hK_this (by decide) rfl, pq_pre hK hN hP hD⟩ rfl rfl hl.1 rfl (lv_room (Nat.le_of_ble_eq_true rfl)) dX11_cellOf_2 ⟨Nat.le_of_ble_eq_true rfl, Nat.le_of_ble_eq_true rfl⟩) hD hS hA (fun x_1 σ1 μ1 H locs hw_2 hP hD hS => ?_)
    obtain ⟨hu_3, hr_5⟩ := hw_2
    obtain ⟨hu_3a, hu_3b⟩ := Prod.mk.inj hu_3
    rw [hu_3a, hu_3b] at hP hD
    have h_6 : rg x_1 0 1 := by rcases hr_5 with ⟨q, -⟩ | ⟨q, -⟩ <;> rw [q] <;> exact ⟨by decide, by decide⟩
    refine lv_if_ne (tgt := 11) hx hb dX11_cellOf_5 (by decide) (fun c_7 => ?_) (fun c_7 => ?_)
    · have f_8 := (hr_5.resolve_right (fun q => c_7 q.1)).2
      have h_9 : rg x_1 1 1 := rg_ne c_7 h_6 0 rfl (by decide)
      refine lv_aload_n hx hb dX11_cellOf_11 rfl (lv_at hl 0 rfl) ?_
      obtain ⟨w_10, hR_w_10, hL_w_10, hK_w_10⟩ := sh_o hSH 352 (ci := 11) (kd := 10) rfl hL_this hK_this
      refine pg_f (v := .ref w_10) (C := RX11) (T := TX11) (N := 5) hx hb hts (tw_i inlX11) hown hK hP hL_this hK_this (by decide) rfl 0 (by decide) (hts _ (tw_c tw_16)) (pq_hv rfl hR_w_10) dX11_cellOf_12 ?_
      obtain ⟨w_11, hR_w_11, hL_w_11, hK_w_11⟩ := sh_o hSH 327 (ci := 10) (kd := 2) rfl hL_w_10 hK_w_10
      refine pg_f (v := .ref w_11) (C := RX10) (T := TX10) (N := 13) hx hb hts (tw_i inlX10) hown hK hP hL_w_10 hK_w_10 (by decide) rfl 7 (by decide) (hts _ (tw_c tw_199)) (pq_hv rfl hR_w_11) dX11_cellOf_15 ?_
      refine lv_astore_n (lv' := [(3, .ref w_11), (0, .ref this), (1, .int a0), (2, .int a1)]) hx hb dX11_cellOf_18 rfl hl (by decide) rfl (fun ls hl => ?_)
      refine lv_iload_n hx hb dX11_cellOf_19 rfl (lv_at hl 3 rfl) ?_
      by_cases k_12 : a1 = (0 : Int32)
      · have h_13 : rg a1 0 0 := rg_and (rg_full _) (rg_of_eq k_12 (rg_k (0 : Int32) 0 rfl)) (by decide)
        refine lv_tov 0 k_12 ?_
        refine lv_tableIn (tgt := 84) hx hb dX11_cellOf_20 (by decide) (by decide) rfl (by decide) ?_
        refine lv_aload_n hx hb dX11_cellOf_84 rfl (lv_at hl 0 rfl) ?_
        obtain ⟨w_14, hR_w_14, hL_w_14, hK_w_14, hN_w_14, hT_w_14⟩ := sh_a hSH 69 (ci := 2) (kd := 13) (len := 40) rfl (by decide) hL_w_11 hK_w_11
        refine pg_f (v := .ref w_14) (C := RX2) (T := TX2) (N := 20) hx hb hts (tw_i inlX2) hown hK hP hL_w_11 hK_w_11 (by decide) rfl 5 (by decide) (hts _ (tw_c tw_1271)) (pq_hv rfl hR_w_14) dX11_cellOf_85 ?_
        refine lv_iload_n hx hb dX11_cellOf_88 rfl (lv_at hl 2 rfl) ?_
        refine pl_i hx hb hK hP hL_w_14 hK_w_14 hN_w_14 (rg_in f_8 (by decide)) dX11_cellOf_89 ?_
        refine lv_topi (fun x_15 ex_15 => ?_)
        have h_16 : rg x_15 0 4 := rg_of_eq ex_15 (GX.rR hG hT_w_14 rfl)
        subst hQ
        exact W.iret (v := x_15) hx hb hr (fun t1 ht hW => ⟨⟨x_15, (σ, I, J, ri, rj, rq), rfl, rfl, by rw [ht]; exact hP, va_K.moved hW.alike hK, hD⟩, hS.F ht⟩) hS.2.2 dX11_cellOf_90
      by_cases k_17 : a1 = (1 : Int32)
      · have h_18 : rg a1 1 1 := rg_and (rg_full _) (rg_of_eq k_17 (rg_k (1 : Int32) 1 rfl)) (by decide)
        refine lv_tov 1 k_17 ?_
        refine lv_tableIn (tgt := 91) hx hb dX11_cellOf_20 (by decide) (by decide) rfl (by decide) ?_
        refine lv_aload_n hx hb dX11_cellOf_91 rfl (lv_at hl 0 rfl) ?_
        obtain ⟨w_19, hR_w_19, hL_w_19, hK_w_19, hN_w_19, hT_w_19⟩ := sh_a hSH 70 (ci := 2) (kd := 13) (len := 40) rfl (by decide) hL_w_11 hK_w_11
        refine pg_f (v := .ref w_19) (C := RX2) (T := TX2) (N := 20) hx hb hts (tw_i inlX2) hown hK hP hL_w_11 hK_w_11 (by decide) rfl 6 (by decide) (hts _ (tw_c tw_1272)) (pq_hv rfl hR_w_19) dX11_cellOf_92 ?_
        refine lv_iload_n hx hb dX11_cellOf_95 rfl (lv_at hl 2 rfl) ?_
        refine pl_i hx hb hK hP hL_w_19 hK_w_19 hN_w_19 (rg_in f_8 (by decide)) dX11_cellOf_96 ?_
        refine lv_topi (fun x_20 ex_20 => ?_)
        subst hQ
        exact W.iret (v := x_20) hx hb hr (fun t1 ht hW => ⟨⟨x_20, (σ, I, J, ri, rj, rq), rfl, rfl, by rw [ht]; exact hP, va_K.moved hW.alike hK, hD⟩, hS.F ht⟩) hS.2.2 dX11_cellOf_97
      by_cases k_21 : a1 = (2 : Int32)
      · have h_22 : rg a1 2 2 := rg_and (rg_full _) (rg_of_eq k_21 (rg_k (2 : Int32) 2 rfl)) (by decide)
        refine lv_tov 2 k_21 ?_
        refine lv_tableIn (tgt := 98) hx hb dX11_cellOf_20 (by decide) (by decide) rfl (by decide) ?_
        refine lv_aload_n hx hb dX11_cellOf_98 rfl (lv_at hl 0 rfl) ?_
        obtain ⟨w_23, hR_w_23, hL_w_23, hK_w_23, hN_w_23, hT_w_23⟩ := sh_a hSH 73 (ci := 2) (kd := 13) (len := 40) rfl (by decide) hL_w_11 hK_w_11
        refine pg_f (v := .ref w_23) (C := RX2) (T := TX2) (N := 20) hx hb hts (tw_i inlX2) hown hK hP hL_w_11 hK_w_11 (by decide) rfl 9 (by decide) (hts _ (tw_c tw_1273)) (pq_hv rfl hR_w_23) dX11_cellOf_99 ?_
        refine lv_iload_n hx hb dX11_cellOf_102 rfl (lv_at hl 2 rfl) ?_
        refine pl_i hx hb hK hP hL_w_23 hK_w_23 hN_w_23 (rg_in f_8 (by decide)) dX11_cellOf_103 ?_
        refine lv_topi (fun x_24 ex_24 => ?_)
        subst hQ
        exact W.iret (v := x_24) hx hb hr (fun t1 ht hW => ⟨⟨x_24, (σ, I, J, ri, rj, rq), rfl, rfl, by rw [ht]; exact hP, va_K.moved hW.alike hK, hD⟩, hS.F ht⟩) hS.2.2 dX11_cellOf_104
      by_cases k_25 : a1 = (3 : Int32)
      · have h_26 : rg a1 3 3 := rg_and (rg_full _) (rg_of_eq k_25 (rg_k (3 : Int32) 3 rfl)) (by decide)
        refine lv_tov 3 k_25 ?_
        refine lv_tableIn (tgt := 105) hx hb dX11_cellOf_20 (by decide) (by decide) rfl (by decide) ?_
        refine lv_aload_n hx hb dX11_cellOf_105 rfl (lv_at hl 0 rfl) ?_
        obtain ⟨w_27, hR_w_27, hL_w_27, hK_w_27, hN_w_27, hT_w_27⟩ := sh_a hSH 74 (ci := 2) (kd := 13) (len := 40) rfl (by decide) hL_w_11 hK_w_11
        refine pg_f (v := .ref w_27) (C := RX2) (T := TX2) (N := 20) hx hb hts (tw_i inlX2) hown hK hP hL_w_11 hK_w_11 (by decide) rfl 10 (by decide) (hts _ (tw_c tw_1274)) (pq_hv rfl hR_w_27) dX11_cellOf_106 ?_
        refine lv_iload_n hx hb dX11_cellOf_109 rfl (lv_at hl 2 rfl) ?_
        refine pl_i hx hb hK hP hL_w_27 hK_w_27 hN_w_27 (rg_in f_8 (by decide)) dX11_cellOf_110 ?_
        refine lv_topi (fun x_28 ex_28 => ?_)
        subst hQ
        exact W.iret (v := x_28) hx hb hr (fun t1 ht hW => ⟨⟨x_28, (σ, I, J, ri, rj, rq), rfl, rfl, by rw [ht]; exact hP, va_K.moved hW.alike hK, hD⟩, hS.F ht⟩) hS.2.2 dX11_cellOf_111
      by_cases k_29 : a1 = (4 : Int32)
      · have h_30 : rg a1 4 4 := rg_and (rg_full _) (rg_of_eq k_29 (rg_k (4 : Int32) 4 rfl)) (by decide)
        refine lv_tov 4 k_29 ?_
        refine lv_tableIn (tgt := 112) hx hb dX11_cellOf_20 (by decide) (by decide) rfl (by decide) ?_
        refine lv_aload_n hx hb dX11_cellOf_112 rfl (lv_at hl 0 rfl) ?_
        obtain ⟨w_31, hR_w_31, hL_w_31, hK_w_31, hN_w_31, hT_w_31⟩ := sh_a hSH 75 (ci := 2) (kd := 13) (len := 40) rfl (by decide) hL_w_11 hK_w_11
        refine pg_f (v := .ref w_31) (C := RX2) (T := TX2) (N := 20) hx hb hts (tw_i inlX2) hown hK hP hL_w_11 hK_w_11 (by decide) rfl 11 (by decide) (hts _ (tw_c tw_331)) (pq_hv rfl hR_w_31) dX11_cellOf_113 ?_
        refine lv_iload_n hx hb dX11_cellOf_116 rfl (lv_at hl 2 rfl) ?_
        refine pl_i hx hb hK hP hL_w_31 hK_w_31 hN_w_31 (rg_in f_8 (by decide)) dX11_cellOf_117 ?_
        refine lv_topi (fun x_32 ex_32 => ?_)
        subst hQ
        exact W.iret (v := x_32) hx hb hr (fun t1 ht hW => ⟨⟨x_32, (σ, I, J, ri, rj, rq), rfl, rfl, by rw [ht]; exact hP, va_K.moved hW.alike hK, hD⟩, hS.F ht⟩) hS.2.2 dX11_cellOf_118
      by_cases k_33 : a1 = (5 : Int32)
      · have h_34 : rg a1 5 5 := rg_and (rg_full _) (rg_of_eq k_33 (rg_k (5 : Int32) 5 rfl)) (by decide)
        refine lv_tov 5 k_33 ?_
        refine lv_tableIn (tgt := 119) hx hb dX11_cellOf_20 (by decide) (by decide) rfl (by decide) ?_
        refine lv_aload_n hx hb dX11_cellOf_119 rfl (lv_at hl 0 rfl) ?_
        refine lv_iload_n hx hb dX11_cellOf_120 rfl (lv_at hl 2 rfl) ?_
        refine pk_i (va_runV (As := [.int a0]) (rest := []) ⟨hx, hb, hml, hown, hts⟩ (s_X2_topOf l D t σ I J ri rj rq H.size tg hSH hG.1 w_11 a0 hL_w_11 hK_w_11 (rg_w f_8 (by decide))) (cwV 1 hts (tw_V tw_1278 tw_1075 tw_1076 tw_41 tw_1077) rfl rfl rfl cv_yX2_topOf_1 ⟨Nat.le_of_ble_eq_true rfl, Nat.le_of_ble_eq_true rfl⟩) ⟨pq_blind, pq_recv hK hP hL_w_11 hK_w_11 (by decide) rfl, pq_pre hK hN hP hD⟩ rfl rfl hl.1 rfl (lv_room (Nat.le_of_ble_eq_true rfl)) dX11_cellOf_121 ⟨Nat.le_of_ble_eq_true rfl, Nat.le_of_ble_eq_true rfl⟩) hD hS hA (fun x_35 σ1 μ1 H locs hw_36 hP hD hS => ?_)
        have hu_37 := hw_36
        obtain ⟨hu_37a, hu_37b⟩ := Prod.mk.inj hu_37
        rw [hu_37a, hu_37b] at hP hD
        subst hQ
        exact W.iret (v := x_35) hx hb hr (fun t1 ht hW => ⟨⟨x_35, (σ, I, J, ri, rj, rq), rfl, rfl, by rw [ht]; exact hP, va_K.moved hW.alike hK, hD⟩, hS.F ht⟩) hS.2.2 dX11_cellOf_124
      by_cases k_40 : a1 = (6 : Int32)
      · have h_41 : rg a1 6 6 := rg_and (rg_full _) (rg_of_eq k_40 (rg_k (6 : Int32) 6 rfl)) (by decide)
        refine lv_tov 6 k_40 ?_
        refine lv_tableIn (tgt := 125) hx hb dX11_cellOf_20 (by decide) (by decide) rfl (by decide) ?_
        refine lv_aload_n hx hb dX11_cellOf_125 rfl (lv_at hl 0 rfl) ?_
        obtain ⟨w_42, hR_w_42, hL_w_42, hK_w_42, hN_w_42, hT_w_42⟩ := sh_a hSH 76 (ci := 2) (kd := 13) (len := 40) rfl (by decide) hL_w_11 hK_w_11
        refine pg_f (v := .ref w_42) (C := RX2) (T := TX2) (N := 20) hx hb hts (tw_i inlX2) hown hK hP hL_w_11 hK_w_11 (by decide) rfl 12 (by decide) (hts _ (tw_c tw_369)) (pq_hv rfl hR_w_42) dX11_cellOf_126 ?_
        refine lv_iload_n hx hb dX11_cellOf_129 rfl (lv_at hl 2 rfl) ?_
        refine pl_i hx hb hK hP hL_w_42 hK_w_42 hN_w_42 (rg_in f_8 (by decide)) dX11_cellOf_130 ?_
        refine lv_topi (fun x_43 ex_43 => ?_)
        subst hQ
        exact W.iret (v := x_43) hx hb hr (fun t1 ht hW => ⟨⟨x_43, (σ, I, J, ri, rj, rq), rfl, rfl, by rw [ht]; exact hP, va_K.moved hW.alike hK, hD⟩, hS.F ht⟩) hS.2.2 dX11_cellOf_131
      by_cases k_44 : a1 = (7 : Int32)
      · have h_45 : rg a1 7 7 := rg_and (rg_full _) (rg_of_eq k_44 (rg_k (7 : Int32) 7 rfl)) (by decide)
        refine lv_tov 7 k_44 ?_
        refine lv_tableIn (tgt := 132) hx hb dX11_cellOf_20 (by decide) (by decide) rfl (by decide) ?_
        refine lv_aload_n hx hb dX11_cellOf_132 rfl (lv_at hl 0 rfl) ?_
        obtain ⟨w_46, hR_w_46, hL_w_46, hK_w_46⟩ := sh_o hSH 78 (ci := 2) (kd := 9) rfl hL_w_11 hK_w_11
        refine pg_f (v := .ref w_46) (C := RX2) (T := TX2) (N := 20) hx hb hts (tw_i inlX2) hown hK hP hL_w_11 hK_w_11 (by decide) rfl 14 (by decide) (hts _ (tw_c tw_348)) (pq_hv rfl hR_w_46) dX11_cellOf_133 ?_
        refine lv_iload_n hx hb dX11_cellOf_136 rfl (lv_at hl 2 rfl) ?_
        refine pk_i (va_runV (As := [.int a0]) (rest := []) ⟨hx, hb, hml, hown, hts⟩ (s_X9_isAt l D t σ I J ri rj rq H.size tg hSH hG.1 w_46 a0 hL_w_46 hK_w_46 (rg_w f_8 (by decide))) (cwV 1 hts (tw_V tw_349 tw_350 tw_351 tw_94 tw_352) rfl rfl rfl cv_yX9_isAt_1 ⟨Nat.le_of_ble_eq_true rfl, Nat.le_of_ble_eq_true rfl⟩) ⟨pq_blind, pq_recv hK hP hL_w_46 hK_w_46 (by decide) rfl, pq_pre hK hN hP hD⟩ rfl rfl hl.1 rfl (lv_room (Nat.le_of_ble_eq_true rfl)) dX11_cellOf_137 ⟨Nat.le_of_ble_eq_true rfl, Nat.le_of_ble_eq_true rfl⟩) hD hS hA (fun x_47 σ1 μ1 H locs hw_48 hP hD hS => ?_)
        obtain ⟨hu_49, hr_51⟩ := hw_48
        obtain ⟨hu_49a, hu_49b⟩ := Prod.mk.inj hu_49
        rw [hu_49a, hu_49b] at hP hD
        have h_52 : rg x_47 0 1 := by rcases hr_51 with ⟨q, -⟩ | ⟨q, -⟩ <;> rw [q] <;> exact ⟨by decide, by decide⟩
        refine lv_if_eq (tgt := 155) hx hb dX11_cellOf_140 (by decide) (fun c_53 => ?_) (fun c_53 => ?_)
        · have h_54 : rg x_47 0 0 := rg_and h_52 (rg_of_eq c_53 (rg_k (0 : Int32) 0 rfl)) (by decide)
          refine lv_iconst (v := (-1)) hx hb dX11_cellOf_155 (by decide) ?_
          subst hQ
          exact W.iret (v := (-1)) hx hb hr (fun t1 ht hW => ⟨⟨(-1), (σ, I, J, ri, rj, rq), rfl, rfl, by rw [ht]; exact hP, va_K.moved hW.alike hK, hD⟩, hS.F ht⟩) hS.2.2 dX11_cellOf_156
        · have h_55 : rg x_47 1 1 := rg_ne c_53 h_52 0 rfl (by decide)
          refine lv_aload_n hx hb dX11_cellOf_143 rfl (lv_at hl 0 rfl) ?_
          refine pg_f (v := .ref w_46) (C := RX2) (T := TX2) (N := 20) hx hb hts (tw_i inlX2) hown hK hP hL_w_11 hK_w_11 (by decide) rfl 14 (by decide) (hts _ (tw_c tw_348)) (pq_hv rfl hR_w_46) dX11_cellOf_144 ?_
          obtain ⟨w_56, hR_w_56, hL_w_56, hK_w_56, hN_w_56, hT_w_56⟩ := sh_a hSH 289 (ci := 9) (kd := 13) (len := 40) rfl (by decide) hL_w_46 hK_w_46
          refine pg_f (v := .ref w_56) (C := RX9) (T := TX9) (N := 3) hx hb hts (tw_i inlX9) hown hK hP hL_w_46 hK_w_46 (by decide) rfl 1 (by decide) (hts _ (tw_c tw_1275)) (pq_hv rfl hR_w_56) dX11_cellOf_147 ?_
          refine lv_iload_n hx hb dX11_cellOf_150 rfl (lv_at hl 2 rfl) ?_
          refine pl_i hx hb hK hP hL_w_56 hK_w_56 hN_w_56 (rg_in f_8 (by decide)) dX11_cellOf_151 ?_
          refine lv_topi (fun x_57 ex_57 => ?_)
          refine lv_goto (tgt := 156) hx hb dX11_cellOf_152 (by decide) ?_
          subst hQ
          exact W.iret (v := x_57) hx hb hr (fun t1 ht hW => ⟨⟨x_57, (σ, I, J, ri, rj, rq), rfl, rfl, by rw [ht]; exact hP, va_K.moved hW.alike hK, hD⟩, hS.F ht⟩) hS.2.2 dX11_cellOf_156
      by_cases k_58 : a1 = (8 : Int32)
      · have h_59 : rg a1 8 8 := rg_and (rg_full _) (rg_of_eq k_58 (rg_k (8 : Int32) 8 rfl)) (by decide)
        refine lv_tov 8 k_58 ?_
        refine lv_tableIn (tgt := 157) hx hb dX11_cellOf_20 (by decide) (by decide) rfl (by decide) ?_
        refine lv_aload_n hx hb dX11_cellOf_157 rfl (lv_at hl 0 rfl) ?_
        obtain ⟨w_60, hR_w_60, hL_w_60, hK_w_60⟩ := sh_o hSH 78 (ci := 2) (kd := 9) rfl hL_w_11 hK_w_11
        refine pg_f (v := .ref w_60) (C := RX2) (T := TX2) (N := 20) hx hb hts (tw_i inlX2) hown hK hP hL_w_11 hK_w_11 (by decide) rfl 14 (by decide) (hts _ (tw_c tw_348)) (pq_hv rfl hR_w_60) dX11_cellOf_158 ?_
        refine lv_iload_n hx hb dX11_cellOf_161 rfl (lv_at hl 2 rfl) ?_
        refine pk_i (va_runV (As := [.int a0]) (rest := []) ⟨hx, hb, hml, hown, hts⟩ (s_X9_isAt l D t σ I J ri rj rq H.size tg hSH hG.1 w_60 a0 hL_w_60 hK_w_60 (rg_w f_8 (by decide))) (cwV 1 hts (tw_V tw_349 tw_350 tw_351 tw_94 tw_352) rfl rfl rfl cv_yX9_isAt_1 ⟨Nat.le_of_ble_eq_true rfl, Nat.le_of_ble_eq_true rfl⟩) ⟨pq_blind, pq_recv hK hP hL_w_60 hK_w_60 (by decide) rfl, pq_pre hK hN hP hD⟩ rfl rfl hl.1 rfl (lv_room (Nat.le_of_ble_eq_true rfl)) dX11_cellOf_162 ⟨Nat.le_of_ble_eq_true rfl, Nat.le_of_ble_eq_true rfl⟩) hD hS hA (fun x_61 σ1 μ1 H locs hw_62 hP hD hS => ?_)
        obtain ⟨hu_63, hr_65⟩ := hw_62
        obtain ⟨hu_63a, hu_63b⟩ := Prod.mk.inj hu_63
        rw [hu_63a, hu_63b] at hP hD
        have h_66 : rg x_61 0 1 := by rcases hr_65 with ⟨q, -⟩ | ⟨q, -⟩ <;> rw [q] <;> exact ⟨by decide, by decide⟩
        refine lv_if_eq (tgt := 180) hx hb dX11_cellOf_165 (by decide) (fun c_67 => ?_) (fun c_67 => ?_)
        · have h_68 : rg x_61 0 0 := rg_and h_66 (rg_of_eq c_67 (rg_k (0 : Int32) 0 rfl)) (by decide)
          refine lv_iconst (v := (-1)) hx hb dX11_cellOf_180 (by decide) ?_
          subst hQ
          exact W.iret (v := (-1)) hx hb hr (fun t1 ht hW => ⟨⟨(-1), (σ, I, J, ri, rj, rq), rfl, rfl, by rw [ht]; exact hP, va_K.moved hW.alike hK, hD⟩, hS.F ht⟩) hS.2.2 dX11_cellOf_181
        · have h_69 : rg x_61 1 1 := rg_ne c_67 h_66 0 rfl (by decide)
          refine lv_aload_n hx hb dX11_cellOf_168 rfl (lv_at hl 0 rfl) ?_
          refine pg_f (v := .ref w_60) (C := RX2) (T := TX2) (N := 20) hx hb hts (tw_i inlX2) hown hK hP hL_w_11 hK_w_11 (by decide) rfl 14 (by decide) (hts _ (tw_c tw_348)) (pq_hv rfl hR_w_60) dX11_cellOf_169 ?_
          obtain ⟨w_70, hR_w_70, hL_w_70, hK_w_70, hN_w_70, hT_w_70⟩ := sh_a hSH 290 (ci := 9) (kd := 13) (len := 40) rfl (by decide) hL_w_60 hK_w_60
          refine pg_f (v := .ref w_70) (C := RX9) (T := TX9) (N := 3) hx hb hts (tw_i inlX9) hown hK hP hL_w_60 hK_w_60 (by decide) rfl 2 (by decide) (hts _ (tw_c tw_1276)) (pq_hv rfl hR_w_70) dX11_cellOf_172 ?_
          refine lv_iload_n hx hb dX11_cellOf_175 rfl (lv_at hl 2 rfl) ?_
          refine pl_i hx hb hK hP hL_w_70 hK_w_70 hN_w_70 (rg_in f_8 (by decide)) dX11_cellOf_176 ?_
          refine lv_topi (fun x_71 ex_71 => ?_)
          refine lv_goto (tgt := 181) hx hb dX11_cellOf_177 (by decide) ?_
          subst hQ
          exact W.iret (v := x_71) hx hb hr (fun t1 ht hW => ⟨⟨x_71, (σ, I, J, ri, rj, rq), rfl, rfl, by rw [ht]; exact hP, va_K.moved hW.alike hK, hD⟩, hS.F ht⟩) hS.2.2 dX11_cellOf_181
      by_cases k_72 : a1 = (9 : Int32)
      · have h_73 : rg a1 9 9 := rg_and (rg_full _) (rg_of_eq k_72 (rg_k (9 : Int32) 9 rfl)) (by decide)
        refine lv_tov 9 k_72 ?_
        refine lv_tableIn (tgt := 182) hx hb dX11_cellOf_20 (by decide) (by decide) rfl (by decide) ?_
        refine lv_aload_n hx hb dX11_cellOf_182 rfl (lv_at hl 0 rfl) ?_
        obtain ⟨w_74, hR_w_74, hL_w_74, hK_w_74, hN_w_74, hT_w_74⟩ := sh_a hSH 77 (ci := 2) (kd := 13) (len := 40) rfl (by decide) hL_w_11 hK_w_11
        refine pg_f (v := .ref w_74) (C := RX2) (T := TX2) (N := 20) hx hb hts (tw_i inlX2) hown hK hP hL_w_11 hK_w_11 (by decide) rfl 13 (by decide) (hts _ (tw_c tw_1277)) (pq_hv rfl hR_w_74) dX11_cellOf_183 ?_
        refine lv_iload_n hx hb dX11_cellOf_186 rfl (lv_at hl 2 rfl) ?_
        refine pl_i hx hb hK hP hL_w_74 hK_w_74 hN_w_74 (rg_in f_8 (by decide)) dX11_cellOf_187 ?_
        refine lv_topi (fun x_75 ex_75 => ?_)
        subst hQ
        exact W.iret (v := x_75) hx hb hr (fun t1 ht hW => ⟨⟨x_75, (σ, I, J, ri, rj, rq), rfl, rfl, by rw [ht]; exact hP, va_K.moved hW.alike hK, hD⟩, hS.F ht⟩) hS.2.2 dX11_cellOf_188
      by_cases k_76 : a1 = (10 : Int32)
      · have h_77 : rg a1 10 10 := rg_and (rg_full _) (rg_of_eq k_76 (rg_k (10 : Int32) 10 rfl)) (by decide)
        refine lv_tov 10 k_76 ?_
        refine lv_tableIn (tgt := 189) hx hb dX11_cellOf_20 (by decide) (by decide) rfl (by decide) ?_
        refine lv_aload_n hx hb dX11_cellOf_189 rfl (lv_at hl 1 rfl) ?_
        refine pg_f (v := .ref w_10) (C := RX11) (T := TX11) (N := 5) hx hb hts (tw_i inlX11) hown hK hP hL_this hK_this (by decide) rfl 0 (by decide) (hts _ (tw_c tw_16)) (pq_hv rfl hR_w_10) dX11_cellOf_190 ?_
        refine lv_iload_n hx hb dX11_cellOf_193 rfl (lv_at hl 2 rfl) ?_
        refine pk_i (va_runV (As := [.int a0]) (rest := []) ⟨hx, hb, hml, hown, hts⟩ (s_X10_wasDry l D t σ I J ri rj rq H.size tg hSH hG.1 w_10 a0 hL_w_10 hK_w_10) (cwV 1 hts (tw_V tw_1279 tw_551 tw_552 tw_15 tw_553) rfl rfl rfl cv_yX10_wasDry_1 ⟨Nat.le_of_ble_eq_true rfl, Nat.le_of_ble_eq_true rfl⟩) ⟨pq_blind, pq_recv hK hP hL_w_10 hK_w_10 (by decide) rfl, pq_pre hK hN hP hD⟩ rfl rfl hl.1 rfl (lv_room (Nat.le_of_ble_eq_true rfl)) dX11_cellOf_194 ⟨Nat.le_of_ble_eq_true rfl, Nat.le_of_ble_eq_true rfl⟩) hD hS hA (fun x_78 σ1 μ1 H locs hw_79 hP hD hS => ?_)
        obtain ⟨hu_80, hr_82⟩ := hw_79
        obtain ⟨hu_80a, hu_80b⟩ := Prod.mk.inj hu_80
        rw [hu_80a, hu_80b] at hP hD
        subst hQ
        exact W.iret (v := x_78) hx hb hr (fun t1 ht hW => ⟨⟨x_78, (σ, I, J, ri, rj, rq), rfl, rfl, by rw [ht]; exact hP, va_K.moved hW.alike hK, hD⟩, hS.F ht⟩) hS.2.2 dX11_cellOf_197
      by_cases k_83 : a1 = (11 : Int32)
      · have h_84 : rg a1 11 11 := rg_and (rg_full _) (rg_of_eq k_83 (rg_k (11 : Int32) 11 rfl)) (by decide)
        refine lv_tov 11 k_83 ?_
        refine lv_tableIn (tgt := 198) hx hb dX11_cellOf_20 (by decide) (by decide) rfl (by decide) ?_
        refine lv_aload_n hx hb dX11_cellOf_198 rfl (lv_at hl 1 rfl) ?_
        refine pg_f (v := .ref w_10) (C := RX11) (T := TX11) (N := 5) hx hb hts (tw_i inlX11) hown hK hP hL_this hK_this (by decide) rfl 0 (by decide) (hts _ (tw_c tw_16)) (pq_hv rfl hR_w_10) dX11_cellOf_199 ?_
        refine lv_iload_n hx hb dX11_cellOf_202 rfl (lv_at hl 2 rfl) ?_
        refine pk_i (va_runV (As := [.int a0]) (rest := []) ⟨hx, hb, hml, hown, hts⟩ (s_X10_wasRock l D t σ I J ri rj rq H.size tg hSH hG.1 w_10 a0 hL_w_10 hK_w_10) (cwV 1 hts (tw_V tw_1280 tw_1281 tw_1282 tw_15 tw_1283) rfl rfl rfl cv_yX10_wasRock_1 ⟨Nat.le_of_ble_eq_true rfl, Nat.le_of_ble_eq_true rfl⟩) ⟨pq_blind, pq_recv hK hP hL_w_10 hK_w_10 (by decide) rfl, pq_pre hK hN hP hD⟩ rfl rfl hl.1 rfl (lv_room (Nat.le_of_ble_eq_true rfl)) dX11_cellOf_203 ⟨Nat.le_of_ble_eq_true rfl, Nat.le_of_ble_eq_true rfl⟩) hD hS hA (fun x_85 σ1 μ1 H locs hw_86 hP hD hS => ?_)
        obtain ⟨hu_87, hr_89⟩ := hw_86
        obtain ⟨hu_87a, hu_87b⟩ := Prod.mk.inj hu_87
        rw [hu_87a, hu_87b] at hP hD
        subst hQ
        exact W.iret (v := x_85) hx hb hr (fun t1 ht hW => ⟨⟨x_85, (σ, I, J, ri, rj, rq), rfl, rfl, by rw [ht]; exact hP, va_K.moved hW.alike hK, hD⟩, hS.F ht⟩) hS.2.2 dX11_cellOf_206
      refine lv_tableOut (tgt := 207) hx hb dX11_cellOf_20 (by have z_k_12 := sw_ne k_12 (n := 0) rfl; have z_k_17 := sw_ne k_17 (n := 1) rfl; have z_k_21 := sw_ne k_21 (n := 2) rfl; have z_k_25 := sw_ne k_25 (n := 3) rfl; have z_k_29 := sw_ne k_29 (n := 4) rfl; have z_k_33 := sw_ne k_33 (n := 5) rfl; have z_k_40 := sw_ne k_40 (n := 6) rfl; have z_k_44 := sw_ne k_44 (n := 7) rfl; have z_k_58 := sw_ne k_58 (n := 8) rfl; have z_k_72 := sw_ne k_72 (n := 9) rfl; have z_k_76 := sw_ne k_76 (n := 10) rfl; have z_k_83 := sw_ne k_83 (n := 11) rfl; omega) (by decide) ?_
      refine lv_ldc hx hb hown (hts _ (tw_c tw_269)) dX11_cellOf_207 ?_
      subst hQ
      exact W.iret (v := (-1000000)) hx hb hr (fun t1 ht hW => ⟨⟨(-1000000), (σ, I, J, ri, rj, rq), rfl, rfl, by rw [ht]; exact hP, va_K.moved hW.alike hK, hD⟩, hS.F ht⟩) hS.2.2 dX11_cellOf_209
    · have f_90 := (hr_5.resolve_left (fun q => absurd (q.1.symm.trans c_7) (by decide))).2
      have h_91 : rg x_1 0 0 := rg_and h_6 (rg_of_eq c_7 (rg_k (0 : Int32) 0 rfl)) (by decide)
      refine lv_ldc hx hb hown (hts _ (tw_c tw_269)) dX11_cellOf_8 ?_
      subst hQ
      exact W.iret (v := (-1000000)) hx hb hr (fun t1 ht hW => ⟨⟨(-1000000), (σ, I, J, ri, rj, rq), rfl, rfl, by rw [ht]; exact hP, va_K.moved hW.alike hK, hD⟩, hS.F ht⟩) hS.2.2 dX11_cellOf_10
  exact go _ _ _ hP hD hS hl

set_option maxHeartbeats 4000000 in
set_option maxRecDepth 100000 in
theorem s_X11_personOf (l : Launch) (D : va_G) (t : pq_T) (σ : pq_S) (I : Nat → Nat → Int32) (J : Nat → Nat → Int64) (ri : Nat → Nat → Int32) (rj : Nat → Nat → Int64) (rq : Nat → Nat → Option Nat) (sz : Nat) (tg : Nat → Nat) (hSH : SH σ tg) (hG0 : GS tg σ I ri rq) (this : Nat) (a0 : Int32) (a1 : Int32) (hL_this : this ∈ σ.1) (hK_this : σ.2.1 this = 11) : MetI l yX11_personOf (wa yX11_personOf cX11_personOf 4 (some .int)) ({ frames := 2, cells := 0, slots := 0, locals := 43 }) [.ref this, .int a0, .int a1] D t σ (I, J, ri, rj, rq) sz 0 0 (fun (r : Int32) (u : pq_S × pq_M) => u = (σ, I, J, ri, rj, rq)) := by
  refine Met.ofW (cc := cX11_personOf) (maxL := 4) (ret := (some .int)) (by decide) rfl ?_
  intro p e s m args below meth c s₁ B hml hv
  obtain ⟨rfl, hsz, hP, hK, hD0, hN⟩ := hv
  have hx := B.exec
  have hb := B.bytes
  have hr := B.returns
  have hts := atoms_spec (ws := (wa yX11_personOf cX11_personOf 4 (some .int))) B.pre
  have hown : s.vm.findClass RX11 = some m.cls := findClass_of_methodNamed B.named
  have hlocks := B.notSynchronized
  subst hsz
  have hD : va_D (pq_B t σ (I, J, ri, rj, rq) s.heap.size) (pq_P t σ (I, J, ri, rj, rq)) := hD0.self
  generalize hAe : pq_B t σ (I, J, ri, rj, rq) s.heap.size = A at hD ⊢
  have hA : ∀ q : Nat, s.heap.size ≤ q → A q := fun q h => by rw [← hAe]; exact Or.inr h
  have hS : va_S A s.heap s.heap [] := va_S.rf
  have hG : GX [] tg σ I ri rj I ri rj rq := ⟨hG0, fun _ _ _ => rfl, fun _ _ _ _ _ => rfl, fun _ _ _ _ _ => rfl⟩
  have hl := lv_entry ([.ref this, .int a0, .int a1]) (n := 4) (Nat.le_of_ble_eq_true rfl)
  rw [lg_entry_eq]
  generalize (lg_sl ([.ref this, .int a0, .int a1]) ++ List.replicate (4 - (lg_sl ([.ref this, .int a0, .int a1])).length) Slot.unset).toArray = ls at hl ⊢
  have hl : lv_has ls 4 [(0, .ref this), (1, .int a0), (2, .int a1)] := hl
  refine q_gen (fun Q hQ => ?_)
  have go : ∀ (H : Heap) (locs : List Loc) (ls : Array Slot), va_P D vwCl (pq_P t σ (I, J, ri, rj, rq)) H → va_D A (pq_P t σ (I, J, ri, rj, rq)) → va_S A s.heap H locs → lv_has ls 4 [(0, .ref this), (1, .int a0), (2, .int a1)] → W p l e ({ frames := 2, cells := 0, slots := 0, locals := 43 } : Room) s m (List.toArray ([.ref this, .int a0, .int a1] : List Value)) below meth c H locs 0 0 Q (F0 m 0 ls []) := by
    intro H locs ls hP hD hS hl
    refine lv_aload_n hx hb dX11_personOf_0 rfl (lv_at hl 0 rfl) ?_
    refine lv_iload_n hx hb dX11_personOf_1 rfl (lv_at hl 1 rfl) ?_
    refine pk_i (va_runV (As := [.int a0]) (rest := []) ⟨hx, hb, hml, hown, hts⟩ (s_X11_isPerson l D t σ I J ri rj rq H.size tg hSH hG.1 this a0 hL_this hK_this) (cwV 1 hts (tw_V tw_405 tw_406 tw_407 tw_2 tw_408) rfl rfl rfl cv_yX11_isPerson_1 ⟨Nat.le_of_ble_eq_true rfl, Nat.le_of_ble_eq_true rfl⟩) ⟨pq_blind, pq_recv hK hP hL_this hK_this (by decide) rfl, pq_pre hK hN hP hD⟩ rfl rfl hl.1 rfl (lv_room (Nat.le_of_ble_eq_true rfl)) dX11_personOf_2 ⟨Nat.le_of_ble_eq_true rfl, Nat.le_of_ble_eq_true rfl⟩) hD hS hA (fun x_1 σ1 μ1 H locs hw_2 hP hD hS => ?_)
    obtain ⟨hu_3, hr_5⟩ := hw_2
    obtain ⟨hu_3a, hu_3b⟩ := Prod.mk.inj hu_3
    rw [hu_3a, hu_3b] at hP hD
    have h_6 : rg x_1 0 1 := by rcases hr_5 with ⟨q, -⟩ | ⟨q, -⟩ <;> rw [q] <;> exact ⟨by decide, by decide⟩
    refine lv_if_ne (tgt := 10) hx hb dX11_personOf_5 (by decide) (fun c_7 => ?_) (fun c_7 => ?_)
    · have f_8 := (hr_5.resolve_right (fun q => c_7 q.1)).2
      have h_9 : rg x_1 1 1 := rg_ne c_7 h_6 0 rfl (by decide)
      refine lv_aload_n hx hb dX11_personOf_10 rfl (lv_at hl 0 rfl) ?_
      obtain ⟨w_10, hR_w_10, hL_w_10, hK_w_10⟩ := sh_o hSH 352 (ci := 11) (kd := 10) rfl hL_this hK_this
      refine pg_f (v := .ref w_10) (C := RX11) (T := TX11) (N := 5) hx hb hts (tw_i inlX11) hown hK hP hL_this hK_this (by decide) rfl 0 (by decide) (hts _ (tw_c tw_16)) (pq_hv rfl hR_w_10) dX11_personOf_11 ?_
      obtain ⟨w_11, hR_w_11, hL_w_11, hK_w_11⟩ := sh_o hSH 328 (ci := 10) (kd := 0) rfl hL_w_10 hK_w_10
      refine pg_f (v := .ref w_11) (C := RX10) (T := TX10) (N := 13) hx hb hts (tw_i inlX10) hown hK hP hL_w_10 hK_w_10 (by decide) rfl 8 (by decide) (hts _ (tw_c tw_379)) (pq_hv rfl hR_w_11) dX11_personOf_14 ?_
      refine lv_astore_n (lv' := [(3, .ref w_11), (0, .ref this), (1, .int a0), (2, .int a1)]) hx hb dX11_personOf_17 rfl hl (by decide) rfl (fun ls hl => ?_)
      refine lv_iload_n hx hb dX11_personOf_18 rfl (lv_at hl 3 rfl) ?_
      by_cases k_12 : a1 = (0 : Int32)
      · have h_13 : rg a1 0 0 := rg_and (rg_full _) (rg_of_eq k_12 (rg_k (0 : Int32) 0 rfl)) (by decide)
        refine lv_tov 0 k_12 ?_
        refine lv_tableIn (tgt := 64) hx hb dX11_personOf_19 (by decide) (by decide) rfl (by decide) ?_
        refine lv_aload_n hx hb dX11_personOf_64 rfl (lv_at hl 0 rfl) ?_
        obtain ⟨w_14, hR_w_14, hL_w_14, hK_w_14, hN_w_14, hT_w_14⟩ := sh_a hSH 5 (ci := 0) (kd := 13) (len := 40) rfl (by decide) hL_w_11 hK_w_11
        refine pg_f (v := .ref w_14) (C := RX0) (T := TX0) (N := 16) hx hb hts (tw_i inlX0) hown hK hP hL_w_11 hK_w_11 (by decide) rfl 5 (by decide) (hts _ (tw_c tw_404)) (pq_hv rfl hR_w_14) dX11_personOf_65 ?_
        refine lv_iload_n hx hb dX11_personOf_68 rfl (lv_at hl 2 rfl) ?_
        refine pl_i hx hb hK hP hL_w_14 hK_w_14 hN_w_14 (rg_in f_8 (by decide)) dX11_personOf_69 ?_
        refine lv_topi (fun x_15 ex_15 => ?_)
        have h_16 : rg x_15 0 300 := rg_of_eq ex_15 (GX.rR hG hT_w_14 rfl)
        subst hQ
        exact W.iret (v := x_15) hx hb hr (fun t1 ht hW => ⟨⟨x_15, (σ, I, J, ri, rj, rq), rfl, rfl, by rw [ht]; exact hP, va_K.moved hW.alike hK, hD⟩, hS.F ht⟩) hS.2.2 dX11_personOf_70
      by_cases k_17 : a1 = (1 : Int32)
      · have h_18 : rg a1 1 1 := rg_and (rg_full _) (rg_of_eq k_17 (rg_k (1 : Int32) 1 rfl)) (by decide)
        refine lv_tov 1 k_17 ?_
        refine lv_tableIn (tgt := 71) hx hb dX11_personOf_19 (by decide) (by decide) rfl (by decide) ?_
        refine lv_aload_n hx hb dX11_personOf_71 rfl (lv_at hl 0 rfl) ?_
        obtain ⟨w_19, hR_w_19, hL_w_19, hK_w_19, hN_w_19, hT_w_19⟩ := sh_a hSH 1 (ci := 0) (kd := 13) (len := 40) rfl (by decide) hL_w_11 hK_w_11
        refine pg_f (v := .ref w_19) (C := RX0) (T := TX0) (N := 16) hx hb hts (tw_i inlX0) hown hK hP hL_w_11 hK_w_11 (by decide) rfl 1 (by decide) (hts _ (tw_c tw_1292)) (pq_hv rfl hR_w_19) dX11_personOf_72 ?_
        refine lv_iload_n hx hb dX11_personOf_75 rfl (lv_at hl 2 rfl) ?_
        refine pl_i hx hb hK hP hL_w_19 hK_w_19 hN_w_19 (rg_in f_8 (by decide)) dX11_personOf_76 ?_
        refine lv_topi (fun x_20 ex_20 => ?_)
        have h_21 : rg x_20 0 9 := rg_of_eq ex_20 (GX.rR hG hT_w_19 rfl)
        subst hQ
        exact W.iret (v := x_20) hx hb hr (fun t1 ht hW => ⟨⟨x_20, (σ, I, J, ri, rj, rq), rfl, rfl, by rw [ht]; exact hP, va_K.moved hW.alike hK, hD⟩, hS.F ht⟩) hS.2.2 dX11_personOf_77
      by_cases k_22 : a1 = (2 : Int32)
      · have h_23 : rg a1 2 2 := rg_and (rg_full _) (rg_of_eq k_22 (rg_k (2 : Int32) 2 rfl)) (by decide)
        refine lv_tov 2 k_22 ?_
        refine lv_tableIn (tgt := 78) hx hb dX11_personOf_19 (by decide) (by decide) rfl (by decide) ?_
        refine lv_aload_n hx hb dX11_personOf_78 rfl (lv_at hl 0 rfl) ?_
        obtain ⟨w_24, hR_w_24, hL_w_24, hK_w_24, hN_w_24, hT_w_24⟩ := sh_a hSH 2 (ci := 0) (kd := 13) (len := 40) rfl (by decide) hL_w_11 hK_w_11
        refine pg_f (v := .ref w_24) (C := RX0) (T := TX0) (N := 16) hx hb hts (tw_i inlX0) hown hK hP hL_w_11 hK_w_11 (by decide) rfl 2 (by decide) (hts _ (tw_c tw_1293)) (pq_hv rfl hR_w_24) dX11_personOf_79 ?_
        refine lv_iload_n hx hb dX11_personOf_82 rfl (lv_at hl 2 rfl) ?_
        refine pl_i hx hb hK hP hL_w_24 hK_w_24 hN_w_24 (rg_in f_8 (by decide)) dX11_personOf_83 ?_
        refine lv_topi (fun x_25 ex_25 => ?_)
        subst hQ
        exact W.iret (v := x_25) hx hb hr (fun t1 ht hW => ⟨⟨x_25, (σ, I, J, ri, rj, rq), rfl, rfl, by rw [ht]; exact hP, va_K.moved hW.alike hK, hD⟩, hS.F ht⟩) hS.2.2 dX11_personOf_84
      by_cases k_26 : a1 = (3 : Int32)
      · have h_27 : rg a1 3 3 := rg_and (rg_full _) (rg_of_eq k_26 (rg_k (3 : Int32) 3 rfl)) (by decide)
        refine lv_tov 3 k_26 ?_
        refine lv_tableIn (tgt := 85) hx hb dX11_personOf_19 (by decide) (by decide) rfl (by decide) ?_
        refine lv_aload_n hx hb dX11_personOf_85 rfl (lv_at hl 0 rfl) ?_
        obtain ⟨w_28, hR_w_28, hL_w_28, hK_w_28, hN_w_28, hT_w_28⟩ := sh_a hSH 3 (ci := 0) (kd := 13) (len := 40) rfl (by decide) hL_w_11 hK_w_11
        refine pg_f (v := .ref w_28) (C := RX0) (T := TX0) (N := 16) hx hb hts (tw_i inlX0) hown hK hP hL_w_11 hK_w_11 (by decide) rfl 3 (by decide) (hts _ (tw_c tw_1294)) (pq_hv rfl hR_w_28) dX11_personOf_86 ?_
        refine lv_iload_n hx hb dX11_personOf_89 rfl (lv_at hl 2 rfl) ?_
        refine pl_i hx hb hK hP hL_w_28 hK_w_28 hN_w_28 (rg_in f_8 (by decide)) dX11_personOf_90 ?_
        refine lv_topi (fun x_29 ex_29 => ?_)
        subst hQ
        exact W.iret (v := x_29) hx hb hr (fun t1 ht hW => ⟨⟨x_29, (σ, I, J, ri, rj, rq), rfl, rfl, by rw [ht]; exact hP, va_K.moved hW.alike hK, hD⟩, hS.F ht⟩) hS.2.2 dX11_personOf_91
      by_cases k_30 : a1 = (4 : Int32)
      · have h_31 : rg a1 4 4 := rg_and (rg_full _) (rg_of_eq k_30 (rg_k (4 : Int32) 4 rfl)) (by decide)
        refine lv_tov 4 k_30 ?_
        refine lv_tableIn (tgt := 92) hx hb dX11_personOf_19 (by decide) (by decide) rfl (by decide) ?_
        refine lv_aload_n hx hb dX11_personOf_92 rfl (lv_at hl 0 rfl) ?_
        obtain ⟨w_32, hR_w_32, hL_w_32, hK_w_32, hN_w_32, hT_w_32⟩ := sh_a hSH 4 (ci := 0) (kd := 13) (len := 40) rfl (by decide) hL_w_11 hK_w_11
        refine pg_f (v := .ref w_32) (C := RX0) (T := TX0) (N := 16) hx hb hts (tw_i inlX0) hown hK hP hL_w_11 hK_w_11 (by decide) rfl 4 (by decide) (hts _ (tw_c tw_1295)) (pq_hv rfl hR_w_32) dX11_personOf_93 ?_
        refine lv_iload_n hx hb dX11_personOf_96 rfl (lv_at hl 2 rfl) ?_
        refine pl_i hx hb hK hP hL_w_32 hK_w_32 hN_w_32 (rg_in f_8 (by decide)) dX11_personOf_97 ?_
        refine lv_topi (fun x_33 ex_33 => ?_)
        subst hQ
        exact W.iret (v := x_33) hx hb hr (fun t1 ht hW => ⟨⟨x_33, (σ, I, J, ri, rj, rq), rfl, rfl, by rw [ht]; exact hP, va_K.moved hW.alike hK, hD⟩, hS.F ht⟩) hS.2.2 dX11_personOf_98
      by_cases k_34 : a1 = (5 : Int32)
      · have h_35 : rg a1 5 5 := rg_and (rg_full _) (rg_of_eq k_34 (rg_k (5 : Int32) 5 rfl)) (by decide)
        refine lv_tov 5 k_34 ?_
        refine lv_tableIn (tgt := 99) hx hb dX11_personOf_19 (by decide) (by decide) rfl (by decide) ?_
        refine lv_aload_n hx hb dX11_personOf_99 rfl (lv_at hl 0 rfl) ?_
        obtain ⟨w_36, hR_w_36, hL_w_36, hK_w_36, hN_w_36, hT_w_36⟩ := sh_a hSH 6 (ci := 0) (kd := 13) (len := 40) rfl (by decide) hL_w_11 hK_w_11
        refine pg_f (v := .ref w_36) (C := RX0) (T := TX0) (N := 16) hx hb hts (tw_i inlX0) hown hK hP hL_w_11 hK_w_11 (by decide) rfl 6 (by decide) (hts _ (tw_c tw_1296)) (pq_hv rfl hR_w_36) dX11_personOf_100 ?_
        refine lv_iload_n hx hb dX11_personOf_103 rfl (lv_at hl 2 rfl) ?_
        refine pl_i hx hb hK hP hL_w_36 hK_w_36 hN_w_36 (rg_in f_8 (by decide)) dX11_personOf_104 ?_
        refine lv_topi (fun x_37 ex_37 => ?_)
        subst hQ
        exact W.iret (v := x_37) hx hb hr (fun t1 ht hW => ⟨⟨x_37, (σ, I, J, ri, rj, rq), rfl, rfl, by rw [ht]; exact hP, va_K.moved hW.alike hK, hD⟩, hS.F ht⟩) hS.2.2 dX11_personOf_105
      by_cases k_38 : a1 = (6 : Int32)
      · have h_39 : rg a1 6 6 := rg_and (rg_full _) (rg_of_eq k_38 (rg_k (6 : Int32) 6 rfl)) (by decide)
        refine lv_tov 6 k_38 ?_
        refine lv_tableIn (tgt := 106) hx hb dX11_personOf_19 (by decide) (by decide) rfl (by decide) ?_
        refine lv_aload_n hx hb dX11_personOf_106 rfl (lv_at hl 0 rfl) ?_
        obtain ⟨w_40, hR_w_40, hL_w_40, hK_w_40, hN_w_40, hT_w_40⟩ := sh_a hSH 7 (ci := 0) (kd := 13) (len := 40) rfl (by decide) hL_w_11 hK_w_11
        refine pg_f (v := .ref w_40) (C := RX0) (T := TX0) (N := 16) hx hb hts (tw_i inlX0) hown hK hP hL_w_11 hK_w_11 (by decide) rfl 7 (by decide) (hts _ (tw_c tw_1297)) (pq_hv rfl hR_w_40) dX11_personOf_107 ?_
        refine lv_iload_n hx hb dX11_personOf_110 rfl (lv_at hl 2 rfl) ?_
        refine pl_i hx hb hK hP hL_w_40 hK_w_40 hN_w_40 (rg_in f_8 (by decide)) dX11_personOf_111 ?_
        refine lv_topi (fun x_41 ex_41 => ?_)
        subst hQ
        exact W.iret (v := x_41) hx hb hr (fun t1 ht hW => ⟨⟨x_41, (σ, I, J, ri, rj, rq), rfl, rfl, by rw [ht]; exact hP, va_K.moved hW.alike hK, hD⟩, hS.F ht⟩) hS.2.2 dX11_personOf_112
      by_cases k_42 : a1 = (7 : Int32)
      · have h_43 : rg a1 7 7 := rg_and (rg_full _) (rg_of_eq k_42 (rg_k (7 : Int32) 7 rfl)) (by decide)
        refine lv_tov 7 k_42 ?_
        refine lv_tableIn (tgt := 113) hx hb dX11_personOf_19 (by decide) (by decide) rfl (by decide) ?_
        refine lv_aload_n hx hb dX11_personOf_113 rfl (lv_at hl 0 rfl) ?_
        obtain ⟨w_44, hR_w_44, hL_w_44, hK_w_44, hN_w_44, hT_w_44⟩ := sh_a hSH 8 (ci := 0) (kd := 13) (len := 40) rfl (by decide) hL_w_11 hK_w_11
        refine pg_f (v := .ref w_44) (C := RX0) (T := TX0) (N := 16) hx hb hts (tw_i inlX0) hown hK hP hL_w_11 hK_w_11 (by decide) rfl 8 (by decide) (hts _ (tw_c tw_1298)) (pq_hv rfl hR_w_44) dX11_personOf_114 ?_
        refine lv_iload_n hx hb dX11_personOf_117 rfl (lv_at hl 2 rfl) ?_
        refine pl_i hx hb hK hP hL_w_44 hK_w_44 hN_w_44 (rg_in f_8 (by decide)) dX11_personOf_118 ?_
        refine lv_topi (fun x_45 ex_45 => ?_)
        subst hQ
        exact W.iret (v := x_45) hx hb hr (fun t1 ht hW => ⟨⟨x_45, (σ, I, J, ri, rj, rq), rfl, rfl, by rw [ht]; exact hP, va_K.moved hW.alike hK, hD⟩, hS.F ht⟩) hS.2.2 dX11_personOf_119
      refine lv_tableOut (tgt := 120) hx hb dX11_personOf_19 (by have z_k_12 := sw_ne k_12 (n := 0) rfl; have z_k_17 := sw_ne k_17 (n := 1) rfl; have z_k_22 := sw_ne k_22 (n := 2) rfl; have z_k_26 := sw_ne k_26 (n := 3) rfl; have z_k_30 := sw_ne k_30 (n := 4) rfl; have z_k_34 := sw_ne k_34 (n := 5) rfl; have z_k_38 := sw_ne k_38 (n := 6) rfl; have z_k_42 := sw_ne k_42 (n := 7) rfl; omega) (by decide) ?_
      refine lv_iconst (v := (-1)) hx hb dX11_personOf_120 (by decide) ?_
      subst hQ
      exact W.iret (v := (-1)) hx hb hr (fun t1 ht hW => ⟨⟨(-1), (σ, I, J, ri, rj, rq), rfl, rfl, by rw [ht]; exact hP, va_K.moved hW.alike hK, hD⟩, hS.F ht⟩) hS.2.2 dX11_personOf_121
    · have f_46 := (hr_5.resolve_left (fun q => absurd (q.1.symm.trans c_7) (by decide))).2
      have h_47 : rg x_1 0 0 := rg_and h_6 (rg_of_eq c_7 (rg_k (0 : Int32) 0 rfl)) (by decide)
      refine lv_iconst (v := (-1)) hx hb dX11_personOf_8 (by decide) ?_
      subst hQ
      exact W.iret (v := (-1)) hx hb hr (fun t1 ht hW => ⟨⟨(-1), (σ, I, J, ri, rj, rq), rfl, rfl, by rw [ht]; exact hP, va_K.moved hW.alike hK, hD⟩, hS.F ht⟩) hS.2.2 dX11_personOf_9
  exact go _ _ _ hP hD hS hl

set_option maxHeartbeats 4000000 in
set_option maxRecDepth 100000 in
theorem s_X11_at (l : Launch) (D : va_G) (t : pq_T) (σ : pq_S) (I : Nat → Nat → Int32) (J : Nat → Nat → Int64) (ri : Nat → Nat → Int32) (rj : Nat → Nat → Int64) (rq : Nat → Nat → Option Nat) (sz : Nat) (tg : Nat → Nat) (hSH : SH σ tg) (hG0 : GS tg σ I ri rq) (this : Nat) (a0 : Int32) (hL_this : this ∈ σ.1) (hK_this : σ.2.1 this = 11) : MetI l yX11_at (wa yX11_at cX11_at 3 (some .int)) ({ frames := 2, cells := 0, slots := 0, locals := 43 }) [.ref this, .int a0] D t σ (I, J, ri, rj, rq) sz 0 0 (fun (r : Int32) (u : pq_S × pq_M) => u = (σ, I, J, ri, rj, rq)) := by
  refine Met.ofW (cc := cX11_at) (maxL := 3) (ret := (some .int)) (by decide) rfl ?_
  intro p e s m args below meth c s₁ B hml hv
  obtain ⟨rfl, hsz, hP, hK, hD0, hN⟩ := hv
  have hx := B.exec
  have hb := B.bytes
  have hr := B.returns
  have hts := atoms_spec (ws := (wa yX11_at cX11_at 3 (some .int))) B.pre
  have hown : s.vm.findClass RX11 = some m.cls := findClass_of_methodNamed B.named
  have hlocks := B.notSynchronized
  subst hsz
  have hD : va_D (pq_B t σ (I, J, ri, rj, rq) s.heap.size) (pq_P t σ (I, J, ri, rj, rq)) := hD0.self
  generalize hAe : pq_B t σ (I, J, ri, rj, rq) s.heap.size = A at hD ⊢
  have hA : ∀ q : Nat, s.heap.size ≤ q → A q := fun q h => by rw [← hAe]; exact Or.inr h
  have hS : va_S A s.heap s.heap [] := va_S.rf
  have hG : GX [] tg σ I ri rj I ri rj rq := ⟨hG0, fun _ _ _ => rfl, fun _ _ _ _ _ => rfl, fun _ _ _ _ _ => rfl⟩
  have hl := lv_entry ([.ref this, .int a0]) (n := 3) (Nat.le_of_ble_eq_true rfl)
  rw [lg_entry_eq]
  generalize (lg_sl ([.ref this, .int a0]) ++ List.replicate (3 - (lg_sl ([.ref this, .int a0])).length) Slot.unset).toArray = ls at hl ⊢
  have hl : lv_has ls 3 [(0, .ref this), (1, .int a0)] := hl
  refine q_gen (fun Q hQ => ?_)
  have go : ∀ (H : Heap) (locs : List Loc) (ls : Array Slot), va_P D vwCl (pq_P t σ (I, J, ri, rj, rq)) H → va_D A (pq_P t σ (I, J, ri, rj, rq)) → va_S A s.heap H locs → lv_has ls 3 [(0, .ref this), (1, .int a0)] → W p l e ({ frames := 2, cells := 0, slots := 0, locals := 43 } : Room) s m (List.toArray ([.ref this, .int a0] : List Value)) below meth c H locs 0 0 Q (F0 m 0 ls []) := by
    intro H locs ls hP hD hS hl
    refine lv_aload_n hx hb dX11_at_0 rfl (lv_at hl 0 rfl) ?_
    refine lv_iload_n hx hb dX11_at_1 rfl (lv_at hl 1 rfl) ?_
    refine pk_i (va_runV (As := [.int a0]) (rest := []) ⟨hx, hb, hml, hown, hts⟩ (s_X11_isRing l D t σ I J ri rj rq H.size tg hSH hG.1 this a0 hL_this hK_this) (cwV 1 hts (tw_V tw_211 tw_212 tw_213 tw_2 tw_214) rfl rfl rfl cv_yX11_isRing_1 ⟨Nat.le_of_ble_eq_true rfl, Nat.le_of_ble_eq_true rfl⟩) ⟨pq_blind, pq_recv hK hP hL_this hK_this (by decide) rfl, pq_pre hK hN hP hD⟩ rfl rfl hl.1 rfl (lv_room (Nat.le_of_ble_eq_true rfl)) dX11_at_2 ⟨Nat.le_of_ble_eq_true rfl, Nat.le_of_ble_eq_true rfl⟩) hD hS hA (fun x_1 σ1 μ1 H locs hw_2 hP hD hS => ?_)
    obtain ⟨hu_3, hr_5⟩ := hw_2
    obtain ⟨hu_3a, hu_3b⟩ := Prod.mk.inj hu_3
    rw [hu_3a, hu_3b] at hP hD
    have h_6 : rg x_1 0 1 := by rcases hr_5 with ⟨q, -⟩ | ⟨q, -⟩ <;> rw [q] <;> exact ⟨by decide, by decide⟩
    have K_39 : ∀  (H : Heap) (locs : List Loc) (ls : Array Slot), rg (x_1) 0 0 → GX [] tg σ I ri rj I ri rj rq → va_P D vwCl (pq_P t σ (I, J, ri, rj, rq)) H → va_D A (pq_P t σ (I, J, ri, rj, rq)) → va_S A s.heap H locs → lv_has ls 3 [(0, .ref this), (1, .int a0)] → W p l e ({ frames := 2, cells := 0, slots := 0, locals := 43 } : Room) s m (List.toArray ([.ref this, .int a0] : List Value)) below meth c H locs 0 0 Q (F0 m 35 ls [.int 0]) := by
      intro H locs ls h_41 hG hP hD hS hl
      refine lv_istore_n (lv' := [(2, .int 0), (0, .ref this), (1, .int a0)]) hx hb dX11_at_35 rfl hl (by decide) rfl (fun ls hl => ?_)
      refine lv_iload_n hx hb dX11_at_36 rfl (lv_at hl 0 rfl) ?_
      refine lv_if_eq (tgt := 54) hx hb dX11_at_37 (by decide) (fun c_42 => ?_) (fun c_42 => absurd c_42 (by decide))
      refine lv_iconst (v := (-1)) hx hb dX11_at_54 (by decide) ?_
      subst hQ
      exact W.iret (v := (-1)) hx hb hr (fun t1 ht hW => ⟨⟨(-1), (σ, I, J, ri, rj, rq), rfl, rfl, by rw [ht]; exact hP, va_K.moved hW.alike hK, hD⟩, hS.F ht⟩) hS.2.2 dX11_at_55
    have K_43 : ∀  (H : Heap) (locs : List Loc) (ls : Array Slot), rg (a0) 0 300 → GX [] tg σ I ri rj I ri rj rq → va_P D vwCl (pq_P t σ (I, J, ri, rj, rq)) H → va_D A (pq_P t σ (I, J, ri, rj, rq)) → va_S A s.heap H locs → lv_has ls 3 [(0, .ref this), (1, .int a0)] → W p l e ({ frames := 2, cells := 0, slots := 0, locals := 43 } : Room) s m (List.toArray ([.ref this, .int a0] : List Value)) below meth c H locs 0 0 Q (F0 m 35 ls [.int 1]) := by
      intro H locs ls h_45 hG hP hD hS hl
      refine lv_istore_n (lv' := [(2, .int 1), (0, .ref this), (1, .int a0)]) hx hb dX11_at_35 rfl hl (by decide) rfl (fun ls hl => ?_)
      refine lv_iload_n hx hb dX11_at_36 rfl (lv_at hl 0 rfl) ?_
      refine lv_if_eq (tgt := 54) hx hb dX11_at_37 (by decide) (fun c_46 => absurd c_46 (by decide)) (fun c_46 => ?_)
      refine lv_aload_n hx hb dX11_at_40 rfl (lv_at hl 1 rfl) ?_
      obtain ⟨w_47, hR_w_47, hL_w_47, hK_w_47⟩ := sh_o hSH 352 (ci := 11) (kd := 10) rfl hL_this hK_this
      refine pg_f (v := .ref w_47) (C := RX11) (T := TX11) (N := 5) hx hb hts (tw_i inlX11) hown hK hP hL_this hK_this (by decide) rfl 0 (by decide) (hts _ (tw_c tw_16)) (pq_hv rfl hR_w_47) dX11_at_41 ?_
      obtain ⟨w_48, hR_w_48, hL_w_48, hK_w_48⟩ := sh_o hSH 328 (ci := 10) (kd := 0) rfl hL_w_47 hK_w_47
      refine pg_f (v := .ref w_48) (C := RX10) (T := TX10) (N := 13) hx hb hts (tw_i inlX10) hown hK hP hL_w_47 hK_w_47 (by decide) rfl 8 (by decide) (hts _ (tw_c tw_379)) (pq_hv rfl hR_w_48) dX11_at_44 ?_
      refine lv_iload_n hx hb dX11_at_47 rfl (lv_at hl 2 rfl) ?_
      refine pk_i (va_runV (As := [.int a0]) (rest := []) ⟨hx, hb, hml, hown, hts⟩ (s_X0_countAt l D t σ I J ri rj rq H.size tg hSH hG.1 w_48 a0 hL_w_48 hK_w_48) (cwV 1 hts (tw_V tw_1307 tw_418 tw_419 tw_45 tw_420) rfl rfl rfl cv_yX0_countAt_1 ⟨Nat.le_of_ble_eq_true rfl, Nat.le_of_ble_eq_true rfl⟩) ⟨pq_blind, pq_recv hK hP hL_w_48 hK_w_48 (by decide) rfl, pq_pre hK hN hP hD⟩ rfl rfl hl.1 rfl (lv_room (Nat.le_of_ble_eq_true rfl)) dX11_at_48 ⟨Nat.le_of_ble_eq_true rfl, Nat.le_of_ble_eq_true rfl⟩) hD hS hA (fun x_49 σ1 μ1 H locs hw_50 hP hD hS => ?_)
      have hu_51 := hw_50
      obtain ⟨hu_51a, hu_51b⟩ := Prod.mk.inj hu_51
      rw [hu_51a, hu_51b] at hP hD
      refine lv_goto (tgt := 55) hx hb dX11_at_51 (by decide) ?_
      subst hQ
      exact W.iret (v := x_49) hx hb hr (fun t1 ht hW => ⟨⟨x_49, (σ, I, J, ri, rj, rq), rfl, rfl, by rw [ht]; exact hP, va_K.moved hW.alike hK, hD⟩, hS.F ht⟩) hS.2.2 dX11_at_55
    have K_54 : ∀  (H : Heap) (locs : List Loc) (ls : Array Slot), rg (a0) 0 300 → GX [] tg σ I ri rj I ri rj rq → va_P D vwCl (pq_P t σ (I, J, ri, rj, rq)) H → va_D A (pq_P t σ (I, J, ri, rj, rq)) → va_S A s.heap H locs → lv_has ls 3 [(0, .ref this), (1, .int a0)] → W p l e ({ frames := 2, cells := 0, slots := 0, locals := 43 } : Room) s m (List.toArray ([.ref this, .int a0] : List Value)) below meth c H locs 0 0 Q (F0 m 30 ls []) := by
      intro H locs ls h_56 hG hP hD hS hl
      refine lv_iconst (v := 1) hx hb dX11_at_30 (by decide) ?_
      refine lv_goto (tgt := 35) hx hb dX11_at_31 (by decide) ?_
      exact K_43 _ _ _ (rg_w h_56 (by decide)) hG hP hD hS (lv_sub hl [0, 1] rfl)
    refine lv_if_ne (tgt := 30) hx hb dX11_at_5 (by decide) (fun c_57 => ?_) (fun c_57 => ?_)
    · have f_58 := (hr_5.resolve_right (fun q => c_57 q.1)).2
      have h_59 : rg x_1 1 1 := rg_ne c_57 h_6 0 rfl (by decide)
      exact K_54 _ _ _ (rg_w f_58 (by decide)) hG hP hD hS (lv_sub hl [0, 1] rfl)
    · have f_60 := (hr_5.resolve_left (fun q => absurd (q.1.symm.trans c_57) (by decide))).2
      have h_61 : rg x_1 0 0 := rg_and h_6 (rg_of_eq c_57 (rg_k (0 : Int32) 0 rfl)) (by decide)
      refine lv_aload_n hx hb dX11_at_8 rfl (lv_at hl 0 rfl) ?_
      refine lv_iload_n hx hb dX11_at_9 rfl (lv_at hl 1 rfl) ?_
      refine pk_i (va_runV (As := [.int a0]) (rest := []) ⟨hx, hb, hml, hown, hts⟩ (s_X11_isLot l D t σ I J ri rj rq H.size tg hSH hG.1 this a0 hL_this hK_this) (cwV 1 hts (tw_V tw_409 tw_410 tw_411 tw_2 tw_412) rfl rfl rfl cv_yX11_isLot_1 ⟨Nat.le_of_ble_eq_true rfl, Nat.le_of_ble_eq_true rfl⟩) ⟨pq_blind, pq_recv hK hP hL_this hK_this (by decide) rfl, pq_pre hK hN hP hD⟩ rfl rfl hl.1 rfl (lv_room (Nat.le_of_ble_eq_true rfl)) dX11_at_10 ⟨Nat.le_of_ble_eq_true rfl, Nat.le_of_ble_eq_true rfl⟩) hD hS hA (fun x_62 σ1 μ1 H locs hw_63 hP hD hS => ?_)
      obtain ⟨hu_64, hr_66⟩ := hw_63
      obtain ⟨hu_64a, hu_64b⟩ := Prod.mk.inj hu_64
      rw [hu_64a, hu_64b] at hP hD
      have h_67 : rg x_62 0 1 := by rcases hr_66 with ⟨q, -⟩ | ⟨q, -⟩ <;> rw [q] <;> exact ⟨by decide, by decide⟩
      refine lv_if_ne (tgt := 30) hx hb dX11_at_13 (by decide) (fun c_68 => ?_) (fun c_68 => ?_)
      · have f_69 := (hr_66.resolve_right (fun q => c_68 q.1)).2
        have h_70 : rg x_62 1 1 := rg_ne c_68 h_67 0 rfl (by decide)
        exact K_54 _ _ _ (rg_w f_69 (by decide)) hG hP hD hS (lv_sub hl [0, 1] rfl)
      · have f_71 := (hr_66.resolve_left (fun q => absurd (q.1.symm.trans c_68) (by decide))).2
        have h_72 : rg x_62 0 0 := rg_and h_67 (rg_of_eq c_68 (rg_k (0 : Int32) 0 rfl)) (by decide)
        refine lv_iload_n hx hb dX11_at_16 rfl (lv_at hl 1 rfl) ?_
        refine lv_sipush (v := 200) hx hb dX11_at_17 (by decide) ?_
        refine lv_icmp_eq (tgt := 30) hx hb dX11_at_20 (by decide) (fun c_73 => ?_) (fun c_73 => ?_)
        · have h_74 : rg a0 200 200 := rg_and (rg_full _) (rg_of_eq c_73 (rg_k (200 : Int32) 200 rfl)) (by decide)
          exact K_54 _ _ _ (rg_w h_74 (by decide)) hG hP hD hS (lv_sub hl [0, 1] rfl)
        · refine lv_iload_n hx hb dX11_at_23 rfl (lv_at hl 1 rfl) ?_
          refine lv_sipush (v := 300) hx hb dX11_at_24 (by decide) ?_
          refine lv_icmp_ne (tgt := 34) hx hb dX11_at_27 (by decide) (fun c_75 => ?_) (fun c_75 => ?_)
          · refine lv_iconst (v := 0) hx hb dX11_at_34 (by decide) ?_
            exact K_39 _ _ _ (rg_w h_61 (by decide)) hG hP hD hS (lv_sub hl [0, 1] rfl)
          · have h_76 : rg a0 300 300 := rg_and (rg_full _) (rg_of_eq c_75 (rg_k (300 : Int32) 300 rfl)) (by decide)
            exact K_54 _ _ _ (rg_w h_76 (by decide)) hG hP hD hS (lv_sub hl [0, 1] rfl)
  exact go _ _ _ hP hD hS hl

set_option maxHeartbeats 4000000 in
set_option maxRecDepth 100000 in
theorem s_X11_area (l : Launch) (D : va_G) (t : pq_T) (σ : pq_S) (I : Nat → Nat → Int32) (J : Nat → Nat → Int64) (ri : Nat → Nat → Int32) (rj : Nat → Nat → Int64) (rq : Nat → Nat → Option Nat) (sz : Nat) (tg : Nat → Nat) (hSH : SH σ tg) (hG0 : GS tg σ I ri rq) (this : Nat) (hL_this : this ∈ σ.1) (hK_this : σ.2.1 this = 11) : MetI l yX11_area (wa yX11_area cX11_area 1 (some .int)) ({ frames := 0, cells := 0, slots := 0, locals := 0 }) [.ref this] D t σ (I, J, ri, rj, rq) sz 0 0 (fun (r : Int32) (u : pq_S × pq_M) => u = (σ, I, J, ri, rj, rq)) := by
  refine Met.ofW (cc := cX11_area) (maxL := 1) (ret := (some .int)) (by decide) rfl ?_
  intro p e s m args below meth c s₁ B hml hv
  obtain ⟨rfl, hsz, hP, hK, hD0, hN⟩ := hv
  have hx := B.exec
  have hb := B.bytes
  have hr := B.returns
  have hts := atoms_spec (ws := (wa yX11_area cX11_area 1 (some .int))) B.pre
  have hown : s.vm.findClass RX11 = some m.cls := findClass_of_methodNamed B.named
  have hlocks := B.notSynchronized
  subst hsz
  have hD : va_D (pq_B t σ (I, J, ri, rj, rq) s.heap.size) (pq_P t σ (I, J, ri, rj, rq)) := hD0.self
  generalize hAe : pq_B t σ (I, J, ri, rj, rq) s.heap.size = A at hD ⊢
  have hA : ∀ q : Nat, s.heap.size ≤ q → A q := fun q h => by rw [← hAe]; exact Or.inr h
  have hS : va_S A s.heap s.heap [] := va_S.rf
  have hG : GX [] tg σ I ri rj I ri rj rq := ⟨hG0, fun _ _ _ => rfl, fun _ _ _ _ _ => rfl, fun _ _ _ _ _ => rfl⟩
  have hl := lv_entry ([.ref this]) (n := 1) (Nat.le_of_ble_eq_true rfl)
  rw [lg_entry_eq]
  generalize (lg_sl ([.ref this]) ++ List.replicate (1 - (lg_sl ([.ref this])).length) Slot.unset).toArray = ls at hl ⊢
  have hl : lv_has ls 1 [(0, .ref this)] := hl
  refine q_gen (fun Q hQ => ?_)
  have go : ∀ (H : Heap) (locs : List Loc) (ls : Array Slot), va_P D vwCl (pq_P t σ (I, J, ri, rj, rq)) H → va_D A (pq_P t σ (I, J, ri, rj, rq)) → va_S A s.heap H locs → lv_has ls 1 [(0, .ref this)] → W p l e ({ frames := 0, cells := 0, slots := 0, locals := 0 } : Room) s m (List.toArray ([.ref this] : List Value)) below meth c H locs 0 0 Q (F0 m 0 ls []) := by
    intro H locs ls hP hD hS hl
    refine lv_aload_n hx hb dX11_area_0 rfl (lv_at hl 0 rfl) ?_
    obtain ⟨w_1, hR_w_1, hL_w_1, hK_w_1⟩ := sh_o hSH 352 (ci := 11) (kd := 10) rfl hL_this hK_this
    refine pg_f (v := .ref w_1) (C := RX11) (T := TX11) (N := 5) hx hb hts (tw_i inlX11) hown hK hP hL_this hK_this (by decide) rfl 0 (by decide) (hts _ (tw_c tw_16)) (pq_hv rfl hR_w_1) dX11_area_1 ?_
    refine pg_f (v := .int (I 324 w_1)) (C := RX10) (T := TX10) (N := 13) hx hb hts (tw_i inlX10) hown hK hP hL_w_1 hK_w_1 (by decide) rfl 4 (by decide) (hts _ (tw_c tw_1316)) rfl dX11_area_4 ?_
    subst hQ
    exact W.iret (v := (I 324 w_1)) hx hb hr (fun t1 ht hW => ⟨⟨(I 324 w_1), (σ, I, J, ri, rj, rq), rfl, rfl, by rw [ht]; exact hP, va_K.moved hW.alike hK, hD⟩, hS.F ht⟩) hS.2.2 dX11_area_7
  exact go _ _ _ hP hD hS hl

set_option maxHeartbeats 4000000 in
set_option maxRecDepth 100000 in
theorem s_X11_sum_73 (l : Launch) (D : va_G) (t : pq_T) (σ : pq_S) (I : Nat → Nat → Int32) (J : Nat → Nat → Int64) (ri : Nat → Nat → Int32) (rj : Nat → Nat → Int64) (rq : Nat → Nat → Option Nat) (sz : Nat) (tg : Nat → Nat) (hSH : SH σ tg) (hG0 : GS tg σ I ri rq) (a0 : Nat) (a1 : Int32) (hL_a0 : a0 ∈ σ.1) (hK_a0 : σ.2.1 a0 = 13) (hN_a0 : σ.2.2.2 a0 = 40) (hT_a0 : tg a0 = 73) (h_a1 : rg a1 0 40) : MetI l yX11_sum (wa yX11_sum cX11_sum 4 (some .int)) ({ frames := 0, cells := 0, slots := 0, locals := 0 }) [.ref a0, .int a1] D t σ (I, J, ri, rj, rq) sz 0 0 (fun (r : Int32) (u : pq_S × pq_M) => u = (σ, I, J, ri, rj, rq)) := by
  refine Met.ofW (cc := cX11_sum) (maxL := 4) (ret := (some .int)) (by decide) rfl ?_
  intro p e s m args below meth c s₁ B hml hv
  obtain ⟨rfl, hsz, hP, hK, hD0, hN⟩ := hv
  have hx := B.exec
  have hb := B.bytes
  have hr := B.returns
  have hts := atoms_spec (ws := (wa yX11_sum cX11_sum 4 (some .int))) B.pre
  have hown : s.vm.findClass RX11 = some m.cls := findClass_of_methodNamed B.named
  have hlocks := B.notSynchronized
  subst hsz
  have hD : va_D (pq_B t σ (I, J, ri, rj, rq) s.heap.size) (pq_P t σ (I, J, ri, rj, rq)) := hD0.self
  generalize hAe : pq_B t σ (I, J, ri, rj, rq) s.heap.size = A at hD ⊢
  have hA : ∀ q : Nat, s.heap.size ≤ q → A q := fun q h => by rw [← hAe]; exact Or.inr h
  have hS : va_S A s.heap s.heap [] := va_S.rf
  have hG : GX [] tg σ I ri rj I ri rj rq := ⟨hG0, fun _ _ _ => rfl, fun _ _ _ _ _ => rfl, fun _ _ _ _ _ => rfl⟩
  have hl := lv_entry ([.ref a0, .int a1]) (n := 4) (Nat.le_of_ble_eq_true rfl)
  rw [lg_entry_eq]
  generalize (lg_sl ([.ref a0, .int a1]) ++ List.replicate (4 - (lg_sl ([.ref a0, .int a1])).length) Slot.unset).toArray = ls at hl ⊢
  have hl : lv_has ls 4 [(0, .ref a0), (1, .int a1)] := hl
  refine q_gen (fun Q hQ => ?_)
  have go : ∀ (H : Heap) (locs : List Loc) (ls : Array Slot), va_P D vwCl (pq_P t σ (I, J, ri, rj, rq)) H → va_D A (pq_P t σ (I, J, ri, rj, rq)) → va_S A s.heap H locs → lv_has ls 4 [(0, .ref a0), (1, .int a1)] → W p l e ({ frames := 0, cells := 0, slots := 0, locals := 0 } : Room) s m (List.toArray ([.ref a0, .int a1] : List Value)) below meth c H locs 0 0 Q (F0 m 0 ls []) := by
    intro H locs ls hP hD hS hl
    refine lv_iconst (v := 0) hx hb dX11_sum_0 (by decide) ?_
    refine lv_istore_n (lv' := [(2, .int 0), (0, .ref a0), (1, .int a1)]) hx hb dX11_sum_1 rfl hl (by decide) rfl (fun ls hl => ?_)
    refine lv_iconst (v := 0) hx hb dX11_sum_2 (by decide) ?_
    refine lv_istore_n (lv' := [(3, .int 0), (2, .int 0), (0, .ref a0), (1, .int a1)]) hx hb dX11_sum_3 rfl hl (by decide) rfl (fun ls hl => ?_)
    have L_133 : ∀ (n_132 : Nat) (x_121 : Int32) (x_122 : Int32) (H : Heap) (locs : List Loc) (ls : Array Slot), rg x_122 0 40 → (40 - (x_122).toInt).toNat < n_132 → GX [] tg σ I ri rj I ri rj rq → va_P D vwCl (pq_P t σ (I, J, ri, rj, rq)) H → va_D A (pq_P t σ (I, J, ri, rj, rq)) → va_S A s.heap H locs → lv_has ls 4 [(0, .ref a0), (1, .int a1), (2, .int x_121), (3, .int x_122)] → W p l e ({ frames := 0, cells := 0, slots := 0, locals := 0 } : Room) s m (List.toArray ([.ref a0, .int a1] : List Value)) below meth c H locs 0 0 Q (F0 m 4 ls []) := by
      intro n_132
      induction n_132 with
      | zero => intro x_121 x_122 H locs ls h_136 hm_131 hG hP hD hS hl; exact absurd hm_131 (Nat.not_lt_zero _)
      | succ n_132 ih_134 =>
        intro x_121 x_122 H locs ls h_136 hm_131 hG hP hD hS hl
        refine lv_iload_n hx hb dX11_sum_4 rfl (lv_at hl 3 rfl) ?_
        refine lv_iload_n hx hb dX11_sum_5 rfl (lv_at hl 1 rfl) ?_
        refine lv_icmp_ge (tgt := 21) hx hb dX11_sum_6 (by decide) (fun c_137 => ?_) (fun c_137 => ?_)
        · refine lv_iload_n hx hb dX11_sum_21 rfl (lv_at hl 2 rfl) ?_
          subst hQ
          exact W.iret (v := x_121) hx hb hr (fun t1 ht hW => ⟨⟨x_121, (σ, I, J, ri, rj, rq), rfl, rfl, by rw [ht]; exact hP, va_K.moved hW.alike hK, hD⟩, hS.F ht⟩) hS.2.2 dX11_sum_22
        · have h_138 : rg x_122 0 39 := rg_lt1 (nle c_137) h_136 h_a1 (by decide)
          have h_139 : rg a1 1 40 := rg_lt2 (nle c_137) h_136 h_a1 (by decide)
          refine lv_iload_n hx hb dX11_sum_9 rfl (lv_at hl 2 rfl) ?_
          refine lv_aload_n hx hb dX11_sum_10 rfl (lv_at hl 0 rfl) ?_
          refine lv_iload_n hx hb dX11_sum_11 rfl (lv_at hl 3 rfl) ?_
          refine pl_i hx hb hK hP hL_a0 hK_a0 hN_a0 (rg_in h_138 (by decide)) dX11_sum_12 ?_
          refine lv_topi (fun x_140 ex_140 => ?_)
          refine lv_iadd hx hb dX11_sum_13 ?_
          refine lv_topi (fun x_141 ex_141 => ?_)
          refine lv_istore_n (lv' := [(2, .int x_141), (0, .ref a0), (1, .int a1), (3, .int x_122)]) hx hb dX11_sum_14 rfl hl (by decide) rfl (fun ls hl => ?_)
          obtain ⟨x_142, ex_142⟩ : ∃ y : Int32, y = x_122 + Int32.ofInt 1 := ⟨_, rfl⟩
          have h_143 : rg x_142 1 40 := rg_of_eq ex_142 (rg_add h_138 (rg_k (Int32.ofInt 1) 1 rfl) (by decide))
          refine lv_iinc (v := x_142) (lv' := [(3, .int x_142), (2, .int x_141), (0, .ref a0), (1, .int a1)]) hx hb dX11_sum_15 hl (k := 3) rfl ex_142.symm (by decide) rfl (fun ls hl => ?_)
          refine lv_goto (tgt := 4) hx hb dX11_sum_18 (by decide) ?_
          exact ih_134 x_141 x_142 _ _ _ (rg_w h_143 (by decide)) (ms_up 1 hm_131 ex_142 rfl (by decide) h_138 (by decide) (by decide)) hG hP hD hS (lv_sub hl [2, 3, 1, 0] rfl)
    exact L_133 _ (0 : Int32) (0 : Int32) _ _ _ (rg_w (rg_k (0 : Int32) 0 rfl) (by decide)) (Nat.lt_succ_self _) hG hP hD hS (lv_sub hl [2, 3, 1, 0] rfl)
  exact go _ _ _ hP hD hS hl

set_option maxHeartbeats 4000000 in
set_option maxRecDepth 100000 in
theorem s_X11_sum_6 (l : Launch) (D : va_G) (t : pq_T) (σ : pq_S) (I : Nat → Nat → Int32) (J : Nat → Nat → Int64) (ri : Nat → Nat → Int32) (rj : Nat → Nat → Int64) (rq : Nat → Nat → Option Nat) (sz : Nat) (tg : Nat → Nat) (hSH : SH σ tg) (hG0 : GS tg σ I ri rq) (a0 : Nat) (a1 : Int32) (hL_a0 : a0 ∈ σ.1) (hK_a0 : σ.2.1 a0 = 13) (hN_a0 : σ.2.2.2 a0 = 40) (hT_a0 : tg a0 = 6) (h_a1 : rg a1 0 40) : MetI l yX11_sum (wa yX11_sum cX11_sum 4 (some .int)) ({ frames := 0, cells := 0, slots := 0, locals := 0 }) [.ref a0, .int a1] D t σ (I, J, ri, rj, rq) sz 0 0 (fun (r : Int32) (u : pq_S × pq_M) => u = (σ, I, J, ri, rj, rq)) := by
  refine Met.ofW (cc := cX11_sum) (maxL := 4) (ret := (some .int)) (by decide) rfl ?_
  intro p e s m args below meth c s₁ B hml hv
  obtain ⟨rfl, hsz, hP, hK, hD0, hN⟩ := hv
  have hx := B.exec
  have hb := B.bytes
  have hr := B.returns
  have hts := atoms_spec (ws := (wa yX11_sum cX11_sum 4 (some .int))) B.pre
  have hown : s.vm.findClass RX11 = some m.cls := findClass_of_methodNamed B.named
  have hlocks := B.notSynchronized
  subst hsz
  have hD : va_D (pq_B t σ (I, J, ri, rj, rq) s.heap.size) (pq_P t σ (I, J, ri, rj, rq)) := hD0.self
  generalize hAe : pq_B t σ (I, J, ri, rj, rq) s.heap.size = A at hD ⊢
  have hA : ∀ q : Nat, s.heap.size ≤ q → A q := fun q h => by rw [← hAe]; exact Or.inr h
  have hS : va_S A s.heap s.heap [] := va_S.rf
  have hG : GX [] tg σ I ri rj I ri rj rq := ⟨hG0, fun _ _ _ => rfl, fun _ _ _ _ _ => rfl, fun _ _ _ _ _ => rfl⟩
  have hl := lv_entry ([.ref a0, .int a1]) (n := 4) (Nat.le_of_ble_eq_true rfl)
  rw [lg_entry_eq]
  generalize (lg_sl ([.ref a0, .int a1]) ++ List.replicate (4 - (lg_sl ([.ref a0, .int a1])).length) Slot.unset).toArray = ls at hl ⊢
  have hl : lv_has ls 4 [(0, .ref a0), (1, .int a1)] := hl
  refine q_gen (fun Q hQ => ?_)
  have go : ∀ (H : Heap) (locs : List Loc) (ls : Array Slot), va_P D vwCl (pq_P t σ (I, J, ri, rj, rq)) H → va_D A (pq_P t σ (I, J, ri, rj, rq)) → va_S A s.heap H locs → lv_has ls 4 [(0, .ref a0), (1, .int a1)] → W p l e ({ frames := 0, cells := 0, slots := 0, locals := 0 } : Room) s m (List.toArray ([.ref a0, .int a1] : List Value)) below meth c H locs 0 0 Q (F0 m 0 ls []) := by
    intro H locs ls hP hD hS hl
    refine lv_iconst (v := 0) hx hb dX11_sum_0 (by decide) ?_
    refine lv_istore_n (lv' := [(2, .int 0), (0, .ref a0), (1, .int a1)]) hx hb dX11_sum_1 rfl hl (by decide) rfl (fun ls hl => ?_)
    refine lv_iconst (v := 0) hx hb dX11_sum_2 (by decide) ?_
    refine lv_istore_n (lv' := [(3, .int 0), (2, .int 0), (0, .ref a0), (1, .int a1)]) hx hb dX11_sum_3 rfl hl (by decide) rfl (fun ls hl => ?_)
    have L_133 : ∀ (n_132 : Nat) (x_121 : Int32) (x_122 : Int32) (H : Heap) (locs : List Loc) (ls : Array Slot), rg x_122 0 40 → (40 - (x_122).toInt).toNat < n_132 → GX [] tg σ I ri rj I ri rj rq → va_P D vwCl (pq_P t σ (I, J, ri, rj, rq)) H → va_D A (pq_P t σ (I, J, ri, rj, rq)) → va_S A s.heap H locs → lv_has ls 4 [(0, .ref a0), (1, .int a1), (2, .int x_121), (3, .int x_122)] → W p l e ({ frames := 0, cells := 0, slots := 0, locals := 0 } : Room) s m (List.toArray ([.ref a0, .int a1] : List Value)) below meth c H locs 0 0 Q (F0 m 4 ls []) := by
      intro n_132
      induction n_132 with
      | zero => intro x_121 x_122 H locs ls h_136 hm_131 hG hP hD hS hl; exact absurd hm_131 (Nat.not_lt_zero _)
      | succ n_132 ih_134 =>
        intro x_121 x_122 H locs ls h_136 hm_131 hG hP hD hS hl
        refine lv_iload_n hx hb dX11_sum_4 rfl (lv_at hl 3 rfl) ?_
        refine lv_iload_n hx hb dX11_sum_5 rfl (lv_at hl 1 rfl) ?_
        refine lv_icmp_ge (tgt := 21) hx hb dX11_sum_6 (by decide) (fun c_137 => ?_) (fun c_137 => ?_)
        · refine lv_iload_n hx hb dX11_sum_21 rfl (lv_at hl 2 rfl) ?_
          subst hQ
          exact W.iret (v := x_121) hx hb hr (fun t1 ht hW => ⟨⟨x_121, (σ, I, J, ri, rj, rq), rfl, rfl, by rw [ht]; exact hP, va_K.moved hW.alike hK, hD⟩, hS.F ht⟩) hS.2.2 dX11_sum_22
        · have h_138 : rg x_122 0 39 := rg_lt1 (nle c_137) h_136 h_a1 (by decide)
          have h_139 : rg a1 1 40 := rg_lt2 (nle c_137) h_136 h_a1 (by decide)
          refine lv_iload_n hx hb dX11_sum_9 rfl (lv_at hl 2 rfl) ?_
          refine lv_aload_n hx hb dX11_sum_10 rfl (lv_at hl 0 rfl) ?_
          refine lv_iload_n hx hb dX11_sum_11 rfl (lv_at hl 3 rfl) ?_
          refine pl_i hx hb hK hP hL_a0 hK_a0 hN_a0 (rg_in h_138 (by decide)) dX11_sum_12 ?_
          refine lv_topi (fun x_140 ex_140 => ?_)
          refine lv_iadd hx hb dX11_sum_13 ?_
          refine lv_topi (fun x_141 ex_141 => ?_)
          refine lv_istore_n (lv' := [(2, .int x_141), (0, .ref a0), (1, .int a1), (3, .int x_122)]) hx hb dX11_sum_14 rfl hl (by decide) rfl (fun ls hl => ?_)
          obtain ⟨x_142, ex_142⟩ : ∃ y : Int32, y = x_122 + Int32.ofInt 1 := ⟨_, rfl⟩
          have h_143 : rg x_142 1 40 := rg_of_eq ex_142 (rg_add h_138 (rg_k (Int32.ofInt 1) 1 rfl) (by decide))
          refine lv_iinc (v := x_142) (lv' := [(3, .int x_142), (2, .int x_141), (0, .ref a0), (1, .int a1)]) hx hb dX11_sum_15 hl (k := 3) rfl ex_142.symm (by decide) rfl (fun ls hl => ?_)
          refine lv_goto (tgt := 4) hx hb dX11_sum_18 (by decide) ?_
          exact ih_134 x_141 x_142 _ _ _ (rg_w h_143 (by decide)) (ms_up 1 hm_131 ex_142 rfl (by decide) h_138 (by decide) (by decide)) hG hP hD hS (lv_sub hl [2, 3, 1, 0] rfl)
    exact L_133 _ (0 : Int32) (0 : Int32) _ _ _ (rg_w (rg_k (0 : Int32) 0 rfl) (by decide)) (Nat.lt_succ_self _) hG hP hD hS (lv_sub hl [2, 3, 1, 0] rfl)
  exact go _ _ _ hP hD hS hl

set_option maxHeartbeats 4000000 in
set_option maxRecDepth 100000 in
theorem s_X11_sum_7 (l : Launch) (D : va_G) (t : pq_T) (σ : pq_S) (I : Nat → Nat → Int32) (J : Nat → Nat → Int64) (ri : Nat → Nat → Int32) (rj : Nat → Nat → Int64) (rq : Nat → Nat → Option Nat) (sz : Nat) (tg : Nat → Nat) (hSH : SH σ tg) (hG0 : GS tg σ I ri rq) (a0 : Nat) (a1 : Int32) (hL_a0 : a0 ∈ σ.1) (hK_a0 : σ.2.1 a0 = 13) (hN_a0 : σ.2.2.2 a0 = 40) (hT_a0 : tg a0 = 7) (h_a1 : rg a1 0 40) : MetI l yX11_sum (wa yX11_sum cX11_sum 4 (some .int)) ({ frames := 0, cells := 0, slots := 0, locals := 0 }) [.ref a0, .int a1] D t σ (I, J, ri, rj, rq) sz 0 0 (fun (r : Int32) (u : pq_S × pq_M) => u = (σ, I, J, ri, rj, rq)) := by
  refine Met.ofW (cc := cX11_sum) (maxL := 4) (ret := (some .int)) (by decide) rfl ?_
  intro p e s m args below meth c s₁ B hml hv
  obtain ⟨rfl, hsz, hP, hK, hD0, hN⟩ := hv
  have hx := B.exec
  have hb := B.bytes
  have hr := B.returns
  have hts := atoms_spec (ws := (wa yX11_sum cX11_sum 4 (some .int))) B.pre
  have hown : s.vm.findClass RX11 = some m.cls := findClass_of_methodNamed B.named
  have hlocks := B.notSynchronized
  subst hsz
  have hD : va_D (pq_B t σ (I, J, ri, rj, rq) s.heap.size) (pq_P t σ (I, J, ri, rj, rq)) := hD0.self
  generalize hAe : pq_B t σ (I, J, ri, rj, rq) s.heap.size = A at hD ⊢
  have hA : ∀ q : Nat, s.heap.size ≤ q → A q := fun q h => by rw [← hAe]; exact Or.inr h
  have hS : va_S A s.heap s.heap [] := va_S.rf
  have hG : GX [] tg σ I ri rj I ri rj rq := ⟨hG0, fun _ _ _ => rfl, fun _ _ _ _ _ => rfl, fun _ _ _ _ _ => rfl⟩
  have hl := lv_entry ([.ref a0, .int a1]) (n := 4) (Nat.le_of_ble_eq_true rfl)
  rw [lg_entry_eq]
  generalize (lg_sl ([.ref a0, .int a1]) ++ List.replicate (4 - (lg_sl ([.ref a0, .int a1])).length) Slot.unset).toArray = ls at hl ⊢
  have hl : lv_has ls 4 [(0, .ref a0), (1, .int a1)] := hl
  refine q_gen (fun Q hQ => ?_)
  have go : ∀ (H : Heap) (locs : List Loc) (ls : Array Slot), va_P D vwCl (pq_P t σ (I, J, ri, rj, rq)) H → va_D A (pq_P t σ (I, J, ri, rj, rq)) → va_S A s.heap H locs → lv_has ls 4 [(0, .ref a0), (1, .int a1)] → W p l e ({ frames := 0, cells := 0, slots := 0, locals := 0 } : Room) s m (List.toArray ([.ref a0, .int a1] : List Value)) below meth c H locs 0 0 Q (F0 m 0 ls []) := by
    intro H locs ls hP hD hS hl
    refine lv_iconst (v := 0) hx hb dX11_sum_0 (by decide) ?_
    refine lv_istore_n (lv' := [(2, .int 0), (0, .ref a0), (1, .int a1)]) hx hb dX11_sum_1 rfl hl (by decide) rfl (fun ls hl => ?_)
    refine lv_iconst (v := 0) hx hb dX11_sum_2 (by decide) ?_
    refine lv_istore_n (lv' := [(3, .int 0), (2, .int 0), (0, .ref a0), (1, .int a1)]) hx hb dX11_sum_3 rfl hl (by decide) rfl (fun ls hl => ?_)
    have L_133 : ∀ (n_132 : Nat) (x_121 : Int32) (x_122 : Int32) (H : Heap) (locs : List Loc) (ls : Array Slot), rg x_122 0 40 → (40 - (x_122).toInt).toNat < n_132 → GX [] tg σ I ri rj I ri rj rq → va_P D vwCl (pq_P t σ (I, J, ri, rj, rq)) H → va_D A (pq_P t σ (I, J, ri, rj, rq)) → va_S A s.heap H locs → lv_has ls 4 [(0, .ref a0), (1, .int a1), (2, .int x_121), (3, .int x_122)] → W p l e ({ frames := 0, cells := 0, slots := 0, locals := 0 } : Room) s m (List.toArray ([.ref a0, .int a1] : List Value)) below meth c H locs 0 0 Q (F0 m 4 ls []) := by
      intro n_132
      induction n_132 with
      | zero => intro x_121 x_122 H locs ls h_136 hm_131 hG hP hD hS hl; exact absurd hm_131 (Nat.not_lt_zero _)
      | succ n_132 ih_134 =>
        intro x_121 x_122 H locs ls h_136 hm_131 hG hP hD hS hl
        refine lv_iload_n hx hb dX11_sum_4 rfl (lv_at hl 3 rfl) ?_
        refine lv_iload_n hx hb dX11_sum_5 rfl (lv_at hl 1 rfl) ?_
        refine lv_icmp_ge (tgt := 21) hx hb dX11_sum_6 (by decide) (fun c_137 => ?_) (fun c_137 => ?_)
        · refine lv_iload_n hx hb dX11_sum_21 rfl (lv_at hl 2 rfl) ?_
          subst hQ
          exact W.iret (v := x_121) hx hb hr (fun t1 ht hW => ⟨⟨x_121, (σ, I, J, ri, rj, rq), rfl, rfl, by rw [ht]; exact hP, va_K.moved hW.alike hK, hD⟩, hS.F ht⟩) hS.2.2 dX11_sum_22
        · have h_138 : rg x_122 0 39 := rg_lt1 (nle c_137) h_136 h_a1 (by decide)
          have h_139 : rg a1 1 40 := rg_lt2 (nle c_137) h_136 h_a1 (by decide)
          refine lv_iload_n hx hb dX11_sum_9 rfl (lv_at hl 2 rfl) ?_
          refine lv_aload_n hx hb dX11_sum_10 rfl (lv_at hl 0 rfl) ?_
          refine lv_iload_n hx hb dX11_sum_11 rfl (lv_at hl 3 rfl) ?_
          refine pl_i hx hb hK hP hL_a0 hK_a0 hN_a0 (rg_in h_138 (by decide)) dX11_sum_12 ?_
          refine lv_topi (fun x_140 ex_140 => ?_)
          refine lv_iadd hx hb dX11_sum_13 ?_
          refine lv_topi (fun x_141 ex_141 => ?_)
          refine lv_istore_n (lv' := [(2, .int x_141), (0, .ref a0), (1, .int a1), (3, .int x_122)]) hx hb dX11_sum_14 rfl hl (by decide) rfl (fun ls hl => ?_)
          obtain ⟨x_142, ex_142⟩ : ∃ y : Int32, y = x_122 + Int32.ofInt 1 := ⟨_, rfl⟩
          have h_143 : rg x_142 1 40 := rg_of_eq ex_142 (rg_add h_138 (rg_k (Int32.ofInt 1) 1 rfl) (by decide))
          refine lv_iinc (v := x_142) (lv' := [(3, .int x_142), (2, .int x_141), (0, .ref a0), (1, .int a1)]) hx hb dX11_sum_15 hl (k := 3) rfl ex_142.symm (by decide) rfl (fun ls hl => ?_)
          refine lv_goto (tgt := 4) hx hb dX11_sum_18 (by decide) ?_
          exact ih_134 x_141 x_142 _ _ _ (rg_w h_143 (by decide)) (ms_up 1 hm_131 ex_142 rfl (by decide) h_138 (by decide) (by decide)) hG hP hD hS (lv_sub hl [2, 3, 1, 0] rfl)
    exact L_133 _ (0 : Int32) (0 : Int32) _ _ _ (rg_w (rg_k (0 : Int32) 0 rfl) (by decide)) (Nat.lt_succ_self _) hG hP hD hS (lv_sub hl [2, 3, 1, 0] rfl)
  exact go _ _ _ hP hD hS hl

set_option maxHeartbeats 4000000 in
set_option maxRecDepth 100000 in
theorem s_X11_about (l : Launch) (D : va_G) (t : pq_T) (σ : pq_S) (I : Nat → Nat → Int32) (J : Nat → Nat → Int64) (ri : Nat → Nat → Int32) (rj : Nat → Nat → Int64) (rq : Nat → Nat → Option Nat) (sz : Nat) (tg : Nat → Nat) (hSH : SH σ tg) (hG0 : GS tg σ I ri rq) (this : Nat) (a0 : Int32) (hL_this : this ∈ σ.1) (hK_this : σ.2.1 this = 11) : MetI l yX11_about (wa yX11_about cX11_about 2 (some .int)) ({ frames := 1, cells := 0, slots := 0, locals := 23 }) [.ref this, .int a0] D t σ (I, J, ri, rj, rq) sz 0 0 (fun (r : Int32) (u : pq_S × pq_M) => u = (σ, I, J, ri, rj, rq)) := by
  refine Met.ofW (cc := cX11_about) (maxL := 2) (ret := (some .int)) (by decide) rfl ?_
  intro p e s m args below meth c s₁ B hml hv
  obtain ⟨rfl, hsz, hP, hK, hD0, hN⟩ := hv
  have hx := B.exec
  have hb := B.bytes
  have hr := B.returns
  have hts := atoms_spec (ws := (wa yX11_about cX11_about 2 (some .int))) B.pre
  have hown : s.vm.findClass RX11 = some m.cls := findClass_of_methodNamed B.named
  have hlocks := B.notSynchronized
  subst hsz
  have hD : va_D (pq_B t σ (I, J, ri, rj, rq) s.heap.size) (pq_P t σ (I, J, ri, rj, rq)) := hD0.self
  generalize hAe : pq_B t σ (I, J, ri, rj, rq) s.heap.size = A at hD ⊢
  have hA : ∀ q : Nat, s.heap.size ≤ q → A q := fun q h => by rw [← hAe]; exact Or.inr h
  have hS : va_S A s.heap s.heap [] := va_S.rf
  have hG : GX [] tg σ I ri rj I ri rj rq := ⟨hG0, fun _ _ _ => rfl, fun _ _ _ _ _ => rfl, fun _ _ _ _ _ => rfl⟩
  have hl := lv_entry ([.ref this, .int a0]) (n := 2) (Nat.le_of_ble_eq_true rfl)
  rw [lg_entry_eq]
  generalize (lg_sl ([.ref this, .int a0]) ++ List.replicate (2 - (lg_sl ([.ref this, .int a0])).length) Slot.unset).toArray = ls at hl ⊢
  have hl : lv_has ls 2 [(0, .ref this), (1, .int a0)] := hl
  refine q_gen (fun Q hQ => ?_)
  have go : ∀ (H : Heap) (locs : List Loc) (ls : Array Slot), va_P D vwCl (pq_P t σ (I, J, ri, rj, rq)) H → va_D A (pq_P t σ (I, J, ri, rj, rq)) → va_S A s.heap H locs → lv_has ls 2 [(0, .ref this), (1, .int a0)] → W p l e ({ frames := 1, cells := 0, slots := 0, locals := 23 } : Room) s m (List.toArray ([.ref this, .int a0] : List Value)) below meth c H locs 0 0 Q (F0 m 0 ls []) := by
    intro H locs ls hP hD hS hl
    refine lv_iload_n hx hb dX11_about_0 rfl (lv_at hl 1 rfl) ?_
    by_cases k_1 : a0 = (0 : Int32)
    · have h_2 : rg a0 0 0 := rg_and (rg_full _) (rg_of_eq k_1 (rg_k (0 : Int32) 0 rfl)) (by decide)
      refine lv_tov 0 k_1 ?_
      refine lv_tableIn (tgt := 84) hx hb dX11_about_1 (by decide) (by decide) rfl (by decide) ?_
      refine lv_aload_n hx hb dX11_about_84 rfl (lv_at hl 0 rfl) ?_
      obtain ⟨w_3, hR_w_3, hL_w_3, hK_w_3⟩ := sh_o hSH 352 (ci := 11) (kd := 10) rfl hL_this hK_this
      refine pg_f (v := .ref w_3) (C := RX11) (T := TX11) (N := 5) hx hb hts (tw_i inlX11) hown hK hP hL_this hK_this (by decide) rfl 0 (by decide) (hts _ (tw_c tw_16)) (pq_hv rfl hR_w_3) dX11_about_85 ?_
      refine pg_f (v := .int (I 320 w_3)) (C := RX10) (T := TX10) (N := 13) hx hb hts (tw_i inlX10) hown hK hP hL_w_3 hK_w_3 (by decide) rfl 0 (by decide) (hts _ (tw_c tw_209)) rfl dX11_about_88 ?_
      have h_4 : rg (I 320 w_3) 0 600 := GX.rI hG 320 rfl
      subst hQ
      exact W.iret (v := (I 320 w_3)) hx hb hr (fun t1 ht hW => ⟨⟨(I 320 w_3), (σ, I, J, ri, rj, rq), rfl, rfl, by rw [ht]; exact hP, va_K.moved hW.alike hK, hD⟩, hS.F ht⟩) hS.2.2 dX11_about_91
    by_cases k_5 : a0 = (1 : Int32)
    · have h_6 : rg a0 1 1 := rg_and (rg_full _) (rg_of_eq k_5 (rg_k (1 : Int32) 1 rfl)) (by decide)
      refine lv_tov 1 k_5 ?_
      refine lv_tableIn (tgt := 92) hx hb dX11_about_1 (by decide) (by decide) rfl (by decide) ?_
      refine lv_aload_n hx hb dX11_about_92 rfl (lv_at hl 0 rfl) ?_
      obtain ⟨w_7, hR_w_7, hL_w_7, hK_w_7⟩ := sh_o hSH 352 (ci := 11) (kd := 10) rfl hL_this hK_this
      refine pg_f (v := .ref w_7) (C := RX11) (T := TX11) (N := 5) hx hb hts (tw_i inlX11) hown hK hP hL_this hK_this (by decide) rfl 0 (by decide) (hts _ (tw_c tw_16)) (pq_hv rfl hR_w_7) dX11_about_93 ?_
      obtain ⟨w_8, hR_w_8, hL_w_8, hK_w_8⟩ := sh_o hSH 327 (ci := 10) (kd := 2) rfl hL_w_7 hK_w_7
      refine pg_f (v := .ref w_8) (C := RX10) (T := TX10) (N := 13) hx hb hts (tw_i inlX10) hown hK hP hL_w_7 hK_w_7 (by decide) rfl 7 (by decide) (hts _ (tw_c tw_199)) (pq_hv rfl hR_w_8) dX11_about_96 ?_
      refine pg_f (v := .int (I 64 w_8)) (C := RX2) (T := TX2) (N := 20) hx hb hts (tw_i inlX2) hown hK hP hL_w_8 hK_w_8 (by decide) rfl 0 (by decide) (hts _ (tw_c tw_200)) rfl dX11_about_99 ?_
      have h_9 : rg (I 64 w_8) 0 5 := GX.rI hG 64 rfl
      subst hQ
      exact W.iret (v := (I 64 w_8)) hx hb hr (fun t1 ht hW => ⟨⟨(I 64 w_8), (σ, I, J, ri, rj, rq), rfl, rfl, by rw [ht]; exact hP, va_K.moved hW.alike hK, hD⟩, hS.F ht⟩) hS.2.2 dX11_about_102
    by_cases k_10 : a0 = (2 : Int32)
    · have h_11 : rg a0 2 2 := rg_and (rg_full _) (rg_of_eq k_10 (rg_k (2 : Int32) 2 rfl)) (by decide)
      refine lv_tov 2 k_10 ?_
      refine lv_tableIn (tgt := 103) hx hb dX11_about_1 (by decide) (by decide) rfl (by decide) ?_
      refine lv_aload_n hx hb dX11_about_103 rfl (lv_at hl 0 rfl) ?_
      obtain ⟨w_12, hR_w_12, hL_w_12, hK_w_12⟩ := sh_o hSH 352 (ci := 11) (kd := 10) rfl hL_this hK_this
      refine pg_f (v := .ref w_12) (C := RX11) (T := TX11) (N := 5) hx hb hts (tw_i inlX11) hown hK hP hL_this hK_this (by decide) rfl 0 (by decide) (hts _ (tw_c tw_16)) (pq_hv rfl hR_w_12) dX11_about_104 ?_
      obtain ⟨w_13, hR_w_13, hL_w_13, hK_w_13⟩ := sh_o hSH 327 (ci := 10) (kd := 2) rfl hL_w_12 hK_w_12
      refine pg_f (v := .ref w_13) (C := RX10) (T := TX10) (N := 13) hx hb hts (tw_i inlX10) hown hK hP hL_w_12 hK_w_12 (by decide) rfl 7 (by decide) (hts _ (tw_c tw_199)) (pq_hv rfl hR_w_13) dX11_about_107 ?_
      refine pg_f (v := .int (I 65 w_13)) (C := RX2) (T := TX2) (N := 20) hx hb hts (tw_i inlX2) hown hK hP hL_w_13 hK_w_13 (by decide) rfl 1 (by decide) (hts _ (tw_c tw_210)) rfl dX11_about_110 ?_
      have h_14 : rg (I 65 w_13) 0 40 := GX.rI hG 65 rfl
      subst hQ
      exact W.iret (v := (I 65 w_13)) hx hb hr (fun t1 ht hW => ⟨⟨(I 65 w_13), (σ, I, J, ri, rj, rq), rfl, rfl, by rw [ht]; exact hP, va_K.moved hW.alike hK, hD⟩, hS.F ht⟩) hS.2.2 dX11_about_113
    by_cases k_15 : a0 = (3 : Int32)
    · have h_16 : rg a0 3 3 := rg_and (rg_full _) (rg_of_eq k_15 (rg_k (3 : Int32) 3 rfl)) (by decide)
      refine lv_tov 3 k_15 ?_
      refine lv_tableIn (tgt := 114) hx hb dX11_about_1 (by decide) (by decide) rfl (by decide) ?_
      refine lv_aload_n hx hb dX11_about_114 rfl (lv_at hl 0 rfl) ?_
      obtain ⟨w_17, hR_w_17, hL_w_17, hK_w_17⟩ := sh_o hSH 352 (ci := 11) (kd := 10) rfl hL_this hK_this
      refine pg_f (v := .ref w_17) (C := RX11) (T := TX11) (N := 5) hx hb hts (tw_i inlX11) hown hK hP hL_this hK_this (by decide) rfl 0 (by decide) (hts _ (tw_c tw_16)) (pq_hv rfl hR_w_17) dX11_about_115 ?_
      obtain ⟨w_18, hR_w_18, hL_w_18, hK_w_18⟩ := sh_o hSH 326 (ci := 10) (kd := 7) rfl hL_w_17 hK_w_17
      refine pg_f (v := .ref w_18) (C := RX10) (T := TX10) (N := 13) hx hb hts (tw_i inlX10) hown hK hP hL_w_17 hK_w_17 (by decide) rfl 6 (by decide) (hts _ (tw_c tw_242)) (pq_hv rfl hR_w_18) dX11_about_118 ?_
      refine pg_f (v := .int (I 224 w_18)) (C := RX7) (T := TX7) (N := 15) hx hb hts (tw_i inlX7) hown hK hP hL_w_18 hK_w_18 (by decide) rfl 0 (by decide) (hts _ (tw_c tw_243)) rfl dX11_about_121 ?_
      have h_19 : rg (I 224 w_18) 0 200 := GX.rI hG 224 rfl
      subst hQ
      exact W.iret (v := (I 224 w_18)) hx hb hr (fun t1 ht hW => ⟨⟨(I 224 w_18), (σ, I, J, ri, rj, rq), rfl, rfl, by rw [ht]; exact hP, va_K.moved hW.alike hK, hD⟩, hS.F ht⟩) hS.2.2 dX11_about_124
    by_cases k_20 : a0 = (4 : Int32)
    · have h_21 : rg a0 4 4 := rg_and (rg_full _) (rg_of_eq k_20 (rg_k (4 : Int32) 4 rfl)) (by decide)
      refine lv_tov 4 k_20 ?_
      refine lv_tableIn (tgt := 125) hx hb dX11_about_1 (by decide) (by decide) rfl (by decide) ?_
      refine lv_aload_n hx hb dX11_about_125 rfl (lv_at hl 0 rfl) ?_
      obtain ⟨w_22, hR_w_22, hL_w_22, hK_w_22⟩ := sh_o hSH 352 (ci := 11) (kd := 10) rfl hL_this hK_this
      refine pg_f (v := .ref w_22) (C := RX11) (T := TX11) (N := 5) hx hb hts (tw_i inlX11) hown hK hP hL_this hK_this (by decide) rfl 0 (by decide) (hts _ (tw_c tw_16)) (pq_hv rfl hR_w_22) dX11_about_126 ?_
      obtain ⟨w_23, hR_w_23, hL_w_23, hK_w_23⟩ := sh_o hSH 328 (ci := 10) (kd := 0) rfl hL_w_22 hK_w_22
      refine pg_f (v := .ref w_23) (C := RX10) (T := TX10) (N := 13) hx hb hts (tw_i inlX10) hown hK hP hL_w_22 hK_w_22 (by decide) rfl 8 (by decide) (hts _ (tw_c tw_379)) (pq_hv rfl hR_w_23) dX11_about_129 ?_
      refine pg_f (v := .int (I 10 w_23)) (C := RX0) (T := TX0) (N := 16) hx hb hts (tw_i inlX0) hown hK hP hL_w_23 hK_w_23 (by decide) rfl 10 (by decide) (hts _ (tw_c tw_380)) rfl dX11_about_132 ?_
      have h_24 : rg (I 10 w_23) 0 5 := GX.rI hG 10 rfl
      subst hQ
      exact W.iret (v := (I 10 w_23)) hx hb hr (fun t1 ht hW => ⟨⟨(I 10 w_23), (σ, I, J, ri, rj, rq), rfl, rfl, by rw [ht]; exact hP, va_K.moved hW.alike hK, hD⟩, hS.F ht⟩) hS.2.2 dX11_about_135
    by_cases k_25 : a0 = (5 : Int32)
    · have h_26 : rg a0 5 5 := rg_and (rg_full _) (rg_of_eq k_25 (rg_k (5 : Int32) 5 rfl)) (by decide)
      refine lv_tov 5 k_25 ?_
      refine lv_tableIn (tgt := 136) hx hb dX11_about_1 (by decide) (by decide) rfl (by decide) ?_
      refine lv_aload_n hx hb dX11_about_136 rfl (lv_at hl 0 rfl) ?_
      obtain ⟨w_27, hR_w_27, hL_w_27, hK_w_27⟩ := sh_o hSH 352 (ci := 11) (kd := 10) rfl hL_this hK_this
      refine pg_f (v := .ref w_27) (C := RX11) (T := TX11) (N := 5) hx hb hts (tw_i inlX11) hown hK hP hL_this hK_this (by decide) rfl 0 (by decide) (hts _ (tw_c tw_16)) (pq_hv rfl hR_w_27) dX11_about_137 ?_
      obtain ⟨w_28, hR_w_28, hL_w_28, hK_w_28⟩ := sh_o hSH 328 (ci := 10) (kd := 0) rfl hL_w_27 hK_w_27
      refine pg_f (v := .ref w_28) (C := RX10) (T := TX10) (N := 13) hx hb hts (tw_i inlX10) hown hK hP hL_w_27 hK_w_27 (by decide) rfl 8 (by decide) (hts _ (tw_c tw_379)) (pq_hv rfl hR_w_28) dX11_about_140 ?_
      refine pg_f (v := .int (I 0 w_28)) (C := RX0) (T := TX0) (N := 16) hx hb hts (tw_i inlX0) hown hK hP hL_w_28 hK_w_28 (by decide) rfl 0 (by decide) (hts _ (tw_c tw_390)) rfl dX11_about_143 ?_
      have h_29 : rg (I 0 w_28) 0 40 := GX.rI hG 0 rfl
      subst hQ
      exact W.iret (v := (I 0 w_28)) hx hb hr (fun t1 ht hW => ⟨⟨(I 0 w_28), (σ, I, J, ri, rj, rq), rfl, rfl, by rw [ht]; exact hP, va_K.moved hW.alike hK, hD⟩, hS.F ht⟩) hS.2.2 dX11_about_146
    by_cases k_30 : a0 = (6 : Int32)
    · have h_31 : rg a0 6 6 := rg_and (rg_full _) (rg_of_eq k_30 (rg_k (6 : Int32) 6 rfl)) (by decide)
      refine lv_tov 6 k_30 ?_
      refine lv_tableIn (tgt := 147) hx hb dX11_about_1 (by decide) (by decide) rfl (by decide) ?_
      refine lv_aload_n hx hb dX11_about_147 rfl (lv_at hl 0 rfl) ?_
      obtain ⟨w_32, hR_w_32, hL_w_32, hK_w_32⟩ := sh_o hSH 352 (ci := 11) (kd := 10) rfl hL_this hK_this
      refine pg_f (v := .ref w_32) (C := RX11) (T := TX11) (N := 5) hx hb hts (tw_i inlX11) hown hK hP hL_this hK_this (by decide) rfl 0 (by decide) (hts _ (tw_c tw_16)) (pq_hv rfl hR_w_32) dX11_about_148 ?_
      obtain ⟨w_33, hR_w_33, hL_w_33, hK_w_33⟩ := sh_o hSH 329 (ci := 10) (kd := 3) rfl hL_w_32 hK_w_32
      refine pg_f (v := .ref w_33) (C := RX10) (T := TX10) (N := 13) hx hb hts (tw_i inlX10) hown hK hP hL_w_32 hK_w_32 (by decide) rfl 9 (by decide) (hts _ (tw_c tw_648)) (pq_hv rfl hR_w_33) dX11_about_151 ?_
      refine pg_f (v := .int (I 96 w_33)) (C := RX3) (T := TX3) (N := 8) hx hb hts (tw_i inlX3) hown hK hP hL_w_33 hK_w_33 (by decide) rfl 0 (by decide) (hts _ (tw_c tw_649)) rfl dX11_about_154 ?_
      have h_34 : rg (I 96 w_33) 0 10 := GX.rI hG 96 rfl
      subst hQ
      exact W.iret (v := (I 96 w_33)) hx hb hr (fun t1 ht hW => ⟨⟨(I 96 w_33), (σ, I, J, ri, rj, rq), rfl, rfl, by rw [ht]; exact hP, va_K.moved hW.alike hK, hD⟩, hS.F ht⟩) hS.2.2 dX11_about_157
    by_cases k_35 : a0 = (7 : Int32)
    · have h_36 : rg a0 7 7 := rg_and (rg_full _) (rg_of_eq k_35 (rg_k (7 : Int32) 7 rfl)) (by decide)
      refine lv_tov 7 k_35 ?_
      refine lv_tableIn (tgt := 158) hx hb dX11_about_1 (by decide) (by decide) rfl (by decide) ?_
      refine lv_aload_n hx hb dX11_about_158 rfl (lv_at hl 0 rfl) ?_
      obtain ⟨w_37, hR_w_37, hL_w_37, hK_w_37⟩ := sh_o hSH 352 (ci := 11) (kd := 10) rfl hL_this hK_this
      refine pg_f (v := .ref w_37) (C := RX11) (T := TX11) (N := 5) hx hb hts (tw_i inlX11) hown hK hP hL_this hK_this (by decide) rfl 0 (by decide) (hts _ (tw_c tw_16)) (pq_hv rfl hR_w_37) dX11_about_159 ?_
      obtain ⟨w_38, hR_w_38, hL_w_38, hK_w_38⟩ := sh_o hSH 329 (ci := 10) (kd := 3) rfl hL_w_37 hK_w_37
      refine pg_f (v := .ref w_38) (C := RX10) (T := TX10) (N := 13) hx hb hts (tw_i inlX10) hown hK hP hL_w_37 hK_w_37 (by decide) rfl 9 (by decide) (hts _ (tw_c tw_648)) (pq_hv rfl hR_w_38) dX11_about_162 ?_
      refine pg_f (v := .int (I 98 w_38)) (C := RX3) (T := TX3) (N := 8) hx hb hts (tw_i inlX3) hown hK hP hL_w_38 hK_w_38 (by decide) rfl 2 (by decide) (hts _ (tw_c tw_950)) rfl dX11_about_165 ?_
      have h_39 : rg (I 98 w_38) 0 30 := GX.rI hG 98 rfl
      subst hQ
      exact W.iret (v := (I 98 w_38)) hx hb hr (fun t1 ht hW => ⟨⟨(I 98 w_38), (σ, I, J, ri, rj, rq), rfl, rfl, by rw [ht]; exact hP, va_K.moved hW.alike hK, hD⟩, hS.F ht⟩) hS.2.2 dX11_about_168
    by_cases k_40 : a0 = (8 : Int32)
    · have h_41 : rg a0 8 8 := rg_and (rg_full _) (rg_of_eq k_40 (rg_k (8 : Int32) 8 rfl)) (by decide)
      refine lv_tov 8 k_40 ?_
      refine lv_tableIn (tgt := 169) hx hb dX11_about_1 (by decide) (by decide) rfl (by decide) ?_
      refine lv_aload_n hx hb dX11_about_169 rfl (lv_at hl 0 rfl) ?_
      obtain ⟨w_42, hR_w_42, hL_w_42, hK_w_42⟩ := sh_o hSH 352 (ci := 11) (kd := 10) rfl hL_this hK_this
      refine pg_f (v := .ref w_42) (C := RX11) (T := TX11) (N := 5) hx hb hts (tw_i inlX11) hown hK hP hL_this hK_this (by decide) rfl 0 (by decide) (hts _ (tw_c tw_16)) (pq_hv rfl hR_w_42) dX11_about_170 ?_
      refine pg_f (v := .int (I 321 w_42)) (C := RX10) (T := TX10) (N := 13) hx hb hts (tw_i inlX10) hown hK hP hL_w_42 hK_w_42 (by decide) rfl 1 (by decide) (hts _ (tw_c tw_1026)) rfl dX11_about_173 ?_
      subst hQ
      exact W.iret (v := (I 321 w_42)) hx hb hr (fun t1 ht hW => ⟨⟨(I 321 w_42), (σ, I, J, ri, rj, rq), rfl, rfl, by rw [ht]; exact hP, va_K.moved hW.alike hK, hD⟩, hS.F ht⟩) hS.2.2 dX11_about_176
    by_cases k_43 : a0 = (9 : Int32)
    · have h_44 : rg a0 9 9 := rg_and (rg_full _) (rg_of_eq k_43 (rg_k (9 : Int32) 9 rfl)) (by decide)
      refine lv_tov 9 k_43 ?_
      refine lv_tableIn (tgt := 177) hx hb dX11_about_1 (by decide) (by decide) rfl (by decide) ?_
      refine lv_aload_n hx hb dX11_about_177 rfl (lv_at hl 0 rfl) ?_
      obtain ⟨w_45, hR_w_45, hL_w_45, hK_w_45⟩ := sh_o hSH 352 (ci := 11) (kd := 10) rfl hL_this hK_this
      refine pg_f (v := .ref w_45) (C := RX11) (T := TX11) (N := 5) hx hb hts (tw_i inlX11) hown hK hP hL_this hK_this (by decide) rfl 0 (by decide) (hts _ (tw_c tw_16)) (pq_hv rfl hR_w_45) dX11_about_178 ?_
      obtain ⟨w_46, hR_w_46, hL_w_46, hK_w_46⟩ := sh_o hSH 327 (ci := 10) (kd := 2) rfl hL_w_45 hK_w_45
      refine pg_f (v := .ref w_46) (C := RX10) (T := TX10) (N := 13) hx hb hts (tw_i inlX10) hown hK hP hL_w_45 hK_w_45 (by decide) rfl 7 (by decide) (hts _ (tw_c tw_199)) (pq_hv rfl hR_w_46) dX11_about_181 ?_
      refine pg_f (v := .int (I 66 w_46)) (C := RX2) (T := TX2) (N := 20) hx hb hts (tw_i inlX2) hown hK hP hL_w_46 hK_w_46 (by decide) rfl 2 (by decide) (hts _ (tw_c tw_1557)) rfl dX11_about_184 ?_
      subst hQ
      exact W.iret (v := (I 66 w_46)) hx hb hr (fun t1 ht hW => ⟨⟨(I 66 w_46), (σ, I, J, ri, rj, rq), rfl, rfl, by rw [ht]; exact hP, va_K.moved hW.alike hK, hD⟩, hS.F ht⟩) hS.2.2 dX11_about_187
    by_cases k_47 : a0 = (10 : Int32)
    · have h_48 : rg a0 10 10 := rg_and (rg_full _) (rg_of_eq k_47 (rg_k (10 : Int32) 10 rfl)) (by decide)
      refine lv_tov 10 k_47 ?_
      refine lv_tableIn (tgt := 188) hx hb dX11_about_1 (by decide) (by decide) rfl (by decide) ?_
      refine lv_aload_n hx hb dX11_about_188 rfl (lv_at hl 0 rfl) ?_
      obtain ⟨w_49, hR_w_49, hL_w_49, hK_w_49⟩ := sh_o hSH 352 (ci := 11) (kd := 10) rfl hL_this hK_this
      refine pg_f (v := .ref w_49) (C := RX11) (T := TX11) (N := 5) hx hb hts (tw_i inlX11) hown hK hP hL_this hK_this (by decide) rfl 0 (by decide) (hts _ (tw_c tw_16)) (pq_hv rfl hR_w_49) dX11_about_189 ?_
      obtain ⟨w_50, hR_w_50, hL_w_50, hK_w_50⟩ := sh_o hSH 330 (ci := 10) (kd := 1) rfl hL_w_49 hK_w_49
      refine pg_f (v := .ref w_50) (C := RX10) (T := TX10) (N := 13) hx hb hts (tw_i inlX10) hown hK hP hL_w_49 hK_w_49 (by decide) rfl 10 (by decide) (hts _ (tw_c tw_1499)) (pq_hv rfl hR_w_50) dX11_about_192 ?_
      refine pg_f (v := .int (I 32 w_50)) (C := RX1) (T := TX1) (N := 3) hx hb hts (tw_i inlX1) hown hK hP hL_w_50 hK_w_50 (by decide) rfl 0 (by decide) (hts _ (tw_c tw_1500)) rfl dX11_about_195 ?_
      have h_51 : rg (I 32 w_50) 0 30 := GX.rI hG 32 rfl
      subst hQ
      exact W.iret (v := (I 32 w_50)) hx hb hr (fun t1 ht hW => ⟨⟨(I 32 w_50), (σ, I, J, ri, rj, rq), rfl, rfl, by rw [ht]; exact hP, va_K.moved hW.alike hK, hD⟩, hS.F ht⟩) hS.2.2 dX11_about_198
    by_cases k_52 : a0 = (11 : Int32)
    · have h_53 : rg a0 11 11 := rg_and (rg_full _) (rg_of_eq k_52 (rg_k (11 : Int32) 11 rfl)) (by decide)
      refine lv_tov 11 k_52 ?_
      refine lv_tableIn (tgt := 199) hx hb dX11_about_1 (by decide) (by decide) rfl (by decide) ?_
      refine lv_aload_n hx hb dX11_about_199 rfl (lv_at hl 0 rfl) ?_
      obtain ⟨w_54, hR_w_54, hL_w_54, hK_w_54⟩ := sh_o hSH 352 (ci := 11) (kd := 10) rfl hL_this hK_this
      refine pg_f (v := .ref w_54) (C := RX11) (T := TX11) (N := 5) hx hb hts (tw_i inlX11) hown hK hP hL_this hK_this (by decide) rfl 0 (by decide) (hts _ (tw_c tw_16)) (pq_hv rfl hR_w_54) dX11_about_200 ?_
      refine pg_f (v := .int (I 322 w_54)) (C := RX10) (T := TX10) (N := 13) hx hb hts (tw_i inlX10) hown hK hP hL_w_54 hK_w_54 (by decide) rfl 2 (by decide) (hts _ (tw_c tw_1025)) rfl dX11_about_203 ?_
      subst hQ
      exact W.iret (v := (I 322 w_54)) hx hb hr (fun t1 ht hW => ⟨⟨(I 322 w_54), (σ, I, J, ri, rj, rq), rfl, rfl, by rw [ht]; exact hP, va_K.moved hW.alike hK, hD⟩, hS.F ht⟩) hS.2.2 dX11_about_206
    by_cases k_55 : a0 = (12 : Int32)
    · have h_56 : rg a0 12 12 := rg_and (rg_full _) (rg_of_eq k_55 (rg_k (12 : Int32) 12 rfl)) (by decide)
      refine lv_tov 12 k_55 ?_
      refine lv_tableIn (tgt := 207) hx hb dX11_about_1 (by decide) (by decide) rfl (by decide) ?_
      refine lv_aload_n hx hb dX11_about_207 rfl (lv_at hl 0 rfl) ?_
      obtain ⟨w_57, hR_w_57, hL_w_57, hK_w_57⟩ := sh_o hSH 352 (ci := 11) (kd := 10) rfl hL_this hK_this
      refine pg_f (v := .ref w_57) (C := RX11) (T := TX11) (N := 5) hx hb hts (tw_i inlX11) hown hK hP hL_this hK_this (by decide) rfl 0 (by decide) (hts _ (tw_c tw_16)) (pq_hv rfl hR_w_57) dX11_about_208 ?_
      refine pg_f (v := .int (I 323 w_57)) (C := RX10) (T := TX10) (N := 13) hx hb hts (tw_i inlX10) hown hK hP hL_w_57 hK_w_57 (by decide) rfl 3 (by decide) (hts _ (tw_c tw_1405)) rfl dX11_about_211 ?_
      subst hQ
      exact W.iret (v := (I 323 w_57)) hx hb hr (fun t1 ht hW => ⟨⟨(I 323 w_57), (σ, I, J, ri, rj, rq), rfl, rfl, by rw [ht]; exact hP, va_K.moved hW.alike hK, hD⟩, hS.F ht⟩) hS.2.2 dX11_about_214
    by_cases k_58 : a0 = (13 : Int32)
    · have h_59 : rg a0 13 13 := rg_and (rg_full _) (rg_of_eq k_58 (rg_k (13 : Int32) 13 rfl)) (by decide)
      refine lv_tov 13 k_58 ?_
      refine lv_tableIn (tgt := 215) hx hb dX11_about_1 (by decide) (by decide) rfl (by decide) ?_
      refine lv_aload_n hx hb dX11_about_215 rfl (lv_at hl 0 rfl) ?_
      obtain ⟨w_60, hR_w_60, hL_w_60, hK_w_60⟩ := sh_o hSH 356 (ci := 11) (kd := 4) rfl hL_this hK_this
      refine pg_f (v := .ref w_60) (C := RX11) (T := TX11) (N := 5) hx hb hts (tw_i inlX11) hown hK hP hL_this hK_this (by decide) rfl 4 (by decide) (hts _ (tw_c tw_26)) (pq_hv rfl hR_w_60) dX11_about_216 ?_
      obtain ⟨w_61, hR_w_61, hL_w_61, hK_w_61⟩ := sh_o hSH 128 (ci := 4) (kd := 6) rfl hL_w_60 hK_w_60
      refine pg_f (v := .ref w_61) (C := RX4) (T := TX4) (N := 12) hx hb hts (tw_i inlX4) hown hK hP hL_w_60 hK_w_60 (by decide) rfl 0 (by decide) (hts _ (tw_c tw_620)) (pq_hv rfl hR_w_61) dX11_about_219 ?_
      refine pg_f (v := .int (I 193 w_61)) (C := RX6) (T := TX6) (N := 6) hx hb hts (tw_i inlX6) hown hK hP hL_w_61 hK_w_61 (by decide) rfl 1 (by decide) (hts _ (tw_c tw_621)) rfl dX11_about_222 ?_
      have h_62 : rg (I 193 w_61) 0 300 := GX.rI hG 193 rfl
      subst hQ
      exact W.iret (v := (I 193 w_61)) hx hb hr (fun t1 ht hW => ⟨⟨(I 193 w_61), (σ, I, J, ri, rj, rq), rfl, rfl, by rw [ht]; exact hP, va_K.moved hW.alike hK, hD⟩, hS.F ht⟩) hS.2.2 dX11_about_225
    by_cases k_63 : a0 = (14 : Int32)
    · have h_64 : rg a0 14 14 := rg_and (rg_full _) (rg_of_eq k_63 (rg_k (14 : Int32) 14 rfl)) (by decide)
      refine lv_tov 14 k_63 ?_
      refine lv_tableIn (tgt := 226) hx hb dX11_about_1 (by decide) (by decide) rfl (by decide) ?_
      refine lv_aload_n hx hb dX11_about_226 rfl (lv_at hl 0 rfl) ?_
      obtain ⟨w_65, hR_w_65, hL_w_65, hK_w_65⟩ := sh_o hSH 352 (ci := 11) (kd := 10) rfl hL_this hK_this
      refine pg_f (v := .ref w_65) (C := RX11) (T := TX11) (N := 5) hx hb hts (tw_i inlX11) hown hK hP hL_this hK_this (by decide) rfl 0 (by decide) (hts _ (tw_c tw_16)) (pq_hv rfl hR_w_65) dX11_about_227 ?_
      obtain ⟨w_66, hR_w_66, hL_w_66, hK_w_66⟩ := sh_o hSH 327 (ci := 10) (kd := 2) rfl hL_w_65 hK_w_65
      refine pg_f (v := .ref w_66) (C := RX10) (T := TX10) (N := 13) hx hb hts (tw_i inlX10) hown hK hP hL_w_65 hK_w_65 (by decide) rfl 7 (by decide) (hts _ (tw_c tw_199)) (pq_hv rfl hR_w_66) dX11_about_230 ?_
      obtain ⟨w_67, hR_w_67, hL_w_67, hK_w_67, hN_w_67, hT_w_67⟩ := sh_a hSH 73 (ci := 2) (kd := 13) (len := 40) rfl (by decide) hL_w_66 hK_w_66
      refine pg_f (v := .ref w_67) (C := RX2) (T := TX2) (N := 20) hx hb hts (tw_i inlX2) hown hK hP hL_w_66 hK_w_66 (by decide) rfl 9 (by decide) (hts _ (tw_c tw_1273)) (pq_hv rfl hR_w_67) dX11_about_233 ?_
      refine lv_aload_n hx hb dX11_about_236 rfl (lv_at hl 0 rfl) ?_
      refine pg_f (v := .ref w_65) (C := RX11) (T := TX11) (N := 5) hx hb hts (tw_i inlX11) hown hK hP hL_this hK_this (by decide) rfl 0 (by decide) (hts _ (tw_c tw_16)) (pq_hv rfl hR_w_65) dX11_about_237 ?_
      refine pg_f (v := .ref w_66) (C := RX10) (T := TX10) (N := 13) hx hb hts (tw_i inlX10) hown hK hP hL_w_65 hK_w_65 (by decide) rfl 7 (by decide) (hts _ (tw_c tw_199)) (pq_hv rfl hR_w_66) dX11_about_240 ?_
      refine pg_f (v := .int (I 65 w_66)) (C := RX2) (T := TX2) (N := 20) hx hb hts (tw_i inlX2) hown hK hP hL_w_66 hK_w_66 (by decide) rfl 1 (by decide) (hts _ (tw_c tw_210)) rfl dX11_about_243 ?_
      have h_68 : rg (I 65 w_66) 0 40 := GX.rI hG 65 rfl
      refine pk_i (va_runS (As := [.ref w_67, .int (I 65 w_66)]) (rest := []) ⟨hx, hb, hml, hown, hts⟩ (s_X11_sum_73 l D t σ I J ri rj rq H.size tg hSH hG.1 w_67 (I 65 w_66) hL_w_67 hK_w_67 hN_w_67 hT_w_67 (rg_w h_68 (by decide))) (va_cwS 2 hts (tw_S tw_1559 tw_1560 tw_2 tw_1561) rfl rfl rfl cd_yX11_sum_2 ⟨Nat.le_of_ble_eq_true rfl, Nat.le_of_ble_eq_true rfl⟩) ⟨pq_blind, pq_pre hK hN hP hD⟩ rfl rfl hl.1 rfl (lv_room (Nat.le_of_ble_eq_true rfl)) dX11_about_246 ⟨Nat.le_of_ble_eq_true rfl, Nat.le_of_ble_eq_true rfl⟩) hD hS hA (fun x_69 σ1 μ1 H locs hw_70 hP hD hS => ?_)
      have hu_71 := hw_70
      obtain ⟨hu_71a, hu_71b⟩ := Prod.mk.inj hu_71
      rw [hu_71a, hu_71b] at hP hD
      subst hQ
      exact W.iret (v := x_69) hx hb hr (fun t1 ht hW => ⟨⟨x_69, (σ, I, J, ri, rj, rq), rfl, rfl, by rw [ht]; exact hP, va_K.moved hW.alike hK, hD⟩, hS.F ht⟩) hS.2.2 dX11_about_249
    by_cases k_74 : a0 = (15 : Int32)
    · have h_75 : rg a0 15 15 := rg_and (rg_full _) (rg_of_eq k_74 (rg_k (15 : Int32) 15 rfl)) (by decide)
      refine lv_tov 15 k_74 ?_
      refine lv_tableIn (tgt := 250) hx hb dX11_about_1 (by decide) (by decide) rfl (by decide) ?_
      refine lv_aload_n hx hb dX11_about_250 rfl (lv_at hl 0 rfl) ?_
      obtain ⟨w_76, hR_w_76, hL_w_76, hK_w_76⟩ := sh_o hSH 352 (ci := 11) (kd := 10) rfl hL_this hK_this
      refine pg_f (v := .ref w_76) (C := RX11) (T := TX11) (N := 5) hx hb hts (tw_i inlX11) hown hK hP hL_this hK_this (by decide) rfl 0 (by decide) (hts _ (tw_c tw_16)) (pq_hv rfl hR_w_76) dX11_about_251 ?_
      obtain ⟨w_77, hR_w_77, hL_w_77, hK_w_77⟩ := sh_o hSH 328 (ci := 10) (kd := 0) rfl hL_w_76 hK_w_76
      refine pg_f (v := .ref w_77) (C := RX10) (T := TX10) (N := 13) hx hb hts (tw_i inlX10) hown hK hP hL_w_76 hK_w_76 (by decide) rfl 8 (by decide) (hts _ (tw_c tw_379)) (pq_hv rfl hR_w_77) dX11_about_254 ?_
      obtain ⟨w_78, hR_w_78, hL_w_78, hK_w_78, hN_w_78, hT_w_78⟩ := sh_a hSH 6 (ci := 0) (kd := 13) (len := 40) rfl (by decide) hL_w_77 hK_w_77
      refine pg_f (v := .ref w_78) (C := RX0) (T := TX0) (N := 16) hx hb hts (tw_i inlX0) hown hK hP hL_w_77 hK_w_77 (by decide) rfl 6 (by decide) (hts _ (tw_c tw_1296)) (pq_hv rfl hR_w_78) dX11_about_257 ?_
      refine lv_aload_n hx hb dX11_about_260 rfl (lv_at hl 0 rfl) ?_
      refine pg_f (v := .ref w_76) (C := RX11) (T := TX11) (N := 5) hx hb hts (tw_i inlX11) hown hK hP hL_this hK_this (by decide) rfl 0 (by decide) (hts _ (tw_c tw_16)) (pq_hv rfl hR_w_76) dX11_about_261 ?_
      refine pg_f (v := .ref w_77) (C := RX10) (T := TX10) (N := 13) hx hb hts (tw_i inlX10) hown hK hP hL_w_76 hK_w_76 (by decide) rfl 8 (by decide) (hts _ (tw_c tw_379)) (pq_hv rfl hR_w_77) dX11_about_264 ?_
      refine pg_f (v := .int (I 0 w_77)) (C := RX0) (T := TX0) (N := 16) hx hb hts (tw_i inlX0) hown hK hP hL_w_77 hK_w_77 (by decide) rfl 0 (by decide) (hts _ (tw_c tw_390)) rfl dX11_about_267 ?_
      have h_79 : rg (I 0 w_77) 0 40 := GX.rI hG 0 rfl
      refine pk_i (va_runS (As := [.ref w_78, .int (I 0 w_77)]) (rest := []) ⟨hx, hb, hml, hown, hts⟩ (s_X11_sum_6 l D t σ I J ri rj rq H.size tg hSH hG.1 w_78 (I 0 w_77) hL_w_78 hK_w_78 hN_w_78 hT_w_78 (rg_w h_79 (by decide))) (va_cwS 2 hts (tw_S tw_1559 tw_1560 tw_2 tw_1561) rfl rfl rfl cd_yX11_sum_2 ⟨Nat.le_of_ble_eq_true rfl, Nat.le_of_ble_eq_true rfl⟩) ⟨pq_blind, pq_pre hK hN hP hD⟩ rfl rfl hl.1 rfl (lv_room (Nat.le_of_ble_eq_true rfl)) dX11_about_270 ⟨Nat.le_of_ble_eq_true rfl, Nat.le_of_ble_eq_true rfl⟩) hD hS hA (fun x_80 σ1 μ1 H locs hw_81 hP hD hS => ?_)
      have hu_82 := hw_81
      obtain ⟨hu_82a, hu_82b⟩ := Prod.mk.inj hu_82
      rw [hu_82a, hu_82b] at hP hD
      subst hQ
      exact W.iret (v := x_80) hx hb hr (fun t1 ht hW => ⟨⟨x_80, (σ, I, J, ri, rj, rq), rfl, rfl, by rw [ht]; exact hP, va_K.moved hW.alike hK, hD⟩, hS.F ht⟩) hS.2.2 dX11_about_273
    by_cases k_85 : a0 = (16 : Int32)
    · have h_86 : rg a0 16 16 := rg_and (rg_full _) (rg_of_eq k_85 (rg_k (16 : Int32) 16 rfl)) (by decide)
      refine lv_tov 16 k_85 ?_
      refine lv_tableIn (tgt := 274) hx hb dX11_about_1 (by decide) (by decide) rfl (by decide) ?_
      refine lv_aload_n hx hb dX11_about_274 rfl (lv_at hl 0 rfl) ?_
      obtain ⟨w_87, hR_w_87, hL_w_87, hK_w_87⟩ := sh_o hSH 352 (ci := 11) (kd := 10) rfl hL_this hK_this
      refine pg_f (v := .ref w_87) (C := RX11) (T := TX11) (N := 5) hx hb hts (tw_i inlX11) hown hK hP hL_this hK_this (by decide) rfl 0 (by decide) (hts _ (tw_c tw_16)) (pq_hv rfl hR_w_87) dX11_about_275 ?_
      obtain ⟨w_88, hR_w_88, hL_w_88, hK_w_88⟩ := sh_o hSH 328 (ci := 10) (kd := 0) rfl hL_w_87 hK_w_87
      refine pg_f (v := .ref w_88) (C := RX10) (T := TX10) (N := 13) hx hb hts (tw_i inlX10) hown hK hP hL_w_87 hK_w_87 (by decide) rfl 8 (by decide) (hts _ (tw_c tw_379)) (pq_hv rfl hR_w_88) dX11_about_278 ?_
      obtain ⟨w_89, hR_w_89, hL_w_89, hK_w_89, hN_w_89, hT_w_89⟩ := sh_a hSH 7 (ci := 0) (kd := 13) (len := 40) rfl (by decide) hL_w_88 hK_w_88
      refine pg_f (v := .ref w_89) (C := RX0) (T := TX0) (N := 16) hx hb hts (tw_i inlX0) hown hK hP hL_w_88 hK_w_88 (by decide) rfl 7 (by decide) (hts _ (tw_c tw_1297)) (pq_hv rfl hR_w_89) dX11_about_281 ?_
      refine lv_aload_n hx hb dX11_about_284 rfl (lv_at hl 0 rfl) ?_
      refine pg_f (v := .ref w_87) (C := RX11) (T := TX11) (N := 5) hx hb hts (tw_i inlX11) hown hK hP hL_this hK_this (by decide) rfl 0 (by decide) (hts _ (tw_c tw_16)) (pq_hv rfl hR_w_87) dX11_about_285 ?_
      refine pg_f (v := .ref w_88) (C := RX10) (T := TX10) (N := 13) hx hb hts (tw_i inlX10) hown hK hP hL_w_87 hK_w_87 (by decide) rfl 8 (by decide) (hts _ (tw_c tw_379)) (pq_hv rfl hR_w_88) dX11_about_288 ?_
      refine pg_f (v := .int (I 0 w_88)) (C := RX0) (T := TX0) (N := 16) hx hb hts (tw_i inlX0) hown hK hP hL_w_88 hK_w_88 (by decide) rfl 0 (by decide) (hts _ (tw_c tw_390)) rfl dX11_about_291 ?_
      have h_90 : rg (I 0 w_88) 0 40 := GX.rI hG 0 rfl
      refine pk_i (va_runS (As := [.ref w_89, .int (I 0 w_88)]) (rest := []) ⟨hx, hb, hml, hown, hts⟩ (s_X11_sum_7 l D t σ I J ri rj rq H.size tg hSH hG.1 w_89 (I 0 w_88) hL_w_89 hK_w_89 hN_w_89 hT_w_89 (rg_w h_90 (by decide))) (va_cwS 2 hts (tw_S tw_1559 tw_1560 tw_2 tw_1561) rfl rfl rfl cd_yX11_sum_2 ⟨Nat.le_of_ble_eq_true rfl, Nat.le_of_ble_eq_true rfl⟩) ⟨pq_blind, pq_pre hK hN hP hD⟩ rfl rfl hl.1 rfl (lv_room (Nat.le_of_ble_eq_true rfl)) dX11_about_294 ⟨Nat.le_of_ble_eq_true rfl, Nat.le_of_ble_eq_true rfl⟩) hD hS hA (fun x_91 σ1 μ1 H locs hw_92 hP hD hS => ?_)
      have hu_93 := hw_92
      obtain ⟨hu_93a, hu_93b⟩ := Prod.mk.inj hu_93
      rw [hu_93a, hu_93b] at hP hD
      subst hQ
      exact W.iret (v := x_91) hx hb hr (fun t1 ht hW => ⟨⟨x_91, (σ, I, J, ri, rj, rq), rfl, rfl, by rw [ht]; exact hP, va_K.moved hW.alike hK, hD⟩, hS.F ht⟩) hS.2.2 dX11_about_297
    refine lv_tableOut (tgt := 298) hx hb dX11_about_1 (by have z_k_1 := sw_ne k_1 (n := 0) rfl; have z_k_5 := sw_ne k_5 (n := 1) rfl; have z_k_10 := sw_ne k_10 (n := 2) rfl; have z_k_15 := sw_ne k_15 (n := 3) rfl; have z_k_20 := sw_ne k_20 (n := 4) rfl; have z_k_25 := sw_ne k_25 (n := 5) rfl; have z_k_30 := sw_ne k_30 (n := 6) rfl; have z_k_35 := sw_ne k_35 (n := 7) rfl; have z_k_40 := sw_ne k_40 (n := 8) rfl; have z_k_43 := sw_ne k_43 (n := 9) rfl; have z_k_47 := sw_ne k_47 (n := 10) rfl; have z_k_52 := sw_ne k_52 (n := 11) rfl; have z_k_55 := sw_ne k_55 (n := 12) rfl; have z_k_58 := sw_ne k_58 (n := 13) rfl; have z_k_63 := sw_ne k_63 (n := 14) rfl; have z_k_74 := sw_ne k_74 (n := 15) rfl; have z_k_85 := sw_ne k_85 (n := 16) rfl; omega) (by decide) ?_
    refine lv_ldcw hx hb hown (hts _ (tw_c tw_1558)) dX11_about_298 ?_
    subst hQ
    exact W.iret (v := (-1000000000)) hx hb hr (fun t1 ht hW => ⟨⟨(-1000000000), (σ, I, J, ri, rj, rq), rfl, rfl, by rw [ht]; exact hP, va_K.moved hW.alike hK, hD⟩, hS.F ht⟩) hS.2.2 dX11_about_301
  exact go _ _ _ hP hD hS hl
