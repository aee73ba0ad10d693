theorem dX11_order_0 : decode cX11_order 0 = .ok (.aload_n 0, 1) := oc_42 (by decide +kernel)
theorem dX11_order_1 : decode cX11_order 1 = .ok (.iload_n 1, 1) := oc_27 (by decide +kernel)
theorem dX11_order_2 : decode cX11_order 2 = .ok (.iload_n 2, 1) := oc_28 (by decide +kernel)
theorem dX11_order_3 : decode cX11_order 3 = .ok (.bipush 12, 2) := oc_16 (a := 12) (by decide +kernel)
theorem dX11_order_5 : decode cX11_order 5 = .ok (.invokevirtual 260, 3) := oc_182 (a := 1) (b := 4) (by decide +kernel)
theorem dX11_order_36 : decode cX11_order 36 = .ok (.istore 4, 2) := oc_54 (by decide +kernel)
theorem dX11_order_38 : decode cX11_order 38 = .ok (.iload 4, 2) := oc_21 (by decide +kernel)
theorem dX11_order_40 : decode cX11_order 40 = .ok (.ifCond .ne 5, 3) := oc_154 (a := 0) (b := 5) (by decide +kernel)
theorem dX11_order_45 : decode cX11_order 45 = .ok (.aload_n 0, 1) := oc_42 (by decide +kernel)
theorem dX11_order_46 : decode cX11_order 46 = .ok (.getfield 19, 3) := oc_180 (a := 0) (b := 19) (by decide +kernel)
theorem dX11_order_49 : decode cX11_order 49 = .ok (.aload_n 0, 1) := oc_42 (by decide +kernel)
theorem dX11_order_50 : decode cX11_order 50 = .ok (.getfield 10, 3) := oc_180 (a := 0) (b := 10) (by decide +kernel)
theorem dX11_order_53 : decode cX11_order 53 = .ok (.invokevirtual 266, 3) := oc_182 (a := 1) (b := 10) (by decide +kernel)
theorem dX11_order_56 : decode cX11_order 56 = .ok (.aload_n 0, 1) := oc_42 (by decide +kernel)
theorem tw_22 : Cond.fieldLink RX11 25 "RingsUnder" "ringOrders" "LRingsUnder$RingOrders;" ∈ wsL_law := sg_1 _ (List.mem_of_getElem? (i := 22) rfl)
theorem dX11_order_57 : decode cX11_order 57 = .ok (.getfield 25, 3) := oc_180 (a := 0) (b := 25) (by decide +kernel)
theorem dX11_order_60 : decode cX11_order 60 = .ok (.aload_n 0, 1) := oc_42 (by decide +kernel)
theorem dX11_order_61 : decode cX11_order 61 = .ok (.getfield 10, 3) := oc_180 (a := 0) (b := 10) (by decide +kernel)
theorem dX11_order_64 : decode cX11_order 64 = .ok (.aload_n 0, 1) := oc_42 (by decide +kernel)
theorem dX11_order_65 : decode cX11_order 65 = .ok (.getfield 19, 3) := oc_180 (a := 0) (b := 19) (by decide +kernel)
theorem dX11_order_68 : decode cX11_order 68 = .ok (.iload_n 1, 1) := oc_27 (by decide +kernel)
theorem dX11_order_69 : decode cX11_order 69 = .ok (.iload_n 2, 1) := oc_28 (by decide +kernel)
theorem tw_1434 : Cond.methodLink RX11 285 yX5_seek ∈ wsL_law := sg_60 _ (List.mem_of_getElem? (i := 18) rfl)
theorem tw_1435 : Cond.instanceMethod yX5_seek ∈ wsL_law := sg_60 _ (List.mem_of_getElem? (i := 19) rfl)
theorem tw_1436 : Cond.selects RX5 yX5_seek yX5_seek ∈ wsL_law := sg_60 _ (List.mem_of_getElem? (i := 20) rfl)
theorem tw_1437 : Cond.code yX5_seek cX5_seek 9 none ∈ wsL_law := sg_60 _ (List.mem_of_getElem? (i := 21) rfl)
theorem dX11_order_70 : decode cX11_order 70 = .ok (.invokevirtual 285, 3) := oc_182 (a := 1) (b := 29) (by decide +kernel)
theorem dX11_order_73 : decode cX11_order 73 = .ok (.iload_n 3, 1) := oc_29 (by decide +kernel)
theorem dX11_order_74 : decode cX11_order 74 = .ok (.iconst (-1), 1) := oc_2 (by decide +kernel)
theorem dX11_order_75 : decode cX11_order 75 = .ok (.if_icmp .ne 13, 3) := oc_160 (a := 0) (b := 13) (by decide +kernel)
theorem dX11_order_88 : decode cX11_order 88 = .ok (.aload_n 0, 1) := oc_42 (by decide +kernel)
theorem dX11_order_89 : decode cX11_order 89 = .ok (.getfield 25, 3) := oc_180 (a := 0) (b := 25) (by decide +kernel)
theorem tw_1433 : Cond.fieldLink RX11 292 "RingsUnder$RingOrders" "best" "[I" ∈ wsL_law := sg_60 _ (List.mem_of_getElem? (i := 17) rfl)
theorem dX11_order_92 : decode cX11_order 92 = .ok (.getfield 292, 3) := oc_180 (a := 1) (b := 36) (by decide +kernel)
theorem dX11_order_95 : decode cX11_order 95 = .ok (.iload_n 3, 1) := oc_29 (by decide +kernel)
theorem dX11_order_96 : decode cX11_order 96 = .ok (.iaload, 1) := oc_46 (by decide +kernel)
theorem dX11_order_97 : decode cX11_order 97 = .ok (.ireturn, 1) := oc_172 (by decide +kernel)
theorem dX11_order_78 : decode cX11_order 78 = .ok (.aload_n 0, 1) := oc_42 (by decide +kernel)
theorem dX11_order_79 : decode cX11_order 79 = .ok (.getfield 25, 3) := oc_180 (a := 0) (b := 25) (by decide +kernel)
theorem tw_1432 : Cond.fieldLink RX11 289 "RingsUnder$RingOrders" "least" "I" ∈ wsL_law := sg_60 _ (List.mem_of_getElem? (i := 16) rfl)
theorem dX11_order_82 : decode cX11_order 82 = .ok (.getfield 289, 3) := oc_180 (a := 1) (b := 33) (by decide +kernel)
theorem dX11_order_85 : decode cX11_order 85 = .ok (.goto 12, 3) := oc_167 (a := 0) (b := 12) (by decide +kernel)
theorem dX11_order_43 : decode cX11_order 43 = .ok (.iconst (-1), 1) := oc_2 (by decide +kernel)
theorem dX11_order_44 : decode cX11_order 44 = .ok (.ireturn, 1) := oc_172 (by decide +kernel)
theorem dX11_order_35 : decode cX11_order 35 = .ok (.iconst 0, 1) := oc_3 (by decide +kernel)
theorem dX11_order_8 : decode cX11_order 8 = .ok (.ifCond .eq 27, 3) := oc_153 (a := 0) (b := 27) (by decide +kernel)
theorem dX11_order_11 : decode cX11_order 11 = .ok (.iload_n 3, 1) := oc_29 (by decide +kernel)
theorem dX11_order_12 : decode cX11_order 12 = .ok (.iconst (-1), 1) := oc_2 (by decide +kernel)
theorem dX11_order_13 : decode cX11_order 13 = .ok (.aload_n 0, 1) := oc_42 (by decide +kernel)
theorem dX11_order_14 : decode cX11_order 14 = .ok (.getfield 10, 3) := oc_180 (a := 0) (b := 10) (by decide +kernel)
theorem dX11_order_17 : decode cX11_order 17 = .ok (.getfield 36, 3) := oc_180 (a := 0) (b := 36) (by decide +kernel)
theorem dX11_order_20 : decode cX11_order 20 = .ok (.getfield 40, 3) := oc_180 (a := 0) (b := 40) (by decide +kernel)
theorem dX11_order_23 : decode cX11_order 23 = .ok (.iconst 1, 1) := oc_4 (by decide +kernel)
theorem dX11_order_24 : decode cX11_order 24 = .ok (.isub, 1) := oc_100 (by decide +kernel)
theorem dX11_order_25 : decode cX11_order 25 = .ok (.invokestatic 50, 3) := oc_184 (a := 0) (b := 50) (by decide +kernel)
theorem dX11_order_28 : decode cX11_order 28 = .ok (.ifCond .eq 7, 3) := oc_153 (a := 0) (b := 7) (by decide +kernel)
theorem dX11_order_31 : decode cX11_order 31 = .ok (.iconst 1, 1) := oc_4 (by decide +kernel)
theorem dX11_order_32 : decode cX11_order 32 = .ok (.goto 4, 3) := oc_167 (a := 0) (b := 4) (by decide +kernel)
theorem dX11_cellOf_0 : decode cX11_cellOf 0 = .ok (.aload_n 0, 1) := oc_42 (by decide +kernel)
theorem dX11_cellOf_1 : decode cX11_cellOf 1 = .ok (.iload_n 1, 1) := oc_27 (by decide +kernel)
theorem dX11_cellOf_2 : decode cX11_cellOf 2 = .ok (.invokevirtual 119, 3) := oc_182 (a := 0) (b := 119) (by decide +kernel)
theorem dX11_cellOf_5 : decode cX11_cellOf 5 = .ok (.ifCond .ne 6, 3) := oc_154 (a := 0) (b := 6) (by decide +kernel)
theorem dX11_cellOf_11 : decode cX11_cellOf 11 = .ok (.aload_n 0, 1) := oc_42 (by decide +kernel)
theorem dX11_cellOf_12 : decode cX11_cellOf 12 = .ok (.getfield 10, 3) := oc_180 (a := 0) (b := 10) (by decide +kernel)
theorem dX11_cellOf_15 : decode cX11_cellOf 15 = .ok (.getfield 36, 3) := oc_180 (a := 0) (b := 36) (by decide +kernel)
theorem dX11_cellOf_18 : decode cX11_cellOf 18 = .ok (.astore_n 3, 1) := oc_78 (by decide +kernel)
theorem dX11_cellOf_19 : decode cX11_cellOf 19 = .ok (.iload_n 2, 1) := oc_28 (by decide +kernel)
theorem dX11_cellOf_20 : decode cX11_cellOf 20 = .ok (.tableswitch 187 0 11 #[64, 71, 78, 85, 92, 99, 105, 112, 137, 162, 169, 178], 64) := by decide +kernel
theorem dX11_cellOf_84 : decode cX11_cellOf 84 = .ok (.aload_n 3, 1) := oc_45 (by decide +kernel)
theorem tw_1271 : Cond.fieldLink RX11 295 "RingsUnder$Land" "ring" "[I" ∈ wsL_law := sg_53 _ (List.mem_of_getElem? (i := 23) rfl)
theorem dX11_cellOf_85 : decode cX11_cellOf 85 = .ok (.getfield 295, 3) := oc_180 (a := 1) (b := 39) (by decide +kernel)
theorem dX11_cellOf_88 : decode cX11_cellOf 88 = .ok (.iload_n 1, 1) := oc_27 (by decide +kernel)
theorem dX11_cellOf_89 : decode cX11_cellOf 89 = .ok (.iaload, 1) := oc_46 (by decide +kernel)
theorem dX11_cellOf_90 : decode cX11_cellOf 90 = .ok (.ireturn, 1) := oc_172 (by decide +kernel)
theorem dX11_cellOf_91 : decode cX11_cellOf 91 = .ok (.aload_n 3, 1) := oc_45 (by decide +kernel)
theorem tw_1272 : Cond.fieldLink RX11 298 "RingsUnder$Land" "height" "[I" ∈ wsL_law := sg_54 _ (List.mem_of_getElem? (i := 0) rfl)
theorem dX11_cellOf_92 : decode cX11_cellOf 92 = .ok (.getfield 298, 3) := oc_180 (a := 1) (b := 42) (by decide +kernel)
theorem dX11_cellOf_95 : decode cX11_cellOf 95 = .ok (.iload_n 1, 1) := oc_27 (by decide +kernel)
theorem dX11_cellOf_96 : decode cX11_cellOf 96 = .ok (.iaload, 1) := oc_46 (by decide +kernel)
theorem dX11_cellOf_97 : decode cX11_cellOf 97 = .ok (.ireturn, 1) := oc_172 (by decide +kernel)
theorem dX11_cellOf_98 : decode cX11_cellOf 98 = .ok (.aload_n 3, 1) := oc_45 (by decide +kernel)
theorem tw_1273 : Cond.fieldLink RX11 301 "RingsUnder$Land" "sand" "[I" ∈ wsL_law := sg_54 _ (List.mem_of_getElem? (i := 1) rfl)
theorem dX11_cellOf_99 : decode cX11_cellOf 99 = .ok (.getfield 301, 3) := oc_180 (a := 1) (b := 45) (by decide +kernel)
theorem dX11_cellOf_102 : decode cX11_cellOf 102 = .ok (.iload_n 1, 1) := oc_27 (by decide +kernel)
theorem dX11_cellOf_103 : decode cX11_cellOf 103 = .ok (.iaload, 1) := oc_46 (by decide +kernel)
theorem dX11_cellOf_104 : decode cX11_cellOf 104 = .ok (.ireturn, 1) := oc_172 (by decide +kernel)
theorem dX11_cellOf_105 : decode cX11_cellOf 105 = .ok (.aload_n 3, 1) := oc_45 (by decide +kernel)
theorem tw_1274 : Cond.fieldLink RX11 304 "RingsUnder$Land" "reef" "[I" ∈ wsL_law := sg_54 _ (List.mem_of_getElem? (i := 2) rfl)
theorem dX11_cellOf_106 : decode cX11_cellOf 106 = .ok (.getfield 304, 3) := oc_180 (a := 1) (b := 48) (by decide +kernel)
theorem dX11_cellOf_109 : decode cX11_cellOf 109 = .ok (.iload_n 1, 1) := oc_27 (by decide +kernel)
theorem dX11_cellOf_110 : decode cX11_cellOf 110 = .ok (.iaload, 1) := oc_46 (by decide +kernel)
theorem dX11_cellOf_111 : decode cX11_cellOf 111 = .ok (.ireturn, 1) := oc_172 (by decide +kernel)
theorem dX11_cellOf_112 : decode cX11_cellOf 112 = .ok (.aload_n 3, 1) := oc_45 (by decide +kernel)
theorem dX11_cellOf_113 : decode cX11_cellOf 113 = .ok (.getfield 122, 3) := oc_180 (a := 0) (b := 122) (by decide +kernel)
theorem dX11_cellOf_116 : decode cX11_cellOf 116 = .ok (.iload_n 1, 1) := oc_27 (by decide +kernel)
theorem dX11_cellOf_117 : decode cX11_cellOf 117 = .ok (.iaload, 1) := oc_46 (by decide +kernel)
theorem dX11_cellOf_118 : decode cX11_cellOf 118 = .ok (.ireturn, 1) := oc_172 (by decide +kernel)
theorem dX11_cellOf_119 : decode cX11_cellOf 119 = .ok (.aload_n 3, 1) := oc_45 (by decide +kernel)
theorem dX11_cellOf_120 : decode cX11_cellOf 120 = .ok (.iload_n 1, 1) := oc_27 (by decide +kernel)
theorem tw_1278 : Cond.methodLink RX11 307 yX2_topOf ∈ wsL_law := sg_54 _ (List.mem_of_getElem? (i := 6) rfl)
theorem dX11_cellOf_121 : decode cX11_cellOf 121 = .ok (.invokevirtual 307, 3) := oc_182 (a := 1) (b := 51) (by decide +kernel)
theorem dX11_cellOf_124 : decode cX11_cellOf 124 = .ok (.ireturn, 1) := oc_172 (by decide +kernel)
theorem dX11_cellOf_125 : decode cX11_cellOf 125 = .ok (.aload_n 3, 1) := oc_45 (by decide +kernel)
theorem dX11_cellOf_126 : decode cX11_cellOf 126 = .ok (.getfield 138, 3) := oc_180 (a := 0) (b := 138) (by decide +kernel)
theorem dX11_cellOf_129 : decode cX11_cellOf 129 = .ok (.iload_n 1, 1) := oc_27 (by decide +kernel)
theorem dX11_cellOf_130 : decode cX11_cellOf 130 = .ok (.iaload, 1) := oc_46 (by decide +kernel)
theorem dX11_cellOf_131 : decode cX11_cellOf 131 = .ok (.ireturn, 1) := oc_172 (by decide +kernel)
theorem dX11_cellOf_132 : decode cX11_cellOf 132 = .ok (.aload_n 3, 1) := oc_45 (by decide +kernel)
theorem dX11_cellOf_133 : decode cX11_cellOf 133 = .ok (.getfield 125, 3) := oc_180 (a := 0) (b := 125) (by decide +kernel)
theorem dX11_cellOf_136 : decode cX11_cellOf 136 = .ok (.iload_n 1, 1) := oc_27 (by decide +kernel)
theorem dX11_cellOf_137 : decode cX11_cellOf 137 = .ok (.invokevirtual 129, 3) := oc_182 (a := 0) (b := 129) (by decide +kernel)
theorem dX11_cellOf_140 : decode cX11_cellOf 140 = .ok (.ifCond .eq 15, 3) := oc_153 (a := 0) (b := 15) (by decide +kernel)
theorem dX11_cellOf_155 : decode cX11_cellOf 155 = .ok (.iconst (-1), 1) := oc_2 (by decide +kernel)
theorem dX11_cellOf_156 : decode cX11_cellOf 156 = .ok (.ireturn, 1) := oc_172 (by decide +kernel)
theorem dX11_cellOf_143 : decode cX11_cellOf 143 = .ok (.aload_n 3, 1) := oc_45 (by decide +kernel)
theorem dX11_cellOf_144 : decode cX11_cellOf 144 = .ok (.getfield 125, 3) := oc_180 (a := 0) (b := 125) (by decide +kernel)
theorem tw_1275 : Cond.fieldLink RX11 310 "RingsUnder$Wells" "lens" "[I" ∈ wsL_law := sg_54 _ (List.mem_of_getElem? (i := 3) rfl)
theorem dX11_cellOf_147 : decode cX11_cellOf 147 = .ok (.getfield 310, 3) := oc_180 (a := 1) (b := 54) (by decide +kernel)
theorem dX11_cellOf_150 : decode cX11_cellOf 150 = .ok (.iload_n 1, 1) := oc_27 (by decide +kernel)
theorem dX11_cellOf_151 : decode cX11_cellOf 151 = .ok (.iaload, 1) := oc_46 (by decide +kernel)
theorem dX11_cellOf_152 : decode cX11_cellOf 152 = .ok (.goto 4, 3) := oc_167 (a := 0) (b := 4) (by decide +kernel)
theorem dX11_cellOf_157 : decode cX11_cellOf 157 = .ok (.aload_n 3, 1) := oc_45 (by decide +kernel)
theorem dX11_cellOf_158 : decode cX11_cellOf 158 = .ok (.getfield 125, 3) := oc_180 (a := 0) (b := 125) (by decide +kernel)
theorem dX11_cellOf_161 : decode cX11_cellOf 161 = .ok (.iload_n 1, 1) := oc_27 (by decide +kernel)
theorem dX11_cellOf_162 : decode cX11_cellOf 162 = .ok (.invokevirtual 129, 3) := oc_182 (a := 0) (b := 129) (by decide +kernel)
theorem dX11_cellOf_165 : decode cX11_cellOf 165 = .ok (.ifCond .eq 15, 3) := oc_153 (a := 0) (b := 15) (by decide +kernel)
theorem dX11_cellOf_180 : decode cX11_cellOf 180 = .ok (.iconst (-1), 1) := oc_2 (by decide +kernel)
theorem dX11_cellOf_181 : decode cX11_cellOf 181 = .ok (.ireturn, 1) := oc_172 (by decide +kernel)
theorem dX11_cellOf_168 : decode cX11_cellOf 168 = .ok (.aload_n 3, 1) := oc_45 (by decide +kernel)
theorem dX11_cellOf_169 : decode cX11_cellOf 169 = .ok (.getfield 125, 3) := oc_180 (a := 0) (b := 125) (by decide +kernel)
theorem tw_1276 : Cond.fieldLink RX11 313 "RingsUnder$Wells" "salt" "[I" ∈ wsL_law := sg_54 _ (List.mem_of_getElem? (i := 4) rfl)
theorem dX11_cellOf_172 : decode cX11_cellOf 172 = .ok (.getfield 313, 3) := oc_180 (a := 1) (b := 57) (by decide +kernel)
theorem dX11_cellOf_175 : decode cX11_cellOf 175 = .ok (.iload_n 1, 1) := oc_27 (by decide +kernel)
theorem dX11_cellOf_176 : decode cX11_cellOf 176 = .ok (.iaload, 1) := oc_46 (by decide +kernel)
theorem dX11_cellOf_177 : decode cX11_cellOf 177 = .ok (.goto 4, 3) := oc_167 (a := 0) (b := 4) (by decide +kernel)
theorem dX11_cellOf_182 : decode cX11_cellOf 182 = .ok (.aload_n 3, 1) := oc_45 (by decide +kernel)
theorem tw_1277 : Cond.fieldLink RX11 316 "RingsUnder$Land" "under" "[I" ∈ wsL_law := sg_54 _ (List.mem_of_getElem? (i := 5) rfl)
theorem dX11_cellOf_183 : decode cX11_cellOf 183 = .ok (.getfield 316, 3) := oc_180 (a := 1) (b := 60) (by decide +kernel)
theorem dX11_cellOf_186 : decode cX11_cellOf 186 = .ok (.iload_n 1, 1) := oc_27 (by decide +kernel)
theorem dX11_cellOf_187 : decode cX11_cellOf 187 = .ok (.iaload, 1) := oc_46 (by decide +kernel)
theorem dX11_cellOf_188 : decode cX11_cellOf 188 = .ok (.ireturn, 1) := oc_172 (by decide +kernel)
theorem dX11_cellOf_189 : decode cX11_cellOf 189 = .ok (.aload_n 0, 1) := oc_42 (by decide +kernel)
theorem dX11_cellOf_190 : decode cX11_cellOf 190 = .ok (.getfield 10, 3) := oc_180 (a := 0) (b := 10) (by decide +kernel)
theorem dX11_cellOf_193 : decode cX11_cellOf 193 = .ok (.iload_n 1, 1) := oc_27 (by decide +kernel)
theorem tw_1279 : Cond.methodLink RX11 319 yX10_wasDry ∈ wsL_law := sg_54 _ (List.mem_of_getElem? (i := 7) rfl)
theorem dX11_cellOf_194 : decode cX11_cellOf 194 = .ok (.invokevirtual 319, 3) := oc_182 (a := 1) (b := 63) (by decide +kernel)
theorem dX11_cellOf_197 : decode cX11_cellOf 197 = .ok (.ireturn, 1) := oc_172 (by decide +kernel)
theorem dX11_cellOf_198 : decode cX11_cellOf 198 = .ok (.aload_n 0, 1) := oc_42 (by decide +kernel)
theorem dX11_cellOf_199 : decode cX11_cellOf 199 = .ok (.getfield 10, 3) := oc_180 (a := 0) (b := 10) (by decide +kernel)
theorem dX11_cellOf_202 : decode cX11_cellOf 202 = .ok (.iload_n 1, 1) := oc_27 (by decide +kernel)
theorem tw_1280 : Cond.methodLink RX11 322 yX10_wasRock ∈ wsL_law := sg_54 _ (List.mem_of_getElem? (i := 8) rfl)
theorem tw_1281 : Cond.instanceMethod yX10_wasRock ∈ wsL_law := sg_54 _ (List.mem_of_getElem? (i := 9) rfl)
theorem tw_1282 : Cond.selects RX10 yX10_wasRock yX10_wasRock ∈ wsL_law := sg_54 _ (List.mem_of_getElem? (i := 10) rfl)
theorem tw_1283 : Cond.code yX10_wasRock cX10_wasRock 2 (some .int) ∈ wsL_law := sg_54 _ (List.mem_of_getElem? (i := 11) rfl)
theorem dX11_cellOf_203 : decode cX11_cellOf 203 = .ok (.invokevirtual 322, 3) := oc_182 (a := 1) (b := 66) (by decide +kernel)
theorem dX11_cellOf_206 : decode cX11_cellOf 206 = .ok (.ireturn, 1) := oc_172 (by decide +kernel)
theorem dX11_cellOf_207 : decode cX11_cellOf 207 = .ok (.ldc 83, 2) := oc_18 (by decide +kernel)
theorem dX11_cellOf_209 : decode cX11_cellOf 209 = .ok (.ireturn, 1) := oc_172 (by decide +kernel)
theorem dX11_cellOf_8 : decode cX11_cellOf 8 = .ok (.ldc 83, 2) := oc_18 (by decide +kernel)
theorem dX11_cellOf_10 : decode cX11_cellOf 10 = .ok (.ireturn, 1) := oc_172 (by decide +kernel)
theorem dX11_personOf_0 : decode cX11_personOf 0 = .ok (.aload_n 0, 1) := oc_42 (by decide +kernel)
theorem dX11_personOf_1 : decode cX11_personOf 1 = .ok (.iload_n 1, 1) := oc_27 (by decide +kernel)
theorem dX11_personOf_2 : decode cX11_personOf 2 = .ok (.invokevirtual 162, 3) := oc_182 (a := 0) (b := 162) (by decide +kernel)
theorem dX11_personOf_5 : decode cX11_personOf 5 = .ok (.ifCond .ne 5, 3) := oc_154 (a := 0) (b := 5) (by decide +kernel)
theorem dX11_personOf_10 : decode cX11_personOf 10 = .ok (.aload_n 0, 1) := oc_42 (by decide +kernel)
theorem dX11_personOf_11 : decode cX11_personOf 11 = .ok (.getfield 10, 3) := oc_180 (a := 0) (b := 10) (by decide +kernel)
theorem dX11_personOf_14 : decode cX11_personOf 14 = .ok (.getfield 143, 3) := oc_180 (a := 0) (b := 143) (by decide +kernel)
theorem dX11_personOf_17 : decode cX11_personOf 17 = .ok (.astore_n 3, 1) := oc_78 (by decide +kernel)
theorem dX11_personOf_18 : decode cX11_personOf 18 = .ok (.iload_n 2, 1) := oc_28 (by decide +kernel)
theorem dX11_personOf_19 : decode cX11_personOf 19 = .ok (.tableswitch 101 0 7 #[45, 52, 59, 66, 73, 80, 87, 94], 45) := by decide +kernel
theorem dX11_personOf_64 : decode cX11_personOf 64 = .ok (.aload_n 3, 1) := oc_45 (by decide +kernel)
theorem dX11_personOf_65 : decode cX11_personOf 65 = .ok (.getfield 165, 3) := oc_180 (a := 0) (b := 165) (by decide +kernel)
theorem dX11_personOf_68 : decode cX11_personOf 68 = .ok (.iload_n 1, 1) := oc_27 (by decide +kernel)
theorem dX11_personOf_69 : decode cX11_personOf 69 = .ok (.iaload, 1) := oc_46 (by decide +kernel)
theorem dX11_personOf_70 : decode cX11_personOf 70 = .ok (.ireturn, 1) := oc_172 (by decide +kernel)
theorem dX11_personOf_71 : decode cX11_personOf 71 = .ok (.aload_n 3, 1) := oc_45 (by decide +kernel)
theorem tw_1292 : Cond.fieldLink RX11 325 "RingsUnder$Folk" "kin" "[I" ∈ wsL_law := sg_54 _ (List.mem_of_getElem? (i := 20) rfl)
theorem dX11_personOf_72 : decode cX11_personOf 72 = .ok (.getfield 325, 3) := oc_180 (a := 1) (b := 69) (by decide +kernel)
theorem dX11_personOf_75 : decode cX11_personOf 75 = .ok (.iload_n 1, 1) := oc_27 (by decide +kernel)
theorem dX11_personOf_76 : decode cX11_personOf 76 = .ok (.iaload, 1) := oc_46 (by decide +kernel)
theorem dX11_personOf_77 : decode cX11_personOf 77 = .ok (.ireturn, 1) := oc_172 (by decide +kernel)
theorem dX11_personOf_78 : decode cX11_personOf 78 = .ok (.aload_n 3, 1) := oc_45 (by decide +kernel)
theorem tw_1293 : Cond.fieldLink RX11 328 "RingsUnder$Folk" "age" "[I" ∈ wsL_law := sg_54 _ (List.mem_of_getElem? (i := 21) rfl)
theorem dX11_personOf_79 : decode cX11_personOf 79 = .ok (.getfield 328, 3) := oc_180 (a := 1) (b := 72) (by decide +kernel)
theorem dX11_personOf_82 : decode cX11_personOf 82 = .ok (.iload_n 1, 1) := oc_27 (by decide +kernel)
theorem dX11_personOf_83 : decode cX11_personOf 83 = .ok (.iaload, 1) := oc_46 (by decide +kernel)
theorem dX11_personOf_84 : decode cX11_personOf 84 = .ok (.ireturn, 1) := oc_172 (by decide +kernel)
theorem dX11_personOf_85 : decode cX11_personOf 85 = .ok (.aload_n 3, 1) := oc_45 (by decide +kernel)
theorem tw_1294 : Cond.fieldLink RX11 331 "RingsUnder$Folk" "craft" "[I" ∈ wsL_law := sg_54 _ (List.mem_of_getElem? (i := 22) rfl)
theorem dX11_personOf_86 : decode cX11_personOf 86 = .ok (.getfield 331, 3) := oc_180 (a := 1) (b := 75) (by decide +kernel)
theorem dX11_personOf_89 : decode cX11_personOf 89 = .ok (.iload_n 1, 1) := oc_27 (by decide +kernel)
theorem dX11_personOf_90 : decode cX11_personOf 90 = .ok (.iaload, 1) := oc_46 (by decide +kernel)
theorem dX11_personOf_91 : decode cX11_personOf 91 = .ok (.ireturn, 1) := oc_172 (by decide +kernel)
theorem dX11_personOf_92 : decode cX11_personOf 92 = .ok (.aload_n 3, 1) := oc_45 (by decide +kernel)
theorem tw_1295 : Cond.fieldLink RX11 334 "RingsUnder$Folk" "send" "[I" ∈ wsL_law := sg_54 _ (List.mem_of_getElem? (i := 23) rfl)
theorem dX11_personOf_93 : decode cX11_personOf 93 = .ok (.getfield 334, 3) := oc_180 (a := 1) (b := 78) (by decide +kernel)
theorem dX11_personOf_96 : decode cX11_personOf 96 = .ok (.iload_n 1, 1) := oc_27 (by decide +kernel)
theorem dX11_personOf_97 : decode cX11_personOf 97 = .ok (.iaload, 1) := oc_46 (by decide +kernel)
theorem dX11_personOf_98 : decode cX11_personOf 98 = .ok (.ireturn, 1) := oc_172 (by decide +kernel)
theorem dX11_personOf_99 : decode cX11_personOf 99 = .ok (.aload_n 3, 1) := oc_45 (by decide +kernel)
theorem tw_1296 : Cond.fieldLink RX11 337 "RingsUnder$Folk" "thirst" "[I" ∈ wsL_law := sg_55 _ (List.mem_of_getElem? (i := 0) rfl)
theorem dX11_personOf_100 : decode cX11_personOf 100 = .ok (.getfield 337, 3) := oc_180 (a := 1) (b := 81) (by decide +kernel)
theorem dX11_personOf_103 : decode cX11_personOf 103 = .ok (.iload_n 1, 1) := oc_27 (by decide +kernel)
theorem dX11_personOf_104 : decode cX11_personOf 104 = .ok (.iaload, 1) := oc_46 (by decide +kernel)
theorem dX11_personOf_105 : decode cX11_personOf 105 = .ok (.ireturn, 1) := oc_172 (by decide +kernel)
theorem dX11_personOf_106 : decode cX11_personOf 106 = .ok (.aload_n 3, 1) := oc_45 (by decide +kernel)
theorem tw_1297 : Cond.fieldLink RX11 340 "RingsUnder$Folk" "noBed" "[I" ∈ wsL_law := sg_55 _ (List.mem_of_getElem? (i := 1) rfl)
theorem dX11_personOf_107 : decode cX11_personOf 107 = .ok (.getfield 340, 3) := oc_180 (a := 1) (b := 84) (by decide +kernel)
theorem dX11_personOf_110 : decode cX11_personOf 110 = .ok (.iload_n 1, 1) := oc_27 (by decide +kernel)
theorem dX11_personOf_111 : decode cX11_personOf 111 = .ok (.iaload, 1) := oc_46 (by decide +kernel)
theorem dX11_personOf_112 : decode cX11_personOf 112 = .ok (.ireturn, 1) := oc_172 (by decide +kernel)
theorem dX11_personOf_113 : decode cX11_personOf 113 = .ok (.aload_n 3, 1) := oc_45 (by decide +kernel)
theorem tw_1298 : Cond.fieldLink RX11 343 "RingsUnder$Folk" "went" "[I" ∈ wsL_law := sg_55 _ (List.mem_of_getElem? (i := 2) rfl)
theorem dX11_personOf_114 : decode cX11_personOf 114 = .ok (.getfield 343, 3) := oc_180 (a := 1) (b := 87) (by decide +kernel)
theorem dX11_personOf_117 : decode cX11_personOf 117 = .ok (.iload_n 1, 1) := oc_27 (by decide +kernel)
theorem dX11_personOf_118 : decode cX11_personOf 118 = .ok (.iaload, 1) := oc_46 (by decide +kernel)
theorem dX11_personOf_119 : decode cX11_personOf 119 = .ok (.ireturn, 1) := oc_172 (by decide +kernel)
theorem dX11_personOf_120 : decode cX11_personOf 120 = .ok (.iconst (-1), 1) := oc_2 (by decide +kernel)
theorem dX11_personOf_121 : decode cX11_personOf 121 = .ok (.ireturn, 1) := oc_172 (by decide +kernel)
theorem dX11_personOf_8 : decode cX11_personOf 8 = .ok (.iconst (-1), 1) := oc_2 (by decide +kernel)
theorem dX11_personOf_9 : decode cX11_personOf 9 = .ok (.ireturn, 1) := oc_172 (by decide +kernel)
theorem dX11_at_0 : decode cX11_at 0 = .ok (.aload_n 0, 1) := oc_42 (by decide +kernel)
theorem dX11_at_1 : decode cX11_at 1 = .ok (.iload_n 1, 1) := oc_27 (by decide +kernel)
theorem dX11_at_2 : decode cX11_at 2 = .ok (.invokevirtual 46, 3) := oc_182 (a := 0) (b := 46) (by decide +kernel)
theorem dX11_at_35 : decode cX11_at 35 = .ok (.istore_n 2, 1) := oc_61 (by decide +kernel)
theorem dX11_at_36 : decode cX11_at 36 = .ok (.iload_n 2, 1) := oc_28 (by decide +kernel)
theorem dX11_at_37 : decode cX11_at 37 = .ok (.ifCond .eq 17, 3) := oc_153 (a := 0) (b := 17) (by decide +kernel)
theorem dX11_at_54 : decode cX11_at 54 = .ok (.iconst (-1), 1) := oc_2 (by decide +kernel)
theorem dX11_at_55 : decode cX11_at 55 = .ok (.ireturn, 1) := oc_172 (by decide +kernel)
theorem dX11_at_40 : decode cX11_at 40 = .ok (.aload_n 0, 1) := oc_42 (by decide +kernel)
theorem dX11_at_41 : decode cX11_at 41 = .ok (.getfield 10, 3) := oc_180 (a := 0) (b := 10) (by decide +kernel)
theorem dX11_at_44 : decode cX11_at 44 = .ok (.getfield 143, 3) := oc_180 (a := 0) (b := 143) (by decide +kernel)
theorem dX11_at_47 : decode cX11_at 47 = .ok (.iload_n 1, 1) := oc_27 (by decide +kernel)
theorem tw_1307 : Cond.methodLink RX11 346 yX0_countAt ∈ wsL_law := sg_55 _ (List.mem_of_getElem? (i := 11) rfl)
theorem dX11_at_48 : decode cX11_at 48 = .ok (.invokevirtual 346, 3) := oc_182 (a := 1) (b := 90) (by decide +kernel)
theorem dX11_at_51 : decode cX11_at 51 = .ok (.goto 4, 3) := oc_167 (a := 0) (b := 4) (by decide +kernel)
theorem dX11_at_30 : decode cX11_at 30 = .ok (.iconst 1, 1) := oc_4 (by decide +kernel)
theorem dX11_at_31 : decode cX11_at 31 = .ok (.goto 4, 3) := oc_167 (a := 0) (b := 4) (by decide +kernel)
theorem dX11_at_5 : decode cX11_at 5 = .ok (.ifCond .ne 25, 3) := oc_154 (a := 0) (b := 25) (by decide +kernel)
theorem dX11_at_8 : decode cX11_at 8 = .ok (.aload_n 0, 1) := oc_42 (by decide +kernel)
theorem dX11_at_9 : decode cX11_at 9 = .ok (.iload_n 1, 1) := oc_27 (by decide +kernel)
theorem dX11_at_10 : decode cX11_at 10 = .ok (.invokevirtual 168, 3) := oc_182 (a := 0) (b := 168) (by decide +kernel)
theorem dX11_at_13 : decode cX11_at 13 = .ok (.ifCond .ne 17, 3) := oc_154 (a := 0) (b := 17) (by decide +kernel)
theorem dX11_at_16 : decode cX11_at 16 = .ok (.iload_n 1, 1) := oc_27 (by decide +kernel)
theorem dX11_at_17 : decode cX11_at 17 = .ok (.sipush 200, 3) := oc_17 (a := 0) (b := 200) (by decide +kernel)
theorem dX11_at_20 : decode cX11_at 20 = .ok (.if_icmp .eq 10, 3) := oc_159 (a := 0) (b := 10) (by decide +kernel)
theorem dX11_at_23 : decode cX11_at 23 = .ok (.iload_n 1, 1) := oc_27 (by decide +kernel)
theorem dX11_at_24 : decode cX11_at 24 = .ok (.sipush 300, 3) := oc_17 (a := 1) (b := 44) (by decide +kernel)
theorem dX11_at_27 : decode cX11_at 27 = .ok (.if_icmp .ne 7, 3) := oc_160 (a := 0) (b := 7) (by decide +kernel)
theorem dX11_at_34 : decode cX11_at 34 = .ok (.iconst 0, 1) := oc_3 (by decide +kernel)
theorem dX11_area_0 : decode cX11_area 0 = .ok (.aload_n 0, 1) := oc_42 (by decide +kernel)
theorem dX11_area_1 : decode cX11_area 1 = .ok (.getfield 10, 3) := oc_180 (a := 0) (b := 10) (by decide +kernel)
theorem tw_1316 : Cond.fieldLink RX11 349 "RingsUnder$World" "area" "I" ∈ wsL_law := sg_55 _ (List.mem_of_getElem? (i := 20) rfl)
theorem dX11_area_4 : decode cX11_area 4 = .ok (.getfield 349, 3) := oc_180 (a := 1) (b := 93) (by decide +kernel)
theorem dX11_area_7 : decode cX11_area 7 = .ok (.ireturn, 1) := oc_172 (by decide +kernel)
theorem dX11_sum_0 : decode cX11_sum 0 = .ok (.iconst 0, 1) := oc_3 (by decide +kernel)
theorem dX11_sum_1 : decode cX11_sum 1 = .ok (.istore_n 2, 1) := oc_61 (by decide +kernel)
theorem dX11_sum_2 : decode cX11_sum 2 = .ok (.iconst 0, 1) := oc_3 (by decide +kernel)
theorem dX11_sum_3 : decode cX11_sum 3 = .ok (.istore_n 3, 1) := oc_62 (by decide +kernel)
theorem dX11_sum_4 : decode cX11_sum 4 = .ok (.iload_n 3, 1) := oc_29 (by decide +kernel)
theorem dX11_sum_5 : decode cX11_sum 5 = .ok (.iload_n 1, 1) := oc_27 (by decide +kernel)
theorem dX11_sum_6 : decode cX11_sum 6 = .ok (.if_icmp .ge 15, 3) := oc_162 (a := 0) (b := 15) (by decide +kernel)
theorem dX11_sum_21 : decode cX11_sum 21 = .ok (.iload_n 2, 1) := oc_28 (by decide +kernel)
theorem dX11_sum_22 : decode cX11_sum 22 = .ok (.ireturn, 1) := oc_172 (by decide +kernel)
theorem dX11_sum_9 : decode cX11_sum 9 = .ok (.iload_n 2, 1) := oc_28 (by decide +kernel)
theorem dX11_sum_10 : decode cX11_sum 10 = .ok (.aload_n 0, 1) := oc_42 (by decide +kernel)
theorem dX11_sum_11 : decode cX11_sum 11 = .ok (.iload_n 3, 1) := oc_29 (by decide +kernel)
theorem dX11_sum_12 : decode cX11_sum 12 = .ok (.iaload, 1) := oc_46 (by decide +kernel)
theorem dX11_sum_13 : decode cX11_sum 13 = .ok (.iadd, 1) := oc_96 (by decide +kernel)
theorem dX11_sum_14 : decode cX11_sum 14 = .ok (.istore_n 2, 1) := oc_61 (by decide +kernel)
theorem dX11_sum_15 : decode cX11_sum 15 = .ok (.iinc 3 1, 3) := oc_132 (b := 1) (by decide +kernel)
theorem dX11_sum_18 : decode cX11_sum 18 = .ok (.goto (-14), 3) := oc_167 (a := 255) (b := 242) (by decide +kernel)
theorem dX11_about_0 : decode cX11_about 0 = .ok (.iload_n 1, 1) := oc_27 (by decide +kernel)
theorem dX11_about_1 : decode cX11_about 1 = .ok (.tableswitch 297 0 16 #[83, 91, 102, 113, 124, 135, 146, 157, 168, 176, 187, 198, 206, 214, 225, 249, 273], 83) := by decide +kernel
theorem dX11_about_84 : decode cX11_about 84 = .ok (.aload_n 0, 1) := oc_42 (by decide +kernel)
theorem dX11_about_85 : decode cX11_about 85 = .ok (.getfield 10, 3) := oc_180 (a := 0) (b := 10) (by decide +kernel)
theorem dX11_about_88 : decode cX11_about 88 = .ok (.getfield 54, 3) := oc_180 (a := 0) (b := 54) (by decide +kernel)
theorem dX11_about_91 : decode cX11_about 91 = .ok (.ireturn, 1) := oc_172 (by decide +kernel)
theorem dX11_about_92 : decode cX11_about 92 = .ok (.aload_n 0, 1) := oc_42 (by decide +kernel)
theorem dX11_about_93 : decode cX11_about 93 = .ok (.getfield 10, 3) := oc_180 (a := 0) (b := 10) (by decide +kernel)
theorem dX11_about_96 : decode cX11_about 96 = .ok (.getfield 36, 3) := oc_180 (a := 0) (b := 36) (by decide +kernel)
theorem dX11_about_99 : decode cX11_about 99 = .ok (.getfield 40, 3) := oc_180 (a := 0) (b := 40) (by decide +kernel)
theorem dX11_about_102 : decode cX11_about 102 = .ok (.ireturn, 1) := oc_172 (by decide +kernel)
theorem dX11_about_103 : decode cX11_about 103 = .ok (.aload_n 0, 1) := oc_42 (by decide +kernel)
theorem dX11_about_104 : decode cX11_about 104 = .ok (.getfield 10, 3) := oc_180 (a := 0) (b := 10) (by decide +kernel)
theorem dX11_about_107 : decode cX11_about 107 = .ok (.getfield 36, 3) := oc_180 (a := 0) (b := 36) (by decide +kernel)
theorem dX11_about_110 : decode cX11_about 110 = .ok (.getfield 57, 3) := oc_180 (a := 0) (b := 57) (by decide +kernel)
theorem dX11_about_113 : decode cX11_about 113 = .ok (.ireturn, 1) := oc_172 (by decide +kernel)
theorem dX11_about_114 : decode cX11_about 114 = .ok (.aload_n 0, 1) := oc_42 (by decide +kernel)
theorem dX11_about_115 : decode cX11_about 115 = .ok (.getfield 10, 3) := oc_180 (a := 0) (b := 10) (by decide +kernel)
theorem dX11_about_118 : decode cX11_about 118 = .ok (.getfield 70, 3) := oc_180 (a := 0) (b := 70) (by decide +kernel)
theorem dX11_about_121 : decode cX11_about 121 = .ok (.getfield 74, 3) := oc_180 (a := 0) (b := 74) (by decide +kernel)
theorem dX11_about_124 : decode cX11_about 124 = .ok (.ireturn, 1) := oc_172 (by decide +kernel)
theorem dX11_about_125 : decode cX11_about 125 = .ok (.aload_n 0, 1) := oc_42 (by decide +kernel)
theorem dX11_about_126 : decode cX11_about 126 = .ok (.getfield 10, 3) := oc_180 (a := 0) (b := 10) (by decide +kernel)
theorem dX11_about_129 : decode cX11_about 129 = .ok (.getfield 143, 3) := oc_180 (a := 0) (b := 143) (by decide +kernel)
theorem dX11_about_132 : decode cX11_about 132 = .ok (.getfield 147, 3) := oc_180 (a := 0) (b := 147) (by decide +kernel)
theorem dX11_about_135 : decode cX11_about 135 = .ok (.ireturn, 1) := oc_172 (by decide +kernel)
theorem dX11_about_136 : decode cX11_about 136 = .ok (.aload_n 0, 1) := oc_42 (by decide +kernel)
theorem dX11_about_137 : decode cX11_about 137 = .ok (.getfield 10, 3) := oc_180 (a := 0) (b := 10) (by decide +kernel)
theorem dX11_about_140 : decode cX11_about 140 = .ok (.getfield 143, 3) := oc_180 (a := 0) (b := 143) (by decide +kernel)
theorem dX11_about_143 : decode cX11_about 143 = .ok (.getfield 155, 3) := oc_180 (a := 0) (b := 155) (by decide +kernel)
theorem dX11_about_146 : decode cX11_about 146 = .ok (.ireturn, 1) := oc_172 (by decide +kernel)
theorem dX11_about_147 : decode cX11_about 147 = .ok (.aload_n 0, 1) := oc_42 (by decide +kernel)
theorem dX11_about_148 : decode cX11_about 148 = .ok (.getfield 10, 3) := oc_180 (a := 0) (b := 10) (by decide +kernel)
theorem dX11_about_151 : decode cX11_about 151 = .ok (.getfield 208, 3) := oc_180 (a := 0) (b := 208) (by decide +kernel)
theorem dX11_about_154 : decode cX11_about 154 = .ok (.getfield 212, 3) := oc_180 (a := 0) (b := 212) (by decide +kernel)
theorem dX11_about_157 : decode cX11_about 157 = .ok (.ireturn, 1) := oc_172 (by decide +kernel)
theorem dX11_about_158 : decode cX11_about 158 = .ok (.aload_n 0, 1) := oc_42 (by decide +kernel)
theorem dX11_about_159 : decode cX11_about 159 = .ok (.getfield 10, 3) := oc_180 (a := 0) (b := 10) (by decide +kernel)
theorem dX11_about_162 : decode cX11_about 162 = .ok (.getfield 208, 3) := oc_180 (a := 0) (b := 208) (by decide +kernel)
theorem dX11_about_165 : decode cX11_about 165 = .ok (.getfield 230, 3) := oc_180 (a := 0) (b := 230) (by decide +kernel)
theorem dX11_about_168 : decode cX11_about 168 = .ok (.ireturn, 1) := oc_172 (by decide +kernel)
theorem dX11_about_169 : decode cX11_about 169 = .ok (.aload_n 0, 1) := oc_42 (by decide +kernel)
theorem dX11_about_170 : decode cX11_about 170 = .ok (.getfield 10, 3) := oc_180 (a := 0) (b := 10) (by decide +kernel)
theorem dX11_about_173 : decode cX11_about 173 = .ok (.getfield 257, 3) := oc_180 (a := 1) (b := 1) (by decide +kernel)
theorem dX11_about_176 : decode cX11_about 176 = .ok (.ireturn, 1) := oc_172 (by decide +kernel)
theorem dX11_about_177 : decode cX11_about 177 = .ok (.aload_n 0, 1) := oc_42 (by decide +kernel)
theorem dX11_about_178 : decode cX11_about 178 = .ok (.getfield 10, 3) := oc_180 (a := 0) (b := 10) (by decide +kernel)
theorem dX11_about_181 : decode cX11_about 181 = .ok (.getfield 36, 3) := oc_180 (a := 0) (b := 36) (by decide +kernel)
theorem tw_1557 : Cond.fieldLink RX11 352 "RingsUnder$Land" "deep" "I" ∈ wsL_law := sg_65 _ (List.mem_of_getElem? (i := 21) rfl)
theorem dX11_about_184 : decode cX11_about 184 = .ok (.getfield 352, 3) := oc_180 (a := 1) (b := 96) (by decide +kernel)
theorem dX11_about_187 : decode cX11_about 187 = .ok (.ireturn, 1) := oc_172 (by decide +kernel)
theorem dX11_about_188 : decode cX11_about 188 = .ok (.aload_n 0, 1) := oc_42 (by decide +kernel)
theorem dX11_about_189 : decode cX11_about 189 = .ok (.getfield 10, 3) := oc_180 (a := 0) (b := 10) (by decide +kernel)
theorem tw_1499 : Cond.fieldLink RX11 355 "RingsUnder$World" "graves" "LRingsUnder$Graves;" ∈ wsL_law := sg_63 _ (List.mem_of_getElem? (i := 11) rfl)
theorem dX11_about_192 : decode cX11_about 192 = .ok (.getfield 355, 3) := oc_180 (a := 1) (b := 99) (by decide +kernel)
theorem tw_1500 : Cond.fieldLink RX11 359 "RingsUnder$Graves" "count" "I" ∈ wsL_law := sg_63 _ (List.mem_of_getElem? (i := 12) rfl)
theorem dX11_about_195 : decode cX11_about 195 = .ok (.getfield 359, 3) := oc_180 (a := 1) (b := 103) (by decide +kernel)
theorem dX11_about_198 : decode cX11_about 198 = .ok (.ireturn, 1) := oc_172 (by decide +kernel)
theorem dX11_about_199 : decode cX11_about 199 = .ok (.aload_n 0, 1) := oc_42 (by decide +kernel)
theorem dX11_about_200 : decode cX11_about 200 = .ok (.getfield 10, 3) := oc_180 (a := 0) (b := 10) (by decide +kernel)
theorem dX11_about_203 : decode cX11_about 203 = .ok (.getfield 254, 3) := oc_180 (a := 0) (b := 254) (by decide +kernel)
theorem dX11_about_206 : decode cX11_about 206 = .ok (.ireturn, 1) := oc_172 (by decide +kernel)
theorem dX11_about_207 : decode cX11_about 207 = .ok (.aload_n 0, 1) := oc_42 (by decide +kernel)
theorem dX11_about_208 : decode cX11_about 208 = .ok (.getfield 10, 3) := oc_180 (a := 0) (b := 10) (by decide +kernel)
theorem dX11_about_211 : decode cX11_about 211 = .ok (.getfield 276, 3) := oc_180 (a := 1) (b := 20) (by decide +kernel)
theorem dX11_about_214 : decode cX11_about 214 = .ok (.ireturn, 1) := oc_172 (by decide +kernel)
theorem dX11_about_215 : decode cX11_about 215 = .ok (.aload_n 0, 1) := oc_42 (by decide +kernel)
theorem dX11_about_216 : decode cX11_about 216 = .ok (.getfield 32, 3) := oc_180 (a := 0) (b := 32) (by decide +kernel)
theorem dX11_about_219 : decode cX11_about 219 = .ok (.getfield 195, 3) := oc_180 (a := 0) (b := 195) (by decide +kernel)
theorem dX11_about_222 : decode cX11_about 222 = .ok (.getfield 199, 3) := oc_180 (a := 0) (b := 199) (by decide +kernel)
theorem dX11_about_225 : decode cX11_about 225 = .ok (.ireturn, 1) := oc_172 (by decide +kernel)
theorem dX11_about_226 : decode cX11_about 226 = .ok (.aload_n 0, 1) := oc_42 (by decide +kernel)
theorem dX11_about_227 : decode cX11_about 227 = .ok (.getfield 10, 3) := oc_180 (a := 0) (b := 10) (by decide +kernel)
theorem dX11_about_230 : decode cX11_about 230 = .ok (.getfield 36, 3) := oc_180 (a := 0) (b := 36) (by decide +kernel)
theorem dX11_about_233 : decode cX11_about 233 = .ok (.getfield 301, 3) := oc_180 (a := 1) (b := 45) (by decide +kernel)
theorem dX11_about_236 : decode cX11_about 236 = .ok (.aload_n 0, 1) := oc_42 (by decide +kernel)
theorem dX11_about_237 : decode cX11_about 237 = .ok (.getfield 10, 3) := oc_180 (a := 0) (b := 10) (by decide +kernel)
theorem dX11_about_240 : decode cX11_about 240 = .ok (.getfield 36, 3) := oc_180 (a := 0) (b := 36) (by decide +kernel)
theorem dX11_about_243 : decode cX11_about 243 = .ok (.getfield 57, 3) := oc_180 (a := 0) (b := 57) (by decide +kernel)
theorem tw_1559 : Cond.methodLink RX11 364 yX11_sum ∈ wsL_law := sg_65 _ (List.mem_of_getElem? (i := 23) rfl)
theorem tw_1560 : Cond.static yX11_sum ∈ wsL_law := sg_66 _ (List.mem_of_getElem? (i := 0) rfl)
theorem tw_1561 : Cond.code yX11_sum cX11_sum 4 (some .int) ∈ wsL_law := sg_66 _ (List.mem_of_getElem? (i := 1) rfl)
theorem dX11_about_246 : decode cX11_about 246 = .ok (.invokestatic 364, 3) := oc_184 (a := 1) (b := 108) (by decide +kernel)
theorem dX11_about_249 : decode cX11_about 249 = .ok (.ireturn, 1) := oc_172 (by decide +kernel)
theorem dX11_about_250 : decode cX11_about 250 = .ok (.aload_n 0, 1) := oc_42 (by decide +kernel)
theorem dX11_about_251 : decode cX11_about 251 = .ok (.getfield 10, 3) := oc_180 (a := 0) (b := 10) (by decide +kernel)
theorem dX11_about_254 : decode cX11_about 254 = .ok (.getfield 143, 3) := oc_180 (a := 0) (b := 143) (by decide +kernel)
theorem dX11_about_257 : decode cX11_about 257 = .ok (.getfield 337, 3) := oc_180 (a := 1) (b := 81) (by decide +kernel)
theorem dX11_about_260 : decode cX11_about 260 = .ok (.aload_n 0, 1) := oc_42 (by decide +kernel)
theorem dX11_about_261 : decode cX11_about 261 = .ok (.getfield 10, 3) := oc_180 (a := 0) (b := 10) (by decide +kernel)
theorem dX11_about_264 : decode cX11_about 264 = .ok (.getfield 143, 3) := oc_180 (a := 0) (b := 143) (by decide +kernel)
theorem dX11_about_267 : decode cX11_about 267 = .ok (.getfield 155, 3) := oc_180 (a := 0) (b := 155) (by decide +kernel)
theorem dX11_about_270 : decode cX11_about 270 = .ok (.invokestatic 364, 3) := oc_184 (a := 1) (b := 108) (by decide +kernel)
theorem dX11_about_273 : decode cX11_about 273 = .ok (.ireturn, 1) := oc_172 (by decide +kernel)
theorem dX11_about_274 : decode cX11_about 274 = .ok (.aload_n 0, 1) := oc_42 (by decide +kernel)
theorem dX11_about_275 : decode cX11_about 275 = .ok (.getfield 10, 3) := oc_180 (a := 0) (b := 10) (by decide +kernel)
theorem dX11_about_278 : decode cX11_about 278 = .ok (.getfield 143, 3) := oc_180 (a := 0) (b := 143) (by decide +kernel)
theorem dX11_about_281 : decode cX11_about 281 = .ok (.getfield 340, 3) := oc_180 (a := 1) (b := 84) (by decide +kernel)
theorem dX11_about_284 : decode cX11_about 284 = .ok (.aload_n 0, 1) := oc_42 (by decide +kernel)
theorem dX11_about_285 : decode cX11_about 285 = .ok (.getfield 10, 3) := oc_180 (a := 0) (b := 10) (by decide +kernel)
theorem dX11_about_288 : decode cX11_about 288 = .ok (.getfield 143, 3) := oc_180 (a := 0) (b := 143) (by decide +kernel)
theorem dX11_about_291 : decode cX11_about 291 = .ok (.getfield 155, 3) := oc_180 (a := 0) (b := 155) (by decide +kernel)
theorem dX11_about_294 : decode cX11_about 294 = .ok (.invokestatic 364, 3) := oc_184 (a := 1) (b := 108) (by decide +kernel)
theorem dX11_about_297 : decode cX11_about 297 = .ok (.ireturn, 1) := oc_172 (by decide +kernel)
theorem tw_1558 : Cond.constant RX11 368 (-1000000000) ∈ wsL_law := sg_65 _ (List.mem_of_getElem? (i := 22) rfl)
theorem dX11_about_298 : decode cX11_about 298 = .ok (.ldc_w 368, 3) := oc_19 (a := 1) (b := 112) (by decide +kernel)
theorem dX11_about_301 : decode cX11_about 301 = .ok (.ireturn, 1) := oc_172 (by decide +kernel)
set_option maxHeartbeats 4000000 in
set_option maxRecDepth 100000 in
theorem s_X11_order (l : Launch) (D : va_G) (t : pq_T) (σ : pq_S) (I : Nat → Nat → Int32) (J : Nat → Nat → Int64) (ri : Nat → Nat → Int32) (rj : Nat → Nat → Int64) (rq : Nat → Nat → Option Nat) (sz : Nat) (tg : Nat → Nat) (hSH : SH σ tg) (hG0 : GS tg σ I ri rq) (this : Nat) (a0 : Int32) (a1 : Int32) (a2 : Int32) (hL_this : this ∈ σ.1) (hK_this : σ.2.1 this = 11) (this_now : Nat) (hR_this_now : σ.2.2.1 352 this = some this_now) (hL_this_now : this_now ∈ σ.1) (hK_this_now : σ.2.1 this_now = 10) (this_trial : Nat) (hR_this_trial : σ.2.2.1 354 this = some this_trial) (hL_this_trial : this_trial ∈ σ.1) (hK_this_trial : σ.2.1 this_trial = 10) (hap : AP 10 tg σ this_trial this_now) : MetI l yX11_order (wa yX11_order cX11_order 5 (some .int)) ({ frames := 7, cells := 0, slots := 0, locals := 197 }) [.ref this, .int a0, .int a1, .int a2] D t σ (I, J, ri, rj, rq) sz 0 0 (fun (r : Int32) (u : pq_S × pq_M) => ∃ I' : Nat → Nat → Int32, ∃ J' : Nat → Nat → Int64, ∃ ri' : Nat → Nat → Int32, ∃ rj' : Nat → Nat → Int64, ∃ rq' : Nat → Nat → Option Nat, u = (σ, I', J', ri', rj', rq') ∧ GX [320, 224, 1225, 1226, 1227, 1228, 1229, 1230, 1231, 1232, 1233, 234, 235, 236, 64, 65, 1069, 1070, 1073, 1074, 1075, 1288, 1079, 0, 1005, 10, 96, 98, 32, 1033, 1034] tg σ I ri rj I' ri' rj' rq' ∧ FR 10 tg σ this_trial (I, J, ri, rj, rq) (I', J', ri', rj', rq')) := by
  refine Met.ofW (cc := cX11_order) (maxL := 5) (ret := (some .int)) (by decide +kernel) rfl ?_
  intro p e s m args below meth c s₁ B hml hv
  obtain ⟨rfl, hsz, hP, hK, hD0, hN⟩ := hv
  have hx := B.exec
  have hb := B.bytes
  have hr := B.returns
  have hts := atoms_spec (ws := (wa yX11_order cX11_order 5 (some .int))) B.pre
  have hown : s.vm.findClass RX11 = some m.cls := findClass_of_methodNamed B.named
  have hlocks := B.notSynchronized
  subst hsz
  have hD : va_D (pq_B t σ (I, J, ri, rj, rq) s.heap.size) (pq_P t σ (I, J, ri, rj, rq)) := hD0.self
  generalize hAe : pq_B t σ (I, J, ri, rj, rq) s.heap.size = A at hD ⊢
  have hA : ∀ q : Nat, s.heap.size ≤ q → A q := fun q h => by rw [← hAe]; exact Or.inr h
  have hS : va_S A s.heap s.heap [] := va_S.rf
  have hG : GX [320, 224, 1225, 1226, 1227, 1228, 1229, 1230, 1231, 1232, 1233, 234, 235, 236, 64, 65, 1069, 1070, 1073, 1074, 1075, 1288, 1079, 0, 1005, 10, 96, 98, 32, 1033, 1034] tg σ I ri rj I ri rj rq := ⟨hG0, fun _ _ _ => rfl, fun _ _ _ _ _ => rfl, fun _ _ _ _ _ => rfl⟩
  have hl := lv_entry ([.ref this, .int a0, .int a1, .int a2]) (n := 5) (Nat.le_of_ble_eq_true rfl)
  rw [lg_entry_eq]
  generalize (lg_sl ([.ref this, .int a0, .int a1, .int a2]) ++ List.replicate (5 - (lg_sl ([.ref this, .int a0, .int a1, .int a2])).length) Slot.unset).toArray = ls at hl ⊢
  have hl : lv_has ls 5 [(0, .ref this), (1, .int a0), (2, .int a1), (3, .int a2)] := hl
  refine q_gen (fun Q hQ => ?_)
  have go : ∀ (H : Heap) (locs : List Loc) (ls : Array Slot), va_P D vwCl (pq_P t σ (I, J, ri, rj, rq)) H → va_D A (pq_P t σ (I, J, ri, rj, rq)) → va_S A s.heap H locs → lv_has ls 5 [(0, .ref this), (1, .int a0), (2, .int a1), (3, .int a2)] → W p l e ({ frames := 7, cells := 0, slots := 0, locals := 197 } : Room) s m (List.toArray ([.ref this, .int a0, .int a1, .int a2] : List Value)) below meth c H locs 0 0 Q (F0 m 0 ls []) := by
    intro H locs ls hP hD hS hl
    have hVT : VT 10 σ tg this_trial := vt_10 hSH hL_this_trial hK_this_trial
    have hFr : FR 10 tg σ this_trial (I, J, ri, rj, rq) (I, J, ri, rj, rq) := fr_rf
    have hO_this_now : this_now = vo σ 10 this_now := rfl
    have hO_this_trial : this_trial = vo σ 10 this_trial := rfl
    refine lv_aload_n hx hb dX11_order_0 rfl (lv_at hl 0 rfl) ?_
    refine lv_iload_n hx hb dX11_order_1 rfl (lv_at hl 1 rfl) ?_
    refine lv_iload_n hx hb dX11_order_2 rfl (lv_at hl 2 rfl) ?_
    refine lv_bipush (v := 12) hx hb dX11_order_3 (by decide +kernel) ?_
    refine pk_i (va_runV (As := [.int a0, .int a1, .int 12]) (rest := []) ⟨hx, hb, hml, hown, hts⟩ (s_X11_canGoBy l D t σ I J ri rj rq H.size tg hSH hG.1 this a0 a1 (12 : Int32) hL_this hK_this (rg_w (rg_k (12 : Int32) 12 rfl) (by decide +kernel)) this_now hR_this_now hL_this_now hK_this_now) (cwV 3 hts (tw_V tw_1035 tw_1036 tw_1037 tw_2 tw_1038) rfl rfl rfl cv_yX11_canGoBy_3 ⟨Nat.le_of_ble_eq_true rfl, Nat.le_of_ble_eq_true rfl⟩) ⟨pq_blind, pq_recv hK hP hL_this hK_this (by decide +kernel) rfl, pq_pre hK hN hP hD⟩ rfl rfl hl.1 rfl (lv_room (Nat.le_of_ble_eq_true rfl)) dX11_order_5 ⟨Nat.le_of_ble_eq_true rfl, Nat.le_of_ble_eq_true rfl⟩) hD hS hA (fun x_1 σ1 μ1 H locs hw_2 hP hD hS => ?_)
    obtain ⟨hu_3, hfn_6, hr_5⟩ := hw_2
    obtain ⟨hu_3a, hu_3b⟩ := Prod.mk.inj hu_3
    rw [hu_3a, hu_3b] at hP hD
    have h_8 : rg x_1 0 1 := by rcases hr_5 with ⟨q, -⟩ | ⟨q, -⟩ <;> rw [q] <;> exact ⟨by decide +kernel, by decide +kernel⟩
    have uh_8 := h_8.1
    have vh_8 := h_8.2
    have K_85 : ∀  (H : Heap) (locs : List Loc) (ls : Array Slot), rg (a0) 0 2 → rg (a1) 1 12 → rg (a2) (-1) 4 → rg (x_1) 1 1 → ((I 320 this_now).toInt + a1.toInt ≤ 600) → FR 10 tg σ this_trial (I, J, ri, rj, rq) (I, J, ri, rj, rq) → GX [320, 224, 1225, 1226, 1227, 1228, 1229, 1230, 1231, 1232, 1233, 234, 235, 236, 64, 65, 1069, 1070, 1073, 1074, 1075, 1288, 1079, 0, 1005, 10, 96, 98, 32, 1033, 1034] tg σ I ri rj I ri rj rq → va_P D vwCl (pq_P t σ (I, J, ri, rj, rq)) H → va_D A (pq_P t σ (I, J, ri, rj, rq)) → va_S A s.heap H locs → lv_has ls 5 [(0, .ref this), (1, .int a0), (2, .int a1), (3, .int a2)] → W p l e ({ frames := 7, cells := 0, slots := 0, locals := 197 } : Room) s m (List.toArray ([.ref this, .int a0, .int a1, .int a2] : List Value)) below meth c H locs 0 0 Q (F0 m 36 ls [.int 1]) := by
      intro H locs ls h_91 h_92 h_93 h_94 hw_95 hFr hG hP hD hS hl
      have uh_91 := h_91.1
      have vh_91 := h_91.2
      have uh_92 := h_92.1
      have vh_92 := h_92.2
      have uh_93 := h_93.1
      have vh_93 := h_93.2
      have uh_94 := h_94.1
      have vh_94 := h_94.2
      refine lv_istore (lv' := [(4, .int 1), (0, .ref this), (1, .int a0), (2, .int a1), (3, .int a2)]) hx hb dX11_order_36 hl (by decide +kernel) rfl (fun ls hl => ?_)
      refine lv_iload hx hb dX11_order_38 (lv_at hl 0 rfl) ?_
      refine lv_if_ne (tgt := 45) hx hb dX11_order_40 (by decide +kernel) (fun c_96 => ?_) (fun c_96 => absurd c_96 (by decide +kernel))
      refine lv_aload_n hx hb dX11_order_45 rfl (lv_at hl 1 rfl) ?_
      refine pg_f (v := .ref this_trial) (C := RX11) (T := TX11) (N := 5) hx hb hts (tw_i inlX11) hown hK hP hL_this hK_this (by decide +kernel) rfl 2 (by decide +kernel) (hts _ (tw_c tw_18)) (pq_hv rfl hR_this_trial) dX11_order_46 ?_
      refine lv_aload_n hx hb dX11_order_49 rfl (lv_at hl 1 rfl) ?_
      refine pg_f (v := .ref this_now) (C := RX11) (T := TX11) (N := 5) hx hb hts (tw_i inlX11) hown hK hP hL_this hK_this (by decide +kernel) rfl 0 (by decide +kernel) (hts _ (tw_c tw_16)) (pq_hv rfl hR_this_now) dX11_order_50 ?_
      refine pk_v (va_runV (As := [.ref this_now]) (rest := []) ⟨hx, hb, hml, hown, hts⟩ (s_X10_copyFrom l D t σ I J ri rj rq H.size tg hSH hG.1 this_trial this_now hL_this_trial hK_this_trial hL_this_now hK_this_now hap) (cwV 1 hts (tw_V tw_1362 tw_1363 tw_1364 tw_15 tw_1365) rfl rfl rfl cv_yX10_copyFrom_1 ⟨Nat.le_of_ble_eq_true rfl, Nat.le_of_ble_eq_true rfl⟩) ⟨pq_blind, pq_recv hK hP hL_this_trial hK_this_trial (by decide +kernel) rfl, pq_pre hK hN hP hD⟩ rfl rfl hl.1 rfl (lv_room (Nat.le_of_ble_eq_true rfl)) dX11_order_53 ⟨Nat.le_of_ble_eq_true rfl, Nat.le_of_ble_eq_true rfl⟩) hD hS hA (fun σ1 μ1 H locs hw_98 hP hD hS => ?_)
      obtain ⟨I_99, J_100, ri_101, rj_102, rq_103, hu_104, hg_105, hp_107, hfn_108, hfr_109⟩ := hw_98
      obtain ⟨hu_104a, hu_104b⟩ := Prod.mk.inj hu_104
      rw [hu_104a, hu_104b] at hP hD
      replace hFr := fr_tr hFr hfr_109
      have tt_110 : (I_99 320 this_trial).toInt = (I 320 this_now).toInt := congrArg Int32.toInt hp_107
      have hG := GX.tr hG hg_105 (by decide +kernel)
      refine lv_aload_n hx hb dX11_order_56 rfl (lv_at hl 1 rfl) ?_
      obtain ⟨w_111, hR_w_111, hL_w_111, hK_w_111⟩ := sh_o hSH 355 (ci := 11) (kd := 5) rfl hL_this hK_this
      refine pg_f (v := .ref w_111) (C := RX11) (T := TX11) (N := 5) hx hb hts (tw_i inlX11) hown hK hP hL_this hK_this (by decide +kernel) rfl 3 (by decide +kernel) (hts _ (tw_c tw_22)) (pq_hv rfl hR_w_111) dX11_order_57 ?_
      refine lv_aload_n hx hb dX11_order_60 rfl (lv_at hl 1 rfl) ?_
      refine pg_f (v := .ref this_now) (C := RX11) (T := TX11) (N := 5) hx hb hts (tw_i inlX11) hown hK hP hL_this hK_this (by decide +kernel) rfl 0 (by decide +kernel) (hts _ (tw_c tw_16)) (pq_hv rfl hR_this_now) dX11_order_61 ?_
      refine lv_aload_n hx hb dX11_order_64 rfl (lv_at hl 1 rfl) ?_
      refine pg_f (v := .ref this_trial) (C := RX11) (T := TX11) (N := 5) hx hb hts (tw_i inlX11) hown hK hP hL_this hK_this (by decide +kernel) rfl 2 (by decide +kernel) (hts _ (tw_c tw_18)) (pq_hv rfl hR_this_trial) dX11_order_65 ?_
      refine lv_iload_n hx hb dX11_order_68 rfl (lv_at hl 2 rfl) ?_
      refine lv_iload_n hx hb dX11_order_69 rfl (lv_at hl 3 rfl) ?_
      refine pk_v (va_runV (As := [.ref this_now, .ref this_trial, .int a0, .int a1]) (rest := []) ⟨hx, hb, hml, hown, hts⟩ (s_X5_seek l D t σ I_99 J_100 ri_101 rj_102 rq_103 H.size tg hSH hG.1 w_111 this_now this_trial a0 a1 hL_w_111 hK_w_111 hL_this_now hK_this_now hL_this_trial hK_this_trial (rg_w h_92 (by decide +kernel)) hap (by omega)) (cwV 4 hts (tw_V tw_1434 tw_1435 tw_1436 tw_21 tw_1437) rfl rfl rfl cv_yX5_seek_4 ⟨Nat.le_of_ble_eq_true rfl, Nat.le_of_ble_eq_true rfl⟩) ⟨pq_blind, pq_recv hK hP hL_w_111 hK_w_111 (by decide +kernel) rfl, pq_pre hK hN hP hD⟩ rfl rfl hl.1 rfl (lv_room (Nat.le_of_ble_eq_true rfl)) dX11_order_70 ⟨Nat.le_of_ble_eq_true rfl, Nat.le_of_ble_eq_true rfl⟩) hD hS hA (fun σ1 μ1 H locs hw_113 hP hD hS => ?_)
      obtain ⟨I_114, J_115, ri_116, rj_117, hu_118, hg_119, hfr_122⟩ := hw_113
      obtain ⟨hu_118a, hu_118b⟩ := Prod.mk.inj hu_118
      rw [hu_118a, hu_118b] at hP hD
      replace hFr := fr_tr hFr hfr_122
      have hG := GX.tr hG hg_119 (by decide +kernel)
      refine lv_iload_n hx hb dX11_order_73 rfl (lv_at hl 4 rfl) ?_
      refine lv_iconst (v := (-1)) hx hb dX11_order_74 (by decide +kernel) ?_
      refine lv_icmp_ne (tgt := 88) hx hb dX11_order_75 (by decide +kernel) (fun c_123 => ?_) (fun c_123 => ?_)
      · have tc_124 : (a2).toInt ≠ (-1) := fun q => c_123 (Int32.toInt_inj.mp q)
        have h_125 : rg a2 0 4 := rg_ne c_123 h_93 (-1) rfl (by decide +kernel)
        have uh_125 := h_125.1
        have vh_125 := h_125.2
        refine lv_aload_n hx hb dX11_order_88 rfl (lv_at hl 1 rfl) ?_
        refine pg_f (v := .ref w_111) (C := RX11) (T := TX11) (N := 5) hx hb hts (tw_i inlX11) hown hK hP hL_this hK_this (by decide +kernel) rfl 3 (by decide +kernel) (hts _ (tw_c tw_22)) (pq_hv rfl hR_w_111) dX11_order_89 ?_
        obtain ⟨w_126, hR_w_126, hL_w_126, hK_w_126, hN_w_126, hT_w_126⟩ := sh_a hSH 161 (ci := 5) (kd := 13) (len := 5) rfl (by decide +kernel) hL_w_111 hK_w_111
        refine pg_f (v := .ref w_126) (C := RX5) (T := TX5) (N := 8) hx hb hts (tw_i inlX5) hown hK hP hL_w_111 hK_w_111 (by decide +kernel) rfl 1 (by decide +kernel) (hts _ (tw_c tw_1433)) (pq_hv rfl hR_w_126) dX11_order_92 ?_
        refine lv_iload_n hx hb dX11_order_95 rfl (lv_at hl 4 rfl) ?_
        refine pl_i hx hb hK hP hL_w_126 hK_w_126 hN_w_126 (rg_in h_125 (by decide +kernel)) dX11_order_96 ?_
        refine lv_topi (fun x_127 ex_127 => ?_)
        subst hQ
        exact W.iret (v := x_127) hx hb hr (fun t1 ht hW => ⟨⟨x_127, (σ, I_114, J_115, ri_116, rj_117, rq_103), rfl, ⟨I_114, J_115, ri_116, rj_117, rq_103, rfl, hG, hFr⟩, by rw [ht]; exact hP, va_K.moved hW.alike hK, hD⟩, hS.F ht⟩) hS.2.2 dX11_order_97
      · have tc_128 : (a2).toInt = (-1) := congrArg Int32.toInt c_123
        have h_129 : rg a2 (-1) (-1) := rg_and h_93 (rg_of_eq c_123 (rg_k (-1 : Int32) (-1) rfl)) (by decide +kernel)
        have uh_129 := h_129.1
        have vh_129 := h_129.2
        refine lv_aload_n hx hb dX11_order_78 rfl (lv_at hl 1 rfl) ?_
        refine pg_f (v := .ref w_111) (C := RX11) (T := TX11) (N := 5) hx hb hts (tw_i inlX11) hown hK hP hL_this hK_this (by decide +kernel) rfl 3 (by decide +kernel) (hts _ (tw_c tw_22)) (pq_hv rfl hR_w_111) dX11_order_79 ?_
        refine pg_f (v := .int (I_114 160 w_111)) (C := RX5) (T := TX5) (N := 8) hx hb hts (tw_i inlX5) hown hK hP hL_w_111 hK_w_111 (by decide +kernel) rfl 0 (by decide +kernel) (hts _ (tw_c tw_1432)) rfl dX11_order_82 ?_
        refine lv_goto (tgt := 97) hx hb dX11_order_85 (by decide +kernel) ?_
        subst hQ
        exact W.iret (v := (I_114 160 w_111)) hx hb hr (fun t1 ht hW => ⟨⟨(I_114 160 w_111), (σ, I_114, J_115, ri_116, rj_117, rq_103), rfl, ⟨I_114, J_115, ri_116, rj_117, rq_103, rfl, hG, hFr⟩, by rw [ht]; exact hP, va_K.moved hW.alike hK, hD⟩, hS.F ht⟩) hS.2.2 dX11_order_97
    have K_130 : ∀  (H : Heap) (locs : List Loc) (ls : Array Slot), FR 10 tg σ this_trial (I, J, ri, rj, rq) (I, J, ri, rj, rq) → GX [320, 224, 1225, 1226, 1227, 1228, 1229, 1230, 1231, 1232, 1233, 234, 235, 236, 64, 65, 1069, 1070, 1073, 1074, 1075, 1288, 1079, 0, 1005, 10, 96, 98, 32, 1033, 1034] tg σ I ri rj I ri rj rq → va_P D vwCl (pq_P t σ (I, J, ri, rj, rq)) H → va_D A (pq_P t σ (I, J, ri, rj, rq)) → va_S A s.heap H locs → lv_has ls 5 [(0, .ref this), (1, .int a0), (2, .int a1), (3, .int a2)] → W p l e ({ frames := 7, cells := 0, slots := 0, locals := 197 } : Room) s m (List.toArray ([.ref this, .int a0, .int a1, .int a2] : List Value)) below meth c H locs 0 0 Q (F0 m 36 ls [.int 0]) := by
      intro H locs ls hFr hG hP hD hS hl
      refine lv_istore (lv' := [(4, .int 0), (0, .ref this), (1, .int a0), (2, .int a1), (3, .int a2)]) hx hb dX11_order_36 hl (by decide +kernel) rfl (fun ls hl => ?_)
      refine lv_iload hx hb dX11_order_38 (lv_at hl 0 rfl) ?_
      refine lv_if_ne (tgt := 45) hx hb dX11_order_40 (by decide +kernel) (fun c_131 => absurd c_131 (by decide +kernel)) (fun c_131 => ?_)
      refine lv_iconst (v := (-1)) hx hb dX11_order_43 (by decide +kernel) ?_
      subst hQ
      exact W.iret (v := (-1)) hx hb hr (fun t1 ht hW => ⟨⟨(-1), (σ, I, J, ri, rj, rq), rfl, ⟨I, J, ri, rj, rq, rfl, hG, hFr⟩, by rw [ht]; exact hP, va_K.moved hW.alike hK, hD⟩, hS.F ht⟩) hS.2.2 dX11_order_44
    have K_132 : ∀  (H : Heap) (locs : List Loc) (ls : Array Slot), FR 10 tg σ this_trial (I, J, ri, rj, rq) (I, J, ri, rj, rq) → GX [320, 224, 1225, 1226, 1227, 1228, 1229, 1230, 1231, 1232, 1233, 234, 235, 236, 64, 65, 1069, 1070, 1073, 1074, 1075, 1288, 1079, 0, 1005, 10, 96, 98, 32, 1033, 1034] tg σ I ri rj I ri rj rq → va_P D vwCl (pq_P t σ (I, J, ri, rj, rq)) H → va_D A (pq_P t σ (I, J, ri, rj, rq)) → va_S A s.heap H locs → lv_has ls 5 [(0, .ref this), (1, .int a0), (2, .int a1), (3, .int a2)] → W p l e ({ frames := 7, cells := 0, slots := 0, locals := 197 } : Room) s m (List.toArray ([.ref this, .int a0, .int a1, .int a2] : List Value)) below meth c H locs 0 0 Q (F0 m 35 ls []) := by
      intro H locs ls hFr hG hP hD hS hl
      refine lv_iconst (v := 0) hx hb dX11_order_35 (by decide +kernel) ?_
      exact K_130 _ _ _ hFr hG hP hD hS (lv_sub hl [0, 1, 2, 3] rfl)
    refine lv_if_eq (tgt := 35) hx hb dX11_order_8 (by decide +kernel) (fun c_133 => ?_) (fun c_133 => ?_)
    · have f_134 := (hr_5.resolve_left (fun q => absurd (q.1.symm.trans c_133) (by decide +kernel))).2
      have tc_135 : (x_1).toInt = 0 := congrArg Int32.toInt c_133
      have h_136 : rg x_1 0 0 := rg_and h_8 (rg_of_eq c_133 (rg_k (0 : Int32) 0 rfl)) (by decide +kernel)
      have uh_136 := h_136.1
      have vh_136 := h_136.2
      exact K_132 _ _ _ hFr hG hP hD hS (lv_sub hl [0, 1, 2, 3] rfl)
    · obtain ⟨f_137, f_138, f_139, f_140⟩ := (hr_5.resolve_right (fun q => c_133 q.1)).2
      have tc_141 : (a1).toInt ≤ 12 := Int32.le_iff_toInt_le.mp f_139
      have h_142 : rg a1 1 12 := rg_le1 f_139 f_138 (rg_k (12 : Int32) 12 rfl) (by decide +kernel)
      have uh_142 := h_142.1
      have vh_142 := h_142.2
      have tc_143 : (x_1).toInt ≠ 0 := fun q => c_133 (Int32.toInt_inj.mp q)
      have h_144 : rg x_1 1 1 := rg_ne c_133 h_8 0 rfl (by decide +kernel)
      have uh_144 := h_144.1
      have vh_144 := h_144.2
      refine lv_iload_n hx hb dX11_order_11 rfl (lv_at hl 3 rfl) ?_
      refine lv_iconst (v := (-1)) hx hb dX11_order_12 (by decide +kernel) ?_
      refine lv_aload_n hx hb dX11_order_13 rfl (lv_at hl 0 rfl) ?_
      refine pg_f (v := .ref this_now) (C := RX11) (T := TX11) (N := 5) hx hb hts (tw_i inlX11) hown hK hP hL_this hK_this (by decide +kernel) rfl 0 (by decide +kernel) (hts _ (tw_c tw_16)) (pq_hv rfl hR_this_now) dX11_order_14 ?_
      obtain ⟨w_145, hR_w_145, hL_w_145, hK_w_145⟩ := sh_o hSH 327 (ci := 10) (kd := 2) rfl hL_this_now hK_this_now
      have hO_w_145 : w_145 = vo σ 2 this_now := vo_k (c := 10) hO_this_now hR_w_145
      refine pg_f (v := .ref w_145) (C := RX10) (T := TX10) (N := 13) hx hb hts (tw_i inlX10) hown hK hP hL_this_now hK_this_now (by decide +kernel) rfl 7 (by decide +kernel) (hts _ (tw_c tw_199)) (pq_hv rfl hR_w_145) dX11_order_17 ?_
      refine pg_f (v := .int (I 64 w_145)) (C := RX2) (T := TX2) (N := 20) hx hb hts (tw_i inlX2) hown hK hP hL_w_145 hK_w_145 (by decide +kernel) rfl 0 (by decide +kernel) (hts _ (tw_c tw_200)) rfl dX11_order_20 ?_
      have h_146 : rg (I 64 w_145) 0 5 := GX.rI hG 64 rfl
      have uh_146 := h_146.1
      have vh_146 := h_146.2
      refine lv_iconst (v := 1) hx hb dX11_order_23 (by decide +kernel) ?_
      refine lv_isub hx hb dX11_order_24 ?_
      refine lv_topi (fun x_147 ex_147 => ?_)
      have h_148 : rg x_147 (-1) 4 := rg_of_eq ex_147 (rg_sub h_146 (rg_k (1 : Int32) 1 rfl) (by decide +kernel))
      have uh_148 := h_148.1
      have vh_148 := h_148.2
      have tx_147 : (x_147).toInt = (I 64 w_145).toInt - 1 := by rw [ex_147]; exact i_sub_rg (a2 := (I 64 w_145).toInt) (b2 := 1) rfl rfl h_146 (rg_k (1 : Int32) 1 rfl) (by decide +kernel)
      refine pk_i (va_runS (As := [.int a2, .int (-1), .int x_147]) (rest := []) ⟨hx, hb, hml, hown, hts⟩ (s_X11_between l D t σ I J ri rj rq H.size tg hSH hG.1 a2 (-1 : Int32) x_147) (va_cwS 3 hts (tw_S tw_215 tw_216 tw_2 tw_217) rfl rfl rfl cd_yX11_between_3 ⟨Nat.le_of_ble_eq_true rfl, Nat.le_of_ble_eq_true rfl⟩) ⟨pq_blind, pq_pre hK hN hP hD⟩ rfl rfl hl.1 rfl (lv_room (Nat.le_of_ble_eq_true rfl)) dX11_order_25 ⟨Nat.le_of_ble_eq_true rfl, Nat.le_of_ble_eq_true rfl⟩) hD hS hA (fun x_149 σ1 μ1 H locs hw_150 hP hD hS => ?_)
      obtain ⟨hu_151, hfn_154, hr_153⟩ := hw_150
      obtain ⟨hu_151a, hu_151b⟩ := Prod.mk.inj hu_151
      rw [hu_151a, hu_151b] at hP hD
      have h_156 : rg x_149 0 1 := by rcases hr_153 with ⟨q, -⟩ | ⟨q, -⟩ <;> rw [q] <;> exact ⟨by decide +kernel, by decide +kernel⟩
      have uh_156 := h_156.1
      have vh_156 := h_156.2
      refine lv_if_eq (tgt := 35) hx hb dX11_order_28 (by decide +kernel) (fun c_157 => ?_) (fun c_157 => ?_)
      · have f_158 := (hr_153.resolve_left (fun q => absurd (q.1.symm.trans c_157) (by decide +kernel))).2
        have tc_159 : (x_149).toInt = 0 := congrArg Int32.toInt c_157
        have h_160 : rg x_149 0 0 := rg_and h_156 (rg_of_eq c_157 (rg_k (0 : Int32) 0 rfl)) (by decide +kernel)
        have uh_160 := h_160.1
        have vh_160 := h_160.2
        exact K_132 _ _ _ hFr hG hP hD hS (lv_sub hl [0, 1, 2, 3] rfl)
      · obtain ⟨f_161, f_162⟩ := (hr_153.resolve_right (fun q => c_157 q.1)).2
        have tc_163 : (-1) ≤ (a2).toInt := Int32.le_iff_toInt_le.mp f_161
        have h_164 : rg a2 (-1) 2147483647 := rg_le2 f_161 (rg_k (-1 : Int32) (-1) rfl) (rg_full _) (by decide +kernel)
        have uh_164 := h_164.1
        have vh_164 := h_164.2
        have tc_165 : (a2).toInt ≤ (x_147).toInt := Int32.le_iff_toInt_le.mp f_162
        have h_166 : rg a2 (-1) 4 := rg_le1 f_162 h_164 h_148 (by decide +kernel)
        have uh_166 := h_166.1
        have vh_166 := h_166.2
        have tc_167 : (x_149).toInt ≠ 0 := fun q => c_157 (Int32.toInt_inj.mp q)
        have h_168 : rg x_149 1 1 := rg_ne c_157 h_156 0 rfl (by decide +kernel)
        have uh_168 := h_168.1
        have vh_168 := h_168.2
        refine lv_iconst (v := 1) hx hb dX11_order_31 (by decide +kernel) ?_
        refine lv_goto (tgt := 36) hx hb dX11_order_32 (by decide +kernel) ?_
        exact K_85 _ _ _ (rg_w f_137 (by decide +kernel)) (rg_w h_142 (by decide +kernel)) (rg_w h_166 (by decide +kernel)) (rg_w h_144 (by decide +kernel)) f_140 hFr hG hP hD hS (lv_sub hl [0, 1, 2, 3] rfl)
  exact go _ _ _ hP hD hS hl

set_option maxRecDepth 100000 in
def g_X11_cellOf (a0 : Int32) (a1 : Int32) (I : Nat → Int32) (J : Nat → Int64) (ri : Nat → Nat → Int32) (rj : Nat → Nat → Int64) (rq : Nat → Nat → Option Nat) : Int32 × vM := (bnI (g_X11_isCell a0 I J ri rj rq) fun (x_1 : Int32) (_ : Nat → Int32) (_ : Nat → Int64) (_ : Nat → Nat → Int32) (_ : Nat → Nat → Int64) (_ : Nat → Nat → Option Nat) => (if x_1 = (0 : Int32) then ((-1000000 : Int32), I, J, ri, rj, rq) else (if a1 = (0 : Int32) then (ap1 (ri 69 (a0).toNatClampNeg) fun (x_21 : Int32) => (x_21, I, J, ri, rj, rq)) else (if a1 = (1 : Int32) then (ap1 (ri 70 (a0).toNatClampNeg) fun (x_27 : Int32) => (x_27, I, J, ri, rj, rq)) else (if a1 = (2 : Int32) then (ap1 (ri 73 (a0).toNatClampNeg) fun (x_32 : Int32) => (x_32, I, J, ri, rj, rq)) else (if a1 = (3 : Int32) then (ap1 (ri 74 (a0).toNatClampNeg) fun (x_37 : Int32) => (x_37, I, J, ri, rj, rq)) else (if a1 = (4 : Int32) then (ap1 (ri 75 (a0).toNatClampNeg) fun (x_42 : Int32) => (x_42, I, J, ri, rj, rq)) else (if a1 = (5 : Int32) then (bnI (g_X2_topOf a0 I J ri rj rq) fun (x_46 : Int32) (_ : Nat → Int32) (_ : Nat → Int64) (_ : Nat → Nat → Int32) (_ : Nat → Nat → Int64) (_ : Nat → Nat → Option Nat) => (x_46, I, J, ri, rj, rq)) else (if a1 = (6 : Int32) then (ap1 (ri 76 (a0).toNatClampNeg) fun (x_57 : Int32) => (x_57, I, J, ri, rj, rq)) else (if a1 = (7 : Int32) then (bnI (g_X9_isAt a0 I J ri rj rq) fun (x_62 : Int32) (_ : Nat → Int32) (_ : Nat → Int64) (_ : Nat → Nat → Int32) (_ : Nat → Nat → Int64) (_ : Nat → Nat → Option Nat) => (if x_62 = (0 : Int32) then ((-1 : Int32), I, J, ri, rj, rq) else (ap1 (ri 289 (a0).toNatClampNeg) fun (x_76 : Int32) => (x_76, I, J, ri, rj, rq)))) else (if a1 = (8 : Int32) then (bnI (g_X9_isAt a0 I J ri rj rq) fun (x_81 : Int32) (_ : Nat → Int32) (_ : Nat → Int64) (_ : Nat → Nat → Int32) (_ : Nat → Nat → Int64) (_ : Nat → Nat → Option Nat) => (if x_81 = (0 : Int32) then ((-1 : Int32), I, J, ri, rj, rq) else (ap1 (ri 290 (a0).toNatClampNeg) fun (x_95 : Int32) => (x_95, I, J, ri, rj, rq)))) else (if a1 = (9 : Int32) then (ap1 (ri 77 (a0).toNatClampNeg) fun (x_100 : Int32) => (x_100, I, J, ri, rj, rq)) else (if a1 = (10 : Int32) then (bnI (g_X10_wasDry a0 I J ri rj rq) fun (x_104 : Int32) (_ : Nat → Int32) (_ : Nat → Int64) (_ : Nat → Nat → Int32) (_ : Nat → Nat → Int64) (_ : Nat → Nat → Option Nat) => (x_104, I, J, ri, rj, rq)) else (if a1 = (11 : Int32) then (bnI (g_X10_wasRock a0 I J ri rj rq) fun (x_114 : Int32) (_ : Nat → Int32) (_ : Nat → Int64) (_ : Nat → Nat → Int32) (_ : Nat → Nat → Int64) (_ : Nat → Nat → Option Nat) => (x_114, I, J, ri, rj, rq)) else ((-1000000 : Int32), I, J, ri, rj, rq)))))))))))))))
set_option maxRecDepth 100000 in
theorem g_X11_cellOf_e {a0 : Int32} {a1 : Int32} {I : Nat → Int32} {J : Nat → Int64} {ri : Nat → Nat → Int32} {rj : Nat → Nat → Int64} {rq : Nat → Nat → Option Nat} : g_X11_cellOf a0 a1 I J ri rj rq = (bnI (g_X11_isCell a0 I J ri rj rq) fun (x_1 : Int32) (_ : Nat → Int32) (_ : Nat → Int64) (_ : Nat → Nat → Int32) (_ : Nat → Nat → Int64) (_ : Nat → Nat → Option Nat) => (if x_1 = (0 : Int32) then ((-1000000 : Int32), I, J, ri, rj, rq) else (if a1 = (0 : Int32) then (ap1 (ri 69 (a0).toNatClampNeg) fun (x_21 : Int32) => (x_21, I, J, ri, rj, rq)) else (if a1 = (1 : Int32) then (ap1 (ri 70 (a0).toNatClampNeg) fun (x_27 : Int32) => (x_27, I, J, ri, rj, rq)) else (if a1 = (2 : Int32) then (ap1 (ri 73 (a0).toNatClampNeg) fun (x_32 : Int32) => (x_32, I, J, ri, rj, rq)) else (if a1 = (3 : Int32) then (ap1 (ri 74 (a0).toNatClampNeg) fun (x_37 : Int32) => (x_37, I, J, ri, rj, rq)) else (if a1 = (4 : Int32) then (ap1 (ri 75 (a0).toNatClampNeg) fun (x_42 : Int32) => (x_42, I, J, ri, rj, rq)) else (if a1 = (5 : Int32) then (bnI (g_X2_topOf a0 I J ri rj rq) fun (x_46 : Int32) (_ : Nat → Int32) (_ : Nat → Int64) (_ : Nat → Nat → Int32) (_ : Nat → Nat → Int64) (_ : Nat → Nat → Option Nat) => (x_46, I, J, ri, rj, rq)) else (if a1 = (6 : Int32) then (ap1 (ri 76 (a0).toNatClampNeg) fun (x_57 : Int32) => (x_57, I, J, ri, rj, rq)) else (if a1 = (7 : Int32) then (bnI (g_X9_isAt a0 I J ri rj rq) fun (x_62 : Int32) (_ : Nat → Int32) (_ : Nat → Int64) (_ : Nat → Nat → Int32) (_ : Nat → Nat → Int64) (_ : Nat → Nat → Option Nat) => (if x_62 = (0 : Int32) then ((-1 : Int32), I, J, ri, rj, rq) else (ap1 (ri 289 (a0).toNatClampNeg) fun (x_76 : Int32) => (x_76, I, J, ri, rj, rq)))) else (if a1 = (8 : Int32) then (bnI (g_X9_isAt a0 I J ri rj rq) fun (x_81 : Int32) (_ : Nat → Int32) (_ : Nat → Int64) (_ : Nat → Nat → Int32) (_ : Nat → Nat → Int64) (_ : Nat → Nat → Option Nat) => (if x_81 = (0 : Int32) then ((-1 : Int32), I, J, ri, rj, rq) else (ap1 (ri 290 (a0).toNatClampNeg) fun (x_95 : Int32) => (x_95, I, J, ri, rj, rq)))) else (if a1 = (9 : Int32) then (ap1 (ri 77 (a0).toNatClampNeg) fun (x_100 : Int32) => (x_100, I, J, ri, rj, rq)) else (if a1 = (10 : Int32) then (bnI (g_X10_wasDry a0 I J ri rj rq) fun (x_104 : Int32) (_ : Nat → Int32) (_ : Nat → Int64) (_ : Nat → Nat → Int32) (_ : Nat → Nat → Int64) (_ : Nat → Nat → Option Nat) => (x_104, I, J, ri, rj, rq)) else (if a1 = (11 : Int32) then (bnI (g_X10_wasRock a0 I J ri rj rq) fun (x_114 : Int32) (_ : Nat → Int32) (_ : Nat → Int64) (_ : Nat → Nat → Int32) (_ : Nat → Nat → Int64) (_ : Nat → Nat → Option Nat) => (x_114, I, J, ri, rj, rq)) else ((-1000000 : Int32), I, J, ri, rj, rq))))))))))))))) := rfl
set_option maxHeartbeats 4000000 in
set_option maxRecDepth 100000 in
theorem s_X11_cellOf (l : Launch) (D : va_G) (t : pq_T) (σ : pq_S) (I : Nat → Nat → Int32) (J : Nat → Nat → Int64) (ri : Nat → Nat → Int32) (rj : Nat → Nat → Int64) (rq : Nat → Nat → Option Nat) (sz : Nat) (tg : Nat → Nat) (hSH : SH σ tg) (hG0 : GS tg σ I ri rq) (this : Nat) (a0 : Int32) (a1 : Int32) (hL_this : this ∈ σ.1) (hK_this : σ.2.1 this = 11) (this_now : Nat) (hR_this_now : σ.2.2.1 352 this = some this_now) (hL_this_now : this_now ∈ σ.1) (hK_this_now : σ.2.1 this_now = 10) : MetI l yX11_cellOf (wa yX11_cellOf cX11_cellOf 4 (some .int)) ({ frames := 3, cells := 0, slots := 0, locals := 64 }) [.ref this, .int a0, .int a1] D t σ (I, J, ri, rj, rq) sz 0 0 (fun (r : Int32) (u : pq_S × pq_M) => u = (σ, I, J, ri, rj, rq) ∧ g_X11_cellOf a0 a1 (vI 10 σ this_now I) (vJ 10 σ this_now J) (vR 10 σ this_now ri) (vL 10 σ this_now rj) (vQ 10 σ this_now rq) = (r, (vI 10 σ this_now I), (vJ 10 σ this_now J), (vR 10 σ this_now ri), (vL 10 σ this_now rj), (vQ 10 σ this_now rq))) := by
  refine Met.ofW (cc := cX11_cellOf) (maxL := 4) (ret := (some .int)) (by decide +kernel) rfl ?_
  intro p e s m args below meth c s₁ B hml hv
  obtain ⟨rfl, hsz, hP, hK, hD0, hN⟩ := hv
  have hx := B.exec
  have hb := B.bytes
  have hr := B.returns
  have hts := atoms_spec (ws := (wa yX11_cellOf cX11_cellOf 4 (some .int))) B.pre
  have hown : s.vm.findClass RX11 = some m.cls := findClass_of_methodNamed B.named
  have hlocks := B.notSynchronized
  subst hsz
  have hD : va_D (pq_B t σ (I, J, ri, rj, rq) s.heap.size) (pq_P t σ (I, J, ri, rj, rq)) := hD0.self
  generalize hAe : pq_B t σ (I, J, ri, rj, rq) s.heap.size = A at hD ⊢
  have hA : ∀ q : Nat, s.heap.size ≤ q → A q := fun q h => by rw [← hAe]; exact Or.inr h
  have hS : va_S A s.heap s.heap [] := va_S.rf
  have hG : GX [] tg σ I ri rj I ri rj rq := ⟨hG0, fun _ _ _ => rfl, fun _ _ _ _ _ => rfl, fun _ _ _ _ _ => rfl⟩
  have hl := lv_entry ([.ref this, .int a0, .int a1]) (n := 4) (Nat.le_of_ble_eq_true rfl)
  rw [lg_entry_eq]
  generalize (lg_sl ([.ref this, .int a0, .int a1]) ++ List.replicate (4 - (lg_sl ([.ref this, .int a0, .int a1])).length) Slot.unset).toArray = ls at hl ⊢
  have hl : lv_has ls 4 [(0, .ref this), (1, .int a0), (2, .int a1)] := hl
  refine q_gen (fun Q hQ => ?_)
  have go : ∀ (H : Heap) (locs : List Loc) (ls : Array Slot), va_P D vwCl (pq_P t σ (I, J, ri, rj, rq)) H → va_D A (pq_P t σ (I, J, ri, rj, rq)) → va_S A s.heap H locs → lv_has ls 4 [(0, .ref this), (1, .int a0), (2, .int a1)] → W p l e ({ frames := 3, cells := 0, slots := 0, locals := 64 } : Room) s m (List.toArray ([.ref this, .int a0, .int a1] : List Value)) below meth c H locs 0 0 Q (F0 m 0 ls []) := by
    intro H locs ls hP hD hS hl
    have hVT : VT 10 σ tg this_now := vt_10 hSH hL_this_now hK_this_now
    have hFr : FR 10 tg σ this_now (I, J, ri, rj, rq) (I, J, ri, rj, rq) := fr_rf
    have hO_this_now : this_now = vo σ 10 this_now := rfl
    obtain ⟨F, hF0⟩ : ∃ F, F = g_X11_cellOf a0 a1 (vI 10 σ this_now I) (vJ 10 σ this_now J) (vR 10 σ this_now ri) (vL 10 σ this_now rj) (vQ 10 σ this_now rq) := ⟨_, rfl⟩
    have hF := hF0.trans g_X11_cellOf_e
    refine lv_aload_n hx hb dX11_cellOf_0 rfl (lv_at hl 0 rfl) ?_
    refine lv_iload_n hx hb dX11_cellOf_1 rfl (lv_at hl 1 rfl) ?_
    refine pk_i (va_runV (As := [.int a0]) (rest := []) ⟨hx, hb, hml, hown, hts⟩ (s_X11_isCell l D t σ I J ri rj rq H.size tg hSH hG.1 this a0 hL_this hK_this this_now hR_this_now hL_this_now hK_this_now) (cwV 1 hts (tw_V tw_332 tw_333 tw_334 tw_2 tw_335) rfl rfl rfl cv_yX11_isCell_1 ⟨Nat.le_of_ble_eq_true rfl, Nat.le_of_ble_eq_true rfl⟩) ⟨pq_blind, pq_recv hK hP hL_this hK_this (by decide +kernel) rfl, pq_pre hK hN hP hD⟩ rfl rfl hl.1 rfl (lv_room (Nat.le_of_ble_eq_true rfl)) dX11_cellOf_2 ⟨Nat.le_of_ble_eq_true rfl, Nat.le_of_ble_eq_true rfl⟩) hD hS hA (fun x_1 σ1 μ1 H locs hw_2 hP hD hS => ?_)
    obtain ⟨hu_3, hfn_6, hr_5⟩ := hw_2
    obtain ⟨hu_3a, hu_3b⟩ := Prod.mk.inj hu_3
    rw [hu_3a, hu_3b] at hP hD
    replace hF := hF.trans (bn_n hfn_6)
    have h_8 : rg x_1 0 1 := by rcases hr_5 with ⟨q, -⟩ | ⟨q, -⟩ <;> rw [q] <;> exact ⟨by decide +kernel, by decide +kernel⟩
    refine lv_if_ne (tgt := 11) hx hb dX11_cellOf_5 (by decide +kernel) (fun c_9 => ?_) (fun c_9 => ?_)
    · replace hF := hF.trans (if_neg c_9)
      have f_14 := (hr_5.resolve_right (fun q => c_9 q.1)).2
      have h_15 : rg x_1 1 1 := rg_ne c_9 h_8 0 rfl (by decide +kernel)
      refine lv_aload_n hx hb dX11_cellOf_11 rfl (lv_at hl 0 rfl) ?_
      refine pg_f (v := .ref this_now) (C := RX11) (T := TX11) (N := 5) hx hb hts (tw_i inlX11) hown hK hP hL_this hK_this (by decide +kernel) rfl 0 (by decide +kernel) (hts _ (tw_c tw_16)) (pq_hv rfl hR_this_now) dX11_cellOf_12 ?_
      obtain ⟨w_16, hR_w_16, hL_w_16, hK_w_16⟩ := sh_o hSH 327 (ci := 10) (kd := 2) rfl hL_this_now hK_this_now
      have hO_w_16 : w_16 = vo σ 2 this_now := vo_k (c := 10) hO_this_now hR_w_16
      refine pg_f (v := .ref w_16) (C := RX10) (T := TX10) (N := 13) hx hb hts (tw_i inlX10) hown hK hP hL_this_now hK_this_now (by decide +kernel) rfl 7 (by decide +kernel) (hts _ (tw_c tw_199)) (pq_hv rfl hR_w_16) dX11_cellOf_15 ?_
      refine lv_astore_n (lv' := [(3, .ref w_16), (0, .ref this), (1, .int a0), (2, .int a1)]) hx hb dX11_cellOf_18 rfl hl (by decide +kernel) rfl (fun ls hl => ?_)
      refine lv_iload_n hx hb dX11_cellOf_19 rfl (lv_at hl 3 rfl) ?_
      by_cases k_17 : a1 = (0 : Int32)
      · replace hF := hF.trans (if_pos k_17)
        have h_19 : rg a1 0 0 := rg_and (rg_full _) (rg_of_eq k_17 (rg_k (0 : Int32) 0 rfl)) (by decide +kernel)
        refine lv_tov 0 k_17 ?_
        refine lv_tableIn (tgt := 84) hx hb dX11_cellOf_20 (by decide +kernel) (by decide +kernel) rfl (by decide +kernel) ?_
        refine lv_aload_n hx hb dX11_cellOf_84 rfl (lv_at hl 0 rfl) ?_
        obtain ⟨w_20, hR_w_20, hL_w_20, hK_w_20, hN_w_20, hT_w_20⟩ := sh_a hSH 69 (ci := 2) (kd := 13) (len := 40) rfl (by decide +kernel) hL_w_16 hK_w_16
        have hO_w_20 : w_20 = vrow σ 69 this_now := vo_k (c := 2) hO_w_16 hR_w_20
        refine pg_f (v := .ref w_20) (C := RX2) (T := TX2) (N := 20) hx hb hts (tw_i inlX2) hown hK hP hL_w_16 hK_w_16 (by decide +kernel) rfl 5 (by decide +kernel) (hts _ (tw_c tw_1271)) (pq_hv rfl hR_w_20) dX11_cellOf_85 ?_
        refine lv_iload_n hx hb dX11_cellOf_88 rfl (lv_at hl 2 rfl) ?_
        refine pl_i hx hb hK hP hL_w_20 hK_w_20 hN_w_20 (rg_in f_14 (by decide +kernel)) dX11_cellOf_89 ?_
        refine lv_topi (fun x_21 ex_21 => ?_)
        replace hF := hF.trans (ap_n (vR_r hO_w_20 (by decide +kernel) ex_21))
        have h_22 : rg x_21 0 4 := rg_of_eq ex_21 (GX.rR hG hT_w_20 rfl)
        subst hQ
        exact W.iret (v := x_21) hx hb hr (fun t1 ht hW => ⟨⟨x_21, (σ, I, J, ri, rj, rq), rfl, ⟨rfl, (hF0.symm.trans hF)⟩, by rw [ht]; exact hP, va_K.moved hW.alike hK, hD⟩, hS.F ht⟩) hS.2.2 dX11_cellOf_90
      replace hF := hF.trans (if_neg k_17)
      by_cases k_23 : a1 = (1 : Int32)
      · replace hF := hF.trans (if_pos k_23)
        have h_25 : rg a1 1 1 := rg_and (rg_full _) (rg_of_eq k_23 (rg_k (1 : Int32) 1 rfl)) (by decide +kernel)
        refine lv_tov 1 k_23 ?_
        refine lv_tableIn (tgt := 91) hx hb dX11_cellOf_20 (by decide +kernel) (by decide +kernel) rfl (by decide +kernel) ?_
        refine lv_aload_n hx hb dX11_cellOf_91 rfl (lv_at hl 0 rfl) ?_
        obtain ⟨w_26, hR_w_26, hL_w_26, hK_w_26, hN_w_26, hT_w_26⟩ := sh_a hSH 70 (ci := 2) (kd := 13) (len := 40) rfl (by decide +kernel) hL_w_16 hK_w_16
        have hO_w_26 : w_26 = vrow σ 70 this_now := vo_k (c := 2) hO_w_16 hR_w_26
        refine pg_f (v := .ref w_26) (C := RX2) (T := TX2) (N := 20) hx hb hts (tw_i inlX2) hown hK hP hL_w_16 hK_w_16 (by decide +kernel) rfl 6 (by decide +kernel) (hts _ (tw_c tw_1272)) (pq_hv rfl hR_w_26) dX11_cellOf_92 ?_
        refine lv_iload_n hx hb dX11_cellOf_95 rfl (lv_at hl 2 rfl) ?_
        refine pl_i hx hb hK hP hL_w_26 hK_w_26 hN_w_26 (rg_in f_14 (by decide +kernel)) dX11_cellOf_96 ?_
        refine lv_topi (fun x_27 ex_27 => ?_)
        replace hF := hF.trans (ap_n (vR_r hO_w_26 (by decide +kernel) ex_27))
        subst hQ
        exact W.iret (v := x_27) hx hb hr (fun t1 ht hW => ⟨⟨x_27, (σ, I, J, ri, rj, rq), rfl, ⟨rfl, (hF0.symm.trans hF)⟩, by rw [ht]; exact hP, va_K.moved hW.alike hK, hD⟩, hS.F ht⟩) hS.2.2 dX11_cellOf_97
      replace hF := hF.trans (if_neg k_23)
      by_cases k_28 : a1 = (2 : Int32)
      · replace hF := hF.trans (if_pos k_28)
        have h_30 : rg a1 2 2 := rg_and (rg_full _) (rg_of_eq k_28 (rg_k (2 : Int32) 2 rfl)) (by decide +kernel)
        refine lv_tov 2 k_28 ?_
        refine lv_tableIn (tgt := 98) hx hb dX11_cellOf_20 (by decide +kernel) (by decide +kernel) rfl (by decide +kernel) ?_
        refine lv_aload_n hx hb dX11_cellOf_98 rfl (lv_at hl 0 rfl) ?_
        obtain ⟨w_31, hR_w_31, hL_w_31, hK_w_31, hN_w_31, hT_w_31⟩ := sh_a hSH 73 (ci := 2) (kd := 13) (len := 40) rfl (by decide +kernel) hL_w_16 hK_w_16
        have hO_w_31 : w_31 = vrow σ 73 this_now := vo_k (c := 2) hO_w_16 hR_w_31
        refine pg_f (v := .ref w_31) (C := RX2) (T := TX2) (N := 20) hx hb hts (tw_i inlX2) hown hK hP hL_w_16 hK_w_16 (by decide +kernel) rfl 9 (by decide +kernel) (hts _ (tw_c tw_1273)) (pq_hv rfl hR_w_31) dX11_cellOf_99 ?_
        refine lv_iload_n hx hb dX11_cellOf_102 rfl (lv_at hl 2 rfl) ?_
        refine pl_i hx hb hK hP hL_w_31 hK_w_31 hN_w_31 (rg_in f_14 (by decide +kernel)) dX11_cellOf_103 ?_
        refine lv_topi (fun x_32 ex_32 => ?_)
        replace hF := hF.trans (ap_n (vR_r hO_w_31 (by decide +kernel) ex_32))
        subst hQ
        exact W.iret (v := x_32) hx hb hr (fun t1 ht hW => ⟨⟨x_32, (σ, I, J, ri, rj, rq), rfl, ⟨rfl, (hF0.symm.trans hF)⟩, by rw [ht]; exact hP, va_K.moved hW.alike hK, hD⟩, hS.F ht⟩) hS.2.2 dX11_cellOf_104
      replace hF := hF.trans (if_neg k_28)
      by_cases k_33 : a1 = (3 : Int32)
      · replace hF := hF.trans (if_pos k_33)
        have h_35 : rg a1 3 3 := rg_and (rg_full _) (rg_of_eq k_33 (rg_k (3 : Int32) 3 rfl)) (by decide +kernel)
        refine lv_tov 3 k_33 ?_
        refine lv_tableIn (tgt := 105) hx hb dX11_cellOf_20 (by decide +kernel) (by decide +kernel) rfl (by decide +kernel) ?_
        refine lv_aload_n hx hb dX11_cellOf_105 rfl (lv_at hl 0 rfl) ?_
        obtain ⟨w_36, hR_w_36, hL_w_36, hK_w_36, hN_w_36, hT_w_36⟩ := sh_a hSH 74 (ci := 2) (kd := 13) (len := 40) rfl (by decide +kernel) hL_w_16 hK_w_16
        have hO_w_36 : w_36 = vrow σ 74 this_now := vo_k (c := 2) hO_w_16 hR_w_36
        refine pg_f (v := .ref w_36) (C := RX2) (T := TX2) (N := 20) hx hb hts (tw_i inlX2) hown hK hP hL_w_16 hK_w_16 (by decide +kernel) rfl 10 (by decide +kernel) (hts _ (tw_c tw_1274)) (pq_hv rfl hR_w_36) dX11_cellOf_106 ?_
        refine lv_iload_n hx hb dX11_cellOf_109 rfl (lv_at hl 2 rfl) ?_
        refine pl_i hx hb hK hP hL_w_36 hK_w_36 hN_w_36 (rg_in f_14 (by decide +kernel)) dX11_cellOf_110 ?_
        refine lv_topi (fun x_37 ex_37 => ?_)
        replace hF := hF.trans (ap_n (vR_r hO_w_36 (by decide +kernel) ex_37))
        subst hQ
        exact W.iret (v := x_37) hx hb hr (fun t1 ht hW => ⟨⟨x_37, (σ, I, J, ri, rj, rq), rfl, ⟨rfl, (hF0.symm.trans hF)⟩, by rw [ht]; exact hP, va_K.moved hW.alike hK, hD⟩, hS.F ht⟩) hS.2.2 dX11_cellOf_111
      replace hF := hF.trans (if_neg k_33)
      by_cases k_38 : a1 = (4 : Int32)
      · replace hF := hF.trans (if_pos k_38)
        have h_40 : rg a1 4 4 := rg_and (rg_full _) (rg_of_eq k_38 (rg_k (4 : Int32) 4 rfl)) (by decide +kernel)
        refine lv_tov 4 k_38 ?_
        refine lv_tableIn (tgt := 112) hx hb dX11_cellOf_20 (by decide +kernel) (by decide +kernel) rfl (by decide +kernel) ?_
        refine lv_aload_n hx hb dX11_cellOf_112 rfl (lv_at hl 0 rfl) ?_
        obtain ⟨w_41, hR_w_41, hL_w_41, hK_w_41, hN_w_41, hT_w_41⟩ := sh_a hSH 75 (ci := 2) (kd := 13) (len := 40) rfl (by decide +kernel) hL_w_16 hK_w_16
        have hO_w_41 : w_41 = vrow σ 75 this_now := vo_k (c := 2) hO_w_16 hR_w_41
        refine pg_f (v := .ref w_41) (C := RX2) (T := TX2) (N := 20) hx hb hts (tw_i inlX2) hown hK hP hL_w_16 hK_w_16 (by decide +kernel) rfl 11 (by decide +kernel) (hts _ (tw_c tw_331)) (pq_hv rfl hR_w_41) dX11_cellOf_113 ?_
        refine lv_iload_n hx hb dX11_cellOf_116 rfl (lv_at hl 2 rfl) ?_
        refine pl_i hx hb hK hP hL_w_41 hK_w_41 hN_w_41 (rg_in f_14 (by decide +kernel)) dX11_cellOf_117 ?_
        refine lv_topi (fun x_42 ex_42 => ?_)
        replace hF := hF.trans (ap_n (vR_r hO_w_41 (by decide +kernel) ex_42))
        subst hQ
        exact W.iret (v := x_42) hx hb hr (fun t1 ht hW => ⟨⟨x_42, (σ, I, J, ri, rj, rq), rfl, ⟨rfl, (hF0.symm.trans hF)⟩, by rw [ht]; exact hP, va_K.moved hW.alike hK, hD⟩, hS.F ht⟩) hS.2.2 dX11_cellOf_118
      replace hF := hF.trans (if_neg k_38)
      by_cases k_43 : a1 = (5 : Int32)
      · replace hF := hF.trans (if_pos k_43)
        have h_45 : rg a1 5 5 := rg_and (rg_full _) (rg_of_eq k_43 (rg_k (5 : Int32) 5 rfl)) (by decide +kernel)
        refine lv_tov 5 k_43 ?_
        refine lv_tableIn (tgt := 119) hx hb dX11_cellOf_20 (by decide +kernel) (by decide +kernel) rfl (by decide +kernel) ?_
        refine lv_aload_n hx hb dX11_cellOf_119 rfl (lv_at hl 0 rfl) ?_
        refine lv_iload_n hx hb dX11_cellOf_120 rfl (lv_at hl 2 rfl) ?_
        refine pk_i (va_runV (As := [.int a0]) (rest := []) ⟨hx, hb, hml, hown, hts⟩ (s_X2_topOf l D t σ I J ri rj rq H.size tg hSH hG.1 w_16 a0 hL_w_16 hK_w_16 (rg_w f_14 (by decide +kernel)) this_now hL_this_now hK_this_now hO_w_16) (cwV 1 hts (tw_V tw_1278 tw_1075 tw_1076 tw_41 tw_1077) rfl rfl rfl cv_yX2_topOf_1 ⟨Nat.le_of_ble_eq_true rfl, Nat.le_of_ble_eq_true rfl⟩) ⟨pq_blind, pq_recv hK hP hL_w_16 hK_w_16 (by decide +kernel) rfl, pq_pre hK hN hP hD⟩ rfl rfl hl.1 rfl (lv_room (Nat.le_of_ble_eq_true rfl)) dX11_cellOf_121 ⟨Nat.le_of_ble_eq_true rfl, Nat.le_of_ble_eq_true rfl⟩) hD hS hA (fun x_46 σ1 μ1 H locs hw_47 hP hD hS => ?_)
        obtain ⟨hu_48, hfn_51⟩ := hw_47
        obtain ⟨hu_48a, hu_48b⟩ := Prod.mk.inj hu_48
        rw [hu_48a, hu_48b] at hP hD
        replace hF := hF.trans (bn_n hfn_51)
        subst hQ
        exact W.iret (v := x_46) hx hb hr (fun t1 ht hW => ⟨⟨x_46, (σ, I, J, ri, rj, rq), rfl, ⟨rfl, (hF0.symm.trans hF)⟩, by rw [ht]; exact hP, va_K.moved hW.alike hK, hD⟩, hS.F ht⟩) hS.2.2 dX11_cellOf_124
      replace hF := hF.trans (if_neg k_43)
      by_cases k_53 : a1 = (6 : Int32)
      · replace hF := hF.trans (if_pos k_53)
        have h_55 : rg a1 6 6 := rg_and (rg_full _) (rg_of_eq k_53 (rg_k (6 : Int32) 6 rfl)) (by decide +kernel)
        refine lv_tov 6 k_53 ?_
        refine lv_tableIn (tgt := 125) hx hb dX11_cellOf_20 (by decide +kernel) (by decide +kernel) rfl (by decide +kernel) ?_
        refine lv_aload_n hx hb dX11_cellOf_125 rfl (lv_at hl 0 rfl) ?_
        obtain ⟨w_56, hR_w_56, hL_w_56, hK_w_56, hN_w_56, hT_w_56⟩ := sh_a hSH 76 (ci := 2) (kd := 13) (len := 40) rfl (by decide +kernel) hL_w_16 hK_w_16
        have hO_w_56 : w_56 = vrow σ 76 this_now := vo_k (c := 2) hO_w_16 hR_w_56
        refine pg_f (v := .ref w_56) (C := RX2) (T := TX2) (N := 20) hx hb hts (tw_i inlX2) hown hK hP hL_w_16 hK_w_16 (by decide +kernel) rfl 12 (by decide +kernel) (hts _ (tw_c tw_369)) (pq_hv rfl hR_w_56) dX11_cellOf_126 ?_
        refine lv_iload_n hx hb dX11_cellOf_129 rfl (lv_at hl 2 rfl) ?_
        refine pl_i hx hb hK hP hL_w_56 hK_w_56 hN_w_56 (rg_in f_14 (by decide +kernel)) dX11_cellOf_130 ?_
        refine lv_topi (fun x_57 ex_57 => ?_)
        replace hF := hF.trans (ap_n (vR_r hO_w_56 (by decide +kernel) ex_57))
        subst hQ
        exact W.iret (v := x_57) hx hb hr (fun t1 ht hW => ⟨⟨x_57, (σ, I, J, ri, rj, rq), rfl, ⟨rfl, (hF0.symm.trans hF)⟩, by rw [ht]; exact hP, va_K.moved hW.alike hK, hD⟩, hS.F ht⟩) hS.2.2 dX11_cellOf_131
      replace hF := hF.trans (if_neg k_53)
      by_cases k_58 : a1 = (7 : Int32)
      · replace hF := hF.trans (if_pos k_58)
        have h_60 : rg a1 7 7 := rg_and (rg_full _) (rg_of_eq k_58 (rg_k (7 : Int32) 7 rfl)) (by decide +kernel)
        refine lv_tov 7 k_58 ?_
        refine lv_tableIn (tgt := 132) hx hb dX11_cellOf_20 (by decide +kernel) (by decide +kernel) rfl (by decide +kernel) ?_
        refine lv_aload_n hx hb dX11_cellOf_132 rfl (lv_at hl 0 rfl) ?_
        obtain ⟨w_61, hR_w_61, hL_w_61, hK_w_61⟩ := sh_o hSH 78 (ci := 2) (kd := 9) rfl hL_w_16 hK_w_16
        have hO_w_61 : w_61 = vo σ 9 this_now := vo_k (c := 2) hO_w_16 hR_w_61
        refine pg_f (v := .ref w_61) (C := RX2) (T := TX2) (N := 20) hx hb hts (tw_i inlX2) hown hK hP hL_w_16 hK_w_16 (by decide +kernel) rfl 14 (by decide +kernel) (hts _ (tw_c tw_348)) (pq_hv rfl hR_w_61) dX11_cellOf_133 ?_
        refine lv_iload_n hx hb dX11_cellOf_136 rfl (lv_at hl 2 rfl) ?_
        refine pk_i (va_runV (As := [.int a0]) (rest := []) ⟨hx, hb, hml, hown, hts⟩ (s_X9_isAt l D t σ I J ri rj rq H.size tg hSH hG.1 w_61 a0 hL_w_61 hK_w_61 (rg_w f_14 (by decide +kernel)) this_now hL_this_now hK_this_now hO_w_61) (cwV 1 hts (tw_V tw_349 tw_350 tw_351 tw_94 tw_352) rfl rfl rfl cv_yX9_isAt_1 ⟨Nat.le_of_ble_eq_true rfl, Nat.le_of_ble_eq_true rfl⟩) ⟨pq_blind, pq_recv hK hP hL_w_61 hK_w_61 (by decide +kernel) rfl, pq_pre hK hN hP hD⟩ rfl rfl hl.1 rfl (lv_room (Nat.le_of_ble_eq_true rfl)) dX11_cellOf_137 ⟨Nat.le_of_ble_eq_true rfl, Nat.le_of_ble_eq_true rfl⟩) hD hS hA (fun x_62 σ1 μ1 H locs hw_63 hP hD hS => ?_)
        obtain ⟨hu_64, hfn_67, hr_66⟩ := hw_63
        obtain ⟨hu_64a, hu_64b⟩ := Prod.mk.inj hu_64
        rw [hu_64a, hu_64b] at hP hD
        replace hF := hF.trans (bn_n hfn_67)
        have h_69 : rg x_62 0 1 := by rcases hr_66 with ⟨q, -⟩ | ⟨q, -⟩ <;> rw [q] <;> exact ⟨by decide +kernel, by decide +kernel⟩
        refine lv_if_eq (tgt := 155) hx hb dX11_cellOf_140 (by decide +kernel) (fun c_70 => ?_) (fun c_70 => ?_)
        · replace hF := hF.trans (if_pos c_70)
          have h_73 : rg x_62 0 0 := rg_and h_69 (rg_of_eq c_70 (rg_k (0 : Int32) 0 rfl)) (by decide +kernel)
          refine lv_iconst (v := (-1)) hx hb dX11_cellOf_155 (by decide +kernel) ?_
          subst hQ
          exact W.iret (v := (-1)) hx hb hr (fun t1 ht hW => ⟨⟨(-1), (σ, I, J, ri, rj, rq), rfl, ⟨rfl, (hF0.symm.trans hF)⟩, by rw [ht]; exact hP, va_K.moved hW.alike hK, hD⟩, hS.F ht⟩) hS.2.2 dX11_cellOf_156
        · replace hF := hF.trans (if_neg c_70)
          have h_74 : rg x_62 1 1 := rg_ne c_70 h_69 0 rfl (by decide +kernel)
          refine lv_aload_n hx hb dX11_cellOf_143 rfl (lv_at hl 0 rfl) ?_
          refine pg_f (v := .ref w_61) (C := RX2) (T := TX2) (N := 20) hx hb hts (tw_i inlX2) hown hK hP hL_w_16 hK_w_16 (by decide +kernel) rfl 14 (by decide +kernel) (hts _ (tw_c tw_348)) (pq_hv rfl hR_w_61) dX11_cellOf_144 ?_
          obtain ⟨w_75, hR_w_75, hL_w_75, hK_w_75, hN_w_75, hT_w_75⟩ := sh_a hSH 289 (ci := 9) (kd := 13) (len := 40) rfl (by decide +kernel) hL_w_61 hK_w_61
          have hO_w_75 : w_75 = vrow σ 289 this_now := vo_k (c := 9) hO_w_61 hR_w_75
          refine pg_f (v := .ref w_75) (C := RX9) (T := TX9) (N := 3) hx hb hts (tw_i inlX9) hown hK hP hL_w_61 hK_w_61 (by decide +kernel) rfl 1 (by decide +kernel) (hts _ (tw_c tw_1275)) (pq_hv rfl hR_w_75) dX11_cellOf_147 ?_
          refine lv_iload_n hx hb dX11_cellOf_150 rfl (lv_at hl 2 rfl) ?_
          refine pl_i hx hb hK hP hL_w_75 hK_w_75 hN_w_75 (rg_in f_14 (by decide +kernel)) dX11_cellOf_151 ?_
          refine lv_topi (fun x_76 ex_76 => ?_)
          replace hF := hF.trans (ap_n (vR_r hO_w_75 (by decide +kernel) ex_76))
          refine lv_goto (tgt := 156) hx hb dX11_cellOf_152 (by decide +kernel) ?_
          subst hQ
          exact W.iret (v := x_76) hx hb hr (fun t1 ht hW => ⟨⟨x_76, (σ, I, J, ri, rj, rq), rfl, ⟨rfl, (hF0.symm.trans hF)⟩, by rw [ht]; exact hP, va_K.moved hW.alike hK, hD⟩, hS.F ht⟩) hS.2.2 dX11_cellOf_156
      replace hF := hF.trans (if_neg k_58)
      by_cases k_77 : a1 = (8 : Int32)
      · replace hF := hF.trans (if_pos k_77)
        have h_79 : rg a1 8 8 := rg_and (rg_full _) (rg_of_eq k_77 (rg_k (8 : Int32) 8 rfl)) (by decide +kernel)
        refine lv_tov 8 k_77 ?_
        refine lv_tableIn (tgt := 157) hx hb dX11_cellOf_20 (by decide +kernel) (by decide +kernel) rfl (by decide +kernel) ?_
        refine lv_aload_n hx hb dX11_cellOf_157 rfl (lv_at hl 0 rfl) ?_
        obtain ⟨w_80, hR_w_80, hL_w_80, hK_w_80⟩ := sh_o hSH 78 (ci := 2) (kd := 9) rfl hL_w_16 hK_w_16
        have hO_w_80 : w_80 = vo σ 9 this_now := vo_k (c := 2) hO_w_16 hR_w_80
        refine pg_f (v := .ref w_80) (C := RX2) (T := TX2) (N := 20) hx hb hts (tw_i inlX2) hown hK hP hL_w_16 hK_w_16 (by decide +kernel) rfl 14 (by decide +kernel) (hts _ (tw_c tw_348)) (pq_hv rfl hR_w_80) dX11_cellOf_158 ?_
        refine lv_iload_n hx hb dX11_cellOf_161 rfl (lv_at hl 2 rfl) ?_
        refine pk_i (va_runV (As := [.int a0]) (rest := []) ⟨hx, hb, hml, hown, hts⟩ (s_X9_isAt l D t σ I J ri rj rq H.size tg hSH hG.1 w_80 a0 hL_w_80 hK_w_80 (rg_w f_14 (by decide +kernel)) this_now hL_this_now hK_this_now hO_w_80) (cwV 1 hts (tw_V tw_349 tw_350 tw_351 tw_94 tw_352) rfl rfl rfl cv_yX9_isAt_1 ⟨Nat.le_of_ble_eq_true rfl, Nat.le_of_ble_eq_true rfl⟩) ⟨pq_blind, pq_recv hK hP hL_w_80 hK_w_80 (by decide +kernel) rfl, pq_pre hK hN hP hD⟩ rfl rfl hl.1 rfl (lv_room (Nat.le_of_ble_eq_true rfl)) dX11_cellOf_162 ⟨Nat.le_of_ble_eq_true rfl, Nat.le_of_ble_eq_true rfl⟩) hD hS hA (fun x_81 σ1 μ1 H locs hw_82 hP hD hS => ?_)
        obtain ⟨hu_83, hfn_86, hr_85⟩ := hw_82
        obtain ⟨hu_83a, hu_83b⟩ := Prod.mk.inj hu_83
        rw [hu_83a, hu_83b] at hP hD
        replace hF := hF.trans (bn_n hfn_86)
        have h_88 : rg x_81 0 1 := by rcases hr_85 with ⟨q, -⟩ | ⟨q, -⟩ <;> rw [q] <;> exact ⟨by decide +kernel, by decide +kernel⟩
        refine lv_if_eq (tgt := 180) hx hb dX11_cellOf_165 (by decide +kernel) (fun c_89 => ?_) (fun c_89 => ?_)
        · replace hF := hF.trans (if_pos c_89)
          have h_92 : rg x_81 0 0 := rg_and h_88 (rg_of_eq c_89 (rg_k (0 : Int32) 0 rfl)) (by decide +kernel)
          refine lv_iconst (v := (-1)) hx hb dX11_cellOf_180 (by decide +kernel) ?_
          subst hQ
          exact W.iret (v := (-1)) hx hb hr (fun t1 ht hW => ⟨⟨(-1), (σ, I, J, ri, rj, rq), rfl, ⟨rfl, (hF0.symm.trans hF)⟩, by rw [ht]; exact hP, va_K.moved hW.alike hK, hD⟩, hS.F ht⟩) hS.2.2 dX11_cellOf_181
        · replace hF := hF.trans (if_neg c_89)
          have h_93 : rg x_81 1 1 := rg_ne c_89 h_88 0 rfl (by decide +kernel)
          refine lv_aload_n hx hb dX11_cellOf_168 rfl (lv_at hl 0 rfl) ?_
          refine pg_f (v := .ref w_80) (C := RX2) (T := TX2) (N := 20) hx hb hts (tw_i inlX2) hown hK hP hL_w_16 hK_w_16 (by decide +kernel) rfl 14 (by decide +kernel) (hts _ (tw_c tw_348)) (pq_hv rfl hR_w_80) dX11_cellOf_169 ?_
          obtain ⟨w_94, hR_w_94, hL_w_94, hK_w_94, hN_w_94, hT_w_94⟩ := sh_a hSH 290 (ci := 9) (kd := 13) (len := 40) rfl (by decide +kernel) hL_w_80 hK_w_80
          have hO_w_94 : w_94 = vrow σ 290 this_now := vo_k (c := 9) hO_w_80 hR_w_94
          refine pg_f (v := .ref w_94) (C := RX9) (T := TX9) (N := 3) hx hb hts (tw_i inlX9) hown hK hP hL_w_80 hK_w_80 (by decide +kernel) rfl 2 (by decide +kernel) (hts _ (tw_c tw_1276)) (pq_hv rfl hR_w_94) dX11_cellOf_172 ?_
          refine lv_iload_n hx hb dX11_cellOf_175 rfl (lv_at hl 2 rfl) ?_
          refine pl_i hx hb hK hP hL_w_94 hK_w_94 hN_w_94 (rg_in f_14 (by decide +kernel)) dX11_cellOf_176 ?_
          refine lv_topi (fun x_95 ex_95 => ?_)
          replace hF := hF.trans (ap_n (vR_r hO_w_94 (by decide +kernel) ex_95))
          refine lv_goto (tgt := 181) hx hb dX11_cellOf_177 (by decide +kernel) ?_
          subst hQ
          exact W.iret (v := x_95) hx hb hr (fun t1 ht hW => ⟨⟨x_95, (σ, I, J, ri, rj, rq), rfl, ⟨rfl, (hF0.symm.trans hF)⟩, by rw [ht]; exact hP, va_K.moved hW.alike hK, hD⟩, hS.F ht⟩) hS.2.2 dX11_cellOf_181
      replace hF := hF.trans (if_neg k_77)
      by_cases k_96 : a1 = (9 : Int32)
      · replace hF := hF.trans (if_pos k_96)
        have h_98 : rg a1 9 9 := rg_and (rg_full _) (rg_of_eq k_96 (rg_k (9 : Int32) 9 rfl)) (by decide +kernel)
        refine lv_tov 9 k_96 ?_
        refine lv_tableIn (tgt := 182) hx hb dX11_cellOf_20 (by decide +kernel) (by decide +kernel) rfl (by decide +kernel) ?_
        refine lv_aload_n hx hb dX11_cellOf_182 rfl (lv_at hl 0 rfl) ?_
        obtain ⟨w_99, hR_w_99, hL_w_99, hK_w_99, hN_w_99, hT_w_99⟩ := sh_a hSH 77 (ci := 2) (kd := 13) (len := 40) rfl (by decide +kernel) hL_w_16 hK_w_16
        have hO_w_99 : w_99 = vrow σ 77 this_now := vo_k (c := 2) hO_w_16 hR_w_99
        refine pg_f (v := .ref w_99) (C := RX2) (T := TX2) (N := 20) hx hb hts (tw_i inlX2) hown hK hP hL_w_16 hK_w_16 (by decide +kernel) rfl 13 (by decide +kernel) (hts _ (tw_c tw_1277)) (pq_hv rfl hR_w_99) dX11_cellOf_183 ?_
        refine lv_iload_n hx hb dX11_cellOf_186 rfl (lv_at hl 2 rfl) ?_
        refine pl_i hx hb hK hP hL_w_99 hK_w_99 hN_w_99 (rg_in f_14 (by decide +kernel)) dX11_cellOf_187 ?_
        refine lv_topi (fun x_100 ex_100 => ?_)
        replace hF := hF.trans (ap_n (vR_r hO_w_99 (by decide +kernel) ex_100))
        subst hQ
        exact W.iret (v := x_100) hx hb hr (fun t1 ht hW => ⟨⟨x_100, (σ, I, J, ri, rj, rq), rfl, ⟨rfl, (hF0.symm.trans hF)⟩, by rw [ht]; exact hP, va_K.moved hW.alike hK, hD⟩, hS.F ht⟩) hS.2.2 dX11_cellOf_188
      replace hF := hF.trans (if_neg k_96)
      by_cases k_101 : a1 = (10 : Int32)
      · replace hF := hF.trans (if_pos k_101)
        have h_103 : rg a1 10 10 := rg_and (rg_full _) (rg_of_eq k_101 (rg_k (10 : Int32) 10 rfl)) (by decide +kernel)
        refine lv_tov 10 k_101 ?_
        refine lv_tableIn (tgt := 189) hx hb dX11_cellOf_20 (by decide +kernel) (by decide +kernel) rfl (by decide +kernel) ?_
        refine lv_aload_n hx hb dX11_cellOf_189 rfl (lv_at hl 1 rfl) ?_
        refine pg_f (v := .ref this_now) (C := RX11) (T := TX11) (N := 5) hx hb hts (tw_i inlX11) hown hK hP hL_this hK_this (by decide +kernel) rfl 0 (by decide +kernel) (hts _ (tw_c tw_16)) (pq_hv rfl hR_this_now) dX11_cellOf_190 ?_
        refine lv_iload_n hx hb dX11_cellOf_193 rfl (lv_at hl 2 rfl) ?_
        refine pk_i (va_runV (As := [.int a0]) (rest := []) ⟨hx, hb, hml, hown, hts⟩ (s_X10_wasDry l D t σ I J ri rj rq H.size tg hSH hG.1 this_now a0 hL_this_now hK_this_now) (cwV 1 hts (tw_V tw_1279 tw_551 tw_552 tw_15 tw_553) rfl rfl rfl cv_yX10_wasDry_1 ⟨Nat.le_of_ble_eq_true rfl, Nat.le_of_ble_eq_true rfl⟩) ⟨pq_blind, pq_recv hK hP hL_this_now hK_this_now (by decide +kernel) rfl, pq_pre hK hN hP hD⟩ rfl rfl hl.1 rfl (lv_room (Nat.le_of_ble_eq_true rfl)) dX11_cellOf_194 ⟨Nat.le_of_ble_eq_true rfl, Nat.le_of_ble_eq_true rfl⟩) hD hS hA (fun x_104 σ1 μ1 H locs hw_105 hP hD hS => ?_)
        obtain ⟨hu_106, hfn_109, hr_108⟩ := hw_105
        obtain ⟨hu_106a, hu_106b⟩ := Prod.mk.inj hu_106
        rw [hu_106a, hu_106b] at hP hD
        replace hF := hF.trans (bn_n hfn_109)
        subst hQ
        exact W.iret (v := x_104) hx hb hr (fun t1 ht hW => ⟨⟨x_104, (σ, I, J, ri, rj, rq), rfl, ⟨rfl, (hF0.symm.trans hF)⟩, by rw [ht]; exact hP, va_K.moved hW.alike hK, hD⟩, hS.F ht⟩) hS.2.2 dX11_cellOf_197
      replace hF := hF.trans (if_neg k_101)
      by_cases k_111 : a1 = (11 : Int32)
      · replace hF := hF.trans (if_pos k_111)
        have h_113 : rg a1 11 11 := rg_and (rg_full _) (rg_of_eq k_111 (rg_k (11 : Int32) 11 rfl)) (by decide +kernel)
        refine lv_tov 11 k_111 ?_
        refine lv_tableIn (tgt := 198) hx hb dX11_cellOf_20 (by decide +kernel) (by decide +kernel) rfl (by decide +kernel) ?_
        refine lv_aload_n hx hb dX11_cellOf_198 rfl (lv_at hl 1 rfl) ?_
        refine pg_f (v := .ref this_now) (C := RX11) (T := TX11) (N := 5) hx hb hts (tw_i inlX11) hown hK hP hL_this hK_this (by decide +kernel) rfl 0 (by decide +kernel) (hts _ (tw_c tw_16)) (pq_hv rfl hR_this_now) dX11_cellOf_199 ?_
        refine lv_iload_n hx hb dX11_cellOf_202 rfl (lv_at hl 2 rfl) ?_
        refine pk_i (va_runV (As := [.int a0]) (rest := []) ⟨hx, hb, hml, hown, hts⟩ (s_X10_wasRock l D t σ I J ri rj rq H.size tg hSH hG.1 this_now a0 hL_this_now hK_this_now) (cwV 1 hts (tw_V tw_1280 tw_1281 tw_1282 tw_15 tw_1283) rfl rfl rfl cv_yX10_wasRock_1 ⟨Nat.le_of_ble_eq_true rfl, Nat.le_of_ble_eq_true rfl⟩) ⟨pq_blind, pq_recv hK hP hL_this_now hK_this_now (by decide +kernel) rfl, pq_pre hK hN hP hD⟩ rfl rfl hl.1 rfl (lv_room (Nat.le_of_ble_eq_true rfl)) dX11_cellOf_203 ⟨Nat.le_of_ble_eq_true rfl, Nat.le_of_ble_eq_true rfl⟩) hD hS hA (fun x_114 σ1 μ1 H locs hw_115 hP hD hS => ?_)
        obtain ⟨hu_116, hfn_119, hr_118⟩ := hw_115
        obtain ⟨hu_116a, hu_116b⟩ := Prod.mk.inj hu_116
        rw [hu_116a, hu_116b] at hP hD
        replace hF := hF.trans (bn_n hfn_119)
        subst hQ
        exact W.iret (v := x_114) hx hb hr (fun t1 ht hW => ⟨⟨x_114, (σ, I, J, ri, rj, rq), rfl, ⟨rfl, (hF0.symm.trans hF)⟩, by rw [ht]; exact hP, va_K.moved hW.alike hK, hD⟩, hS.F ht⟩) hS.2.2 dX11_cellOf_206
      replace hF := hF.trans (if_neg k_111)
      refine lv_tableOut (tgt := 207) hx hb dX11_cellOf_20 (by have z_k_17 := sw_ne k_17 (n := 0) rfl; have z_k_23 := sw_ne k_23 (n := 1) rfl; have z_k_28 := sw_ne k_28 (n := 2) rfl; have z_k_33 := sw_ne k_33 (n := 3) rfl; have z_k_38 := sw_ne k_38 (n := 4) rfl; have z_k_43 := sw_ne k_43 (n := 5) rfl; have z_k_53 := sw_ne k_53 (n := 6) rfl; have z_k_58 := sw_ne k_58 (n := 7) rfl; have z_k_77 := sw_ne k_77 (n := 8) rfl; have z_k_96 := sw_ne k_96 (n := 9) rfl; have z_k_101 := sw_ne k_101 (n := 10) rfl; have z_k_111 := sw_ne k_111 (n := 11) rfl; omega) (by decide +kernel) ?_
      refine lv_ldc hx hb hown (hts _ (tw_c tw_269)) dX11_cellOf_207 ?_
      subst hQ
      exact W.iret (v := (-1000000)) hx hb hr (fun t1 ht hW => ⟨⟨(-1000000), (σ, I, J, ri, rj, rq), rfl, ⟨rfl, (hF0.symm.trans hF)⟩, by rw [ht]; exact hP, va_K.moved hW.alike hK, hD⟩, hS.F ht⟩) hS.2.2 dX11_cellOf_209
    · replace hF := hF.trans (if_pos c_9)
      have f_121 := (hr_5.resolve_left (fun q => absurd (q.1.symm.trans c_9) (by decide +kernel))).2
      have h_122 : rg x_1 0 0 := rg_and h_8 (rg_of_eq c_9 (rg_k (0 : Int32) 0 rfl)) (by decide +kernel)
      refine lv_ldc hx hb hown (hts _ (tw_c tw_269)) dX11_cellOf_8 ?_
      subst hQ
      exact W.iret (v := (-1000000)) hx hb hr (fun t1 ht hW => ⟨⟨(-1000000), (σ, I, J, ri, rj, rq), rfl, ⟨rfl, (hF0.symm.trans hF)⟩, by rw [ht]; exact hP, va_K.moved hW.alike hK, hD⟩, hS.F ht⟩) hS.2.2 dX11_cellOf_10
  exact go _ _ _ hP hD hS hl

set_option maxRecDepth 100000 in
def g_X11_personOf (a0 : Int32) (a1 : Int32) (I : Nat → Int32) (J : Nat → Int64) (ri : Nat → Nat → Int32) (rj : Nat → Nat → Int64) (rq : Nat → Nat → Option Nat) : Int32 × vM := (bnI (g_X11_isPerson a0 I J ri rj rq) fun (x_1 : Int32) (_ : Nat → Int32) (_ : Nat → Int64) (_ : Nat → Nat → Int32) (_ : Nat → Nat → Int64) (_ : Nat → Nat → Option Nat) => (if x_1 = (0 : Int32) then ((-1 : Int32), I, J, ri, rj, rq) else (if a1 = (0 : Int32) then (ap1 (ri 5 (a0).toNatClampNeg) fun (x_21 : Int32) => (x_21, I, J, ri, rj, rq)) else (if a1 = (1 : Int32) then (ap1 (ri 1 (a0).toNatClampNeg) fun (x_27 : Int32) => (x_27, I, J, ri, rj, rq)) else (if a1 = (2 : Int32) then (ap1 (ri 2 (a0).toNatClampNeg) fun (x_33 : Int32) => (x_33, I, J, ri, rj, rq)) else (if a1 = (3 : Int32) then (ap1 (ri 3 (a0).toNatClampNeg) fun (x_38 : Int32) => (x_38, I, J, ri, rj, rq)) else (if a1 = (4 : Int32) then (ap1 (ri 4 (a0).toNatClampNeg) fun (x_43 : Int32) => (x_43, I, J, ri, rj, rq)) else (if a1 = (5 : Int32) then (ap1 (ri 6 (a0).toNatClampNeg) fun (x_48 : Int32) => (x_48, I, J, ri, rj, rq)) else (if a1 = (6 : Int32) then (ap1 (ri 7 (a0).toNatClampNeg) fun (x_53 : Int32) => (x_53, I, J, ri, rj, rq)) else (if a1 = (7 : Int32) then (ap1 (ri 8 (a0).toNatClampNeg) fun (x_58 : Int32) => (x_58, I, J, ri, rj, rq)) else ((-1 : Int32), I, J, ri, rj, rq)))))))))))
set_option maxRecDepth 100000 in
theorem g_X11_personOf_e {a0 : Int32} {a1 : Int32} {I : Nat → Int32} {J : Nat → Int64} {ri : Nat → Nat → Int32} {rj : Nat → Nat → Int64} {rq : Nat → Nat → Option Nat} : g_X11_personOf a0 a1 I J ri rj rq = (bnI (g_X11_isPerson a0 I J ri rj rq) fun (x_1 : Int32) (_ : Nat → Int32) (_ : Nat → Int64) (_ : Nat → Nat → Int32) (_ : Nat → Nat → Int64) (_ : Nat → Nat → Option Nat) => (if x_1 = (0 : Int32) then ((-1 : Int32), I, J, ri, rj, rq) else (if a1 = (0 : Int32) then (ap1 (ri 5 (a0).toNatClampNeg) fun (x_21 : Int32) => (x_21, I, J, ri, rj, rq)) else (if a1 = (1 : Int32) then (ap1 (ri 1 (a0).toNatClampNeg) fun (x_27 : Int32) => (x_27, I, J, ri, rj, rq)) else (if a1 = (2 : Int32) then (ap1 (ri 2 (a0).toNatClampNeg) fun (x_33 : Int32) => (x_33, I, J, ri, rj, rq)) else (if a1 = (3 : Int32) then (ap1 (ri 3 (a0).toNatClampNeg) fun (x_38 : Int32) => (x_38, I, J, ri, rj, rq)) else (if a1 = (4 : Int32) then (ap1 (ri 4 (a0).toNatClampNeg) fun (x_43 : Int32) => (x_43, I, J, ri, rj, rq)) else (if a1 = (5 : Int32) then (ap1 (ri 6 (a0).toNatClampNeg) fun (x_48 : Int32) => (x_48, I, J, ri, rj, rq)) else (if a1 = (6 : Int32) then (ap1 (ri 7 (a0).toNatClampNeg) fun (x_53 : Int32) => (x_53, I, J, ri, rj, rq)) else (if a1 = (7 : Int32) then (ap1 (ri 8 (a0).toNatClampNeg) fun (x_58 : Int32) => (x_58, I, J, ri, rj, rq)) else ((-1 : Int32), I, J, ri, rj, rq))))))))))) := rfl
set_option maxHeartbeats 4000000 in
set_option maxRecDepth 100000 in
theorem s_X11_personOf (l : Launch) (D : va_G) (t : pq_T) (σ : pq_S) (I : Nat → Nat → Int32) (J : Nat → Nat → Int64) (ri : Nat → Nat → Int32) (rj : Nat → Nat → Int64) (rq : Nat → Nat → Option Nat) (sz : Nat) (tg : Nat → Nat) (hSH : SH σ tg) (hG0 : GS tg σ I ri rq) (this : Nat) (a0 : Int32) (a1 : Int32) (hL_this : this ∈ σ.1) (hK_this : σ.2.1 this = 11) (this_now : Nat) (hR_this_now : σ.2.2.1 352 this = some this_now) (hL_this_now : this_now ∈ σ.1) (hK_this_now : σ.2.1 this_now = 10) : MetI l yX11_personOf (wa yX11_personOf cX11_personOf 4 (some .int)) ({ frames := 2, cells := 0, slots := 0, locals := 43 }) [.ref this, .int a0, .int a1] D t σ (I, J, ri, rj, rq) sz 0 0 (fun (r : Int32) (u : pq_S × pq_M) => u = (σ, I, J, ri, rj, rq) ∧ g_X11_personOf a0 a1 (vI 10 σ this_now I) (vJ 10 σ this_now J) (vR 10 σ this_now ri) (vL 10 σ this_now rj) (vQ 10 σ this_now rq) = (r, (vI 10 σ this_now I), (vJ 10 σ this_now J), (vR 10 σ this_now ri), (vL 10 σ this_now rj), (vQ 10 σ this_now rq))) := by
  refine Met.ofW (cc := cX11_personOf) (maxL := 4) (ret := (some .int)) (by decide +kernel) rfl ?_
  intro p e s m args below meth c s₁ B hml hv
  obtain ⟨rfl, hsz, hP, hK, hD0, hN⟩ := hv
  have hx := B.exec
  have hb := B.bytes
  have hr := B.returns
  have hts := atoms_spec (ws := (wa yX11_personOf cX11_personOf 4 (some .int))) B.pre
  have hown : s.vm.findClass RX11 = some m.cls := findClass_of_methodNamed B.named
  have hlocks := B.notSynchronized
  subst hsz
  have hD : va_D (pq_B t σ (I, J, ri, rj, rq) s.heap.size) (pq_P t σ (I, J, ri, rj, rq)) := hD0.self
  generalize hAe : pq_B t σ (I, J, ri, rj, rq) s.heap.size = A at hD ⊢
  have hA : ∀ q : Nat, s.heap.size ≤ q → A q := fun q h => by rw [← hAe]; exact Or.inr h
  have hS : va_S A s.heap s.heap [] := va_S.rf
  have hG : GX [] tg σ I ri rj I ri rj rq := ⟨hG0, fun _ _ _ => rfl, fun _ _ _ _ _ => rfl, fun _ _ _ _ _ => rfl⟩
  have hl := lv_entry ([.ref this, .int a0, .int a1]) (n := 4) (Nat.le_of_ble_eq_true rfl)
  rw [lg_entry_eq]
  generalize (lg_sl ([.ref this, .int a0, .int a1]) ++ List.replicate (4 - (lg_sl ([.ref this, .int a0, .int a1])).length) Slot.unset).toArray = ls at hl ⊢
  have hl : lv_has ls 4 [(0, .ref this), (1, .int a0), (2, .int a1)] := hl
  refine q_gen (fun Q hQ => ?_)
  have go : ∀ (H : Heap) (locs : List Loc) (ls : Array Slot), va_P D vwCl (pq_P t σ (I, J, ri, rj, rq)) H → va_D A (pq_P t σ (I, J, ri, rj, rq)) → va_S A s.heap H locs → lv_has ls 4 [(0, .ref this), (1, .int a0), (2, .int a1)] → W p l e ({ frames := 2, cells := 0, slots := 0, locals := 43 } : Room) s m (List.toArray ([.ref this, .int a0, .int a1] : List Value)) below meth c H locs 0 0 Q (F0 m 0 ls []) := by
    intro H locs ls hP hD hS hl
    have hVT : VT 10 σ tg this_now := vt_10 hSH hL_this_now hK_this_now
    have hFr : FR 10 tg σ this_now (I, J, ri, rj, rq) (I, J, ri, rj, rq) := fr_rf
    have hO_this_now : this_now = vo σ 10 this_now := rfl
    obtain ⟨F, hF0⟩ : ∃ F, F = g_X11_personOf a0 a1 (vI 10 σ this_now I) (vJ 10 σ this_now J) (vR 10 σ this_now ri) (vL 10 σ this_now rj) (vQ 10 σ this_now rq) := ⟨_, rfl⟩
    have hF := hF0.trans g_X11_personOf_e
    refine lv_aload_n hx hb dX11_personOf_0 rfl (lv_at hl 0 rfl) ?_
    refine lv_iload_n hx hb dX11_personOf_1 rfl (lv_at hl 1 rfl) ?_
    refine pk_i (va_runV (As := [.int a0]) (rest := []) ⟨hx, hb, hml, hown, hts⟩ (s_X11_isPerson l D t σ I J ri rj rq H.size tg hSH hG.1 this a0 hL_this hK_this this_now hR_this_now hL_this_now hK_this_now) (cwV 1 hts (tw_V tw_405 tw_406 tw_407 tw_2 tw_408) rfl rfl rfl cv_yX11_isPerson_1 ⟨Nat.le_of_ble_eq_true rfl, Nat.le_of_ble_eq_true rfl⟩) ⟨pq_blind, pq_recv hK hP hL_this hK_this (by decide +kernel) rfl, pq_pre hK hN hP hD⟩ rfl rfl hl.1 rfl (lv_room (Nat.le_of_ble_eq_true rfl)) dX11_personOf_2 ⟨Nat.le_of_ble_eq_true rfl, Nat.le_of_ble_eq_true rfl⟩) hD hS hA (fun x_1 σ1 μ1 H locs hw_2 hP hD hS => ?_)
    obtain ⟨hu_3, hfn_6, hr_5⟩ := hw_2
    obtain ⟨hu_3a, hu_3b⟩ := Prod.mk.inj hu_3
    rw [hu_3a, hu_3b] at hP hD
    replace hF := hF.trans (bn_n hfn_6)
    have h_8 : rg x_1 0 1 := by rcases hr_5 with ⟨q, -⟩ | ⟨q, -⟩ <;> rw [q] <;> exact ⟨by decide +kernel, by decide +kernel⟩
    refine lv_if_ne (tgt := 10) hx hb dX11_personOf_5 (by decide +kernel) (fun c_9 => ?_) (fun c_9 => ?_)
    · replace hF := hF.trans (if_neg c_9)
      have f_14 := (hr_5.resolve_right (fun q => c_9 q.1)).2
      have h_15 : rg x_1 1 1 := rg_ne c_9 h_8 0 rfl (by decide +kernel)
      refine lv_aload_n hx hb dX11_personOf_10 rfl (lv_at hl 0 rfl) ?_
      refine pg_f (v := .ref this_now) (C := RX11) (T := TX11) (N := 5) hx hb hts (tw_i inlX11) hown hK hP hL_this hK_this (by decide +kernel) rfl 0 (by decide +kernel) (hts _ (tw_c tw_16)) (pq_hv rfl hR_this_now) dX11_personOf_11 ?_
      obtain ⟨w_16, hR_w_16, hL_w_16, hK_w_16⟩ := sh_o hSH 328 (ci := 10) (kd := 0) rfl hL_this_now hK_this_now
      have hO_w_16 : w_16 = vo σ 0 this_now := vo_k (c := 10) hO_this_now hR_w_16
      refine pg_f (v := .ref w_16) (C := RX10) (T := TX10) (N := 13) hx hb hts (tw_i inlX10) hown hK hP hL_this_now hK_this_now (by decide +kernel) rfl 8 (by decide +kernel) (hts _ (tw_c tw_379)) (pq_hv rfl hR_w_16) dX11_personOf_14 ?_
      refine lv_astore_n (lv' := [(3, .ref w_16), (0, .ref this), (1, .int a0), (2, .int a1)]) hx hb dX11_personOf_17 rfl hl (by decide +kernel) rfl (fun ls hl => ?_)
      refine lv_iload_n hx hb dX11_personOf_18 rfl (lv_at hl 3 rfl) ?_
      by_cases k_17 : a1 = (0 : Int32)
      · replace hF := hF.trans (if_pos k_17)
        have h_19 : rg a1 0 0 := rg_and (rg_full _) (rg_of_eq k_17 (rg_k (0 : Int32) 0 rfl)) (by decide +kernel)
        refine lv_tov 0 k_17 ?_
        refine lv_tableIn (tgt := 64) hx hb dX11_personOf_19 (by decide +kernel) (by decide +kernel) rfl (by decide +kernel) ?_
        refine lv_aload_n hx hb dX11_personOf_64 rfl (lv_at hl 0 rfl) ?_
        obtain ⟨w_20, hR_w_20, hL_w_20, hK_w_20, hN_w_20, hT_w_20⟩ := sh_a hSH 5 (ci := 0) (kd := 13) (len := 40) rfl (by decide +kernel) hL_w_16 hK_w_16
        have hO_w_20 : w_20 = vrow σ 5 this_now := vo_k (c := 0) hO_w_16 hR_w_20
        refine pg_f (v := .ref w_20) (C := RX0) (T := TX0) (N := 16) hx hb hts (tw_i inlX0) hown hK hP hL_w_16 hK_w_16 (by decide +kernel) rfl 5 (by decide +kernel) (hts _ (tw_c tw_404)) (pq_hv rfl hR_w_20) dX11_personOf_65 ?_
        refine lv_iload_n hx hb dX11_personOf_68 rfl (lv_at hl 2 rfl) ?_
        refine pl_i hx hb hK hP hL_w_20 hK_w_20 hN_w_20 (rg_in f_14 (by decide +kernel)) dX11_personOf_69 ?_
        refine lv_topi (fun x_21 ex_21 => ?_)
        replace hF := hF.trans (ap_n (vR_r hO_w_20 (by decide +kernel) ex_21))
        have h_22 : rg x_21 0 300 := rg_of_eq ex_21 (GX.rR hG hT_w_20 rfl)
        subst hQ
        exact W.iret (v := x_21) hx hb hr (fun t1 ht hW => ⟨⟨x_21, (σ, I, J, ri, rj, rq), rfl, ⟨rfl, (hF0.symm.trans hF)⟩, by rw [ht]; exact hP, va_K.moved hW.alike hK, hD⟩, hS.F ht⟩) hS.2.2 dX11_personOf_70
      replace hF := hF.trans (if_neg k_17)
      by_cases k_23 : a1 = (1 : Int32)
      · replace hF := hF.trans (if_pos k_23)
        have h_25 : rg a1 1 1 := rg_and (rg_full _) (rg_of_eq k_23 (rg_k (1 : Int32) 1 rfl)) (by decide +kernel)
        refine lv_tov 1 k_23 ?_
        refine lv_tableIn (tgt := 71) hx hb dX11_personOf_19 (by decide +kernel) (by decide +kernel) rfl (by decide +kernel) ?_
        refine lv_aload_n hx hb dX11_personOf_71 rfl (lv_at hl 0 rfl) ?_
        obtain ⟨w_26, hR_w_26, hL_w_26, hK_w_26, hN_w_26, hT_w_26⟩ := sh_a hSH 1 (ci := 0) (kd := 13) (len := 40) rfl (by decide +kernel) hL_w_16 hK_w_16
        have hO_w_26 : w_26 = vrow σ 1 this_now := vo_k (c := 0) hO_w_16 hR_w_26
        refine pg_f (v := .ref w_26) (C := RX0) (T := TX0) (N := 16) hx hb hts (tw_i inlX0) hown hK hP hL_w_16 hK_w_16 (by decide +kernel) rfl 1 (by decide +kernel) (hts _ (tw_c tw_1292)) (pq_hv rfl hR_w_26) dX11_personOf_72 ?_
        refine lv_iload_n hx hb dX11_personOf_75 rfl (lv_at hl 2 rfl) ?_
        refine pl_i hx hb hK hP hL_w_26 hK_w_26 hN_w_26 (rg_in f_14 (by decide +kernel)) dX11_personOf_76 ?_
        refine lv_topi (fun x_27 ex_27 => ?_)
        replace hF := hF.trans (ap_n (vR_r hO_w_26 (by decide +kernel) ex_27))
        have h_28 : rg x_27 0 9 := rg_of_eq ex_27 (GX.rR hG hT_w_26 rfl)
        subst hQ
        exact W.iret (v := x_27) hx hb hr (fun t1 ht hW => ⟨⟨x_27, (σ, I, J, ri, rj, rq), rfl, ⟨rfl, (hF0.symm.trans hF)⟩, by rw [ht]; exact hP, va_K.moved hW.alike hK, hD⟩, hS.F ht⟩) hS.2.2 dX11_personOf_77
      replace hF := hF.trans (if_neg k_23)
      by_cases k_29 : a1 = (2 : Int32)
      · replace hF := hF.trans (if_pos k_29)
        have h_31 : rg a1 2 2 := rg_and (rg_full _) (rg_of_eq k_29 (rg_k (2 : Int32) 2 rfl)) (by decide +kernel)
        refine lv_tov 2 k_29 ?_
        refine lv_tableIn (tgt := 78) hx hb dX11_personOf_19 (by decide +kernel) (by decide +kernel) rfl (by decide +kernel) ?_
        refine lv_aload_n hx hb dX11_personOf_78 rfl (lv_at hl 0 rfl) ?_
        obtain ⟨w_32, hR_w_32, hL_w_32, hK_w_32, hN_w_32, hT_w_32⟩ := sh_a hSH 2 (ci := 0) (kd := 13) (len := 40) rfl (by decide +kernel) hL_w_16 hK_w_16
        have hO_w_32 : w_32 = vrow σ 2 this_now := vo_k (c := 0) hO_w_16 hR_w_32
        refine pg_f (v := .ref w_32) (C := RX0) (T := TX0) (N := 16) hx hb hts (tw_i inlX0) hown hK hP hL_w_16 hK_w_16 (by decide +kernel) rfl 2 (by decide +kernel) (hts _ (tw_c tw_1293)) (pq_hv rfl hR_w_32) dX11_personOf_79 ?_
        refine lv_iload_n hx hb dX11_personOf_82 rfl (lv_at hl 2 rfl) ?_
        refine pl_i hx hb hK hP hL_w_32 hK_w_32 hN_w_32 (rg_in f_14 (by decide +kernel)) dX11_personOf_83 ?_
        refine lv_topi (fun x_33 ex_33 => ?_)
        replace hF := hF.trans (ap_n (vR_r hO_w_32 (by decide +kernel) ex_33))
        subst hQ
        exact W.iret (v := x_33) hx hb hr (fun t1 ht hW => ⟨⟨x_33, (σ, I, J, ri, rj, rq), rfl, ⟨rfl, (hF0.symm.trans hF)⟩, by rw [ht]; exact hP, va_K.moved hW.alike hK, hD⟩, hS.F ht⟩) hS.2.2 dX11_personOf_84
      replace hF := hF.trans (if_neg k_29)
      by_cases k_34 : a1 = (3 : Int32)
      · replace hF := hF.trans (if_pos k_34)
        have h_36 : rg a1 3 3 := rg_and (rg_full _) (rg_of_eq k_34 (rg_k (3 : Int32) 3 rfl)) (by decide +kernel)
        refine lv_tov 3 k_34 ?_
        refine lv_tableIn (tgt := 85) hx hb dX11_personOf_19 (by decide +kernel) (by decide +kernel) rfl (by decide +kernel) ?_
        refine lv_aload_n hx hb dX11_personOf_85 rfl (lv_at hl 0 rfl) ?_
        obtain ⟨w_37, hR_w_37, hL_w_37, hK_w_37, hN_w_37, hT_w_37⟩ := sh_a hSH 3 (ci := 0) (kd := 13) (len := 40) rfl (by decide +kernel) hL_w_16 hK_w_16
        have hO_w_37 : w_37 = vrow σ 3 this_now := vo_k (c := 0) hO_w_16 hR_w_37
        refine pg_f (v := .ref w_37) (C := RX0) (T := TX0) (N := 16) hx hb hts (tw_i inlX0) hown hK hP hL_w_16 hK_w_16 (by decide +kernel) rfl 3 (by decide +kernel) (hts _ (tw_c tw_1294)) (pq_hv rfl hR_w_37) dX11_personOf_86 ?_
        refine lv_iload_n hx hb dX11_personOf_89 rfl (lv_at hl 2 rfl) ?_
        refine pl_i hx hb hK hP hL_w_37 hK_w_37 hN_w_37 (rg_in f_14 (by decide +kernel)) dX11_personOf_90 ?_
        refine lv_topi (fun x_38 ex_38 => ?_)
        replace hF := hF.trans (ap_n (vR_r hO_w_37 (by decide +kernel) ex_38))
        subst hQ
        exact W.iret (v := x_38) hx hb hr (fun t1 ht hW => ⟨⟨x_38, (σ, I, J, ri, rj, rq), rfl, ⟨rfl, (hF0.symm.trans hF)⟩, by rw [ht]; exact hP, va_K.moved hW.alike hK, hD⟩, hS.F ht⟩) hS.2.2 dX11_personOf_91
      replace hF := hF.trans (if_neg k_34)
      by_cases k_39 : a1 = (4 : Int32)
      · replace hF := hF.trans (if_pos k_39)
        have h_41 : rg a1 4 4 := rg_and (rg_full _) (rg_of_eq k_39 (rg_k (4 : Int32) 4 rfl)) (by decide +kernel)
        refine lv_tov 4 k_39 ?_
        refine lv_tableIn (tgt := 92) hx hb dX11_personOf_19 (by decide +kernel) (by decide +kernel) rfl (by decide +kernel) ?_
        refine lv_aload_n hx hb dX11_personOf_92 rfl (lv_at hl 0 rfl) ?_
        obtain ⟨w_42, hR_w_42, hL_w_42, hK_w_42, hN_w_42, hT_w_42⟩ := sh_a hSH 4 (ci := 0) (kd := 13) (len := 40) rfl (by decide +kernel) hL_w_16 hK_w_16
        have hO_w_42 : w_42 = vrow σ 4 this_now := vo_k (c := 0) hO_w_16 hR_w_42
        refine pg_f (v := .ref w_42) (C := RX0) (T := TX0) (N := 16) hx hb hts (tw_i inlX0) hown hK hP hL_w_16 hK_w_16 (by decide +kernel) rfl 4 (by decide +kernel) (hts _ (tw_c tw_1295)) (pq_hv rfl hR_w_42) dX11_personOf_93 ?_
        refine lv_iload_n hx hb dX11_personOf_96 rfl (lv_at hl 2 rfl) ?_
        refine pl_i hx hb hK hP hL_w_42 hK_w_42 hN_w_42 (rg_in f_14 (by decide +kernel)) dX11_personOf_97 ?_
        refine lv_topi (fun x_43 ex_43 => ?_)
        replace hF := hF.trans (ap_n (vR_r hO_w_42 (by decide +kernel) ex_43))
        subst hQ
        exact W.iret (v := x_43) hx hb hr (fun t1 ht hW => ⟨⟨x_43, (σ, I, J, ri, rj, rq), rfl, ⟨rfl, (hF0.symm.trans hF)⟩, by rw [ht]; exact hP, va_K.moved hW.alike hK, hD⟩, hS.F ht⟩) hS.2.2 dX11_personOf_98
      replace hF := hF.trans (if_neg k_39)
      by_cases k_44 : a1 = (5 : Int32)
      · replace hF := hF.trans (if_pos k_44)
        have h_46 : rg a1 5 5 := rg_and (rg_full _) (rg_of_eq k_44 (rg_k (5 : Int32) 5 rfl)) (by decide +kernel)
        refine lv_tov 5 k_44 ?_
        refine lv_tableIn (tgt := 99) hx hb dX11_personOf_19 (by decide +kernel) (by decide +kernel) rfl (by decide +kernel) ?_
        refine lv_aload_n hx hb dX11_personOf_99 rfl (lv_at hl 0 rfl) ?_
        obtain ⟨w_47, hR_w_47, hL_w_47, hK_w_47, hN_w_47, hT_w_47⟩ := sh_a hSH 6 (ci := 0) (kd := 13) (len := 40) rfl (by decide +kernel) hL_w_16 hK_w_16
        have hO_w_47 : w_47 = vrow σ 6 this_now := vo_k (c := 0) hO_w_16 hR_w_47
        refine pg_f (v := .ref w_47) (C := RX0) (T := TX0) (N := 16) hx hb hts (tw_i inlX0) hown hK hP hL_w_16 hK_w_16 (by decide +kernel) rfl 6 (by decide +kernel) (hts _ (tw_c tw_1296)) (pq_hv rfl hR_w_47) dX11_personOf_100 ?_
        refine lv_iload_n hx hb dX11_personOf_103 rfl (lv_at hl 2 rfl) ?_
        refine pl_i hx hb hK hP hL_w_47 hK_w_47 hN_w_47 (rg_in f_14 (by decide +kernel)) dX11_personOf_104 ?_
        refine lv_topi (fun x_48 ex_48 => ?_)
        replace hF := hF.trans (ap_n (vR_r hO_w_47 (by decide +kernel) ex_48))
        subst hQ
        exact W.iret (v := x_48) hx hb hr (fun t1 ht hW => ⟨⟨x_48, (σ, I, J, ri, rj, rq), rfl, ⟨rfl, (hF0.symm.trans hF)⟩, by rw [ht]; exact hP, va_K.moved hW.alike hK, hD⟩, hS.F ht⟩) hS.2.2 dX11_personOf_105
      replace hF := hF.trans (if_neg k_44)
      by_cases k_49 : a1 = (6 : Int32)
      · replace hF := hF.trans (if_pos k_49)
        have h_51 : rg a1 6 6 := rg_and (rg_full _) (rg_of_eq k_49 (rg_k (6 : Int32) 6 rfl)) (by decide +kernel)
        refine lv_tov 6 k_49 ?_
        refine lv_tableIn (tgt := 106) hx hb dX11_personOf_19 (by decide +kernel) (by decide +kernel) rfl (by decide +kernel) ?_
        refine lv_aload_n hx hb dX11_personOf_106 rfl (lv_at hl 0 rfl) ?_
        obtain ⟨w_52, hR_w_52, hL_w_52, hK_w_52, hN_w_52, hT_w_52⟩ := sh_a hSH 7 (ci := 0) (kd := 13) (len := 40) rfl (by decide +kernel) hL_w_16 hK_w_16
        have hO_w_52 : w_52 = vrow σ 7 this_now := vo_k (c := 0) hO_w_16 hR_w_52
        refine pg_f (v := .ref w_52) (C := RX0) (T := TX0) (N := 16) hx hb hts (tw_i inlX0) hown hK hP hL_w_16 hK_w_16 (by decide +kernel) rfl 7 (by decide +kernel) (hts _ (tw_c tw_1297)) (pq_hv rfl hR_w_52) dX11_personOf_107 ?_
        refine lv_iload_n hx hb dX11_personOf_110 rfl (lv_at hl 2 rfl) ?_
        refine pl_i hx hb hK hP hL_w_52 hK_w_52 hN_w_52 (rg_in f_14 (by decide +kernel)) dX11_personOf_111 ?_
        refine lv_topi (fun x_53 ex_53 => ?_)
        replace hF := hF.trans (ap_n (vR_r hO_w_52 (by decide +kernel) ex_53))
        subst hQ
        exact W.iret (v := x_53) hx hb hr (fun t1 ht hW => ⟨⟨x_53, (σ, I, J, ri, rj, rq), rfl, ⟨rfl, (hF0.symm.trans hF)⟩, by rw [ht]; exact hP, va_K.moved hW.alike hK, hD⟩, hS.F ht⟩) hS.2.2 dX11_personOf_112
      replace hF := hF.trans (if_neg k_49)
      by_cases k_54 : a1 = (7 : Int32)
      · replace hF := hF.trans (if_pos k_54)
        have h_56 : rg a1 7 7 := rg_and (rg_full _) (rg_of_eq k_54 (rg_k (7 : Int32) 7 rfl)) (by decide +kernel)
        refine lv_tov 7 k_54 ?_
        refine lv_tableIn (tgt := 113) hx hb dX11_personOf_19 (by decide +kernel) (by decide +kernel) rfl (by decide +kernel) ?_
        refine lv_aload_n hx hb dX11_personOf_113 rfl (lv_at hl 0 rfl) ?_
        obtain ⟨w_57, hR_w_57, hL_w_57, hK_w_57, hN_w_57, hT_w_57⟩ := sh_a hSH 8 (ci := 0) (kd := 13) (len := 40) rfl (by decide +kernel) hL_w_16 hK_w_16
        have hO_w_57 : w_57 = vrow σ 8 this_now := vo_k (c := 0) hO_w_16 hR_w_57
        refine pg_f (v := .ref w_57) (C := RX0) (T := TX0) (N := 16) hx hb hts (tw_i inlX0) hown hK hP hL_w_16 hK_w_16 (by decide +kernel) rfl 8 (by decide +kernel) (hts _ (tw_c tw_1298)) (pq_hv rfl hR_w_57) dX11_personOf_114 ?_
        refine lv_iload_n hx hb dX11_personOf_117 rfl (lv_at hl 2 rfl) ?_
        refine pl_i hx hb hK hP hL_w_57 hK_w_57 hN_w_57 (rg_in f_14 (by decide +kernel)) dX11_personOf_118 ?_
        refine lv_topi (fun x_58 ex_58 => ?_)
        replace hF := hF.trans (ap_n (vR_r hO_w_57 (by decide +kernel) ex_58))
        subst hQ
        exact W.iret (v := x_58) hx hb hr (fun t1 ht hW => ⟨⟨x_58, (σ, I, J, ri, rj, rq), rfl, ⟨rfl, (hF0.symm.trans hF)⟩, by rw [ht]; exact hP, va_K.moved hW.alike hK, hD⟩, hS.F ht⟩) hS.2.2 dX11_personOf_119
      replace hF := hF.trans (if_neg k_54)
      refine lv_tableOut (tgt := 120) hx hb dX11_personOf_19 (by have z_k_17 := sw_ne k_17 (n := 0) rfl; have z_k_23 := sw_ne k_23 (n := 1) rfl; have z_k_29 := sw_ne k_29 (n := 2) rfl; have z_k_34 := sw_ne k_34 (n := 3) rfl; have z_k_39 := sw_ne k_39 (n := 4) rfl; have z_k_44 := sw_ne k_44 (n := 5) rfl; have z_k_49 := sw_ne k_49 (n := 6) rfl; have z_k_54 := sw_ne k_54 (n := 7) rfl; omega) (by decide +kernel) ?_
      refine lv_iconst (v := (-1)) hx hb dX11_personOf_120 (by decide +kernel) ?_
      subst hQ
      exact W.iret (v := (-1)) hx hb hr (fun t1 ht hW => ⟨⟨(-1), (σ, I, J, ri, rj, rq), rfl, ⟨rfl, (hF0.symm.trans hF)⟩, by rw [ht]; exact hP, va_K.moved hW.alike hK, hD⟩, hS.F ht⟩) hS.2.2 dX11_personOf_121
    · replace hF := hF.trans (if_pos c_9)
      have f_59 := (hr_5.resolve_left (fun q => absurd (q.1.symm.trans c_9) (by decide +kernel))).2
      have h_60 : rg x_1 0 0 := rg_and h_8 (rg_of_eq c_9 (rg_k (0 : Int32) 0 rfl)) (by decide +kernel)
      refine lv_iconst (v := (-1)) hx hb dX11_personOf_8 (by decide +kernel) ?_
      subst hQ
      exact W.iret (v := (-1)) hx hb hr (fun t1 ht hW => ⟨⟨(-1), (σ, I, J, ri, rj, rq), rfl, ⟨rfl, (hF0.symm.trans hF)⟩, by rw [ht]; exact hP, va_K.moved hW.alike hK, hD⟩, hS.F ht⟩) hS.2.2 dX11_personOf_9
  exact go _ _ _ hP hD hS hl

set_option maxRecDepth 100000 in
def g_X11_at_K35 (I : Nat → Int32) (J : Nat → Int64) (ri : Nat → Nat → Int32) (rj : Nat → Nat → Int64) (rq : Nat → Nat → Option Nat) : Int32 × vM := ((-1 : Int32), I, J, ri, rj, rq)
set_option maxRecDepth 100000 in
theorem g_X11_at_K35_e {I : Nat → Int32} {J : Nat → Int64} {ri : Nat → Nat → Int32} {rj : Nat → Nat → Int64} {rq : Nat → Nat → Option Nat} : g_X11_at_K35 I J ri rj rq  = ((-1 : Int32), I, J, ri, rj, rq) := rfl
set_option maxRecDepth 100000 in
def g_X11_at_K35_2 (a0 : Int32) (I : Nat → Int32) (J : Nat → Int64) (ri : Nat → Nat → Int32) (rj : Nat → Nat → Int64) (rq : Nat → Nat → Option Nat) : Int32 × vM := (bnI (g_X0_countAt a0 I J ri rj rq) fun (x_53 : Int32) (_ : Nat → Int32) (_ : Nat → Int64) (_ : Nat → Nat → Int32) (_ : Nat → Nat → Int64) (_ : Nat → Nat → Option Nat) => (x_53, I, J, ri, rj, rq))
set_option maxRecDepth 100000 in
theorem g_X11_at_K35_2_e {a0 : Int32} {I : Nat → Int32} {J : Nat → Int64} {ri : Nat → Nat → Int32} {rj : Nat → Nat → Int64} {rq : Nat → Nat → Option Nat} : g_X11_at_K35_2 a0 I J ri rj rq  = (bnI (g_X0_countAt a0 I J ri rj rq) fun (x_53 : Int32) (_ : Nat → Int32) (_ : Nat → Int64) (_ : Nat → Nat → Int32) (_ : Nat → Nat → Int64) (_ : Nat → Nat → Option Nat) => (x_53, I, J, ri, rj, rq)) := rfl
set_option maxRecDepth 100000 in
def g_X11_at_K30 (a0 : Int32) (I : Nat → Int32) (J : Nat → Int64) (ri : Nat → Nat → Int32) (rj : Nat → Nat → Int64) (rq : Nat → Nat → Option Nat) : Int32 × vM := (g_X11_at_K35_2 a0 I J ri rj rq )
set_option maxRecDepth 100000 in
theorem g_X11_at_K30_e {a0 : Int32} {I : Nat → Int32} {J : Nat → Int64} {ri : Nat → Nat → Int32} {rj : Nat → Nat → Int64} {rq : Nat → Nat → Option Nat} : g_X11_at_K30 a0 I J ri rj rq  = (g_X11_at_K35_2 a0 I J ri rj rq ) := rfl
set_option maxRecDepth 100000 in
def g_X11_at (a0 : Int32) (I : Nat → Int32) (J : Nat → Int64) (ri : Nat → Nat → Int32) (rj : Nat → Nat → Int64) (rq : Nat → Nat → Option Nat) : Int32 × vM := (bnI (g_X11_isRing a0 I J ri rj rq) fun (x_1 : Int32) (_ : Nat → Int32) (_ : Nat → Int64) (_ : Nat → Nat → Int32) (_ : Nat → Nat → Int64) (_ : Nat → Nat → Option Nat) => (if x_1 = (0 : Int32) then (bnI (g_X11_isLot a0 I J ri rj rq) fun (x_72 : Int32) (_ : Nat → Int32) (_ : Nat → Int64) (_ : Nat → Nat → Int32) (_ : Nat → Nat → Int64) (_ : Nat → Nat → Option Nat) => (if x_72 = (0 : Int32) then (if a0 = (200 : Int32) then (g_X11_at_K30 a0 I J ri rj rq ) else (if a0 = (300 : Int32) then (g_X11_at_K30 a0 I J ri rj rq ) else (g_X11_at_K35 I J ri rj rq ))) else (g_X11_at_K30 a0 I J ri rj rq ))) else (g_X11_at_K30 a0 I J ri rj rq )))
set_option maxRecDepth 100000 in
theorem g_X11_at_e {a0 : Int32} {I : Nat → Int32} {J : Nat → Int64} {ri : Nat → Nat → Int32} {rj : Nat → Nat → Int64} {rq : Nat → Nat → Option Nat} : g_X11_at a0 I J ri rj rq = (bnI (g_X11_isRing a0 I J ri rj rq) fun (x_1 : Int32) (_ : Nat → Int32) (_ : Nat → Int64) (_ : Nat → Nat → Int32) (_ : Nat → Nat → Int64) (_ : Nat → Nat → Option Nat) => (if x_1 = (0 : Int32) then (bnI (g_X11_isLot a0 I J ri rj rq) fun (x_72 : Int32) (_ : Nat → Int32) (_ : Nat → Int64) (_ : Nat → Nat → Int32) (_ : Nat → Nat → Int64) (_ : Nat → Nat → Option Nat) => (if x_72 = (0 : Int32) then (if a0 = (200 : Int32) then (g_X11_at_K30 a0 I J ri rj rq ) else (if a0 = (300 : Int32) then (g_X11_at_K30 a0 I J ri rj rq ) else (g_X11_at_K35 I J ri rj rq ))) else (g_X11_at_K30 a0 I J ri rj rq ))) else (g_X11_at_K30 a0 I J ri rj rq ))) := rfl
set_option maxHeartbeats 4000000 in
set_option maxRecDepth 100000 in
theorem s_X11_at (l : Launch) (D : va_G) (t : pq_T) (σ : pq_S) (I : Nat → Nat → Int32) (J : Nat → Nat → Int64) (ri : Nat → Nat → Int32) (rj : Nat → Nat → Int64) (rq : Nat → Nat → Option Nat) (sz : Nat) (tg : Nat → Nat) (hSH : SH σ tg) (hG0 : GS tg σ I ri rq) (this : Nat) (a0 : Int32) (hL_this : this ∈ σ.1) (hK_this : σ.2.1 this = 11) (this_now : Nat) (hR_this_now : σ.2.2.1 352 this = some this_now) (hL_this_now : this_now ∈ σ.1) (hK_this_now : σ.2.1 this_now = 10) : MetI l yX11_at (wa yX11_at cX11_at 3 (some .int)) ({ frames := 2, cells := 0, slots := 0, locals := 43 }) [.ref this, .int a0] D t σ (I, J, ri, rj, rq) sz 0 0 (fun (r : Int32) (u : pq_S × pq_M) => u = (σ, I, J, ri, rj, rq) ∧ g_X11_at a0 (vI 10 σ this_now I) (vJ 10 σ this_now J) (vR 10 σ this_now ri) (vL 10 σ this_now rj) (vQ 10 σ this_now rq) = (r, (vI 10 σ this_now I), (vJ 10 σ this_now J), (vR 10 σ this_now ri), (vL 10 σ this_now rj), (vQ 10 σ this_now rq))) := by
  refine Met.ofW (cc := cX11_at) (maxL := 3) (ret := (some .int)) (by decide +kernel) rfl ?_
  intro p e s m args below meth c s₁ B hml hv
  obtain ⟨rfl, hsz, hP, hK, hD0, hN⟩ := hv
  have hx := B.exec
  have hb := B.bytes
  have hr := B.returns
  have hts := atoms_spec (ws := (wa yX11_at cX11_at 3 (some .int))) B.pre
  have hown : s.vm.findClass RX11 = some m.cls := findClass_of_methodNamed B.named
  have hlocks := B.notSynchronized
  subst hsz
  have hD : va_D (pq_B t σ (I, J, ri, rj, rq) s.heap.size) (pq_P t σ (I, J, ri, rj, rq)) := hD0.self
  generalize hAe : pq_B t σ (I, J, ri, rj, rq) s.heap.size = A at hD ⊢
  have hA : ∀ q : Nat, s.heap.size ≤ q → A q := fun q h => by rw [← hAe]; exact Or.inr h
  have hS : va_S A s.heap s.heap [] := va_S.rf
  have hG : GX [] tg σ I ri rj I ri rj rq := ⟨hG0, fun _ _ _ => rfl, fun _ _ _ _ _ => rfl, fun _ _ _ _ _ => rfl⟩
  have hl := lv_entry ([.ref this, .int a0]) (n := 3) (Nat.le_of_ble_eq_true rfl)
  rw [lg_entry_eq]
  generalize (lg_sl ([.ref this, .int a0]) ++ List.replicate (3 - (lg_sl ([.ref this, .int a0])).length) Slot.unset).toArray = ls at hl ⊢
  have hl : lv_has ls 3 [(0, .ref this), (1, .int a0)] := hl
  refine q_gen (fun Q hQ => ?_)
  have go : ∀ (H : Heap) (locs : List Loc) (ls : Array Slot), va_P D vwCl (pq_P t σ (I, J, ri, rj, rq)) H → va_D A (pq_P t σ (I, J, ri, rj, rq)) → va_S A s.heap H locs → lv_has ls 3 [(0, .ref this), (1, .int a0)] → W p l e ({ frames := 2, cells := 0, slots := 0, locals := 43 } : Room) s m (List.toArray ([.ref this, .int a0] : List Value)) below meth c H locs 0 0 Q (F0 m 0 ls []) := by
    intro H locs ls hP hD hS hl
    have hVT : VT 10 σ tg this_now := vt_10 hSH hL_this_now hK_this_now
    have hFr : FR 10 tg σ this_now (I, J, ri, rj, rq) (I, J, ri, rj, rq) := fr_rf
    have hO_this_now : this_now = vo σ 10 this_now := rfl
    obtain ⟨F, hF0⟩ : ∃ F, F = g_X11_at a0 (vI 10 σ this_now I) (vJ 10 σ this_now J) (vR 10 σ this_now ri) (vL 10 σ this_now rj) (vQ 10 σ this_now rq) := ⟨_, rfl⟩
    have hF := hF0.trans g_X11_at_e
    refine lv_aload_n hx hb dX11_at_0 rfl (lv_at hl 0 rfl) ?_
    refine lv_iload_n hx hb dX11_at_1 rfl (lv_at hl 1 rfl) ?_
    refine pk_i (va_runV (As := [.int a0]) (rest := []) ⟨hx, hb, hml, hown, hts⟩ (s_X11_isRing l D t σ I J ri rj rq H.size tg hSH hG.1 this a0 hL_this hK_this this_now hR_this_now hL_this_now hK_this_now) (cwV 1 hts (tw_V tw_211 tw_212 tw_213 tw_2 tw_214) rfl rfl rfl cv_yX11_isRing_1 ⟨Nat.le_of_ble_eq_true rfl, Nat.le_of_ble_eq_true rfl⟩) ⟨pq_blind, pq_recv hK hP hL_this hK_this (by decide +kernel) rfl, pq_pre hK hN hP hD⟩ rfl rfl hl.1 rfl (lv_room (Nat.le_of_ble_eq_true rfl)) dX11_at_2 ⟨Nat.le_of_ble_eq_true rfl, Nat.le_of_ble_eq_true rfl⟩) hD hS hA (fun x_1 σ1 μ1 H locs hw_2 hP hD hS => ?_)
    obtain ⟨hu_3, hfn_6, hr_5⟩ := hw_2
    obtain ⟨hu_3a, hu_3b⟩ := Prod.mk.inj hu_3
    rw [hu_3a, hu_3b] at hP hD
    replace hF := hF.trans (bn_n hfn_6)
    have h_8 : rg x_1 0 1 := by rcases hr_5 with ⟨q, -⟩ | ⟨q, -⟩ <;> rw [q] <;> exact ⟨by decide +kernel, by decide +kernel⟩
    have K_44 : ∀  (H : Heap) (locs : List Loc) (ls : Array Slot), rg (x_1) 0 0 → F = g_X11_at_K35 (vI 10 σ this_now I) (vJ 10 σ this_now J) (vR 10 σ this_now ri) (vL 10 σ this_now rj) (vQ 10 σ this_now rq)  → FR 10 tg σ this_now (I, J, ri, rj, rq) (I, J, ri, rj, rq) → GX [] tg σ I ri rj I ri rj rq → va_P D vwCl (pq_P t σ (I, J, ri, rj, rq)) H → va_D A (pq_P t σ (I, J, ri, rj, rq)) → va_S A s.heap H locs → lv_has ls 3 [(0, .ref this), (1, .int a0)] → W p l e ({ frames := 2, cells := 0, slots := 0, locals := 43 } : Room) s m (List.toArray ([.ref this, .int a0] : List Value)) below meth c H locs 0 0 Q (F0 m 35 ls [.int 0]) := by
      intro H locs ls h_46 hF hFr hG hP hD hS hl
      replace hF := hF.trans g_X11_at_K35_e
      refine lv_istore_n (lv' := [(2, .int 0), (0, .ref this), (1, .int a0)]) hx hb dX11_at_35 rfl hl (by decide +kernel) rfl (fun ls hl => ?_)
      refine lv_iload_n hx hb dX11_at_36 rfl (lv_at hl 0 rfl) ?_
      refine lv_if_eq (tgt := 54) hx hb dX11_at_37 (by decide +kernel) (fun c_47 => ?_) (fun c_47 => absurd c_47 (by decide +kernel))
      refine lv_iconst (v := (-1)) hx hb dX11_at_54 (by decide +kernel) ?_
      subst hQ
      exact W.iret (v := (-1)) hx hb hr (fun t1 ht hW => ⟨⟨(-1), (σ, I, J, ri, rj, rq), rfl, ⟨rfl, (hF0.symm.trans hF)⟩, by rw [ht]; exact hP, va_K.moved hW.alike hK, hD⟩, hS.F ht⟩) hS.2.2 dX11_at_55
    have K_48 : ∀  (H : Heap) (locs : List Loc) (ls : Array Slot), rg (a0) 0 300 → F = g_X11_at_K35_2 a0 (vI 10 σ this_now I) (vJ 10 σ this_now J) (vR 10 σ this_now ri) (vL 10 σ this_now rj) (vQ 10 σ this_now rq)  → FR 10 tg σ this_now (I, J, ri, rj, rq) (I, J, ri, rj, rq) → GX [] tg σ I ri rj I ri rj rq → va_P D vwCl (pq_P t σ (I, J, ri, rj, rq)) H → va_D A (pq_P t σ (I, J, ri, rj, rq)) → va_S A s.heap H locs → lv_has ls 3 [(0, .ref this), (1, .int a0)] → W p l e ({ frames := 2, cells := 0, slots := 0, locals := 43 } : Room) s m (List.toArray ([.ref this, .int a0] : List Value)) below meth c H locs 0 0 Q (F0 m 35 ls [.int 1]) := by
      intro H locs ls h_50 hF hFr hG hP hD hS hl
      replace hF := hF.trans g_X11_at_K35_2_e
      refine lv_istore_n (lv' := [(2, .int 1), (0, .ref this), (1, .int a0)]) hx hb dX11_at_35 rfl hl (by decide +kernel) rfl (fun ls hl => ?_)
      refine lv_iload_n hx hb dX11_at_36 rfl (lv_at hl 0 rfl) ?_
      refine lv_if_eq (tgt := 54) hx hb dX11_at_37 (by decide +kernel) (fun c_51 => absurd c_51 (by decide +kernel)) (fun c_51 => ?_)
      refine lv_aload_n hx hb dX11_at_40 rfl (lv_at hl 1 rfl) ?_
      refine pg_f (v := .ref this_now) (C := RX11) (T := TX11) (N := 5) hx hb hts (tw_i inlX11) hown hK hP hL_this hK_this (by decide +kernel) rfl 0 (by decide +kernel) (hts _ (tw_c tw_16)) (pq_hv rfl hR_this_now) dX11_at_41 ?_
      obtain ⟨w_52, hR_w_52, hL_w_52, hK_w_52⟩ := sh_o hSH 328 (ci := 10) (kd := 0) rfl hL_this_now hK_this_now
      have hO_w_52 : w_52 = vo σ 0 this_now := vo_k (c := 10) hO_this_now hR_w_52
      refine pg_f (v := .ref w_52) (C := RX10) (T := TX10) (N := 13) hx hb hts (tw_i inlX10) hown hK hP hL_this_now hK_this_now (by decide +kernel) rfl 8 (by decide +kernel) (hts _ (tw_c tw_379)) (pq_hv rfl hR_w_52) dX11_at_44 ?_
      refine lv_iload_n hx hb dX11_at_47 rfl (lv_at hl 2 rfl) ?_
      refine pk_i (va_runV (As := [.int a0]) (rest := []) ⟨hx, hb, hml, hown, hts⟩ (s_X0_countAt l D t σ I J ri rj rq H.size tg hSH hG.1 w_52 a0 hL_w_52 hK_w_52 this_now hL_this_now hK_this_now hO_w_52) (cwV 1 hts (tw_V tw_1307 tw_418 tw_419 tw_45 tw_420) rfl rfl rfl cv_yX0_countAt_1 ⟨Nat.le_of_ble_eq_true rfl, Nat.le_of_ble_eq_true rfl⟩) ⟨pq_blind, pq_recv hK hP hL_w_52 hK_w_52 (by decide +kernel) rfl, pq_pre hK hN hP hD⟩ rfl rfl hl.1 rfl (lv_room (Nat.le_of_ble_eq_true rfl)) dX11_at_48 ⟨Nat.le_of_ble_eq_true rfl, Nat.le_of_ble_eq_true rfl⟩) hD hS hA (fun x_53 σ1 μ1 H locs hw_54 hP hD hS => ?_)
      obtain ⟨hu_55, hfn_58⟩ := hw_54
      obtain ⟨hu_55a, hu_55b⟩ := Prod.mk.inj hu_55
      rw [hu_55a, hu_55b] at hP hD
      replace hF := hF.trans (bn_n hfn_58)
      refine lv_goto (tgt := 55) hx hb dX11_at_51 (by decide +kernel) ?_
      subst hQ
      exact W.iret (v := x_53) hx hb hr (fun t1 ht hW => ⟨⟨x_53, (σ, I, J, ri, rj, rq), rfl, ⟨rfl, (hF0.symm.trans hF)⟩, by rw [ht]; exact hP, va_K.moved hW.alike hK, hD⟩, hS.F ht⟩) hS.2.2 dX11_at_55
    have K_60 : ∀  (H : Heap) (locs : List Loc) (ls : Array Slot), rg (a0) 0 300 → F = g_X11_at_K30 a0 (vI 10 σ this_now I) (vJ 10 σ this_now J) (vR 10 σ this_now ri) (vL 10 σ this_now rj) (vQ 10 σ this_now rq)  → FR 10 tg σ this_now (I, J, ri, rj, rq) (I, J, ri, rj, rq) → GX [] tg σ I ri rj I ri rj rq → va_P D vwCl (pq_P t σ (I, J, ri, rj, rq)) H → va_D A (pq_P t σ (I, J, ri, rj, rq)) → va_S A s.heap H locs → lv_has ls 3 [(0, .ref this), (1, .int a0)] → W p l e ({ frames := 2, cells := 0, slots := 0, locals := 43 } : Room) s m (List.toArray ([.ref this, .int a0] : List Value)) below meth c H locs 0 0 Q (F0 m 30 ls []) := by
      intro H locs ls h_62 hF hFr hG hP hD hS hl
      replace hF := hF.trans g_X11_at_K30_e
      refine lv_iconst (v := 1) hx hb dX11_at_30 (by decide +kernel) ?_
      refine lv_goto (tgt := 35) hx hb dX11_at_31 (by decide +kernel) ?_
      exact K_48 _ _ _ (rg_w h_62 (by decide +kernel)) hF hFr hG hP hD hS (lv_sub hl [0, 1] rfl)
    refine lv_if_ne (tgt := 30) hx hb dX11_at_5 (by decide +kernel) (fun c_63 => ?_) (fun c_63 => ?_)
    · replace hF := hF.trans (if_neg c_63)
      have f_68 := (hr_5.resolve_right (fun q => c_63 q.1)).2
      have h_69 : rg x_1 1 1 := rg_ne c_63 h_8 0 rfl (by decide +kernel)
      exact K_60 _ _ _ (rg_w f_68 (by decide +kernel)) hF hFr hG hP hD hS (lv_sub hl [0, 1] rfl)
    · replace hF := hF.trans (if_pos c_63)
      have f_70 := (hr_5.resolve_left (fun q => absurd (q.1.symm.trans c_63) (by decide +kernel))).2
      have h_71 : rg x_1 0 0 := rg_and h_8 (rg_of_eq c_63 (rg_k (0 : Int32) 0 rfl)) (by decide +kernel)
      refine lv_aload_n hx hb dX11_at_8 rfl (lv_at hl 0 rfl) ?_
      refine lv_iload_n hx hb dX11_at_9 rfl (lv_at hl 1 rfl) ?_
      refine pk_i (va_runV (As := [.int a0]) (rest := []) ⟨hx, hb, hml, hown, hts⟩ (s_X11_isLot l D t σ I J ri rj rq H.size tg hSH hG.1 this a0 hL_this hK_this this_now hR_this_now hL_this_now hK_this_now) (cwV 1 hts (tw_V tw_409 tw_410 tw_411 tw_2 tw_412) rfl rfl rfl cv_yX11_isLot_1 ⟨Nat.le_of_ble_eq_true rfl, Nat.le_of_ble_eq_true rfl⟩) ⟨pq_blind, pq_recv hK hP hL_this hK_this (by decide +kernel) rfl, pq_pre hK hN hP hD⟩ rfl rfl hl.1 rfl (lv_room (Nat.le_of_ble_eq_true rfl)) dX11_at_10 ⟨Nat.le_of_ble_eq_true rfl, Nat.le_of_ble_eq_true rfl⟩) hD hS hA (fun x_72 σ1 μ1 H locs hw_73 hP hD hS => ?_)
      obtain ⟨hu_74, hfn_77, hr_76⟩ := hw_73
      obtain ⟨hu_74a, hu_74b⟩ := Prod.mk.inj hu_74
      rw [hu_74a, hu_74b] at hP hD
      replace hF := hF.trans (bn_n hfn_77)
      have h_79 : rg x_72 0 1 := by rcases hr_76 with ⟨q, -⟩ | ⟨q, -⟩ <;> rw [q] <;> exact ⟨by decide +kernel, by decide +kernel⟩
      refine lv_if_ne (tgt := 30) hx hb dX11_at_13 (by decide +kernel) (fun c_80 => ?_) (fun c_80 => ?_)
      · replace hF := hF.trans (if_neg c_80)
        have f_85 := (hr_76.resolve_right (fun q => c_80 q.1)).2
        have h_86 : rg x_72 1 1 := rg_ne c_80 h_79 0 rfl (by decide +kernel)
        exact K_60 _ _ _ (rg_w f_85 (by decide +kernel)) hF hFr hG hP hD hS (lv_sub hl [0, 1] rfl)
      · replace hF := hF.trans (if_pos c_80)
        have f_87 := (hr_76.resolve_left (fun q => absurd (q.1.symm.trans c_80) (by decide +kernel))).2
        have h_88 : rg x_72 0 0 := rg_and h_79 (rg_of_eq c_80 (rg_k (0 : Int32) 0 rfl)) (by decide +kernel)
        refine lv_iload_n hx hb dX11_at_16 rfl (lv_at hl 1 rfl) ?_
        refine lv_sipush (v := 200) hx hb dX11_at_17 (by decide +kernel) ?_
        refine lv_icmp_eq (tgt := 30) hx hb dX11_at_20 (by decide +kernel) (fun c_89 => ?_) (fun c_89 => ?_)
        · replace hF := hF.trans (if_pos c_89)
          have h_91 : rg a0 200 200 := rg_and (rg_full _) (rg_of_eq c_89 (rg_k (200 : Int32) 200 rfl)) (by decide +kernel)
          exact K_60 _ _ _ (rg_w h_91 (by decide +kernel)) hF hFr hG hP hD hS (lv_sub hl [0, 1] rfl)
        · replace hF := hF.trans (if_neg c_89)
          refine lv_iload_n hx hb dX11_at_23 rfl (lv_at hl 1 rfl) ?_
          refine lv_sipush (v := 300) hx hb dX11_at_24 (by decide +kernel) ?_
          refine lv_icmp_ne (tgt := 34) hx hb dX11_at_27 (by decide +kernel) (fun c_92 => ?_) (fun c_92 => ?_)
          · replace hF := hF.trans (if_neg c_92)
            refine lv_iconst (v := 0) hx hb dX11_at_34 (by decide +kernel) ?_
            exact K_44 _ _ _ (rg_w h_71 (by decide +kernel)) hF hFr hG hP hD hS (lv_sub hl [0, 1] rfl)
          · replace hF := hF.trans (if_pos c_92)
            have h_94 : rg a0 300 300 := rg_and (rg_full _) (rg_of_eq c_92 (rg_k (300 : Int32) 300 rfl)) (by decide +kernel)
            exact K_60 _ _ _ (rg_w h_94 (by decide +kernel)) hF hFr hG hP hD hS (lv_sub hl [0, 1] rfl)
  exact go _ _ _ hP hD hS hl

set_option maxRecDepth 100000 in
def g_X11_area (I : Nat → Int32) (J : Nat → Int64) (ri : Nat → Nat → Int32) (rj : Nat → Nat → Int64) (rq : Nat → Nat → Option Nat) : Int32 × vM := (ap1 (I 324) fun (y_1 : Int32) => ((y_1), I, J, ri, rj, rq))
set_option maxRecDepth 100000 in
theorem g_X11_area_e {I : Nat → Int32} {J : Nat → Int64} {ri : Nat → Nat → Int32} {rj : Nat → Nat → Int64} {rq : Nat → Nat → Option Nat} : g_X11_area I J ri rj rq = (ap1 (I 324) fun (y_1 : Int32) => ((y_1), I, J, ri, rj, rq)) := rfl
set_option maxHeartbeats 4000000 in
set_option maxRecDepth 100000 in
theorem s_X11_area (l : Launch) (D : va_G) (t : pq_T) (σ : pq_S) (I : Nat → Nat → Int32) (J : Nat → Nat → Int64) (ri : Nat → Nat → Int32) (rj : Nat → Nat → Int64) (rq : Nat → Nat → Option Nat) (sz : Nat) (tg : Nat → Nat) (hSH : SH σ tg) (hG0 : GS tg σ I ri rq) (this : Nat) (hL_this : this ∈ σ.1) (hK_this : σ.2.1 this = 11) (this_now : Nat) (hR_this_now : σ.2.2.1 352 this = some this_now) (hL_this_now : this_now ∈ σ.1) (hK_this_now : σ.2.1 this_now = 10) : MetI l yX11_area (wa yX11_area cX11_area 1 (some .int)) ({ frames := 0, cells := 0, slots := 0, locals := 0 }) [.ref this] D t σ (I, J, ri, rj, rq) sz 0 0 (fun (r : Int32) (u : pq_S × pq_M) => u = (σ, I, J, ri, rj, rq) ∧ g_X11_area (vI 10 σ this_now I) (vJ 10 σ this_now J) (vR 10 σ this_now ri) (vL 10 σ this_now rj) (vQ 10 σ this_now rq) = (r, (vI 10 σ this_now I), (vJ 10 σ this_now J), (vR 10 σ this_now ri), (vL 10 σ this_now rj), (vQ 10 σ this_now rq))) := by
  refine Met.ofW (cc := cX11_area) (maxL := 1) (ret := (some .int)) (by decide +kernel) rfl ?_
  intro p e s m args below meth c s₁ B hml hv
  obtain ⟨rfl, hsz, hP, hK, hD0, hN⟩ := hv
  have hx := B.exec
  have hb := B.bytes
  have hr := B.returns
  have hts := atoms_spec (ws := (wa yX11_area cX11_area 1 (some .int))) B.pre
  have hown : s.vm.findClass RX11 = some m.cls := findClass_of_methodNamed B.named
  have hlocks := B.notSynchronized
  subst hsz
  have hD : va_D (pq_B t σ (I, J, ri, rj, rq) s.heap.size) (pq_P t σ (I, J, ri, rj, rq)) := hD0.self
  generalize hAe : pq_B t σ (I, J, ri, rj, rq) s.heap.size = A at hD ⊢
  have hA : ∀ q : Nat, s.heap.size ≤ q → A q := fun q h => by rw [← hAe]; exact Or.inr h
  have hS : va_S A s.heap s.heap [] := va_S.rf
  have hG : GX [] tg σ I ri rj I ri rj rq := ⟨hG0, fun _ _ _ => rfl, fun _ _ _ _ _ => rfl, fun _ _ _ _ _ => rfl⟩
  have hl := lv_entry ([.ref this]) (n := 1) (Nat.le_of_ble_eq_true rfl)
  rw [lg_entry_eq]
  generalize (lg_sl ([.ref this]) ++ List.replicate (1 - (lg_sl ([.ref this])).length) Slot.unset).toArray = ls at hl ⊢
  have hl : lv_has ls 1 [(0, .ref this)] := hl
  refine q_gen (fun Q hQ => ?_)
  have go : ∀ (H : Heap) (locs : List Loc) (ls : Array Slot), va_P D vwCl (pq_P t σ (I, J, ri, rj, rq)) H → va_D A (pq_P t σ (I, J, ri, rj, rq)) → va_S A s.heap H locs → lv_has ls 1 [(0, .ref this)] → W p l e ({ frames := 0, cells := 0, slots := 0, locals := 0 } : Room) s m (List.toArray ([.ref this] : List Value)) below meth c H locs 0 0 Q (F0 m 0 ls []) := by
    intro H locs ls hP hD hS hl
    have hVT : VT 10 σ tg this_now := vt_10 hSH hL_this_now hK_this_now
    have hFr : FR 10 tg σ this_now (I, J, ri, rj, rq) (I, J, ri, rj, rq) := fr_rf
    have hO_this_now : this_now = vo σ 10 this_now := rfl
    obtain ⟨F, hF0⟩ : ∃ F, F = g_X11_area (vI 10 σ this_now I) (vJ 10 σ this_now J) (vR 10 σ this_now ri) (vL 10 σ this_now rj) (vQ 10 σ this_now rq) := ⟨_, rfl⟩
    have hF := hF0.trans g_X11_area_e
    refine lv_aload_n hx hb dX11_area_0 rfl (lv_at hl 0 rfl) ?_
    refine pg_f (v := .ref this_now) (C := RX11) (T := TX11) (N := 5) hx hb hts (tw_i inlX11) hown hK hP hL_this hK_this (by decide +kernel) rfl 0 (by decide +kernel) (hts _ (tw_c tw_16)) (pq_hv rfl hR_this_now) dX11_area_1 ?_
    refine pg_f (v := .int (I 324 this_now)) (C := RX10) (T := TX10) (N := 13) hx hb hts (tw_i inlX10) hown hK hP hL_this_now hK_this_now (by decide +kernel) rfl 4 (by decide +kernel) (hts _ (tw_c tw_1316)) rfl dX11_area_4 ?_
    replace hF := hF.trans (ap_n (vI_e (f := 324) hO_this_now (by decide +kernel)))
    subst hQ
    exact W.iret (v := (I 324 this_now)) hx hb hr (fun t1 ht hW => ⟨⟨(I 324 this_now), (σ, I, J, ri, rj, rq), rfl, ⟨rfl, (hF0.symm.trans hF)⟩, by rw [ht]; exact hP, va_K.moved hW.alike hK, hD⟩, hS.F ht⟩) hS.2.2 dX11_area_7
  exact go _ _ _ hP hD hS hl

set_option maxHeartbeats 4000000 in
set_option maxRecDepth 100000 in
theorem s_X11_sum_73 (l : Launch) (D : va_G) (t : pq_T) (σ : pq_S) (I : Nat → Nat → Int32) (J : Nat → Nat → Int64) (ri : Nat → Nat → Int32) (rj : Nat → Nat → Int64) (rq : Nat → Nat → Option Nat) (sz : Nat) (tg : Nat → Nat) (hSH : SH σ tg) (hG0 : GS tg σ I ri rq) (a0 : Nat) (a1 : Int32) (hL_a0 : a0 ∈ σ.1) (hK_a0 : σ.2.1 a0 = 13) (hN_a0 : σ.2.2.2 a0 = 40) (hT_a0 : tg a0 = 73) (h_a1 : rg a1 0 40) : MetI l yX11_sum (wa yX11_sum cX11_sum 4 (some .int)) ({ frames := 0, cells := 0, slots := 0, locals := 0 }) [.ref a0, .int a1] D t σ (I, J, ri, rj, rq) sz 0 0 (fun (r : Int32) (u : pq_S × pq_M) => u = (σ, I, J, ri, rj, rq)) := by
  refine Met.ofW (cc := cX11_sum) (maxL := 4) (ret := (some .int)) (by decide +kernel) rfl ?_
  intro p e s m args below meth c s₁ B hml hv
  obtain ⟨rfl, hsz, hP, hK, hD0, hN⟩ := hv
  have hx := B.exec
  have hb := B.bytes
  have hr := B.returns
  have hts := atoms_spec (ws := (wa yX11_sum cX11_sum 4 (some .int))) B.pre
  have hown : s.vm.findClass RX11 = some m.cls := findClass_of_methodNamed B.named
  have hlocks := B.notSynchronized
  subst hsz
  have hD : va_D (pq_B t σ (I, J, ri, rj, rq) s.heap.size) (pq_P t σ (I, J, ri, rj, rq)) := hD0.self
  generalize hAe : pq_B t σ (I, J, ri, rj, rq) s.heap.size = A at hD ⊢
  have hA : ∀ q : Nat, s.heap.size ≤ q → A q := fun q h => by rw [← hAe]; exact Or.inr h
  have hS : va_S A s.heap s.heap [] := va_S.rf
  have hG : GX [] tg σ I ri rj I ri rj rq := ⟨hG0, fun _ _ _ => rfl, fun _ _ _ _ _ => rfl, fun _ _ _ _ _ => rfl⟩
  have hl := lv_entry ([.ref a0, .int a1]) (n := 4) (Nat.le_of_ble_eq_true rfl)
  rw [lg_entry_eq]
  generalize (lg_sl ([.ref a0, .int a1]) ++ List.replicate (4 - (lg_sl ([.ref a0, .int a1])).length) Slot.unset).toArray = ls at hl ⊢
  have hl : lv_has ls 4 [(0, .ref a0), (1, .int a1)] := hl
  refine q_gen (fun Q hQ => ?_)
  have go : ∀ (H : Heap) (locs : List Loc) (ls : Array Slot), va_P D vwCl (pq_P t σ (I, J, ri, rj, rq)) H → va_D A (pq_P t σ (I, J, ri, rj, rq)) → va_S A s.heap H locs → lv_has ls 4 [(0, .ref a0), (1, .int a1)] → W p l e ({ frames := 0, cells := 0, slots := 0, locals := 0 } : Room) s m (List.toArray ([.ref a0, .int a1] : List Value)) below meth c H locs 0 0 Q (F0 m 0 ls []) := by
    intro H locs ls hP hD hS hl
    refine lv_iconst (v := 0) hx hb dX11_sum_0 (by decide +kernel) ?_
    refine lv_istore_n (lv' := [(2, .int 0), (0, .ref a0), (1, .int a1)]) hx hb dX11_sum_1 rfl hl (by decide +kernel) rfl (fun ls hl => ?_)
    refine lv_iconst (v := 0) hx hb dX11_sum_2 (by decide +kernel) ?_
    refine lv_istore_n (lv' := [(3, .int 0), (2, .int 0), (0, .ref a0), (1, .int a1)]) hx hb dX11_sum_3 rfl hl (by decide +kernel) rfl (fun ls hl => ?_)
    have L_133 : ∀ (n_132 : Nat) (x_121 : Int32) (x_122 : Int32) (H : Heap) (locs : List Loc) (ls : Array Slot), rg x_122 0 40 → (40 - (x_122).toInt).toNat < n_132 → GX [] tg σ I ri rj I ri rj rq → va_P D vwCl (pq_P t σ (I, J, ri, rj, rq)) H → va_D A (pq_P t σ (I, J, ri, rj, rq)) → va_S A s.heap H locs → lv_has ls 4 [(0, .ref a0), (1, .int a1), (2, .int x_121), (3, .int x_122)] → W p l e ({ frames := 0, cells := 0, slots := 0, locals := 0 } : Room) s m (List.toArray ([.ref a0, .int a1] : List Value)) below meth c H locs 0 0 Q (F0 m 4 ls []) := by
      intro n_132
      induction n_132 with
      | zero => intro x_121 x_122 H locs ls h_136 hm_131 hG hP hD hS hl; exact absurd hm_131 (Nat.not_lt_zero _)
      | succ n_132 ih_134 =>
        intro x_121 x_122 H locs ls h_136 hm_131 hG hP hD hS hl
        refine lv_iload_n hx hb dX11_sum_4 rfl (lv_at hl 3 rfl) ?_
        refine lv_iload_n hx hb dX11_sum_5 rfl (lv_at hl 1 rfl) ?_
        refine lv_icmp_ge (tgt := 21) hx hb dX11_sum_6 (by decide +kernel) (fun c_137 => ?_) (fun c_137 => ?_)
        · refine lv_iload_n hx hb dX11_sum_21 rfl (lv_at hl 2 rfl) ?_
          subst hQ
          exact W.iret (v := x_121) hx hb hr (fun t1 ht hW => ⟨⟨x_121, (σ, I, J, ri, rj, rq), rfl, rfl, by rw [ht]; exact hP, va_K.moved hW.alike hK, hD⟩, hS.F ht⟩) hS.2.2 dX11_sum_22
        · have h_138 : rg x_122 0 39 := rg_lt1 (nle c_137) h_136 h_a1 (by decide +kernel)
          have h_139 : rg a1 1 40 := rg_lt2 (nle c_137) h_136 h_a1 (by decide +kernel)
          refine lv_iload_n hx hb dX11_sum_9 rfl (lv_at hl 2 rfl) ?_
          refine lv_aload_n hx hb dX11_sum_10 rfl (lv_at hl 0 rfl) ?_
          refine lv_iload_n hx hb dX11_sum_11 rfl (lv_at hl 3 rfl) ?_
          refine pl_i hx hb hK hP hL_a0 hK_a0 hN_a0 (rg_in h_138 (by decide +kernel)) dX11_sum_12 ?_
          refine lv_topi (fun x_140 ex_140 => ?_)
          refine lv_iadd hx hb dX11_sum_13 ?_
          refine lv_topi (fun x_141 ex_141 => ?_)
          refine lv_istore_n (lv' := [(2, .int x_141), (0, .ref a0), (1, .int a1), (3, .int x_122)]) hx hb dX11_sum_14 rfl hl (by decide +kernel) rfl (fun ls hl => ?_)
          obtain ⟨x_142, ex_142⟩ : ∃ y : Int32, y = x_122 + Int32.ofInt 1 := ⟨_, rfl⟩
          have h_143 : rg x_142 1 40 := rg_of_eq ex_142 (rg_add h_138 (rg_k (Int32.ofInt 1) 1 rfl) (by decide +kernel))
          refine lv_iinc (v := x_142) (lv' := [(3, .int x_142), (2, .int x_141), (0, .ref a0), (1, .int a1)]) hx hb dX11_sum_15 hl (k := 3) rfl ex_142.symm (by decide +kernel) rfl (fun ls hl => ?_)
          refine lv_goto (tgt := 4) hx hb dX11_sum_18 (by decide +kernel) ?_
          exact ih_134 x_141 x_142 _ _ _ (rg_w h_143 (by decide +kernel)) (ms_up 1 hm_131 ex_142 rfl (by decide +kernel) h_138 (by decide +kernel) (by decide +kernel)) hG hP hD hS (lv_sub hl [2, 3, 1, 0] rfl)
    exact L_133 _ (0 : Int32) (0 : Int32) _ _ _ (rg_w (rg_k (0 : Int32) 0 rfl) (by decide +kernel)) (Nat.lt_succ_self _) hG hP hD hS (lv_sub hl [2, 3, 1, 0] rfl)
  exact go _ _ _ hP hD hS hl

set_option maxHeartbeats 4000000 in
set_option maxRecDepth 100000 in
theorem s_X11_sum_6 (l : Launch) (D : va_G) (t : pq_T) (σ : pq_S) (I : Nat → Nat → Int32) (J : Nat → Nat → Int64) (ri : Nat → Nat → Int32) (rj : Nat → Nat → Int64) (rq : Nat → Nat → Option Nat) (sz : Nat) (tg : Nat → Nat) (hSH : SH σ tg) (hG0 : GS tg σ I ri rq) (a0 : Nat) (a1 : Int32) (hL_a0 : a0 ∈ σ.1) (hK_a0 : σ.2.1 a0 = 13) (hN_a0 : σ.2.2.2 a0 = 40) (hT_a0 : tg a0 = 6) (h_a1 : rg a1 0 40) : MetI l yX11_sum (wa yX11_sum cX11_sum 4 (some .int)) ({ frames := 0, cells := 0, slots := 0, locals := 0 }) [.ref a0, .int a1] D t σ (I, J, ri, rj, rq) sz 0 0 (fun (r : Int32) (u : pq_S × pq_M) => u = (σ, I, J, ri, rj, rq)) := by
  refine Met.ofW (cc := cX11_sum) (maxL := 4) (ret := (some .int)) (by decide +kernel) rfl ?_
  intro p e s m args below meth c s₁ B hml hv
  obtain ⟨rfl, hsz, hP, hK, hD0, hN⟩ := hv
  have hx := B.exec
  have hb := B.bytes
  have hr := B.returns
  have hts := atoms_spec (ws := (wa yX11_sum cX11_sum 4 (some .int))) B.pre
  have hown : s.vm.findClass RX11 = some m.cls := findClass_of_methodNamed B.named
  have hlocks := B.notSynchronized
  subst hsz
  have hD : va_D (pq_B t σ (I, J, ri, rj, rq) s.heap.size) (pq_P t σ (I, J, ri, rj, rq)) := hD0.self
  generalize hAe : pq_B t σ (I, J, ri, rj, rq) s.heap.size = A at hD ⊢
  have hA : ∀ q : Nat, s.heap.size ≤ q → A q := fun q h => by rw [← hAe]; exact Or.inr h
  have hS : va_S A s.heap s.heap [] := va_S.rf
  have hG : GX [] tg σ I ri rj I ri rj rq := ⟨hG0, fun _ _ _ => rfl, fun _ _ _ _ _ => rfl, fun _ _ _ _ _ => rfl⟩
  have hl := lv_entry ([.ref a0, .int a1]) (n := 4) (Nat.le_of_ble_eq_true rfl)
  rw [lg_entry_eq]
  generalize (lg_sl ([.ref a0, .int a1]) ++ List.replicate (4 - (lg_sl ([.ref a0, .int a1])).length) Slot.unset).toArray = ls at hl ⊢
  have hl : lv_has ls 4 [(0, .ref a0), (1, .int a1)] := hl
  refine q_gen (fun Q hQ => ?_)
  have go : ∀ (H : Heap) (locs : List Loc) (ls : Array Slot), va_P D vwCl (pq_P t σ (I, J, ri, rj, rq)) H → va_D A (pq_P t σ (I, J, ri, rj, rq)) → va_S A s.heap H locs → lv_has ls 4 [(0, .ref a0), (1, .int a1)] → W p l e ({ frames := 0, cells := 0, slots := 0, locals := 0 } : Room) s m (List.toArray ([.ref a0, .int a1] : List Value)) below meth c H locs 0 0 Q (F0 m 0 ls []) := by
    intro H locs ls hP hD hS hl
    refine lv_iconst (v := 0) hx hb dX11_sum_0 (by decide +kernel) ?_
    refine lv_istore_n (lv' := [(2, .int 0), (0, .ref a0), (1, .int a1)]) hx hb dX11_sum_1 rfl hl (by decide +kernel) rfl (fun ls hl => ?_)
    refine lv_iconst (v := 0) hx hb dX11_sum_2 (by decide +kernel) ?_
    refine lv_istore_n (lv' := [(3, .int 0), (2, .int 0), (0, .ref a0), (1, .int a1)]) hx hb dX11_sum_3 rfl hl (by decide +kernel) rfl (fun ls hl => ?_)
    have L_133 : ∀ (n_132 : Nat) (x_121 : Int32) (x_122 : Int32) (H : Heap) (locs : List Loc) (ls : Array Slot), rg x_122 0 40 → (40 - (x_122).toInt).toNat < n_132 → GX [] tg σ I ri rj I ri rj rq → va_P D vwCl (pq_P t σ (I, J, ri, rj, rq)) H → va_D A (pq_P t σ (I, J, ri, rj, rq)) → va_S A s.heap H locs → lv_has ls 4 [(0, .ref a0), (1, .int a1), (2, .int x_121), (3, .int x_122)] → W p l e ({ frames := 0, cells := 0, slots := 0, locals := 0 } : Room) s m (List.toArray ([.ref a0, .int a1] : List Value)) below meth c H locs 0 0 Q (F0 m 4 ls []) := by
      intro n_132
      induction n_132 with
      | zero => intro x_121 x_122 H locs ls h_136 hm_131 hG hP hD hS hl; exact absurd hm_131 (Nat.not_lt_zero _)
      | succ n_132 ih_134 =>
        intro x_121 x_122 H locs ls h_136 hm_131 hG hP hD hS hl
        refine lv_iload_n hx hb dX11_sum_4 rfl (lv_at hl 3 rfl) ?_
        refine lv_iload_n hx hb dX11_sum_5 rfl (lv_at hl 1 rfl) ?_
        refine lv_icmp_ge (tgt := 21) hx hb dX11_sum_6 (by decide +kernel) (fun c_137 => ?_) (fun c_137 => ?_)
        · refine lv_iload_n hx hb dX11_sum_21 rfl (lv_at hl 2 rfl) ?_
          subst hQ
          exact W.iret (v := x_121) hx hb hr (fun t1 ht hW => ⟨⟨x_121, (σ, I, J, ri, rj, rq), rfl, rfl, by rw [ht]; exact hP, va_K.moved hW.alike hK, hD⟩, hS.F ht⟩) hS.2.2 dX11_sum_22
        · have h_138 : rg x_122 0 39 := rg_lt1 (nle c_137) h_136 h_a1 (by decide +kernel)
          have h_139 : rg a1 1 40 := rg_lt2 (nle c_137) h_136 h_a1 (by decide +kernel)
          refine lv_iload_n hx hb dX11_sum_9 rfl (lv_at hl 2 rfl) ?_
          refine lv_aload_n hx hb dX11_sum_10 rfl (lv_at hl 0 rfl) ?_
          refine lv_iload_n hx hb dX11_sum_11 rfl (lv_at hl 3 rfl) ?_
          refine pl_i hx hb hK hP hL_a0 hK_a0 hN_a0 (rg_in h_138 (by decide +kernel)) dX11_sum_12 ?_
          refine lv_topi (fun x_140 ex_140 => ?_)
          refine lv_iadd hx hb dX11_sum_13 ?_
          refine lv_topi (fun x_141 ex_141 => ?_)
          refine lv_istore_n (lv' := [(2, .int x_141), (0, .ref a0), (1, .int a1), (3, .int x_122)]) hx hb dX11_sum_14 rfl hl (by decide +kernel) rfl (fun ls hl => ?_)
          obtain ⟨x_142, ex_142⟩ : ∃ y : Int32, y = x_122 + Int32.ofInt 1 := ⟨_, rfl⟩
          have h_143 : rg x_142 1 40 := rg_of_eq ex_142 (rg_add h_138 (rg_k (Int32.ofInt 1) 1 rfl) (by decide +kernel))
          refine lv_iinc (v := x_142) (lv' := [(3, .int x_142), (2, .int x_141), (0, .ref a0), (1, .int a1)]) hx hb dX11_sum_15 hl (k := 3) rfl ex_142.symm (by decide +kernel) rfl (fun ls hl => ?_)
          refine lv_goto (tgt := 4) hx hb dX11_sum_18 (by decide +kernel) ?_
          exact ih_134 x_141 x_142 _ _ _ (rg_w h_143 (by decide +kernel)) (ms_up 1 hm_131 ex_142 rfl (by decide +kernel) h_138 (by decide +kernel) (by decide +kernel)) hG hP hD hS (lv_sub hl [2, 3, 1, 0] rfl)
    exact L_133 _ (0 : Int32) (0 : Int32) _ _ _ (rg_w (rg_k (0 : Int32) 0 rfl) (by decide +kernel)) (Nat.lt_succ_self _) hG hP hD hS (lv_sub hl [2, 3, 1, 0] rfl)
  exact go _ _ _ hP hD hS hl

set_option maxHeartbeats 4000000 in
set_option maxRecDepth 100000 in
theorem s_X11_sum_7 (l : Launch) (D : va_G) (t : pq_T) (σ : pq_S) (I : Nat → Nat → Int32) (J : Nat → Nat → Int64) (ri : Nat → Nat → Int32) (rj : Nat → Nat → Int64) (rq : Nat → Nat → Option Nat) (sz : Nat) (tg : Nat → Nat) (hSH : SH σ tg) (hG0 : GS tg σ I ri rq) (a0 : Nat) (a1 : Int32) (hL_a0 : a0 ∈ σ.1) (hK_a0 : σ.2.1 a0 = 13) (hN_a0 : σ.2.2.2 a0 = 40) (hT_a0 : tg a0 = 7) (h_a1 : rg a1 0 40) : MetI l yX11_sum (wa yX11_sum cX11_sum 4 (some .int)) ({ frames := 0, cells := 0, slots := 0, locals := 0 }) [.ref a0, .int a1] D t σ (I, J, ri, rj, rq) sz 0 0 (fun (r : Int32) (u : pq_S × pq_M) => u = (σ, I, J, ri, rj, rq)) := by
  refine Met.ofW (cc := cX11_sum) (maxL := 4) (ret := (some .int)) (by decide +kernel) rfl ?_
  intro p e s m args below meth c s₁ B hml hv
  obtain ⟨rfl, hsz, hP, hK, hD0, hN⟩ := hv
  have hx := B.exec
  have hb := B.bytes
  have hr := B.returns
  have hts := atoms_spec (ws := (wa yX11_sum cX11_sum 4 (some .int))) B.pre
  have hown : s.vm.findClass RX11 = some m.cls := findClass_of_methodNamed B.named
  have hlocks := B.notSynchronized
  subst hsz
  have hD : va_D (pq_B t σ (I, J, ri, rj, rq) s.heap.size) (pq_P t σ (I, J, ri, rj, rq)) := hD0.self
  generalize hAe : pq_B t σ (I, J, ri, rj, rq) s.heap.size = A at hD ⊢
  have hA : ∀ q : Nat, s.heap.size ≤ q → A q := fun q h => by rw [← hAe]; exact Or.inr h
  have hS : va_S A s.heap s.heap [] := va_S.rf
  have hG : GX [] tg σ I ri rj I ri rj rq := ⟨hG0, fun _ _ _ => rfl, fun _ _ _ _ _ => rfl, fun _ _ _ _ _ => rfl⟩
  have hl := lv_entry ([.ref a0, .int a1]) (n := 4) (Nat.le_of_ble_eq_true rfl)
  rw [lg_entry_eq]
  generalize (lg_sl ([.ref a0, .int a1]) ++ List.replicate (4 - (lg_sl ([.ref a0, .int a1])).length) Slot.unset).toArray = ls at hl ⊢
  have hl : lv_has ls 4 [(0, .ref a0), (1, .int a1)] := hl
  refine q_gen (fun Q hQ => ?_)
  have go : ∀ (H : Heap) (locs : List Loc) (ls : Array Slot), va_P D vwCl (pq_P t σ (I, J, ri, rj, rq)) H → va_D A (pq_P t σ (I, J, ri, rj, rq)) → va_S A s.heap H locs → lv_has ls 4 [(0, .ref a0), (1, .int a1)] → W p l e ({ frames := 0, cells := 0, slots := 0, locals := 0 } : Room) s m (List.toArray ([.ref a0, .int a1] : List Value)) below meth c H locs 0 0 Q (F0 m 0 ls []) := by
    intro H locs ls hP hD hS hl
    refine lv_iconst (v := 0) hx hb dX11_sum_0 (by decide +kernel) ?_
    refine lv_istore_n (lv' := [(2, .int 0), (0, .ref a0), (1, .int a1)]) hx hb dX11_sum_1 rfl hl (by decide +kernel) rfl (fun ls hl => ?_)
    refine lv_iconst (v := 0) hx hb dX11_sum_2 (by decide +kernel) ?_
    refine lv_istore_n (lv' := [(3, .int 0), (2, .int 0), (0, .ref a0), (1, .int a1)]) hx hb dX11_sum_3 rfl hl (by decide +kernel) rfl (fun ls hl => ?_)
    have L_133 : ∀ (n_132 : Nat) (x_121 : Int32) (x_122 : Int32) (H : Heap) (locs : List Loc) (ls : Array Slot), rg x_122 0 40 → (40 - (x_122).toInt).toNat < n_132 → GX [] tg σ I ri rj I ri rj rq → va_P D vwCl (pq_P t σ (I, J, ri, rj, rq)) H → va_D A (pq_P t σ (I, J, ri, rj, rq)) → va_S A s.heap H locs → lv_has ls 4 [(0, .ref a0), (1, .int a1), (2, .int x_121), (3, .int x_122)] → W p l e ({ frames := 0, cells := 0, slots := 0, locals := 0 } : Room) s m (List.toArray ([.ref a0, .int a1] : List Value)) below meth c H locs 0 0 Q (F0 m 4 ls []) := by
      intro n_132
      induction n_132 with
      | zero => intro x_121 x_122 H locs ls h_136 hm_131 hG hP hD hS hl; exact absurd hm_131 (Nat.not_lt_zero _)
      | succ n_132 ih_134 =>
        intro x_121 x_122 H locs ls h_136 hm_131 hG hP hD hS hl
        refine lv_iload_n hx hb dX11_sum_4 rfl (lv_at hl 3 rfl) ?_
        refine lv_iload_n hx hb dX11_sum_5 rfl (lv_at hl 1 rfl) ?_
        refine lv_icmp_ge (tgt := 21) hx hb dX11_sum_6 (by decide +kernel) (fun c_137 => ?_) (fun c_137 => ?_)
        · refine lv_iload_n hx hb dX11_sum_21 rfl (lv_at hl 2 rfl) ?_
          subst hQ
          exact W.iret (v := x_121) hx hb hr (fun t1 ht hW => ⟨⟨x_121, (σ, I, J, ri, rj, rq), rfl, rfl, by rw [ht]; exact hP, va_K.moved hW.alike hK, hD⟩, hS.F ht⟩) hS.2.2 dX11_sum_22
        · have h_138 : rg x_122 0 39 := rg_lt1 (nle c_137) h_136 h_a1 (by decide +kernel)
          have h_139 : rg a1 1 40 := rg_lt2 (nle c_137) h_136 h_a1 (by decide +kernel)
          refine lv_iload_n hx hb dX11_sum_9 rfl (lv_at hl 2 rfl) ?_
          refine lv_aload_n hx hb dX11_sum_10 rfl (lv_at hl 0 rfl) ?_
          refine lv_iload_n hx hb dX11_sum_11 rfl (lv_at hl 3 rfl) ?_
          refine pl_i hx hb hK hP hL_a0 hK_a0 hN_a0 (rg_in h_138 (by decide +kernel)) dX11_sum_12 ?_
          refine lv_topi (fun x_140 ex_140 => ?_)
          refine lv_iadd hx hb dX11_sum_13 ?_
          refine lv_topi (fun x_141 ex_141 => ?_)
          refine lv_istore_n (lv' := [(2, .int x_141), (0, .ref a0), (1, .int a1), (3, .int x_122)]) hx hb dX11_sum_14 rfl hl (by decide +kernel) rfl (fun ls hl => ?_)
          obtain ⟨x_142, ex_142⟩ : ∃ y : Int32, y = x_122 + Int32.ofInt 1 := ⟨_, rfl⟩
          have h_143 : rg x_142 1 40 := rg_of_eq ex_142 (rg_add h_138 (rg_k (Int32.ofInt 1) 1 rfl) (by decide +kernel))
          refine lv_iinc (v := x_142) (lv' := [(3, .int x_142), (2, .int x_141), (0, .ref a0), (1, .int a1)]) hx hb dX11_sum_15 hl (k := 3) rfl ex_142.symm (by decide +kernel) rfl (fun ls hl => ?_)
          refine lv_goto (tgt := 4) hx hb dX11_sum_18 (by decide +kernel) ?_
          exact ih_134 x_141 x_142 _ _ _ (rg_w h_143 (by decide +kernel)) (ms_up 1 hm_131 ex_142 rfl (by decide +kernel) h_138 (by decide +kernel) (by decide +kernel)) hG hP hD hS (lv_sub hl [2, 3, 1, 0] rfl)
    exact L_133 _ (0 : Int32) (0 : Int32) _ _ _ (rg_w (rg_k (0 : Int32) 0 rfl) (by decide +kernel)) (Nat.lt_succ_self _) hG hP hD hS (lv_sub hl [2, 3, 1, 0] rfl)
  exact go _ _ _ hP hD hS hl

set_option maxHeartbeats 4000000 in
set_option maxRecDepth 100000 in
theorem s_X11_about (l : Launch) (D : va_G) (t : pq_T) (σ : pq_S) (I : Nat → Nat → Int32) (J : Nat → Nat → Int64) (ri : Nat → Nat → Int32) (rj : Nat → Nat → Int64) (rq : Nat → Nat → Option Nat) (sz : Nat) (tg : Nat → Nat) (hSH : SH σ tg) (hG0 : GS tg σ I ri rq) (this : Nat) (a0 : Int32) (hL_this : this ∈ σ.1) (hK_this : σ.2.1 this = 11) (this_now : Nat) (hR_this_now : σ.2.2.1 352 this = some this_now) (hL_this_now : this_now ∈ σ.1) (hK_this_now : σ.2.1 this_now = 10) : MetI l yX11_about (wa yX11_about cX11_about 2 (some .int)) ({ frames := 1, cells := 0, slots := 0, locals := 23 }) [.ref this, .int a0] D t σ (I, J, ri, rj, rq) sz 0 0 (fun (r : Int32) (u : pq_S × pq_M) => u = (σ, I, J, ri, rj, rq)) := by
  refine Met.ofW (cc := cX11_about) (maxL := 2) (ret := (some .int)) (by decide +kernel) rfl ?_
  intro p e s m args below meth c s₁ B hml hv
  obtain ⟨rfl, hsz, hP, hK, hD0, hN⟩ := hv
  have hx := B.exec
  have hb := B.bytes
  have hr := B.returns
  have hts := atoms_spec (ws := (wa yX11_about cX11_about 2 (some .int))) B.pre
  have hown : s.vm.findClass RX11 = some m.cls := findClass_of_methodNamed B.named
  have hlocks := B.notSynchronized
  subst hsz
  have hD : va_D (pq_B t σ (I, J, ri, rj, rq) s.heap.size) (pq_P t σ (I, J, ri, rj, rq)) := hD0.self
  generalize hAe : pq_B t σ (I, J, ri, rj, rq) s.heap.size = A at hD ⊢
  have hA : ∀ q : Nat, s.heap.size ≤ q → A q := fun q h => by rw [← hAe]; exact Or.inr h
  have hS : va_S A s.heap s.heap [] := va_S.rf
  have hG : GX [] tg σ I ri rj I ri rj rq := ⟨hG0, fun _ _ _ => rfl, fun _ _ _ _ _ => rfl, fun _ _ _ _ _ => rfl⟩
  have hl := lv_entry ([.ref this, .int a0]) (n := 2) (Nat.le_of_ble_eq_true rfl)
  rw [lg_entry_eq]
  generalize (lg_sl ([.ref this, .int a0]) ++ List.replicate (2 - (lg_sl ([.ref this, .int a0])).length) Slot.unset).toArray = ls at hl ⊢
  have hl : lv_has ls 2 [(0, .ref this), (1, .int a0)] := hl
  refine q_gen (fun Q hQ => ?_)
  have go : ∀ (H : Heap) (locs : List Loc) (ls : Array Slot), va_P D vwCl (pq_P t σ (I, J, ri, rj, rq)) H → va_D A (pq_P t σ (I, J, ri, rj, rq)) → va_S A s.heap H locs → lv_has ls 2 [(0, .ref this), (1, .int a0)] → W p l e ({ frames := 1, cells := 0, slots := 0, locals := 23 } : Room) s m (List.toArray ([.ref this, .int a0] : List Value)) below meth c H locs 0 0 Q (F0 m 0 ls []) := by
    intro H locs ls hP hD hS hl
    have hVT : VT 10 σ tg this_now := vt_10 hSH hL_this_now hK_this_now
    have hFr : FR 10 tg σ this_now (I, J, ri, rj, rq) (I, J, ri, rj, rq) := fr_rf
    have hO_this_now : this_now = vo σ 10 this_now := rfl
    refine lv_iload_n hx hb dX11_about_0 rfl (lv_at hl 1 rfl) ?_
    by_cases k_1 : a0 = (0 : Int32)
    · have h_2 : rg a0 0 0 := rg_and (rg_full _) (rg_of_eq k_1 (rg_k (0 : Int32) 0 rfl)) (by decide +kernel)
      refine lv_tov 0 k_1 ?_
      refine lv_tableIn (tgt := 84) hx hb dX11_about_1 (by decide +kernel) (by decide +kernel) rfl (by decide +kernel) ?_
      refine lv_aload_n hx hb dX11_about_84 rfl (lv_at hl 0 rfl) ?_
      refine pg_f (v := .ref this_now) (C := RX11) (T := TX11) (N := 5) hx hb hts (tw_i inlX11) hown hK hP hL_this hK_this (by decide +kernel) rfl 0 (by decide +kernel) (hts _ (tw_c tw_16)) (pq_hv rfl hR_this_now) dX11_about_85 ?_
      refine pg_f (v := .int (I 320 this_now)) (C := RX10) (T := TX10) (N := 13) hx hb hts (tw_i inlX10) hown hK hP hL_this_now hK_this_now (by decide +kernel) rfl 0 (by decide +kernel) (hts _ (tw_c tw_209)) rfl dX11_about_88 ?_
      have h_3 : rg (I 320 this_now) 0 600 := GX.rI hG 320 rfl
      subst hQ
      exact W.iret (v := (I 320 this_now)) hx hb hr (fun t1 ht hW => ⟨⟨(I 320 this_now), (σ, I, J, ri, rj, rq), rfl, rfl, by rw [ht]; exact hP, va_K.moved hW.alike hK, hD⟩, hS.F ht⟩) hS.2.2 dX11_about_91
    by_cases k_4 : a0 = (1 : Int32)
    · have h_5 : rg a0 1 1 := rg_and (rg_full _) (rg_of_eq k_4 (rg_k (1 : Int32) 1 rfl)) (by decide +kernel)
      refine lv_tov 1 k_4 ?_
      refine lv_tableIn (tgt := 92) hx hb dX11_about_1 (by decide +kernel) (by decide +kernel) rfl (by decide +kernel) ?_
      refine lv_aload_n hx hb dX11_about_92 rfl (lv_at hl 0 rfl) ?_
      refine pg_f (v := .ref this_now) (C := RX11) (T := TX11) (N := 5) hx hb hts (tw_i inlX11) hown hK hP hL_this hK_this (by decide +kernel) rfl 0 (by decide +kernel) (hts _ (tw_c tw_16)) (pq_hv rfl hR_this_now) dX11_about_93 ?_
      obtain ⟨w_6, hR_w_6, hL_w_6, hK_w_6⟩ := sh_o hSH 327 (ci := 10) (kd := 2) rfl hL_this_now hK_this_now
      have hO_w_6 : w_6 = vo σ 2 this_now := vo_k (c := 10) hO_this_now hR_w_6
      refine pg_f (v := .ref w_6) (C := RX10) (T := TX10) (N := 13) hx hb hts (tw_i inlX10) hown hK hP hL_this_now hK_this_now (by decide +kernel) rfl 7 (by decide +kernel) (hts _ (tw_c tw_199)) (pq_hv rfl hR_w_6) dX11_about_96 ?_
      refine pg_f (v := .int (I 64 w_6)) (C := RX2) (T := TX2) (N := 20) hx hb hts (tw_i inlX2) hown hK hP hL_w_6 hK_w_6 (by decide +kernel) rfl 0 (by decide +kernel) (hts _ (tw_c tw_200)) rfl dX11_about_99 ?_
      have h_7 : rg (I 64 w_6) 0 5 := GX.rI hG 64 rfl
      subst hQ
      exact W.iret (v := (I 64 w_6)) hx hb hr (fun t1 ht hW => ⟨⟨(I 64 w_6), (σ, I, J, ri, rj, rq), rfl, rfl, by rw [ht]; exact hP, va_K.moved hW.alike hK, hD⟩, hS.F ht⟩) hS.2.2 dX11_about_102
    by_cases k_8 : a0 = (2 : Int32)
    · have h_9 : rg a0 2 2 := rg_and (rg_full _) (rg_of_eq k_8 (rg_k (2 : Int32) 2 rfl)) (by decide +kernel)
      refine lv_tov 2 k_8 ?_
      refine lv_tableIn (tgt := 103) hx hb dX11_about_1 (by decide +kernel) (by decide +kernel) rfl (by decide +kernel) ?_
      refine lv_aload_n hx hb dX11_about_103 rfl (lv_at hl 0 rfl) ?_
      refine pg_f (v := .ref this_now) (C := RX11) (T := TX11) (N := 5) hx hb hts (tw_i inlX11) hown hK hP hL_this hK_this (by decide +kernel) rfl 0 (by decide +kernel) (hts _ (tw_c tw_16)) (pq_hv rfl hR_this_now) dX11_about_104 ?_
      obtain ⟨w_10, hR_w_10, hL_w_10, hK_w_10⟩ := sh_o hSH 327 (ci := 10) (kd := 2) rfl hL_this_now hK_this_now
      have hO_w_10 : w_10 = vo σ 2 this_now := vo_k (c := 10) hO_this_now hR_w_10
      refine pg_f (v := .ref w_10) (C := RX10) (T := TX10) (N := 13) hx hb hts (tw_i inlX10) hown hK hP hL_this_now hK_this_now (by decide +kernel) rfl 7 (by decide +kernel) (hts _ (tw_c tw_199)) (pq_hv rfl hR_w_10) dX11_about_107 ?_
      refine pg_f (v := .int (I 65 w_10)) (C := RX2) (T := TX2) (N := 20) hx hb hts (tw_i inlX2) hown hK hP hL_w_10 hK_w_10 (by decide +kernel) rfl 1 (by decide +kernel) (hts _ (tw_c tw_210)) rfl dX11_about_110 ?_
      have h_11 : rg (I 65 w_10) 0 40 := GX.rI hG 65 rfl
      subst hQ
      exact W.iret (v := (I 65 w_10)) hx hb hr (fun t1 ht hW => ⟨⟨(I 65 w_10), (σ, I, J, ri, rj, rq), rfl, rfl, by rw [ht]; exact hP, va_K.moved hW.alike hK, hD⟩, hS.F ht⟩) hS.2.2 dX11_about_113
    by_cases k_12 : a0 = (3 : Int32)
    · have h_13 : rg a0 3 3 := rg_and (rg_full _) (rg_of_eq k_12 (rg_k (3 : Int32) 3 rfl)) (by decide +kernel)
      refine lv_tov 3 k_12 ?_
      refine lv_tableIn (tgt := 114) hx hb dX11_about_1 (by decide +kernel) (by decide +kernel) rfl (by decide +kernel) ?_
      refine lv_aload_n hx hb dX11_about_114 rfl (lv_at hl 0 rfl) ?_
      refine pg_f (v := .ref this_now) (C := RX11) (T := TX11) (N := 5) hx hb hts (tw_i inlX11) hown hK hP hL_this hK_this (by decide +kernel) rfl 0 (by decide +kernel) (hts _ (tw_c tw_16)) (pq_hv rfl hR_this_now) dX11_about_115 ?_
      obtain ⟨w_14, hR_w_14, hL_w_14, hK_w_14⟩ := sh_o hSH 326 (ci := 10) (kd := 7) rfl hL_this_now hK_this_now
      have hO_w_14 : w_14 = vo σ 7 this_now := vo_k (c := 10) hO_this_now hR_w_14
      refine pg_f (v := .ref w_14) (C := RX10) (T := TX10) (N := 13) hx hb hts (tw_i inlX10) hown hK hP hL_this_now hK_this_now (by decide +kernel) rfl 6 (by decide +kernel) (hts _ (tw_c tw_242)) (pq_hv rfl hR_w_14) dX11_about_118 ?_
      refine pg_f (v := .int (I 224 w_14)) (C := RX7) (T := TX7) (N := 15) hx hb hts (tw_i inlX7) hown hK hP hL_w_14 hK_w_14 (by decide +kernel) rfl 0 (by decide +kernel) (hts _ (tw_c tw_243)) rfl dX11_about_121 ?_
      have h_15 : rg (I 224 w_14) 0 200 := GX.rI hG 224 rfl
      subst hQ
      exact W.iret (v := (I 224 w_14)) hx hb hr (fun t1 ht hW => ⟨⟨(I 224 w_14), (σ, I, J, ri, rj, rq), rfl, rfl, by rw [ht]; exact hP, va_K.moved hW.alike hK, hD⟩, hS.F ht⟩) hS.2.2 dX11_about_124
    by_cases k_16 : a0 = (4 : Int32)
    · have h_17 : rg a0 4 4 := rg_and (rg_full _) (rg_of_eq k_16 (rg_k (4 : Int32) 4 rfl)) (by decide +kernel)
      refine lv_tov 4 k_16 ?_
      refine lv_tableIn (tgt := 125) hx hb dX11_about_1 (by decide +kernel) (by decide +kernel) rfl (by decide +kernel) ?_
      refine lv_aload_n hx hb dX11_about_125 rfl (lv_at hl 0 rfl) ?_
      refine pg_f (v := .ref this_now) (C := RX11) (T := TX11) (N := 5) hx hb hts (tw_i inlX11) hown hK hP hL_this hK_this (by decide +kernel) rfl 0 (by decide +kernel) (hts _ (tw_c tw_16)) (pq_hv rfl hR_this_now) dX11_about_126 ?_
      obtain ⟨w_18, hR_w_18, hL_w_18, hK_w_18⟩ := sh_o hSH 328 (ci := 10) (kd := 0) rfl hL_this_now hK_this_now
      have hO_w_18 : w_18 = vo σ 0 this_now := vo_k (c := 10) hO_this_now hR_w_18
      refine pg_f (v := .ref w_18) (C := RX10) (T := TX10) (N := 13) hx hb hts (tw_i inlX10) hown hK hP hL_this_now hK_this_now (by decide +kernel) rfl 8 (by decide +kernel) (hts _ (tw_c tw_379)) (pq_hv rfl hR_w_18) dX11_about_129 ?_
      refine pg_f (v := .int (I 10 w_18)) (C := RX0) (T := TX0) (N := 16) hx hb hts (tw_i inlX0) hown hK hP hL_w_18 hK_w_18 (by decide +kernel) rfl 10 (by decide +kernel) (hts _ (tw_c tw_380)) rfl dX11_about_132 ?_
      have h_19 : rg (I 10 w_18) 0 5 := GX.rI hG 10 rfl
      subst hQ
      exact W.iret (v := (I 10 w_18)) hx hb hr (fun t1 ht hW => ⟨⟨(I 10 w_18), (σ, I, J, ri, rj, rq), rfl, rfl, by rw [ht]; exact hP, va_K.moved hW.alike hK, hD⟩, hS.F ht⟩) hS.2.2 dX11_about_135
    by_cases k_20 : a0 = (5 : Int32)
    · have h_21 : rg a0 5 5 := rg_and (rg_full _) (rg_of_eq k_20 (rg_k (5 : Int32) 5 rfl)) (by decide +kernel)
      refine lv_tov 5 k_20 ?_
      refine lv_tableIn (tgt := 136) hx hb dX11_about_1 (by decide +kernel) (by decide +kernel) rfl (by decide +kernel) ?_
      refine lv_aload_n hx hb dX11_about_136 rfl (lv_at hl 0 rfl) ?_
      refine pg_f (v := .ref this_now) (C := RX11) (T := TX11) (N := 5) hx hb hts (tw_i inlX11) hown hK hP hL_this hK_this (by decide +kernel) rfl 0 (by decide +kernel) (hts _ (tw_c tw_16)) (pq_hv rfl hR_this_now) dX11_about_137 ?_
      obtain ⟨w_22, hR_w_22, hL_w_22, hK_w_22⟩ := sh_o hSH 328 (ci := 10) (kd := 0) rfl hL_this_now hK_this_now
      have hO_w_22 : w_22 = vo σ 0 this_now := vo_k (c := 10) hO_this_now hR_w_22
      refine pg_f (v := .ref w_22) (C := RX10) (T := TX10) (N := 13) hx hb hts (tw_i inlX10) hown hK hP hL_this_now hK_this_now (by decide +kernel) rfl 8 (by decide +kernel) (hts _ (tw_c tw_379)) (pq_hv rfl hR_w_22) dX11_about_140 ?_
      refine pg_f (v := .int (I 0 w_22)) (C := RX0) (T := TX0) (N := 16) hx hb hts (tw_i inlX0) hown hK hP hL_w_22 hK_w_22 (by decide +kernel) rfl 0 (by decide +kernel) (hts _ (tw_c tw_390)) rfl dX11_about_143 ?_
      have h_23 : rg (I 0 w_22) 0 40 := GX.rI hG 0 rfl
      subst hQ
      exact W.iret (v := (I 0 w_22)) hx hb hr (fun t1 ht hW => ⟨⟨(I 0 w_22), (σ, I, J, ri, rj, rq), rfl, rfl, by rw [ht]; exact hP, va_K.moved hW.alike hK, hD⟩, hS.F ht⟩) hS.2.2 dX11_about_146
    by_cases k_24 : a0 = (6 : Int32)
    · have h_25 : rg a0 6 6 := rg_and (rg_full _) (rg_of_eq k_24 (rg_k (6 : Int32) 6 rfl)) (by decide +kernel)
      refine lv_tov 6 k_24 ?_
      refine lv_tableIn (tgt := 147) hx hb dX11_about_1 (by decide +kernel) (by decide +kernel) rfl (by decide +kernel) ?_
      refine lv_aload_n hx hb dX11_about_147 rfl (lv_at hl 0 rfl) ?_
      refine pg_f (v := .ref this_now) (C := RX11) (T := TX11) (N := 5) hx hb hts (tw_i inlX11) hown hK hP hL_this hK_this (by decide +kernel) rfl 0 (by decide +kernel) (hts _ (tw_c tw_16)) (pq_hv rfl hR_this_now) dX11_about_148 ?_
      obtain ⟨w_26, hR_w_26, hL_w_26, hK_w_26⟩ := sh_o hSH 329 (ci := 10) (kd := 3) rfl hL_this_now hK_this_now
      have hO_w_26 : w_26 = vo σ 3 this_now := vo_k (c := 10) hO_this_now hR_w_26
      refine pg_f (v := .ref w_26) (C := RX10) (T := TX10) (N := 13) hx hb hts (tw_i inlX10) hown hK hP hL_this_now hK_this_now (by decide +kernel) rfl 9 (by decide +kernel) (hts _ (tw_c tw_648)) (pq_hv rfl hR_w_26) dX11_about_151 ?_
      refine pg_f (v := .int (I 96 w_26)) (C := RX3) (T := TX3) (N := 8) hx hb hts (tw_i inlX3) hown hK hP hL_w_26 hK_w_26 (by decide +kernel) rfl 0 (by decide +kernel) (hts _ (tw_c tw_649)) rfl dX11_about_154 ?_
      have h_27 : rg (I 96 w_26) 0 10 := GX.rI hG 96 rfl
      subst hQ
      exact W.iret (v := (I 96 w_26)) hx hb hr (fun t1 ht hW => ⟨⟨(I 96 w_26), (σ, I, J, ri, rj, rq), rfl, rfl, by rw [ht]; exact hP, va_K.moved hW.alike hK, hD⟩, hS.F ht⟩) hS.2.2 dX11_about_157
    by_cases k_28 : a0 = (7 : Int32)
    · have h_29 : rg a0 7 7 := rg_and (rg_full _) (rg_of_eq k_28 (rg_k (7 : Int32) 7 rfl)) (by decide +kernel)
      refine lv_tov 7 k_28 ?_
      refine lv_tableIn (tgt := 158) hx hb dX11_about_1 (by decide +kernel) (by decide +kernel) rfl (by decide +kernel) ?_
      refine lv_aload_n hx hb dX11_about_158 rfl (lv_at hl 0 rfl) ?_
      refine pg_f (v := .ref this_now) (C := RX11) (T := TX11) (N := 5) hx hb hts (tw_i inlX11) hown hK hP hL_this hK_this (by decide +kernel) rfl 0 (by decide +kernel) (hts _ (tw_c tw_16)) (pq_hv rfl hR_this_now) dX11_about_159 ?_
      obtain ⟨w_30, hR_w_30, hL_w_30, hK_w_30⟩ := sh_o hSH 329 (ci := 10) (kd := 3) rfl hL_this_now hK_this_now
      have hO_w_30 : w_30 = vo σ 3 this_now := vo_k (c := 10) hO_this_now hR_w_30
      refine pg_f (v := .ref w_30) (C := RX10) (T := TX10) (N := 13) hx hb hts (tw_i inlX10) hown hK hP hL_this_now hK_this_now (by decide +kernel) rfl 9 (by decide +kernel) (hts _ (tw_c tw_648)) (pq_hv rfl hR_w_30) dX11_about_162 ?_
      refine pg_f (v := .int (I 98 w_30)) (C := RX3) (T := TX3) (N := 8) hx hb hts (tw_i inlX3) hown hK hP hL_w_30 hK_w_30 (by decide +kernel) rfl 2 (by decide +kernel) (hts _ (tw_c tw_950)) rfl dX11_about_165 ?_
      have h_31 : rg (I 98 w_30) 0 30 := GX.rI hG 98 rfl
      subst hQ
      exact W.iret (v := (I 98 w_30)) hx hb hr (fun t1 ht hW => ⟨⟨(I 98 w_30), (σ, I, J, ri, rj, rq), rfl, rfl, by rw [ht]; exact hP, va_K.moved hW.alike hK, hD⟩, hS.F ht⟩) hS.2.2 dX11_about_168
    by_cases k_32 : a0 = (8 : Int32)
    · have h_33 : rg a0 8 8 := rg_and (rg_full _) (rg_of_eq k_32 (rg_k (8 : Int32) 8 rfl)) (by decide +kernel)
      refine lv_tov 8 k_32 ?_
      refine lv_tableIn (tgt := 169) hx hb dX11_about_1 (by decide +kernel) (by decide +kernel) rfl (by decide +kernel) ?_
      refine lv_aload_n hx hb dX11_about_169 rfl (lv_at hl 0 rfl) ?_
      refine pg_f (v := .ref this_now) (C := RX11) (T := TX11) (N := 5) hx hb hts (tw_i inlX11) hown hK hP hL_this hK_this (by decide +kernel) rfl 0 (by decide +kernel) (hts _ (tw_c tw_16)) (pq_hv rfl hR_this_now) dX11_about_170 ?_
      refine pg_f (v := .int (I 321 this_now)) (C := RX10) (T := TX10) (N := 13) hx hb hts (tw_i inlX10) hown hK hP hL_this_now hK_this_now (by decide +kernel) rfl 1 (by decide +kernel) (hts _ (tw_c tw_1026)) rfl dX11_about_173 ?_
      subst hQ
      exact W.iret (v := (I 321 this_now)) hx hb hr (fun t1 ht hW => ⟨⟨(I 321 this_now), (σ, I, J, ri, rj, rq), rfl, rfl, by rw [ht]; exact hP, va_K.moved hW.alike hK, hD⟩, hS.F ht⟩) hS.2.2 dX11_about_176
    by_cases k_34 : a0 = (9 : Int32)
    · have h_35 : rg a0 9 9 := rg_and (rg_full _) (rg_of_eq k_34 (rg_k (9 : Int32) 9 rfl)) (by decide +kernel)
      refine lv_tov 9 k_34 ?_
      refine lv_tableIn (tgt := 177) hx hb dX11_about_1 (by decide +kernel) (by decide +kernel) rfl (by decide +kernel) ?_
      refine lv_aload_n hx hb dX11_about_177 rfl (lv_at hl 0 rfl) ?_
      refine pg_f (v := .ref this_now) (C := RX11) (T := TX11) (N := 5) hx hb hts (tw_i inlX11) hown hK hP hL_this hK_this (by decide +kernel) rfl 0 (by decide +kernel) (hts _ (tw_c tw_16)) (pq_hv rfl hR_this_now) dX11_about_178 ?_
      obtain ⟨w_36, hR_w_36, hL_w_36, hK_w_36⟩ := sh_o hSH 327 (ci := 10) (kd := 2) rfl hL_this_now hK_this_now
      have hO_w_36 : w_36 = vo σ 2 this_now := vo_k (c := 10) hO_this_now hR_w_36
      refine pg_f (v := .ref w_36) (C := RX10) (T := TX10) (N := 13) hx hb hts (tw_i inlX10) hown hK hP hL_this_now hK_this_now (by decide +kernel) rfl 7 (by decide +kernel) (hts _ (tw_c tw_199)) (pq_hv rfl hR_w_36) dX11_about_181 ?_
      refine pg_f (v := .int (I 66 w_36)) (C := RX2) (T := TX2) (N := 20) hx hb hts (tw_i inlX2) hown hK hP hL_w_36 hK_w_36 (by decide +kernel) rfl 2 (by decide +kernel) (hts _ (tw_c tw_1557)) rfl dX11_about_184 ?_
      subst hQ
      exact W.iret (v := (I 66 w_36)) hx hb hr (fun t1 ht hW => ⟨⟨(I 66 w_36), (σ, I, J, ri, rj, rq), rfl, rfl, by rw [ht]; exact hP, va_K.moved hW.alike hK, hD⟩, hS.F ht⟩) hS.2.2 dX11_about_187
    by_cases k_37 : a0 = (10 : Int32)
    · have h_38 : rg a0 10 10 := rg_and (rg_full _) (rg_of_eq k_37 (rg_k (10 : Int32) 10 rfl)) (by decide +kernel)
      refine lv_tov 10 k_37 ?_
      refine lv_tableIn (tgt := 188) hx hb dX11_about_1 (by decide +kernel) (by decide +kernel) rfl (by decide +kernel) ?_
      refine lv_aload_n hx hb dX11_about_188 rfl (lv_at hl 0 rfl) ?_
      refine pg_f (v := .ref this_now) (C := RX11) (T := TX11) (N := 5) hx hb hts (tw_i inlX11) hown hK hP hL_this hK_this (by decide +kernel) rfl 0 (by decide +kernel) (hts _ (tw_c tw_16)) (pq_hv rfl hR_this_now) dX11_about_189 ?_
      obtain ⟨w_39, hR_w_39, hL_w_39, hK_w_39⟩ := sh_o hSH 330 (ci := 10) (kd := 1) rfl hL_this_now hK_this_now
      have hO_w_39 : w_39 = vo σ 1 this_now := vo_k (c := 10) hO_this_now hR_w_39
      refine pg_f (v := .ref w_39) (C := RX10) (T := TX10) (N := 13) hx hb hts (tw_i inlX10) hown hK hP hL_this_now hK_this_now (by decide +kernel) rfl 10 (by decide +kernel) (hts _ (tw_c tw_1499)) (pq_hv rfl hR_w_39) dX11_about_192 ?_
      refine pg_f (v := .int (I 32 w_39)) (C := RX1) (T := TX1) (N := 3) hx hb hts (tw_i inlX1) hown hK hP hL_w_39 hK_w_39 (by decide +kernel) rfl 0 (by decide +kernel) (hts _ (tw_c tw_1500)) rfl dX11_about_195 ?_
      have h_40 : rg (I 32 w_39) 0 30 := GX.rI hG 32 rfl
      subst hQ
      exact W.iret (v := (I 32 w_39)) hx hb hr (fun t1 ht hW => ⟨⟨(I 32 w_39), (σ, I, J, ri, rj, rq), rfl, rfl, by rw [ht]; exact hP, va_K.moved hW.alike hK, hD⟩, hS.F ht⟩) hS.2.2 dX11_about_198
    by_cases k_41 : a0 = (11 : Int32)
    · have h_42 : rg a0 11 11 := rg_and (rg_full _) (rg_of_eq k_41 (rg_k (11 : Int32) 11 rfl)) (by decide +kernel)
      refine lv_tov 11 k_41 ?_
      refine lv_tableIn (tgt := 199) hx hb dX11_about_1 (by decide +kernel) (by decide +kernel) rfl (by decide +kernel) ?_
      refine lv_aload_n hx hb dX11_about_199 rfl (lv_at hl 0 rfl) ?_
      refine pg_f (v := .ref this_now) (C := RX11) (T := TX11) (N := 5) hx hb hts (tw_i inlX11) hown hK hP hL_this hK_this (by decide +kernel) rfl 0 (by decide +kernel) (hts _ (tw_c tw_16)) (pq_hv rfl hR_this_now) dX11_about_200 ?_
      refine pg_f (v := .int (I 322 this_now)) (C := RX10) (T := TX10) (N := 13) hx hb hts (tw_i inlX10) hown hK hP hL_this_now hK_this_now (by decide +kernel) rfl 2 (by decide +kernel) (hts _ (tw_c tw_1025)) rfl dX11_about_203 ?_
      subst hQ
      exact W.iret (v := (I 322 this_now)) hx hb hr (fun t1 ht hW => ⟨⟨(I 322 this_now), (σ, I, J, ri, rj, rq), rfl, rfl, by rw [ht]; exact hP, va_K.moved hW.alike hK, hD⟩, hS.F ht⟩) hS.2.2 dX11_about_206
    by_cases k_43 : a0 = (12 : Int32)
    · have h_44 : rg a0 12 12 := rg_and (rg_full _) (rg_of_eq k_43 (rg_k (12 : Int32) 12 rfl)) (by decide +kernel)
      refine lv_tov 12 k_43 ?_
      refine lv_tableIn (tgt := 207) hx hb dX11_about_1 (by decide +kernel) (by decide +kernel) rfl (by decide +kernel) ?_
      refine lv_aload_n hx hb dX11_about_207 rfl (lv_at hl 0 rfl) ?_
      refine pg_f (v := .ref this_now) (C := RX11) (T := TX11) (N := 5) hx hb hts (tw_i inlX11) hown hK hP hL_this hK_this (by decide +kernel) rfl 0 (by decide +kernel) (hts _ (tw_c tw_16)) (pq_hv rfl hR_this_now) dX11_about_208 ?_
      refine pg_f (v := .int (I 323 this_now)) (C := RX10) (T := TX10) (N := 13) hx hb hts (tw_i inlX10) hown hK hP hL_this_now hK_this_now (by decide +kernel) rfl 3 (by decide +kernel) (hts _ (tw_c tw_1405)) rfl dX11_about_211 ?_
      subst hQ
      exact W.iret (v := (I 323 this_now)) hx hb hr (fun t1 ht hW => ⟨⟨(I 323 this_now), (σ, I, J, ri, rj, rq), rfl, rfl, by rw [ht]; exact hP, va_K.moved hW.alike hK, hD⟩, hS.F ht⟩) hS.2.2 dX11_about_214
    by_cases k_45 : a0 = (13 : Int32)
    · have h_46 : rg a0 13 13 := rg_and (rg_full _) (rg_of_eq k_45 (rg_k (13 : Int32) 13 rfl)) (by decide +kernel)
      refine lv_tov 13 k_45 ?_
      refine lv_tableIn (tgt := 215) hx hb dX11_about_1 (by decide +kernel) (by decide +kernel) rfl (by decide +kernel) ?_
      refine lv_aload_n hx hb dX11_about_215 rfl (lv_at hl 0 rfl) ?_
      obtain ⟨w_47, hR_w_47, hL_w_47, hK_w_47⟩ := sh_o hSH 356 (ci := 11) (kd := 4) rfl hL_this hK_this
      refine pg_f (v := .ref w_47) (C := RX11) (T := TX11) (N := 5) hx hb hts (tw_i inlX11) hown hK hP hL_this hK_this (by decide +kernel) rfl 4 (by decide +kernel) (hts _ (tw_c tw_26)) (pq_hv rfl hR_w_47) dX11_about_216 ?_
      obtain ⟨w_48, hR_w_48, hL_w_48, hK_w_48⟩ := sh_o hSH 128 (ci := 4) (kd := 6) rfl hL_w_47 hK_w_47
      refine pg_f (v := .ref w_48) (C := RX4) (T := TX4) (N := 12) hx hb hts (tw_i inlX4) hown hK hP hL_w_47 hK_w_47 (by decide +kernel) rfl 0 (by decide +kernel) (hts _ (tw_c tw_620)) (pq_hv rfl hR_w_48) dX11_about_219 ?_
      refine pg_f (v := .int (I 193 w_48)) (C := RX6) (T := TX6) (N := 6) hx hb hts (tw_i inlX6) hown hK hP hL_w_48 hK_w_48 (by decide +kernel) rfl 1 (by decide +kernel) (hts _ (tw_c tw_621)) rfl dX11_about_222 ?_
      have h_49 : rg (I 193 w_48) 0 300 := GX.rI hG 193 rfl
      subst hQ
      exact W.iret (v := (I 193 w_48)) hx hb hr (fun t1 ht hW => ⟨⟨(I 193 w_48), (σ, I, J, ri, rj, rq), rfl, rfl, by rw [ht]; exact hP, va_K.moved hW.alike hK, hD⟩, hS.F ht⟩) hS.2.2 dX11_about_225
    by_cases k_50 : a0 = (14 : Int32)
    · have h_51 : rg a0 14 14 := rg_and (rg_full _) (rg_of_eq k_50 (rg_k (14 : Int32) 14 rfl)) (by decide +kernel)
      refine lv_tov 14 k_50 ?_
      refine lv_tableIn (tgt := 226) hx hb dX11_about_1 (by decide +kernel) (by decide +kernel) rfl (by decide +kernel) ?_
      refine lv_aload_n hx hb dX11_about_226 rfl (lv_at hl 0 rfl) ?_
      refine pg_f (v := .ref this_now) (C := RX11) (T := TX11) (N := 5) hx hb hts (tw_i inlX11) hown hK hP hL_this hK_this (by decide +kernel) rfl 0 (by decide +kernel) (hts _ (tw_c tw_16)) (pq_hv rfl hR_this_now) dX11_about_227 ?_
      obtain ⟨w_52, hR_w_52, hL_w_52, hK_w_52⟩ := sh_o hSH 327 (ci := 10) (kd := 2) rfl hL_this_now hK_this_now
      have hO_w_52 : w_52 = vo σ 2 this_now := vo_k (c := 10) hO_this_now hR_w_52
      refine pg_f (v := .ref w_52) (C := RX10) (T := TX10) (N := 13) hx hb hts (tw_i inlX10) hown hK hP hL_this_now hK_this_now (by decide +kernel) rfl 7 (by decide +kernel) (hts _ (tw_c tw_199)) (pq_hv rfl hR_w_52) dX11_about_230 ?_
      obtain ⟨w_53, hR_w_53, hL_w_53, hK_w_53, hN_w_53, hT_w_53⟩ := sh_a hSH 73 (ci := 2) (kd := 13) (len := 40) rfl (by decide +kernel) hL_w_52 hK_w_52
      have hO_w_53 : w_53 = vrow σ 73 this_now := vo_k (c := 2) hO_w_52 hR_w_53
      refine pg_f (v := .ref w_53) (C := RX2) (T := TX2) (N := 20) hx hb hts (tw_i inlX2) hown hK hP hL_w_52 hK_w_52 (by decide +kernel) rfl 9 (by decide +kernel) (hts _ (tw_c tw_1273)) (pq_hv rfl hR_w_53) dX11_about_233 ?_
      refine lv_aload_n hx hb dX11_about_236 rfl (lv_at hl 0 rfl) ?_
      refine pg_f (v := .ref this_now) (C := RX11) (T := TX11) (N := 5) hx hb hts (tw_i inlX11) hown hK hP hL_this hK_this (by decide +kernel) rfl 0 (by decide +kernel) (hts _ (tw_c tw_16)) (pq_hv rfl hR_this_now) dX11_about_237 ?_
      refine pg_f (v := .ref w_52) (C := RX10) (T := TX10) (N := 13) hx hb hts (tw_i inlX10) hown hK hP hL_this_now hK_this_now (by decide +kernel) rfl 7 (by decide +kernel) (hts _ (tw_c tw_199)) (pq_hv rfl hR_w_52) dX11_about_240 ?_
      refine pg_f (v := .int (I 65 w_52)) (C := RX2) (T := TX2) (N := 20) hx hb hts (tw_i inlX2) hown hK hP hL_w_52 hK_w_52 (by decide +kernel) rfl 1 (by decide +kernel) (hts _ (tw_c tw_210)) rfl dX11_about_243 ?_
      have h_54 : rg (I 65 w_52) 0 40 := GX.rI hG 65 rfl
      refine pk_i (va_runS (As := [.ref w_53, .int (I 65 w_52)]) (rest := []) ⟨hx, hb, hml, hown, hts⟩ (s_X11_sum_73 l D t σ I J ri rj rq H.size tg hSH hG.1 w_53 (I 65 w_52) hL_w_53 hK_w_53 hN_w_53 hT_w_53 (rg_w h_54 (by decide +kernel))) (va_cwS 2 hts (tw_S tw_1559 tw_1560 tw_2 tw_1561) rfl rfl rfl cd_yX11_sum_2 ⟨Nat.le_of_ble_eq_true rfl, Nat.le_of_ble_eq_true rfl⟩) ⟨pq_blind, pq_pre hK hN hP hD⟩ rfl rfl hl.1 rfl (lv_room (Nat.le_of_ble_eq_true rfl)) dX11_about_246 ⟨Nat.le_of_ble_eq_true rfl, Nat.le_of_ble_eq_true rfl⟩) hD hS hA (fun x_55 σ1 μ1 H locs hw_56 hP hD hS => ?_)
      have hu_57 := hw_56
      obtain ⟨hu_57a, hu_57b⟩ := Prod.mk.inj hu_57
      rw [hu_57a, hu_57b] at hP hD
      subst hQ
      exact W.iret (v := x_55) hx hb hr (fun t1 ht hW => ⟨⟨x_55, (σ, I, J, ri, rj, rq), rfl, rfl, by rw [ht]; exact hP, va_K.moved hW.alike hK, hD⟩, hS.F ht⟩) hS.2.2 dX11_about_249
    by_cases k_62 : a0 = (15 : Int32)
    · have h_63 : rg a0 15 15 := rg_and (rg_full _) (rg_of_eq k_62 (rg_k (15 : Int32) 15 rfl)) (by decide +kernel)
      refine lv_tov 15 k_62 ?_
      refine lv_tableIn (tgt := 250) hx hb dX11_about_1 (by decide +kernel) (by decide +kernel) rfl (by decide +kernel) ?_
      refine lv_aload_n hx hb dX11_about_250 rfl (lv_at hl 0 rfl) ?_
      refine pg_f (v := .ref this_now) (C := RX11) (T := TX11) (N := 5) hx hb hts (tw_i inlX11) hown hK hP hL_this hK_this (by decide +kernel) rfl 0 (by decide +kernel) (hts _ (tw_c tw_16)) (pq_hv rfl hR_this_now) dX11_about_251 ?_
      obtain ⟨w_64, hR_w_64, hL_w_64, hK_w_64⟩ := sh_o hSH 328 (ci := 10) (kd := 0) rfl hL_this_now hK_this_now
      have hO_w_64 : w_64 = vo σ 0 this_now := vo_k (c := 10) hO_this_now hR_w_64
      refine pg_f (v := .ref w_64) (C := RX10) (T := TX10) (N := 13) hx hb hts (tw_i inlX10) hown hK hP hL_this_now hK_this_now (by decide +kernel) rfl 8 (by decide +kernel) (hts _ (tw_c tw_379)) (pq_hv rfl hR_w_64) dX11_about_254 ?_
      obtain ⟨w_65, hR_w_65, hL_w_65, hK_w_65, hN_w_65, hT_w_65⟩ := sh_a hSH 6 (ci := 0) (kd := 13) (len := 40) rfl (by decide +kernel) hL_w_64 hK_w_64
      have hO_w_65 : w_65 = vrow σ 6 this_now := vo_k (c := 0) hO_w_64 hR_w_65
      refine pg_f (v := .ref w_65) (C := RX0) (T := TX0) (N := 16) hx hb hts (tw_i inlX0) hown hK hP hL_w_64 hK_w_64 (by decide +kernel) rfl 6 (by decide +kernel) (hts _ (tw_c tw_1296)) (pq_hv rfl hR_w_65) dX11_about_257 ?_
      refine lv_aload_n hx hb dX11_about_260 rfl (lv_at hl 0 rfl) ?_
      refine pg_f (v := .ref this_now) (C := RX11) (T := TX11) (N := 5) hx hb hts (tw_i inlX11) hown hK hP hL_this hK_this (by decide +kernel) rfl 0 (by decide +kernel) (hts _ (tw_c tw_16)) (pq_hv rfl hR_this_now) dX11_about_261 ?_
      refine pg_f (v := .ref w_64) (C := RX10) (T := TX10) (N := 13) hx hb hts (tw_i inlX10) hown hK hP hL_this_now hK_this_now (by decide +kernel) rfl 8 (by decide +kernel) (hts _ (tw_c tw_379)) (pq_hv rfl hR_w_64) dX11_about_264 ?_
      refine pg_f (v := .int (I 0 w_64)) (C := RX0) (T := TX0) (N := 16) hx hb hts (tw_i inlX0) hown hK hP hL_w_64 hK_w_64 (by decide +kernel) rfl 0 (by decide +kernel) (hts _ (tw_c tw_390)) rfl dX11_about_267 ?_
      have h_66 : rg (I 0 w_64) 0 40 := GX.rI hG 0 rfl
      refine pk_i (va_runS (As := [.ref w_65, .int (I 0 w_64)]) (rest := []) ⟨hx, hb, hml, hown, hts⟩ (s_X11_sum_6 l D t σ I J ri rj rq H.size tg hSH hG.1 w_65 (I 0 w_64) hL_w_65 hK_w_65 hN_w_65 hT_w_65 (rg_w h_66 (by decide +kernel))) (va_cwS 2 hts (tw_S tw_1559 tw_1560 tw_2 tw_1561) rfl rfl rfl cd_yX11_sum_2 ⟨Nat.le_of_ble_eq_true rfl, Nat.le_of_ble_eq_true rfl⟩) ⟨pq_blind, pq_pre hK hN hP hD⟩ rfl rfl hl.1 rfl (lv_room (Nat.le_of_ble_eq_true rfl)) dX11_about_270 ⟨Nat.le_of_ble_eq_true rfl, Nat.le_of_ble_eq_true rfl⟩) hD hS hA (fun x_67 σ1 μ1 H locs hw_68 hP hD hS => ?_)
      have hu_69 := hw_68
      obtain ⟨hu_69a, hu_69b⟩ := Prod.mk.inj hu_69
      rw [hu_69a, hu_69b] at hP hD
      subst hQ
      exact W.iret (v := x_67) hx hb hr (fun t1 ht hW => ⟨⟨x_67, (σ, I, J, ri, rj, rq), rfl, rfl, by rw [ht]; exact hP, va_K.moved hW.alike hK, hD⟩, hS.F ht⟩) hS.2.2 dX11_about_273
    by_cases k_74 : a0 = (16 : Int32)
    · have h_75 : rg a0 16 16 := rg_and (rg_full _) (rg_of_eq k_74 (rg_k (16 : Int32) 16 rfl)) (by decide +kernel)
      refine lv_tov 16 k_74 ?_
      refine lv_tableIn (tgt := 274) hx hb dX11_about_1 (by decide +kernel) (by decide +kernel) rfl (by decide +kernel) ?_
      refine lv_aload_n hx hb dX11_about_274 rfl (lv_at hl 0 rfl) ?_
      refine pg_f (v := .ref this_now) (C := RX11) (T := TX11) (N := 5) hx hb hts (tw_i inlX11) hown hK hP hL_this hK_this (by decide +kernel) rfl 0 (by decide +kernel) (hts _ (tw_c tw_16)) (pq_hv rfl hR_this_now) dX11_about_275 ?_
      obtain ⟨w_76, hR_w_76, hL_w_76, hK_w_76⟩ := sh_o hSH 328 (ci := 10) (kd := 0) rfl hL_this_now hK_this_now
      have hO_w_76 : w_76 = vo σ 0 this_now := vo_k (c := 10) hO_this_now hR_w_76
      refine pg_f (v := .ref w_76) (C := RX10) (T := TX10) (N := 13) hx hb hts (tw_i inlX10) hown hK hP hL_this_now hK_this_now (by decide +kernel) rfl 8 (by decide +kernel) (hts _ (tw_c tw_379)) (pq_hv rfl hR_w_76) dX11_about_278 ?_
      obtain ⟨w_77, hR_w_77, hL_w_77, hK_w_77, hN_w_77, hT_w_77⟩ := sh_a hSH 7 (ci := 0) (kd := 13) (len := 40) rfl (by decide +kernel) hL_w_76 hK_w_76
      have hO_w_77 : w_77 = vrow σ 7 this_now := vo_k (c := 0) hO_w_76 hR_w_77
      refine pg_f (v := .ref w_77) (C := RX0) (T := TX0) (N := 16) hx hb hts (tw_i inlX0) hown hK hP hL_w_76 hK_w_76 (by decide +kernel) rfl 7 (by decide +kernel) (hts _ (tw_c tw_1297)) (pq_hv rfl hR_w_77) dX11_about_281 ?_
      refine lv_aload_n hx hb dX11_about_284 rfl (lv_at hl 0 rfl) ?_
      refine pg_f (v := .ref this_now) (C := RX11) (T := TX11) (N := 5) hx hb hts (tw_i inlX11) hown hK hP hL_this hK_this (by decide +kernel) rfl 0 (by decide +kernel) (hts _ (tw_c tw_16)) (pq_hv rfl hR_this_now) dX11_about_285 ?_
      refine pg_f (v := .ref w_76) (C := RX10) (T := TX10) (N := 13) hx hb hts (tw_i inlX10) hown hK hP hL_this_now hK_this_now (by decide +kernel) rfl 8 (by decide +kernel) (hts _ (tw_c tw_379)) (pq_hv rfl hR_w_76) dX11_about_288 ?_
      refine pg_f (v := .int (I 0 w_76)) (C := RX0) (T := TX0) (N := 16) hx hb hts (tw_i inlX0) hown hK hP hL_w_76 hK_w_76 (by decide +kernel) rfl 0 (by decide +kernel) (hts _ (tw_c tw_390)) rfl dX11_about_291 ?_
      have h_78 : rg (I 0 w_76) 0 40 := GX.rI hG 0 rfl
      refine pk_i (va_runS (As := [.ref w_77, .int (I 0 w_76)]) (rest := []) ⟨hx, hb, hml, hown, hts⟩ (s_X11_sum_7 l D t σ I J ri rj rq H.size tg hSH hG.1 w_77 (I 0 w_76) hL_w_77 hK_w_77 hN_w_77 hT_w_77 (rg_w h_78 (by decide +kernel))) (va_cwS 2 hts (tw_S tw_1559 tw_1560 tw_2 tw_1561) rfl rfl rfl cd_yX11_sum_2 ⟨Nat.le_of_ble_eq_true rfl, Nat.le_of_ble_eq_true rfl⟩) ⟨pq_blind, pq_pre hK hN hP hD⟩ rfl rfl hl.1 rfl (lv_room (Nat.le_of_ble_eq_true rfl)) dX11_about_294 ⟨Nat.le_of_ble_eq_true rfl, Nat.le_of_ble_eq_true rfl⟩) hD hS hA (fun x_79 σ1 μ1 H locs hw_80 hP hD hS => ?_)
      have hu_81 := hw_80
      obtain ⟨hu_81a, hu_81b⟩ := Prod.mk.inj hu_81
      rw [hu_81a, hu_81b] at hP hD
      subst hQ
      exact W.iret (v := x_79) hx hb hr (fun t1 ht hW => ⟨⟨x_79, (σ, I, J, ri, rj, rq), rfl, rfl, by rw [ht]; exact hP, va_K.moved hW.alike hK, hD⟩, hS.F ht⟩) hS.2.2 dX11_about_297
    refine lv_tableOut (tgt := 298) hx hb dX11_about_1 (by have z_k_1 := sw_ne k_1 (n := 0) rfl; have z_k_4 := sw_ne k_4 (n := 1) rfl; have z_k_8 := sw_ne k_8 (n := 2) rfl; have z_k_12 := sw_ne k_12 (n := 3) rfl; have z_k_16 := sw_ne k_16 (n := 4) rfl; have z_k_20 := sw_ne k_20 (n := 5) rfl; have z_k_24 := sw_ne k_24 (n := 6) rfl; have z_k_28 := sw_ne k_28 (n := 7) rfl; have z_k_32 := sw_ne k_32 (n := 8) rfl; have z_k_34 := sw_ne k_34 (n := 9) rfl; have z_k_37 := sw_ne k_37 (n := 10) rfl; have z_k_41 := sw_ne k_41 (n := 11) rfl; have z_k_43 := sw_ne k_43 (n := 12) rfl; have z_k_45 := sw_ne k_45 (n := 13) rfl; have z_k_50 := sw_ne k_50 (n := 14) rfl; have z_k_62 := sw_ne k_62 (n := 15) rfl; have z_k_74 := sw_ne k_74 (n := 16) rfl; omega) (by decide +kernel) ?_
    refine lv_ldcw hx hb hown (hts _ (tw_c tw_1558)) dX11_about_298 ?_
    subst hQ
    exact W.iret (v := (-1000000000)) hx hb hr (fun t1 ht hW => ⟨⟨(-1000000000), (σ, I, J, ri, rj, rq), rfl, rfl, by rw [ht]; exact hP, va_K.moved hW.alike hK, hD⟩, hS.F ht⟩) hS.2.2 dX11_about_301
  exact go _ _ _ hP hD hS hl
theorem dX11_grave_0 : decode cX11_grave 0 = .ok (.aload_n 0, 1) := oc_42 (by decide +kernel)
theorem dX11_grave_1 : decode cX11_grave 1 = .ok (.iload_n 1, 1) := oc_27 (by decide +kernel)
theorem dX11_grave_2 : decode cX11_grave 2 = .ok (.invokevirtual 119, 3) := oc_182 (a := 0) (b := 119) (by decide +kernel)
theorem dX11_grave_23 : decode cX11_grave 23 = .ok (.iconst (-1), 1) := oc_2 (by decide +kernel)
theorem dX11_grave_24 : decode cX11_grave 24 = .ok (.ireturn, 1) := oc_172 (by decide +kernel)
theorem dX11_grave_5 : decode cX11_grave 5 = .ok (.ifCond .eq 18, 3) := oc_153 (a := 0) (b := 18) (by decide +kernel)
theorem dX11_grave_8 : decode cX11_grave 8 = .ok (.aload_n 0, 1) := oc_42 (by decide +kernel)
theorem dX11_grave_9 : decode cX11_grave 9 = .ok (.getfield 10, 3) := oc_180 (a := 0) (b := 10) (by decide +kernel)
theorem dX11_grave_12 : decode cX11_grave 12 = .ok (.getfield 355, 3) := oc_180 (a := 1) (b := 99) (by decide +kernel)
theorem dX11_grave_15 : decode cX11_grave 15 = .ok (.getfield 359, 3) := oc_180 (a := 1) (b := 103) (by decide +kernel)
theorem dX11_grave_18 : decode cX11_grave 18 = .ok (.bipush 30, 2) := oc_16 (a := 30) (by decide +kernel)
theorem dX11_grave_20 : decode cX11_grave 20 = .ok (.if_icmp .lt 5, 3) := oc_161 (a := 0) (b := 5) (by decide +kernel)
theorem dX11_grave_25 : decode cX11_grave 25 = .ok (.aload_n 0, 1) := oc_42 (by decide +kernel)
theorem dX11_grave_26 : decode cX11_grave 26 = .ok (.getfield 10, 3) := oc_180 (a := 0) (b := 10) (by decide +kernel)
theorem dX11_grave_29 : decode cX11_grave 29 = .ok (.getfield 355, 3) := oc_180 (a := 1) (b := 99) (by decide +kernel)
theorem dX11_grave_32 : decode cX11_grave 32 = .ok (.iload_n 1, 1) := oc_27 (by decide +kernel)
theorem tw_1501 : Cond.methodLink RX11 369 yX1_dig ∈ wsL_law := sg_63 _ (List.mem_of_getElem? (i := 13) rfl)
theorem tw_1502 : Cond.instanceMethod yX1_dig ∈ wsL_law := sg_63 _ (List.mem_of_getElem? (i := 14) rfl)
theorem tw_1503 : Cond.selects RX1 yX1_dig yX1_dig ∈ wsL_law := sg_63 _ (List.mem_of_getElem? (i := 15) rfl)
theorem tw_1504 : Cond.code yX1_dig cX1_dig 2 (some .int) ∈ wsL_law := sg_63 _ (List.mem_of_getElem? (i := 16) rfl)
theorem dX11_grave_33 : decode cX11_grave 33 = .ok (.invokevirtual 369, 3) := oc_182 (a := 1) (b := 113) (by decide +kernel)
theorem dX11_grave_36 : decode cX11_grave 36 = .ok (.ireturn, 1) := oc_172 (by decide +kernel)
theorem dX11_bury_0 : decode cX11_bury 0 = .ok (.iload_n 1, 1) := oc_27 (by decide +kernel)
theorem dX11_bury_1 : decode cX11_bury 1 = .ok (.iconst 0, 1) := oc_3 (by decide +kernel)
theorem dX11_bury_2 : decode cX11_bury 2 = .ok (.aload_n 0, 1) := oc_42 (by decide +kernel)
theorem dX11_bury_3 : decode cX11_bury 3 = .ok (.getfield 10, 3) := oc_180 (a := 0) (b := 10) (by decide +kernel)
theorem dX11_bury_6 : decode cX11_bury 6 = .ok (.getfield 355, 3) := oc_180 (a := 1) (b := 99) (by decide +kernel)
theorem dX11_bury_9 : decode cX11_bury 9 = .ok (.getfield 359, 3) := oc_180 (a := 1) (b := 103) (by decide +kernel)
theorem dX11_bury_12 : decode cX11_bury 12 = .ok (.iconst 1, 1) := oc_4 (by decide +kernel)
theorem dX11_bury_13 : decode cX11_bury 13 = .ok (.isub, 1) := oc_100 (by decide +kernel)
theorem dX11_bury_14 : decode cX11_bury 14 = .ok (.invokestatic 50, 3) := oc_184 (a := 0) (b := 50) (by decide +kernel)
theorem dX11_bury_28 : decode cX11_bury 28 = .ok (.iconst 0, 1) := oc_3 (by decide +kernel)
theorem dX11_bury_29 : decode cX11_bury 29 = .ok (.ireturn, 1) := oc_172 (by decide +kernel)
theorem dX11_bury_17 : decode cX11_bury 17 = .ok (.ifCond .eq 11, 3) := oc_153 (a := 0) (b := 11) (by decide +kernel)
theorem dX11_bury_20 : decode cX11_bury 20 = .ok (.aload_n 0, 1) := oc_42 (by decide +kernel)
theorem dX11_bury_21 : decode cX11_bury 21 = .ok (.iload_n 2, 1) := oc_28 (by decide +kernel)
theorem dX11_bury_22 : decode cX11_bury 22 = .ok (.invokevirtual 119, 3) := oc_182 (a := 0) (b := 119) (by decide +kernel)
theorem dX11_bury_25 : decode cX11_bury 25 = .ok (.ifCond .ne 5, 3) := oc_154 (a := 0) (b := 5) (by decide +kernel)
theorem dX11_bury_30 : decode cX11_bury 30 = .ok (.aload_n 0, 1) := oc_42 (by decide +kernel)
theorem dX11_bury_31 : decode cX11_bury 31 = .ok (.getfield 10, 3) := oc_180 (a := 0) (b := 10) (by decide +kernel)
theorem dX11_bury_34 : decode cX11_bury 34 = .ok (.getfield 355, 3) := oc_180 (a := 1) (b := 99) (by decide +kernel)
theorem dX11_bury_37 : decode cX11_bury 37 = .ok (.iload_n 1, 1) := oc_27 (by decide +kernel)
theorem dX11_bury_38 : decode cX11_bury 38 = .ok (.iload_n 2, 1) := oc_28 (by decide +kernel)
theorem tw_1517 : Cond.methodLink RX11 371 yX1_carry ∈ wsL_law := sg_64 _ (List.mem_of_getElem? (i := 5) rfl)
theorem tw_1518 : Cond.instanceMethod yX1_carry ∈ wsL_law := sg_64 _ (List.mem_of_getElem? (i := 6) rfl)
theorem tw_1519 : Cond.selects RX1 yX1_carry yX1_carry ∈ wsL_law := sg_64 _ (List.mem_of_getElem? (i := 7) rfl)
theorem tw_1520 : Cond.code yX1_carry cX1_carry 3 (some .boolean) ∈ wsL_law := sg_64 _ (List.mem_of_getElem? (i := 8) rfl)
theorem dX11_bury_39 : decode cX11_bury 39 = .ok (.invokevirtual 371, 3) := oc_182 (a := 1) (b := 115) (by decide +kernel)
theorem dX11_bury_42 : decode cX11_bury 42 = .ok (.ireturn, 1) := oc_172 (by decide +kernel)
theorem dX11_found_0 : decode cX11_found 0 = .ok (.aload_n 0, 1) := oc_42 (by decide +kernel)
theorem dX11_found_1 : decode cX11_found 1 = .ok (.iload_n 1, 1) := oc_27 (by decide +kernel)
theorem dX11_found_2 : decode cX11_found 2 = .ok (.invokevirtual 119, 3) := oc_182 (a := 0) (b := 119) (by decide +kernel)
theorem dX11_found_27 : decode cX11_found 27 = .ok (.iconst (-1), 1) := oc_2 (by decide +kernel)
theorem dX11_found_28 : decode cX11_found 28 = .ok (.ireturn, 1) := oc_172 (by decide +kernel)
theorem dX11_found_5 : decode cX11_found 5 = .ok (.ifCond .eq 22, 3) := oc_153 (a := 0) (b := 22) (by decide +kernel)
theorem dX11_found_8 : decode cX11_found 8 = .ok (.iload_n 2, 1) := oc_28 (by decide +kernel)
theorem dX11_found_9 : decode cX11_found 9 = .ok (.ifCond .lt 18, 3) := oc_155 (a := 0) (b := 18) (by decide +kernel)
theorem dX11_found_12 : decode cX11_found 12 = .ok (.aload_n 0, 1) := oc_42 (by decide +kernel)
theorem dX11_found_13 : decode cX11_found 13 = .ok (.getfield 10, 3) := oc_180 (a := 0) (b := 10) (by decide +kernel)
theorem dX11_found_16 : decode cX11_found 16 = .ok (.getfield 355, 3) := oc_180 (a := 1) (b := 99) (by decide +kernel)
theorem dX11_found_19 : decode cX11_found 19 = .ok (.iload_n 1, 1) := oc_27 (by decide +kernel)
theorem dX11_found_20 : decode cX11_found 20 = .ok (.iload_n 2, 1) := oc_28 (by decide +kernel)
theorem tw_1529 : Cond.methodLink RX11 375 yX1_whereNow ∈ wsL_law := sg_64 _ (List.mem_of_getElem? (i := 17) rfl)
theorem tw_1530 : Cond.instanceMethod yX1_whereNow ∈ wsL_law := sg_64 _ (List.mem_of_getElem? (i := 18) rfl)
theorem tw_1531 : Cond.selects RX1 yX1_whereNow yX1_whereNow ∈ wsL_law := sg_64 _ (List.mem_of_getElem? (i := 19) rfl)
theorem tw_1532 : Cond.code yX1_whereNow cX1_whereNow 5 (some .int) ∈ wsL_law := sg_64 _ (List.mem_of_getElem? (i := 20) rfl)
theorem dX11_found_21 : decode cX11_found 21 = .ok (.invokevirtual 375, 3) := oc_182 (a := 1) (b := 119) (by decide +kernel)
theorem dX11_found_24 : decode cX11_found 24 = .ok (.goto 4, 3) := oc_167 (a := 0) (b := 4) (by decide +kernel)
theorem dX11_image_0 : decode cX11_image 0 = .ok (.aload_n 0, 1) := oc_42 (by decide +kernel)
theorem tw_17 : Cond.fieldLink RX11 16 "RingsUnder" "kept" "LRingsUnder$World;" ∈ wsL_law := sg_1 _ (List.mem_of_getElem? (i := 17) rfl)
theorem dX11_image_1 : decode cX11_image 1 = .ok (.getfield 16, 3) := oc_180 (a := 0) (b := 16) (by decide +kernel)
theorem dX11_image_4 : decode cX11_image 4 = .ok (.aload_n 0, 1) := oc_42 (by decide +kernel)
theorem dX11_image_5 : decode cX11_image 5 = .ok (.getfield 10, 3) := oc_180 (a := 0) (b := 10) (by decide +kernel)
theorem dX11_image_8 : decode cX11_image 8 = .ok (.invokevirtual 266, 3) := oc_182 (a := 1) (b := 10) (by decide +kernel)
theorem dX11_image_11 : decode cX11_image 11 = .ok (.aload_n 0, 1) := oc_42 (by decide +kernel)
theorem dX11_image_12 : decode cX11_image 12 = .ok (.getfield 10, 3) := oc_180 (a := 0) (b := 10) (by decide +kernel)
theorem dX11_image_15 : decode cX11_image 15 = .ok (.getfield 54, 3) := oc_180 (a := 0) (b := 54) (by decide +kernel)
theorem dX11_image_18 : decode cX11_image 18 = .ok (.ireturn, 1) := oc_172 (by decide +kernel)
theorem dX11_back_0 : decode cX11_back 0 = .ok (.aload_n 0, 1) := oc_42 (by decide +kernel)
theorem dX11_back_1 : decode cX11_back 1 = .ok (.getfield 10, 3) := oc_180 (a := 0) (b := 10) (by decide +kernel)
theorem dX11_back_4 : decode cX11_back 4 = .ok (.aload_n 0, 1) := oc_42 (by decide +kernel)
theorem dX11_back_5 : decode cX11_back 5 = .ok (.getfield 16, 3) := oc_180 (a := 0) (b := 16) (by decide +kernel)
theorem dX11_back_8 : decode cX11_back 8 = .ok (.invokevirtual 266, 3) := oc_182 (a := 1) (b := 10) (by decide +kernel)
theorem dX11_back_11 : decode cX11_back 11 = .ok (.aload_n 0, 1) := oc_42 (by decide +kernel)
theorem dX11_back_12 : decode cX11_back 12 = .ok (.getfield 10, 3) := oc_180 (a := 0) (b := 10) (by decide +kernel)
theorem dX11_back_15 : decode cX11_back 15 = .ok (.getfield 54, 3) := oc_180 (a := 0) (b := 54) (by decide +kernel)
theorem dX11_back_18 : decode cX11_back 18 = .ok (.ireturn, 1) := oc_172 (by decide +kernel)
set_option maxRecDepth 100000 in
def g_X11_grave_K23 (I : Nat → Int32) (J : Nat → Int64) (ri : Nat → Nat → Int32) (rj : Nat → Nat → Int64) (rq : Nat → Nat → Option Nat) : Int32 × vM := ((-1 : Int32), I, J, ri, rj, rq)
set_option maxRecDepth 100000 in
theorem g_X11_grave_K23_e {I : Nat → Int32} {J : Nat → Int64} {ri : Nat → Nat → Int32} {rj : Nat → Nat → Int64} {rq : Nat → Nat → Option Nat} : g_X11_grave_K23 I J ri rj rq  = ((-1 : Int32), I, J, ri, rj, rq) := rfl
set_option maxRecDepth 100000 in
def g_X11_grave (a0 : Int32) (I : Nat → Int32) (J : Nat → Int64) (ri : Nat → Nat → Int32) (rj : Nat → Nat → Int64) (rq : Nat → Nat → Option Nat) : Int32 × vM := (bnI (g_X11_isCell a0 I J ri rj rq) fun (x_1 : Int32) (_ : Nat → Int32) (_ : Nat → Int64) (_ : Nat → Nat → Int32) (_ : Nat → Nat → Int64) (_ : Nat → Nat → Option Nat) => (if x_1 = (0 : Int32) then (g_X11_grave_K23 I J ri rj rq ) else (ap1 (I 32) fun (y_42 : Int32) => (if (y_42) < (30 : Int32) then (bnI (g_X1_dig a0 I J ri rj rq) fun (x_47 : Int32) (I_49 : Nat → Int32) (_ : Nat → Int64) (ri_50 : Nat → Nat → Int32) (rj_51 : Nat → Nat → Int64) (_ : Nat → Nat → Option Nat) => (x_47, I_49, J, ri_50, rj_51, rq)) else (g_X11_grave_K23 I J ri rj rq )))))
set_option maxRecDepth 100000 in
theorem g_X11_grave_e {a0 : Int32} {I : Nat → Int32} {J : Nat → Int64} {ri : Nat → Nat → Int32} {rj : Nat → Nat → Int64} {rq : Nat → Nat → Option Nat} : g_X11_grave a0 I J ri rj rq = (bnI (g_X11_isCell a0 I J ri rj rq) fun (x_1 : Int32) (_ : Nat → Int32) (_ : Nat → Int64) (_ : Nat → Nat → Int32) (_ : Nat → Nat → Int64) (_ : Nat → Nat → Option Nat) => (if x_1 = (0 : Int32) then (g_X11_grave_K23 I J ri rj rq ) else (ap1 (I 32) fun (y_42 : Int32) => (if (y_42) < (30 : Int32) then (bnI (g_X1_dig a0 I J ri rj rq) fun (x_47 : Int32) (I_49 : Nat → Int32) (_ : Nat → Int64) (ri_50 : Nat → Nat → Int32) (rj_51 : Nat → Nat → Int64) (_ : Nat → Nat → Option Nat) => (x_47, I_49, J, ri_50, rj_51, rq)) else (g_X11_grave_K23 I J ri rj rq ))))) := rfl
set_option maxHeartbeats 4000000 in
set_option maxRecDepth 100000 in
theorem s_X11_grave (l : Launch) (D : va_G) (t : pq_T) (σ : pq_S) (I : Nat → Nat → Int32) (J : Nat → Nat → Int64) (ri : Nat → Nat → Int32) (rj : Nat → Nat → Int64) (rq : Nat → Nat → Option Nat) (sz : Nat) (tg : Nat → Nat) (hSH : SH σ tg) (hG0 : GS tg σ I ri rq) (this : Nat) (a0 : Int32) (hL_this : this ∈ σ.1) (hK_this : σ.2.1 this = 11) (this_now : Nat) (hR_this_now : σ.2.2.1 352 this = some this_now) (hL_this_now : this_now ∈ σ.1) (hK_this_now : σ.2.1 this_now = 10) : MetI l yX11_grave (wa yX11_grave cX11_grave 2 (some .int)) ({ frames := 2, cells := 0, slots := 0, locals := 43 }) [.ref this, .int a0] D t σ (I, J, ri, rj, rq) sz 0 0 (fun (r : Int32) (u : pq_S × pq_M) => ∃ I' : Nat → Nat → Int32, ∃ ri' : Nat → Nat → Int32, ∃ rj' : Nat → Nat → Int64, u = (σ, I', J, ri', rj', rq) ∧ GX [1033, 1034, 32] tg σ I ri rj I' ri' rj' rq ∧ g_X11_grave a0 (vI 10 σ this_now I) (vJ 10 σ this_now J) (vR 10 σ this_now ri) (vL 10 σ this_now rj) (vQ 10 σ this_now rq) = (r, (vI 10 σ this_now I'), (vJ 10 σ this_now J), (vR 10 σ this_now ri'), (vL 10 σ this_now rj'), (vQ 10 σ this_now rq)) ∧ FR 10 tg σ this_now (I, J, ri, rj, rq) (I', J, ri', rj', rq) ∧ rg r (-1) 29) := by
  refine Met.ofW (cc := cX11_grave) (maxL := 2) (ret := (some .int)) (by decide +kernel) rfl ?_
  intro p e s m args below meth c s₁ B hml hv
  obtain ⟨rfl, hsz, hP, hK, hD0, hN⟩ := hv
  have hx := B.exec
  have hb := B.bytes
  have hr := B.returns
  have hts := atoms_spec (ws := (wa yX11_grave cX11_grave 2 (some .int))) B.pre
  have hown : s.vm.findClass RX11 = some m.cls := findClass_of_methodNamed B.named
  have hlocks := B.notSynchronized
  subst hsz
  have hD : va_D (pq_B t σ (I, J, ri, rj, rq) s.heap.size) (pq_P t σ (I, J, ri, rj, rq)) := hD0.self
  generalize hAe : pq_B t σ (I, J, ri, rj, rq) s.heap.size = A at hD ⊢
  have hA : ∀ q : Nat, s.heap.size ≤ q → A q := fun q h => by rw [← hAe]; exact Or.inr h
  have hS : va_S A s.heap s.heap [] := va_S.rf
  have hG : GX [1033, 1034, 32] tg σ I ri rj I ri rj rq := ⟨hG0, fun _ _ _ => rfl, fun _ _ _ _ _ => rfl, fun _ _ _ _ _ => rfl⟩
  have hl := lv_entry ([.ref this, .int a0]) (n := 2) (Nat.le_of_ble_eq_true rfl)
  rw [lg_entry_eq]
  generalize (lg_sl ([.ref this, .int a0]) ++ List.replicate (2 - (lg_sl ([.ref this, .int a0])).length) Slot.unset).toArray = ls at hl ⊢
  have hl : lv_has ls 2 [(0, .ref this), (1, .int a0)] := hl
  refine q_gen (fun Q hQ => ?_)
  have go : ∀ (H : Heap) (locs : List Loc) (ls : Array Slot), va_P D vwCl (pq_P t σ (I, J, ri, rj, rq)) H → va_D A (pq_P t σ (I, J, ri, rj, rq)) → va_S A s.heap H locs → lv_has ls 2 [(0, .ref this), (1, .int a0)] → W p l e ({ frames := 2, cells := 0, slots := 0, locals := 43 } : Room) s m (List.toArray ([.ref this, .int a0] : List Value)) below meth c H locs 0 0 Q (F0 m 0 ls []) := by
    intro H locs ls hP hD hS hl
    have hVT : VT 10 σ tg this_now := vt_10 hSH hL_this_now hK_this_now
    have hFr : FR 10 tg σ this_now (I, J, ri, rj, rq) (I, J, ri, rj, rq) := fr_rf
    have hO_this_now : this_now = vo σ 10 this_now := rfl
    obtain ⟨F, hF0⟩ : ∃ F, F = g_X11_grave a0 (vI 10 σ this_now I) (vJ 10 σ this_now J) (vR 10 σ this_now ri) (vL 10 σ this_now rj) (vQ 10 σ this_now rq) := ⟨_, rfl⟩
    have hF := hF0.trans g_X11_grave_e
    refine lv_aload_n hx hb dX11_grave_0 rfl (lv_at hl 0 rfl) ?_
    refine lv_iload_n hx hb dX11_grave_1 rfl (lv_at hl 1 rfl) ?_
    refine pk_i (va_runV (As := [.int a0]) (rest := []) ⟨hx, hb, hml, hown, hts⟩ (s_X11_isCell l D t σ I J ri rj rq H.size tg hSH hG.1 this a0 hL_this hK_this this_now hR_this_now hL_this_now hK_this_now) (cwV 1 hts (tw_V tw_332 tw_333 tw_334 tw_2 tw_335) rfl rfl rfl cv_yX11_isCell_1 ⟨Nat.le_of_ble_eq_true rfl, Nat.le_of_ble_eq_true rfl⟩) ⟨pq_blind, pq_recv hK hP hL_this hK_this (by decide +kernel) rfl, pq_pre hK hN hP hD⟩ rfl rfl hl.1 rfl (lv_room (Nat.le_of_ble_eq_true rfl)) dX11_grave_2 ⟨Nat.le_of_ble_eq_true rfl, Nat.le_of_ble_eq_true rfl⟩) hD hS hA (fun x_1 σ1 μ1 H locs hw_2 hP hD hS => ?_)
    obtain ⟨hu_3, hfn_6, hr_5⟩ := hw_2
    obtain ⟨hu_3a, hu_3b⟩ := Prod.mk.inj hu_3
    rw [hu_3a, hu_3b] at hP hD
    replace hF := hF.trans (bn_n hfn_6)
    have h_8 : rg x_1 0 1 := by rcases hr_5 with ⟨q, -⟩ | ⟨q, -⟩ <;> rw [q] <;> exact ⟨by decide +kernel, by decide +kernel⟩
    have K_30 : ∀  (H : Heap) (locs : List Loc) (ls : Array Slot), F = g_X11_grave_K23 (vI 10 σ this_now I) (vJ 10 σ this_now J) (vR 10 σ this_now ri) (vL 10 σ this_now rj) (vQ 10 σ this_now rq)  → FR 10 tg σ this_now (I, J, ri, rj, rq) (I, J, ri, rj, rq) → GX [1033, 1034, 32] tg σ I ri rj I ri rj rq → va_P D vwCl (pq_P t σ (I, J, ri, rj, rq)) H → va_D A (pq_P t σ (I, J, ri, rj, rq)) → va_S A s.heap H locs → lv_has ls 2 [] → W p l e ({ frames := 2, cells := 0, slots := 0, locals := 43 } : Room) s m (List.toArray ([.ref this, .int a0] : List Value)) below meth c H locs 0 0 Q (F0 m 23 ls []) := by
      intro H locs ls hF hFr hG hP hD hS hl
      replace hF := hF.trans g_X11_grave_K23_e
      refine lv_iconst (v := (-1)) hx hb dX11_grave_23 (by decide +kernel) ?_
      subst hQ
      exact W.iret (v := (-1)) hx hb hr (fun t1 ht hW => ⟨⟨(-1), (σ, I, J, ri, rj, rq), rfl, ⟨I, ri, rj, rfl, hG, (hF0.symm.trans hF), hFr, (rg_w (rg_k (-1 : Int32) (-1) rfl) (by decide +kernel))⟩, by rw [ht]; exact hP, va_K.moved hW.alike hK, hD⟩, hS.F ht⟩) hS.2.2 dX11_grave_24
    refine lv_if_eq (tgt := 23) hx hb dX11_grave_5 (by decide +kernel) (fun c_31 => ?_) (fun c_31 => ?_)
    · replace hF := hF.trans (if_pos c_31)
      have f_36 := (hr_5.resolve_left (fun q => absurd (q.1.symm.trans c_31) (by decide +kernel))).2
      have h_37 : rg x_1 0 0 := rg_and h_8 (rg_of_eq c_31 (rg_k (0 : Int32) 0 rfl)) (by decide +kernel)
      exact K_30 _ _ _ hF hFr hG hP hD hS (lv_sub hl [] rfl)
    · replace hF := hF.trans (if_neg c_31)
      have f_38 := (hr_5.resolve_right (fun q => c_31 q.1)).2
      have h_39 : rg x_1 1 1 := rg_ne c_31 h_8 0 rfl (by decide +kernel)
      refine lv_aload_n hx hb dX11_grave_8 rfl (lv_at hl 0 rfl) ?_
      refine pg_f (v := .ref this_now) (C := RX11) (T := TX11) (N := 5) hx hb hts (tw_i inlX11) hown hK hP hL_this hK_this (by decide +kernel) rfl 0 (by decide +kernel) (hts _ (tw_c tw_16)) (pq_hv rfl hR_this_now) dX11_grave_9 ?_
      obtain ⟨w_40, hR_w_40, hL_w_40, hK_w_40⟩ := sh_o hSH 330 (ci := 10) (kd := 1) rfl hL_this_now hK_this_now
      have hO_w_40 : w_40 = vo σ 1 this_now := vo_k (c := 10) hO_this_now hR_w_40
      refine pg_f (v := .ref w_40) (C := RX10) (T := TX10) (N := 13) hx hb hts (tw_i inlX10) hown hK hP hL_this_now hK_this_now (by decide +kernel) rfl 10 (by decide +kernel) (hts _ (tw_c tw_1499)) (pq_hv rfl hR_w_40) dX11_grave_12 ?_
      refine pg_f (v := .int (I 32 w_40)) (C := RX1) (T := TX1) (N := 3) hx hb hts (tw_i inlX1) hown hK hP hL_w_40 hK_w_40 (by decide +kernel) rfl 0 (by decide +kernel) (hts _ (tw_c tw_1500)) rfl dX11_grave_15 ?_
      have h_41 : rg (I 32 w_40) 0 30 := GX.rI hG 32 rfl
      replace hF := hF.trans (ap_n (vI_e (f := 32) hO_w_40 (by decide +kernel)))
      refine lv_bipush (v := 30) hx hb dX11_grave_18 (by decide +kernel) ?_
      refine lv_icmp_lt (tgt := 25) hx hb dX11_grave_20 (by decide +kernel) (fun c_43 => ?_) (fun c_43 => ?_)
      · replace hF := hF.trans (if_pos c_43)
        have h_46 : rg (I 32 w_40) 0 29 := rg_lt1 c_43 h_41 (rg_k (30 : Int32) 30 rfl) (by decide +kernel)
        refine lv_aload_n hx hb dX11_grave_25 rfl (lv_at hl 0 rfl) ?_
        refine pg_f (v := .ref this_now) (C := RX11) (T := TX11) (N := 5) hx hb hts (tw_i inlX11) hown hK hP hL_this hK_this (by decide +kernel) rfl 0 (by decide +kernel) (hts _ (tw_c tw_16)) (pq_hv rfl hR_this_now) dX11_grave_26 ?_
        refine pg_f (v := .ref w_40) (C := RX10) (T := TX10) (N := 13) hx hb hts (tw_i inlX10) hown hK hP hL_this_now hK_this_now (by decide +kernel) rfl 10 (by decide +kernel) (hts _ (tw_c tw_1499)) (pq_hv rfl hR_w_40) dX11_grave_29 ?_
        refine lv_iload_n hx hb dX11_grave_32 rfl (lv_at hl 1 rfl) ?_
        refine pk_i (va_runV (As := [.int a0]) (rest := []) ⟨hx, hb, hml, hown, hts⟩ (s_X1_dig l D t σ I J ri rj rq H.size tg hSH hG.1 w_40 a0 hL_w_40 hK_w_40 (rg_w f_38 (by decide +kernel)) this_now hL_this_now hK_this_now hO_w_40) (cwV 1 hts (tw_V tw_1501 tw_1502 tw_1503 tw_53 tw_1504) rfl rfl rfl cv_yX1_dig_1 ⟨Nat.le_of_ble_eq_true rfl, Nat.le_of_ble_eq_true rfl⟩) ⟨pq_blind, pq_recv hK hP hL_w_40 hK_w_40 (by decide +kernel) rfl, pq_pre hK hN hP hD⟩ rfl rfl hl.1 rfl (lv_room (Nat.le_of_ble_eq_true rfl)) dX11_grave_33 ⟨Nat.le_of_ble_eq_true rfl, Nat.le_of_ble_eq_true rfl⟩) hD hS hA (fun x_47 σ1 μ1 H locs hw_48 hP hD hS => ?_)
        obtain ⟨I_49, ri_50, rj_51, hu_52, hg_53, hfn_55, hfr_56, hr_54⟩ := hw_48
        obtain ⟨hu_52a, hu_52b⟩ := Prod.mk.inj hu_52
        rw [hu_52a, hu_52b] at hP hD
        replace hF := hF.trans (bn_n hfn_55)
        replace hFr := fr_tr hFr hfr_56
        have hG := GX.tr hG hg_53 (by decide +kernel)
        subst hQ
        exact W.iret (v := x_47) hx hb hr (fun t1 ht hW => ⟨⟨x_47, (σ, I_49, J, ri_50, rj_51, rq), rfl, ⟨I_49, ri_50, rj_51, rfl, hG, (hF0.symm.trans hF), hFr, (rg_w hr_54 (by decide +kernel))⟩, by rw [ht]; exact hP, va_K.moved hW.alike hK, hD⟩, hS.F ht⟩) hS.2.2 dX11_grave_36
      · replace hF := hF.trans (if_neg c_43)
        have h_57 : rg (I 32 w_40) 30 30 := rg_le2 (nlt c_43) (rg_k (30 : Int32) 30 rfl) h_41 (by decide +kernel)
        exact K_30 _ _ _ hF hFr hG hP hD hS (lv_sub hl [] rfl)
  exact go _ _ _ hP hD hS hl

set_option maxRecDepth 100000 in
def g_X11_bury_K28 (I : Nat → Int32) (J : Nat → Int64) (ri : Nat → Nat → Int32) (rj : Nat → Nat → Int64) (rq : Nat → Nat → Option Nat) : Int32 × vM := ((0 : Int32), I, J, ri, rj, rq)
set_option maxRecDepth 100000 in
theorem g_X11_bury_K28_e {I : Nat → Int32} {J : Nat → Int64} {ri : Nat → Nat → Int32} {rj : Nat → Nat → Int64} {rq : Nat → Nat → Option Nat} : g_X11_bury_K28 I J ri rj rq  = ((0 : Int32), I, J, ri, rj, rq) := rfl
set_option maxRecDepth 100000 in
def g_X11_bury (a0 : Int32) (a1 : Int32) (I : Nat → Int32) (J : Nat → Int64) (ri : Nat → Nat → Int32) (rj : Nat → Nat → Int64) (rq : Nat → Nat → Option Nat) : Int32 × vM := (ap1 (I 32) fun (y_3 : Int32) => (ap1 ((y_3) - (1 : Int32)) fun (x_4 : Int32) => (ap1 (g_X11_between a0 (0 : Int32) x_4) fun (x_6 : Int32) => (if x_6 = (0 : Int32) then (g_X11_bury_K28 I J ri rj rq ) else (bnI (g_X11_isCell a1 I J ri rj rq) fun (x_65 : Int32) (_ : Nat → Int32) (_ : Nat → Int64) (_ : Nat → Nat → Int32) (_ : Nat → Nat → Int64) (_ : Nat → Nat → Option Nat) => (if x_65 = (0 : Int32) then (g_X11_bury_K28 I J ri rj rq ) else (bnI (g_X1_carry a0 a1 I J ri rj rq) fun (x_80 : Int32) (_ : Nat → Int32) (_ : Nat → Int64) (ri_82 : Nat → Nat → Int32) (rj_83 : Nat → Nat → Int64) (_ : Nat → Nat → Option Nat) => (x_80, I, J, ri_82, rj_83, rq))))))))
set_option maxRecDepth 100000 in
theorem g_X11_bury_e {a0 : Int32} {a1 : Int32} {I : Nat → Int32} {J : Nat → Int64} {ri : Nat → Nat → Int32} {rj : Nat → Nat → Int64} {rq : Nat → Nat → Option Nat} : g_X11_bury a0 a1 I J ri rj rq = (ap1 (I 32) fun (y_3 : Int32) => (ap1 ((y_3) - (1 : Int32)) fun (x_4 : Int32) => (ap1 (g_X11_between a0 (0 : Int32) x_4) fun (x_6 : Int32) => (if x_6 = (0 : Int32) then (g_X11_bury_K28 I J ri rj rq ) else (bnI (g_X11_isCell a1 I J ri rj rq) fun (x_65 : Int32) (_ : Nat → Int32) (_ : Nat → Int64) (_ : Nat → Nat → Int32) (_ : Nat → Nat → Int64) (_ : Nat → Nat → Option Nat) => (if x_65 = (0 : Int32) then (g_X11_bury_K28 I J ri rj rq ) else (bnI (g_X1_carry a0 a1 I J ri rj rq) fun (x_80 : Int32) (_ : Nat → Int32) (_ : Nat → Int64) (ri_82 : Nat → Nat → Int32) (rj_83 : Nat → Nat → Int64) (_ : Nat → Nat → Option Nat) => (x_80, I, J, ri_82, rj_83, rq)))))))) := rfl
set_option maxHeartbeats 4000000 in
set_option maxRecDepth 100000 in
theorem s_X11_bury (l : Launch) (D : va_G) (t : pq_T) (σ : pq_S) (I : Nat → Nat → Int32) (J : Nat → Nat → Int64) (ri : Nat → Nat → Int32) (rj : Nat → Nat → Int64) (rq : Nat → Nat → Option Nat) (sz : Nat) (tg : Nat → Nat) (hSH : SH σ tg) (hG0 : GS tg σ I ri rq) (this : Nat) (a0 : Int32) (a1 : Int32) (hL_this : this ∈ σ.1) (hK_this : σ.2.1 this = 11) (this_now : Nat) (hR_this_now : σ.2.2.1 352 this = some this_now) (hL_this_now : this_now ∈ σ.1) (hK_this_now : σ.2.1 this_now = 10) : MetI l yX11_bury (wa yX11_bury cX11_bury 3 (some .boolean)) ({ frames := 2, cells := 0, slots := 0, locals := 43 }) [.ref this, .int a0, .int a1] D t σ (I, J, ri, rj, rq) sz 0 0 (fun (r : Int32) (u : pq_S × pq_M) => ∃ ri' : Nat → Nat → Int32, ∃ rj' : Nat → Nat → Int64, u = (σ, I, J, ri', rj', rq) ∧ GX [1033, 1034] tg σ I ri rj I ri' rj' rq ∧ g_X11_bury a0 a1 (vI 10 σ this_now I) (vJ 10 σ this_now J) (vR 10 σ this_now ri) (vL 10 σ this_now rj) (vQ 10 σ this_now rq) = (r, (vI 10 σ this_now I), (vJ 10 σ this_now J), (vR 10 σ this_now ri'), (vL 10 σ this_now rj'), (vQ 10 σ this_now rq)) ∧ FR 10 tg σ this_now (I, J, ri, rj, rq) (I, J, ri', rj', rq) ∧ ((r = 1 ∧ rg a0 0 29 ∧ rg a1 0 39) ∨ (r = 0 ∧ True))) := by
  refine Met.ofW (cc := cX11_bury) (maxL := 3) (ret := (some .boolean)) (by decide +kernel) rfl ?_
  intro p e s m args below meth c s₁ B hml hv
  obtain ⟨rfl, hsz, hP, hK, hD0, hN⟩ := hv
  have hx := B.exec
  have hb := B.bytes
  have hr := B.returns
  have hts := atoms_spec (ws := (wa yX11_bury cX11_bury 3 (some .boolean))) B.pre
  have hown : s.vm.findClass RX11 = some m.cls := findClass_of_methodNamed B.named
  have hlocks := B.notSynchronized
  subst hsz
  have hD : va_D (pq_B t σ (I, J, ri, rj, rq) s.heap.size) (pq_P t σ (I, J, ri, rj, rq)) := hD0.self
  generalize hAe : pq_B t σ (I, J, ri, rj, rq) s.heap.size = A at hD ⊢
  have hA : ∀ q : Nat, s.heap.size ≤ q → A q := fun q h => by rw [← hAe]; exact Or.inr h
  have hS : va_S A s.heap s.heap [] := va_S.rf
  have hG : GX [1033, 1034] tg σ I ri rj I ri rj rq := ⟨hG0, fun _ _ _ => rfl, fun _ _ _ _ _ => rfl, fun _ _ _ _ _ => rfl⟩
  have hl := lv_entry ([.ref this, .int a0, .int a1]) (n := 3) (Nat.le_of_ble_eq_true rfl)
  rw [lg_entry_eq]
  generalize (lg_sl ([.ref this, .int a0, .int a1]) ++ List.replicate (3 - (lg_sl ([.ref this, .int a0, .int a1])).length) Slot.unset).toArray = ls at hl ⊢
  have hl : lv_has ls 3 [(0, .ref this), (1, .int a0), (2, .int a1)] := hl
  refine q_gen (fun Q hQ => ?_)
  have go : ∀ (H : Heap) (locs : List Loc) (ls : Array Slot), va_P D vwCl (pq_P t σ (I, J, ri, rj, rq)) H → va_D A (pq_P t σ (I, J, ri, rj, rq)) → va_S A s.heap H locs → lv_has ls 3 [(0, .ref this), (1, .int a0), (2, .int a1)] → W p l e ({ frames := 2, cells := 0, slots := 0, locals := 43 } : Room) s m (List.toArray ([.ref this, .int a0, .int a1] : List Value)) below meth c H locs 0 0 Q (F0 m 0 ls []) := by
    intro H locs ls hP hD hS hl
    have hVT : VT 10 σ tg this_now := vt_10 hSH hL_this_now hK_this_now
    have hFr : FR 10 tg σ this_now (I, J, ri, rj, rq) (I, J, ri, rj, rq) := fr_rf
    have hO_this_now : this_now = vo σ 10 this_now := rfl
    obtain ⟨F, hF0⟩ : ∃ F, F = g_X11_bury a0 a1 (vI 10 σ this_now I) (vJ 10 σ this_now J) (vR 10 σ this_now ri) (vL 10 σ this_now rj) (vQ 10 σ this_now rq) := ⟨_, rfl⟩
    have hF := hF0.trans g_X11_bury_e
    refine lv_iload_n hx hb dX11_bury_0 rfl (lv_at hl 1 rfl) ?_
    refine lv_iconst (v := 0) hx hb dX11_bury_1 (by decide +kernel) ?_
    refine lv_aload_n hx hb dX11_bury_2 rfl (lv_at hl 0 rfl) ?_
    refine pg_f (v := .ref this_now) (C := RX11) (T := TX11) (N := 5) hx hb hts (tw_i inlX11) hown hK hP hL_this hK_this (by decide +kernel) rfl 0 (by decide +kernel) (hts _ (tw_c tw_16)) (pq_hv rfl hR_this_now) dX11_bury_3 ?_
    obtain ⟨w_1, hR_w_1, hL_w_1, hK_w_1⟩ := sh_o hSH 330 (ci := 10) (kd := 1) rfl hL_this_now hK_this_now
    have hO_w_1 : w_1 = vo σ 1 this_now := vo_k (c := 10) hO_this_now hR_w_1
    refine pg_f (v := .ref w_1) (C := RX10) (T := TX10) (N := 13) hx hb hts (tw_i inlX10) hown hK hP hL_this_now hK_this_now (by decide +kernel) rfl 10 (by decide +kernel) (hts _ (tw_c tw_1499)) (pq_hv rfl hR_w_1) dX11_bury_6 ?_
    refine pg_f (v := .int (I 32 w_1)) (C := RX1) (T := TX1) (N := 3) hx hb hts (tw_i inlX1) hown hK hP hL_w_1 hK_w_1 (by decide +kernel) rfl 0 (by decide +kernel) (hts _ (tw_c tw_1500)) rfl dX11_bury_9 ?_
    have h_2 : rg (I 32 w_1) 0 30 := GX.rI hG 32 rfl
    replace hF := hF.trans (ap_n (vI_e (f := 32) hO_w_1 (by decide +kernel)))
    refine lv_iconst (v := 1) hx hb dX11_bury_12 (by decide +kernel) ?_
    refine lv_isub hx hb dX11_bury_13 ?_
    refine lv_topi (fun x_4 ex_4 => ?_)
    replace hF := hF.trans (ap_n ex_4)
    have h_5 : rg x_4 (-1) 29 := rg_of_eq ex_4 (rg_sub h_2 (rg_k (1 : Int32) 1 rfl) (by decide +kernel))
    refine pk_i (va_runS (As := [.int a0, .int 0, .int x_4]) (rest := []) ⟨hx, hb, hml, hown, hts⟩ (s_X11_between l D t σ I J ri rj rq H.size tg hSH hG.1 a0 (0 : Int32) x_4) (va_cwS 3 hts (tw_S tw_215 tw_216 tw_2 tw_217) rfl rfl rfl cd_yX11_between_3 ⟨Nat.le_of_ble_eq_true rfl, Nat.le_of_ble_eq_true rfl⟩) ⟨pq_blind, pq_pre hK hN hP hD⟩ rfl rfl hl.1 rfl (lv_room (Nat.le_of_ble_eq_true rfl)) dX11_bury_14 ⟨Nat.le_of_ble_eq_true rfl, Nat.le_of_ble_eq_true rfl⟩) hD hS hA (fun x_6 σ1 μ1 H locs hw_7 hP hD hS => ?_)
    obtain ⟨hu_8, hfn_11, hr_10⟩ := hw_7
    obtain ⟨hu_8a, hu_8b⟩ := Prod.mk.inj hu_8
    rw [hu_8a, hu_8b] at hP hD
    replace hF := hF.trans (ap_n hfn_11.symm)
    have h_13 : rg x_6 0 1 := by rcases hr_10 with ⟨q, -⟩ | ⟨q, -⟩ <;> rw [q] <;> exact ⟨by decide +kernel, by decide +kernel⟩
    have K_47 : ∀  (H : Heap) (locs : List Loc) (ls : Array Slot), F = g_X11_bury_K28 (vI 10 σ this_now I) (vJ 10 σ this_now J) (vR 10 σ this_now ri) (vL 10 σ this_now rj) (vQ 10 σ this_now rq)  → FR 10 tg σ this_now (I, J, ri, rj, rq) (I, J, ri, rj, rq) → GX [1033, 1034] tg σ I ri rj I ri rj rq → va_P D vwCl (pq_P t σ (I, J, ri, rj, rq)) H → va_D A (pq_P t σ (I, J, ri, rj, rq)) → va_S A s.heap H locs → lv_has ls 3 [] → W p l e ({ frames := 2, cells := 0, slots := 0, locals := 43 } : Room) s m (List.toArray ([.ref this, .int a0, .int a1] : List Value)) below meth c H locs 0 0 Q (F0 m 28 ls []) := by
      intro H locs ls hF hFr hG hP hD hS hl
      replace hF := hF.trans g_X11_bury_K28_e
      refine lv_iconst (v := 0) hx hb dX11_bury_28 (by decide +kernel) ?_
      subst hQ
      exact W.zret (v := 0) hx hb hr (by decide +kernel) (fun t1 ht hW => ⟨⟨0, (σ, I, J, ri, rj, rq), rfl, ⟨ri, rj, rfl, hG, (hF0.symm.trans hF), hFr, (Or.inr ⟨rfl, trivial⟩)⟩, by rw [ht]; exact hP, va_K.moved hW.alike hK, hD⟩, hS.F ht⟩) hS.2.2 dX11_bury_29
    refine lv_if_eq (tgt := 28) hx hb dX11_bury_17 (by decide +kernel) (fun c_48 => ?_) (fun c_48 => ?_)
    · replace hF := hF.trans (if_pos c_48)
      have f_57 := (hr_10.resolve_left (fun q => absurd (q.1.symm.trans c_48) (by decide +kernel))).2
      have h_58 : rg x_6 0 0 := rg_and h_13 (rg_of_eq c_48 (rg_k (0 : Int32) 0 rfl)) (by decide +kernel)
      exact K_47 _ _ _ hF hFr hG hP hD hS (lv_sub hl [] rfl)
    · replace hF := hF.trans (if_neg c_48)
      obtain ⟨f_59, f_60⟩ := (hr_10.resolve_right (fun q => c_48 q.1)).2
      have h_61 : rg a0 0 2147483647 := rg_le2 f_59 (rg_k (0 : Int32) 0 rfl) (rg_full _) (by decide +kernel)
      have h_62 : rg a0 0 29 := rg_le1 f_60 h_61 h_5 (by decide +kernel)
      have h_63 : rg x_4 0 29 := rg_le2 f_60 h_61 h_5 (by decide +kernel)
      have h_64 : rg x_6 1 1 := rg_ne c_48 h_13 0 rfl (by decide +kernel)
      refine lv_aload_n hx hb dX11_bury_20 rfl (lv_at hl 0 rfl) ?_
      refine lv_iload_n hx hb dX11_bury_21 rfl (lv_at hl 2 rfl) ?_
      refine pk_i (va_runV (As := [.int a1]) (rest := []) ⟨hx, hb, hml, hown, hts⟩ (s_X11_isCell l D t σ I J ri rj rq H.size tg hSH hG.1 this a1 hL_this hK_this this_now hR_this_now hL_this_now hK_this_now) (cwV 1 hts (tw_V tw_332 tw_333 tw_334 tw_2 tw_335) rfl rfl rfl cv_yX11_isCell_1 ⟨Nat.le_of_ble_eq_true rfl, Nat.le_of_ble_eq_true rfl⟩) ⟨pq_blind, pq_recv hK hP hL_this hK_this (by decide +kernel) rfl, pq_pre hK hN hP hD⟩ rfl rfl hl.1 rfl (lv_room (Nat.le_of_ble_eq_true rfl)) dX11_bury_22 ⟨Nat.le_of_ble_eq_true rfl, Nat.le_of_ble_eq_true rfl⟩) hD hS hA (fun x_65 σ1 μ1 H locs hw_66 hP hD hS => ?_)
      obtain ⟨hu_67, hfn_70, hr_69⟩ := hw_66
      obtain ⟨hu_67a, hu_67b⟩ := Prod.mk.inj hu_67
      rw [hu_67a, hu_67b] at hP hD
      replace hF := hF.trans (bn_n hfn_70)
      have h_72 : rg x_65 0 1 := by rcases hr_69 with ⟨q, -⟩ | ⟨q, -⟩ <;> rw [q] <;> exact ⟨by decide +kernel, by decide +kernel⟩
      refine lv_if_ne (tgt := 30) hx hb dX11_bury_25 (by decide +kernel) (fun c_73 => ?_) (fun c_73 => ?_)
      · replace hF := hF.trans (if_neg c_73)
        have f_78 := (hr_69.resolve_right (fun q => c_73 q.1)).2
        have h_79 : rg x_65 1 1 := rg_ne c_73 h_72 0 rfl (by decide +kernel)
        refine lv_aload_n hx hb dX11_bury_30 rfl (lv_at hl 0 rfl) ?_
        refine pg_f (v := .ref this_now) (C := RX11) (T := TX11) (N := 5) hx hb hts (tw_i inlX11) hown hK hP hL_this hK_this (by decide +kernel) rfl 0 (by decide +kernel) (hts _ (tw_c tw_16)) (pq_hv rfl hR_this_now) dX11_bury_31 ?_
        refine pg_f (v := .ref w_1) (C := RX10) (T := TX10) (N := 13) hx hb hts (tw_i inlX10) hown hK hP hL_this_now hK_this_now (by decide +kernel) rfl 10 (by decide +kernel) (hts _ (tw_c tw_1499)) (pq_hv rfl hR_w_1) dX11_bury_34 ?_
        refine lv_iload_n hx hb dX11_bury_37 rfl (lv_at hl 1 rfl) ?_
        refine lv_iload_n hx hb dX11_bury_38 rfl (lv_at hl 2 rfl) ?_
        refine pk_i (va_runV (As := [.int a0, .int a1]) (rest := []) ⟨hx, hb, hml, hown, hts⟩ (s_X1_carry l D t σ I J ri rj rq H.size tg hSH hG.1 w_1 a0 a1 hL_w_1 hK_w_1 (rg_w h_62 (by decide +kernel)) (rg_w f_78 (by decide +kernel)) this_now hL_this_now hK_this_now hO_w_1) (cwV 2 hts (tw_V tw_1517 tw_1518 tw_1519 tw_53 tw_1520) rfl rfl rfl cv_yX1_carry_2 ⟨Nat.le_of_ble_eq_true rfl, Nat.le_of_ble_eq_true rfl⟩) ⟨pq_blind, pq_recv hK hP hL_w_1 hK_w_1 (by decide +kernel) rfl, pq_pre hK hN hP hD⟩ rfl rfl hl.1 rfl (lv_room (Nat.le_of_ble_eq_true rfl)) dX11_bury_39 ⟨Nat.le_of_ble_eq_true rfl, Nat.le_of_ble_eq_true rfl⟩) hD hS hA (fun x_80 σ1 μ1 H locs hw_81 hP hD hS => ?_)
        obtain ⟨ri_82, rj_83, hu_84, hg_85, hfn_87, hfr_88, hr_86⟩ := hw_81
        obtain ⟨hu_84a, hu_84b⟩ := Prod.mk.inj hu_84
        rw [hu_84a, hu_84b] at hP hD
        replace hF := hF.trans (bn_n hfn_87)
        replace hFr := fr_tr hFr hfr_88
        have hG := GX.tr hG hg_85 (by decide +kernel)
        have h_89 : rg x_80 0 1 := by rcases hr_86 with ⟨q, -⟩ | ⟨q, -⟩ <;> rw [q] <;> exact ⟨by decide +kernel, by decide +kernel⟩
        rcases bool01 (rg_w h_89 (by decide +kernel)) with e_90 | e_90
        · refine lv_tov 0 e_90 ?_
          subst hQ
          exact W.zret (v := 0) hx hb hr (by decide +kernel) (fun t1 ht hW => ⟨⟨0, (σ, I, J, ri_82, rj_83, rq), rfl, ⟨ri_82, rj_83, rfl, hG, (hF0.symm.trans (hF.trans (by rw [e_90]))), hFr, (Or.inr ⟨rfl, trivial⟩)⟩, by rw [ht]; exact hP, va_K.moved hW.alike hK, hD⟩, hS.F ht⟩) hS.2.2 dX11_bury_42
        · refine lv_tov 1 e_90 ?_
          subst hQ
          exact W.zret (v := 1) hx hb hr (by decide +kernel) (fun t1 ht hW => ⟨⟨1, (σ, I, J, ri_82, rj_83, rq), rfl, ⟨ri_82, rj_83, rfl, hG, (hF0.symm.trans (hF.trans (by rw [e_90]))), hFr, (Or.inl ⟨rfl, (rg_w h_62 (by decide +kernel)), (rg_w f_78 (by decide +kernel))⟩)⟩, by rw [ht]; exact hP, va_K.moved hW.alike hK, hD⟩, hS.F ht⟩) hS.2.2 dX11_bury_42
      · replace hF := hF.trans (if_pos c_73)
        have f_91 := (hr_69.resolve_left (fun q => absurd (q.1.symm.trans c_73) (by decide +kernel))).2
        have h_92 : rg x_65 0 0 := rg_and h_72 (rg_of_eq c_73 (rg_k (0 : Int32) 0 rfl)) (by decide +kernel)
        exact K_47 _ _ _ hF hFr hG hP hD hS (lv_sub hl [] rfl)
  exact go _ _ _ hP hD hS hl

set_option maxRecDepth 100000 in
def g_X11_found_K27 (I : Nat → Int32) (J : Nat → Int64) (ri : Nat → Nat → Int32) (rj : Nat → Nat → Int64) (rq : Nat → Nat → Option Nat) : Int32 × vM := ((-1 : Int32), I, J, ri, rj, rq)
set_option maxRecDepth 100000 in
theorem g_X11_found_K27_e {I : Nat → Int32} {J : Nat → Int64} {ri : Nat → Nat → Int32} {rj : Nat → Nat → Int64} {rq : Nat → Nat → Option Nat} : g_X11_found_K27 I J ri rj rq  = ((-1 : Int32), I, J, ri, rj, rq) := rfl
set_option maxRecDepth 100000 in
def g_X11_found (a0 : Int32) (a1 : Int32) (I : Nat → Int32) (J : Nat → Int64) (ri : Nat → Nat → Int32) (rj : Nat → Nat → Int64) (rq : Nat → Nat → Option Nat) : Int32 × vM := (bnI (g_X11_isCell a0 I J ri rj rq) fun (x_1 : Int32) (_ : Nat → Int32) (_ : Nat → Int64) (_ : Nat → Nat → Int32) (_ : Nat → Nat → Int64) (_ : Nat → Nat → Option Nat) => (if x_1 = (0 : Int32) then (g_X11_found_K27 I J ri rj rq ) else (if a1 < (0 : Int32) then (g_X11_found_K27 I J ri rj rq ) else (bnI (g_X1_whereNow a0 a1 I J ri rj rq) fun (x_41 : Int32) (_ : Nat → Int32) (_ : Nat → Int64) (_ : Nat → Nat → Int32) (_ : Nat → Nat → Int64) (_ : Nat → Nat → Option Nat) => (x_41, I, J, ri, rj, rq)))))
set_option maxRecDepth 100000 in
theorem g_X11_found_e {a0 : Int32} {a1 : Int32} {I : Nat → Int32} {J : Nat → Int64} {ri : Nat → Nat → Int32} {rj : Nat → Nat → Int64} {rq : Nat → Nat → Option Nat} : g_X11_found a0 a1 I J ri rj rq = (bnI (g_X11_isCell a0 I J ri rj rq) fun (x_1 : Int32) (_ : Nat → Int32) (_ : Nat → Int64) (_ : Nat → Nat → Int32) (_ : Nat → Nat → Int64) (_ : Nat → Nat → Option Nat) => (if x_1 = (0 : Int32) then (g_X11_found_K27 I J ri rj rq ) else (if a1 < (0 : Int32) then (g_X11_found_K27 I J ri rj rq ) else (bnI (g_X1_whereNow a0 a1 I J ri rj rq) fun (x_41 : Int32) (_ : Nat → Int32) (_ : Nat → Int64) (_ : Nat → Nat → Int32) (_ : Nat → Nat → Int64) (_ : Nat → Nat → Option Nat) => (x_41, I, J, ri, rj, rq))))) := rfl
set_option maxHeartbeats 4000000 in
set_option maxRecDepth 100000 in
theorem s_X11_found (l : Launch) (D : va_G) (t : pq_T) (σ : pq_S) (I : Nat → Nat → Int32) (J : Nat → Nat → Int64) (ri : Nat → Nat → Int32) (rj : Nat → Nat → Int64) (rq : Nat → Nat → Option Nat) (sz : Nat) (tg : Nat → Nat) (hSH : SH σ tg) (hG0 : GS tg σ I ri rq) (this : Nat) (a0 : Int32) (a1 : Int32) (hL_this : this ∈ σ.1) (hK_this : σ.2.1 this = 11) (this_now : Nat) (hR_this_now : σ.2.2.1 352 this = some this_now) (hL_this_now : this_now ∈ σ.1) (hK_this_now : σ.2.1 this_now = 10) : MetI l yX11_found (wa yX11_found cX11_found 3 (some .int)) ({ frames := 2, cells := 0, slots := 0, locals := 46 }) [.ref this, .int a0, .int a1] D t σ (I, J, ri, rj, rq) sz 0 0 (fun (r : Int32) (u : pq_S × pq_M) => u = (σ, I, J, ri, rj, rq) ∧ g_X11_found a0 a1 (vI 10 σ this_now I) (vJ 10 σ this_now J) (vR 10 σ this_now ri) (vL 10 σ this_now rj) (vQ 10 σ this_now rq) = (r, (vI 10 σ this_now I), (vJ 10 σ this_now J), (vR 10 σ this_now ri), (vL 10 σ this_now rj), (vQ 10 σ this_now rq)) ∧ rg r (-1) 39) := by
  refine Met.ofW (cc := cX11_found) (maxL := 3) (ret := (some .int)) (by decide +kernel) rfl ?_
  intro p e s m args below meth c s₁ B hml hv
  obtain ⟨rfl, hsz, hP, hK, hD0, hN⟩ := hv
  have hx := B.exec
  have hb := B.bytes
  have hr := B.returns
  have hts := atoms_spec (ws := (wa yX11_found cX11_found 3 (some .int))) B.pre
  have hown : s.vm.findClass RX11 = some m.cls := findClass_of_methodNamed B.named
  have hlocks := B.notSynchronized
  subst hsz
  have hD : va_D (pq_B t σ (I, J, ri, rj, rq) s.heap.size) (pq_P t σ (I, J, ri, rj, rq)) := hD0.self
  generalize hAe : pq_B t σ (I, J, ri, rj, rq) s.heap.size = A at hD ⊢
  have hA : ∀ q : Nat, s.heap.size ≤ q → A q := fun q h => by rw [← hAe]; exact Or.inr h
  have hS : va_S A s.heap s.heap [] := va_S.rf
  have hG : GX [] tg σ I ri rj I ri rj rq := ⟨hG0, fun _ _ _ => rfl, fun _ _ _ _ _ => rfl, fun _ _ _ _ _ => rfl⟩
  have hl := lv_entry ([.ref this, .int a0, .int a1]) (n := 3) (Nat.le_of_ble_eq_true rfl)
  rw [lg_entry_eq]
  generalize (lg_sl ([.ref this, .int a0, .int a1]) ++ List.replicate (3 - (lg_sl ([.ref this, .int a0, .int a1])).length) Slot.unset).toArray = ls at hl ⊢
  have hl : lv_has ls 3 [(0, .ref this), (1, .int a0), (2, .int a1)] := hl
  refine q_gen (fun Q hQ => ?_)
  have go : ∀ (H : Heap) (locs : List Loc) (ls : Array Slot), va_P D vwCl (pq_P t σ (I, J, ri, rj, rq)) H → va_D A (pq_P t σ (I, J, ri, rj, rq)) → va_S A s.heap H locs → lv_has ls 3 [(0, .ref this), (1, .int a0), (2, .int a1)] → W p l e ({ frames := 2, cells := 0, slots := 0, locals := 46 } : Room) s m (List.toArray ([.ref this, .int a0, .int a1] : List Value)) below meth c H locs 0 0 Q (F0 m 0 ls []) := by
    intro H locs ls hP hD hS hl
    have hVT : VT 10 σ tg this_now := vt_10 hSH hL_this_now hK_this_now
    have hFr : FR 10 tg σ this_now (I, J, ri, rj, rq) (I, J, ri, rj, rq) := fr_rf
    have hO_this_now : this_now = vo σ 10 this_now := rfl
    obtain ⟨F, hF0⟩ : ∃ F, F = g_X11_found a0 a1 (vI 10 σ this_now I) (vJ 10 σ this_now J) (vR 10 σ this_now ri) (vL 10 σ this_now rj) (vQ 10 σ this_now rq) := ⟨_, rfl⟩
    have hF := hF0.trans g_X11_found_e
    refine lv_aload_n hx hb dX11_found_0 rfl (lv_at hl 0 rfl) ?_
    refine lv_iload_n hx hb dX11_found_1 rfl (lv_at hl 1 rfl) ?_
    refine pk_i (va_runV (As := [.int a0]) (rest := []) ⟨hx, hb, hml, hown, hts⟩ (s_X11_isCell l D t σ I J ri rj rq H.size tg hSH hG.1 this a0 hL_this hK_this this_now hR_this_now hL_this_now hK_this_now) (cwV 1 hts (tw_V tw_332 tw_333 tw_334 tw_2 tw_335) rfl rfl rfl cv_yX11_isCell_1 ⟨Nat.le_of_ble_eq_true rfl, Nat.le_of_ble_eq_true rfl⟩) ⟨pq_blind, pq_recv hK hP hL_this hK_this (by decide +kernel) rfl, pq_pre hK hN hP hD⟩ rfl rfl hl.1 rfl (lv_room (Nat.le_of_ble_eq_true rfl)) dX11_found_2 ⟨Nat.le_of_ble_eq_true rfl, Nat.le_of_ble_eq_true rfl⟩) hD hS hA (fun x_1 σ1 μ1 H locs hw_2 hP hD hS => ?_)
    obtain ⟨hu_3, hfn_6, hr_5⟩ := hw_2
    obtain ⟨hu_3a, hu_3b⟩ := Prod.mk.inj hu_3
    rw [hu_3a, hu_3b] at hP hD
    replace hF := hF.trans (bn_n hfn_6)
    have h_8 : rg x_1 0 1 := by rcases hr_5 with ⟨q, -⟩ | ⟨q, -⟩ <;> rw [q] <;> exact ⟨by decide +kernel, by decide +kernel⟩
    have K_25 : ∀  (H : Heap) (locs : List Loc) (ls : Array Slot), F = g_X11_found_K27 (vI 10 σ this_now I) (vJ 10 σ this_now J) (vR 10 σ this_now ri) (vL 10 σ this_now rj) (vQ 10 σ this_now rq)  → FR 10 tg σ this_now (I, J, ri, rj, rq) (I, J, ri, rj, rq) → GX [] tg σ I ri rj I ri rj rq → va_P D vwCl (pq_P t σ (I, J, ri, rj, rq)) H → va_D A (pq_P t σ (I, J, ri, rj, rq)) → va_S A s.heap H locs → lv_has ls 3 [] → W p l e ({ frames := 2, cells := 0, slots := 0, locals := 46 } : Room) s m (List.toArray ([.ref this, .int a0, .int a1] : List Value)) below meth c H locs 0 0 Q (F0 m 27 ls []) := by
      intro H locs ls hF hFr hG hP hD hS hl
      replace hF := hF.trans g_X11_found_K27_e
      refine lv_iconst (v := (-1)) hx hb dX11_found_27 (by decide +kernel) ?_
      subst hQ
      exact W.iret (v := (-1)) hx hb hr (fun t1 ht hW => ⟨⟨(-1), (σ, I, J, ri, rj, rq), rfl, ⟨rfl, (hF0.symm.trans hF), (rg_w (rg_k (-1 : Int32) (-1) rfl) (by decide +kernel))⟩, by rw [ht]; exact hP, va_K.moved hW.alike hK, hD⟩, hS.F ht⟩) hS.2.2 dX11_found_28
    refine lv_if_eq (tgt := 27) hx hb dX11_found_5 (by decide +kernel) (fun c_26 => ?_) (fun c_26 => ?_)
    · replace hF := hF.trans (if_pos c_26)
      have f_31 := (hr_5.resolve_left (fun q => absurd (q.1.symm.trans c_26) (by decide +kernel))).2
      have h_32 : rg x_1 0 0 := rg_and h_8 (rg_of_eq c_26 (rg_k (0 : Int32) 0 rfl)) (by decide +kernel)
      exact K_25 _ _ _ hF hFr hG hP hD hS (lv_sub hl [] rfl)
    · replace hF := hF.trans (if_neg c_26)
      have f_33 := (hr_5.resolve_right (fun q => c_26 q.1)).2
      have h_34 : rg x_1 1 1 := rg_ne c_26 h_8 0 rfl (by decide +kernel)
      refine lv_iload_n hx hb dX11_found_8 rfl (lv_at hl 2 rfl) ?_
      refine lv_if_lt (tgt := 27) hx hb dX11_found_9 (by decide +kernel) (fun c_35 => ?_) (fun c_35 => ?_)
      · replace hF := hF.trans (if_pos c_35)
        have h_38 : rg a1 (-2147483648) (-1) := rg_lt1 c_35 (rg_full _) (rg_k (0 : Int32) 0 rfl) (by decide +kernel)
        exact K_25 _ _ _ hF hFr hG hP hD hS (lv_sub hl [] rfl)
      · replace hF := hF.trans (if_neg c_35)
        have h_39 : rg a1 0 2147483647 := rg_le2 (nlt c_35) (rg_k (0 : Int32) 0 rfl) (rg_full _) (by decide +kernel)
        refine lv_aload_n hx hb dX11_found_12 rfl (lv_at hl 0 rfl) ?_
        refine pg_f (v := .ref this_now) (C := RX11) (T := TX11) (N := 5) hx hb hts (tw_i inlX11) hown hK hP hL_this hK_this (by decide +kernel) rfl 0 (by decide +kernel) (hts _ (tw_c tw_16)) (pq_hv rfl hR_this_now) dX11_found_13 ?_
        obtain ⟨w_40, hR_w_40, hL_w_40, hK_w_40⟩ := sh_o hSH 330 (ci := 10) (kd := 1) rfl hL_this_now hK_this_now
        have hO_w_40 : w_40 = vo σ 1 this_now := vo_k (c := 10) hO_this_now hR_w_40
        refine pg_f (v := .ref w_40) (C := RX10) (T := TX10) (N := 13) hx hb hts (tw_i inlX10) hown hK hP hL_this_now hK_this_now (by decide +kernel) rfl 10 (by decide +kernel) (hts _ (tw_c tw_1499)) (pq_hv rfl hR_w_40) dX11_found_16 ?_
        refine lv_iload_n hx hb dX11_found_19 rfl (lv_at hl 1 rfl) ?_
        refine lv_iload_n hx hb dX11_found_20 rfl (lv_at hl 2 rfl) ?_
        refine pk_i (va_runV (As := [.int a0, .int a1]) (rest := []) ⟨hx, hb, hml, hown, hts⟩ (s_X1_whereNow l D t σ I J ri rj rq H.size tg hSH hG.1 w_40 a0 a1 hL_w_40 hK_w_40 this_now hL_this_now hK_this_now hO_w_40) (cwV 2 hts (tw_V tw_1529 tw_1530 tw_1531 tw_53 tw_1532) rfl rfl rfl cv_yX1_whereNow_2 ⟨Nat.le_of_ble_eq_true rfl, Nat.le_of_ble_eq_true rfl⟩) ⟨pq_blind, pq_recv hK hP hL_w_40 hK_w_40 (by decide +kernel) rfl, pq_pre hK hN hP hD⟩ rfl rfl hl.1 rfl (lv_room (Nat.le_of_ble_eq_true rfl)) dX11_found_21 ⟨Nat.le_of_ble_eq_true rfl, Nat.le_of_ble_eq_true rfl⟩) hD hS hA (fun x_41 σ1 μ1 H locs hw_42 hP hD hS => ?_)
        obtain ⟨hu_43, hfn_46, hr_45⟩ := hw_42
        obtain ⟨hu_43a, hu_43b⟩ := Prod.mk.inj hu_43
        rw [hu_43a, hu_43b] at hP hD
        replace hF := hF.trans (bn_n hfn_46)
        refine lv_goto (tgt := 28) hx hb dX11_found_24 (by decide +kernel) ?_
        subst hQ
        exact W.iret (v := x_41) hx hb hr (fun t1 ht hW => ⟨⟨x_41, (σ, I, J, ri, rj, rq), rfl, ⟨rfl, (hF0.symm.trans hF), (rg_w hr_45 (by decide +kernel))⟩, by rw [ht]; exact hP, va_K.moved hW.alike hK, hD⟩, hS.F ht⟩) hS.2.2 dX11_found_28
  exact go _ _ _ hP hD hS hl

set_option maxRecDepth 100000 in
def g_X11_image (nI : Nat → Int32) (nJ : Nat → Int64) (nR : Nat → Nat → Int32) (nL : Nat → Nat → Int64) (nQ : Nat → Nat → Option Nat) (I : Nat → Int32) (J : Nat → Int64) (ri : Nat → Nat → Int32) (rj : Nat → Nat → Int64) (rq : Nat → Nat → Option Nat) : Int32 × vM := (bnV (g_X10_copyFrom nI nJ nR nL nQ I J ri rj rq) fun (I_3 : Nat → Int32) (J_4 : Nat → Int64) (ri_5 : Nat → Nat → Int32) (rj_6 : Nat → Nat → Int64) (rq_7 : Nat → Nat → Option Nat) => (ap1 (nI 320) fun (y_15 : Int32) => ((y_15), I_3, J_4, ri_5, rj_6, rq_7)))
set_option maxRecDepth 100000 in
theorem g_X11_image_e {nI : Nat → Int32} {nJ : Nat → Int64} {nR : Nat → Nat → Int32} {nL : Nat → Nat → Int64} {nQ : Nat → Nat → Option Nat} {I : Nat → Int32} {J : Nat → Int64} {ri : Nat → Nat → Int32} {rj : Nat → Nat → Int64} {rq : Nat → Nat → Option Nat} : g_X11_image nI nJ nR nL nQ I J ri rj rq = (bnV (g_X10_copyFrom nI nJ nR nL nQ I J ri rj rq) fun (I_3 : Nat → Int32) (J_4 : Nat → Int64) (ri_5 : Nat → Nat → Int32) (rj_6 : Nat → Nat → Int64) (rq_7 : Nat → Nat → Option Nat) => (ap1 (nI 320) fun (y_15 : Int32) => ((y_15), I_3, J_4, ri_5, rj_6, rq_7))) := rfl
set_option maxHeartbeats 4000000 in
set_option maxRecDepth 100000 in
theorem s_X11_image (l : Launch) (D : va_G) (t : pq_T) (σ : pq_S) (I : Nat → Nat → Int32) (J : Nat → Nat → Int64) (ri : Nat → Nat → Int32) (rj : Nat → Nat → Int64) (rq : Nat → Nat → Option Nat) (sz : Nat) (tg : Nat → Nat) (hSH : SH σ tg) (hG0 : GS tg σ I ri rq) (this : Nat) (hL_this : this ∈ σ.1) (hK_this : σ.2.1 this = 11) (this_now : Nat) (hR_this_now : σ.2.2.1 352 this = some this_now) (hL_this_now : this_now ∈ σ.1) (hK_this_now : σ.2.1 this_now = 10) (this_kept : Nat) (hR_this_kept : σ.2.2.1 353 this = some this_kept) (hL_this_kept : this_kept ∈ σ.1) (hK_this_kept : σ.2.1 this_kept = 10) (hap : AP 10 tg σ this_kept this_now) : MetI l yX11_image (wa yX11_image cX11_image 1 (some .int)) ({ frames := 5, cells := 0, slots := 0, locals := 144 }) [.ref this] D t σ (I, J, ri, rj, rq) sz 0 0 (fun (r : Int32) (u : pq_S × pq_M) => ∃ I' : Nat → Nat → Int32, ∃ J' : Nat → Nat → Int64, ∃ ri' : Nat → Nat → Int32, ∃ rj' : Nat → Nat → Int64, ∃ rq' : Nat → Nat → Option Nat, u = (σ, I', J', ri', rj', rq') ∧ GX [320, 224, 1225, 1226, 1227, 1228, 1229, 1230, 1231, 1232, 1233, 234, 235, 236, 64, 65, 1069, 1070, 1073, 1074, 1075, 1288, 1079, 0, 1005, 10, 96, 98, 32, 1033, 1034] tg σ I ri rj I' ri' rj' rq' ∧ g_X11_image (vI 10 σ this_now I) (vJ 10 σ this_now J) (vR 10 σ this_now ri) (vL 10 σ this_now rj) (vQ 10 σ this_now rq) (vI 10 σ this_kept I) (vJ 10 σ this_kept J) (vR 10 σ this_kept ri) (vL 10 σ this_kept rj) (vQ 10 σ this_kept rq) = (r, (vI 10 σ this_kept I'), (vJ 10 σ this_kept J'), (vR 10 σ this_kept ri'), (vL 10 σ this_kept rj'), (vQ 10 σ this_kept rq')) ∧ FR 10 tg σ this_kept (I, J, ri, rj, rq) (I', J', ri', rj', rq') ∧ rg r 0 600) := by
  refine Met.ofW (cc := cX11_image) (maxL := 1) (ret := (some .int)) (by decide +kernel) rfl ?_
  intro p e s m args below meth c s₁ B hml hv
  obtain ⟨rfl, hsz, hP, hK, hD0, hN⟩ := hv
  have hx := B.exec
  have hb := B.bytes
  have hr := B.returns
  have hts := atoms_spec (ws := (wa yX11_image cX11_image 1 (some .int))) B.pre
  have hown : s.vm.findClass RX11 = some m.cls := findClass_of_methodNamed B.named
  have hlocks := B.notSynchronized
  subst hsz
  have hD : va_D (pq_B t σ (I, J, ri, rj, rq) s.heap.size) (pq_P t σ (I, J, ri, rj, rq)) := hD0.self
  generalize hAe : pq_B t σ (I, J, ri, rj, rq) s.heap.size = A at hD ⊢
  have hA : ∀ q : Nat, s.heap.size ≤ q → A q := fun q h => by rw [← hAe]; exact Or.inr h
  have hS : va_S A s.heap s.heap [] := va_S.rf
  have hG : GX [320, 224, 1225, 1226, 1227, 1228, 1229, 1230, 1231, 1232, 1233, 234, 235, 236, 64, 65, 1069, 1070, 1073, 1074, 1075, 1288, 1079, 0, 1005, 10, 96, 98, 32, 1033, 1034] tg σ I ri rj I ri rj rq := ⟨hG0, fun _ _ _ => rfl, fun _ _ _ _ _ => rfl, fun _ _ _ _ _ => rfl⟩
  have hl := lv_entry ([.ref this]) (n := 1) (Nat.le_of_ble_eq_true rfl)
  rw [lg_entry_eq]
  generalize (lg_sl ([.ref this]) ++ List.replicate (1 - (lg_sl ([.ref this])).length) Slot.unset).toArray = ls at hl ⊢
  have hl : lv_has ls 1 [(0, .ref this)] := hl
  refine q_gen (fun Q hQ => ?_)
  have go : ∀ (H : Heap) (locs : List Loc) (ls : Array Slot), va_P D vwCl (pq_P t σ (I, J, ri, rj, rq)) H → va_D A (pq_P t σ (I, J, ri, rj, rq)) → va_S A s.heap H locs → lv_has ls 1 [(0, .ref this)] → W p l e ({ frames := 5, cells := 0, slots := 0, locals := 144 } : Room) s m (List.toArray ([.ref this] : List Value)) below meth c H locs 0 0 Q (F0 m 0 ls []) := by
    intro H locs ls hP hD hS hl
    have hVT : VT 10 σ tg this_kept := vt_10 hSH hL_this_kept hK_this_kept
    have hFr : FR 10 tg σ this_kept (I, J, ri, rj, rq) (I, J, ri, rj, rq) := fr_rf
    have hO_this_now : this_now = vo σ 10 this_now := rfl
    have hO_this_kept : this_kept = vo σ 10 this_kept := rfl
    obtain ⟨F, hF0⟩ : ∃ F, F = g_X11_image (vI 10 σ this_now I) (vJ 10 σ this_now J) (vR 10 σ this_now ri) (vL 10 σ this_now rj) (vQ 10 σ this_now rq) (vI 10 σ this_kept I) (vJ 10 σ this_kept J) (vR 10 σ this_kept ri) (vL 10 σ this_kept rj) (vQ 10 σ this_kept rq) := ⟨_, rfl⟩
    have hF := hF0.trans g_X11_image_e
    refine lv_aload_n hx hb dX11_image_0 rfl (lv_at hl 0 rfl) ?_
    refine pg_f (v := .ref this_kept) (C := RX11) (T := TX11) (N := 5) hx hb hts (tw_i inlX11) hown hK hP hL_this hK_this (by decide +kernel) rfl 1 (by decide +kernel) (hts _ (tw_c tw_17)) (pq_hv rfl hR_this_kept) dX11_image_1 ?_
    refine lv_aload_n hx hb dX11_image_4 rfl (lv_at hl 0 rfl) ?_
    refine pg_f (v := .ref this_now) (C := RX11) (T := TX11) (N := 5) hx hb hts (tw_i inlX11) hown hK hP hL_this hK_this (by decide +kernel) rfl 0 (by decide +kernel) (hts _ (tw_c tw_16)) (pq_hv rfl hR_this_now) dX11_image_5 ?_
    refine pk_v (va_runV (As := [.ref this_now]) (rest := []) ⟨hx, hb, hml, hown, hts⟩ (s_X10_copyFrom l D t σ I J ri rj rq H.size tg hSH hG.1 this_kept this_now hL_this_kept hK_this_kept hL_this_now hK_this_now hap) (cwV 1 hts (tw_V tw_1362 tw_1363 tw_1364 tw_15 tw_1365) rfl rfl rfl cv_yX10_copyFrom_1 ⟨Nat.le_of_ble_eq_true rfl, Nat.le_of_ble_eq_true rfl⟩) ⟨pq_blind, pq_recv hK hP hL_this_kept hK_this_kept (by decide +kernel) rfl, pq_pre hK hN hP hD⟩ rfl rfl hl.1 rfl (lv_room (Nat.le_of_ble_eq_true rfl)) dX11_image_8 ⟨Nat.le_of_ble_eq_true rfl, Nat.le_of_ble_eq_true rfl⟩) hD hS hA (fun σ1 μ1 H locs hw_2 hP hD hS => ?_)
    obtain ⟨I_3, J_4, ri_5, rj_6, rq_7, hu_8, hg_9, hp_11, hfn_12, hfr_13⟩ := hw_2
    obtain ⟨hu_8a, hu_8b⟩ := Prod.mk.inj hu_8
    rw [hu_8a, hu_8b] at hP hD
    replace hF := hF.trans (bv_n hfn_12)
    replace hFr := fr_tr hFr hfr_13
    have hG := GX.tr hG hg_9 (by decide +kernel)
    refine lv_aload_n hx hb dX11_image_11 rfl (lv_at hl 0 rfl) ?_
    refine pg_f (v := .ref this_now) (C := RX11) (T := TX11) (N := 5) hx hb hts (tw_i inlX11) hown hK hP hL_this hK_this (by decide +kernel) rfl 0 (by decide +kernel) (hts _ (tw_c tw_16)) (pq_hv rfl hR_this_now) dX11_image_12 ?_
    refine pg_f (v := .int (I_3 320 this_now)) (C := RX10) (T := TX10) (N := 13) hx hb hts (tw_i inlX10) hown hK hP hL_this_now hK_this_now (by decide +kernel) rfl 0 (by decide +kernel) (hts _ (tw_c tw_209)) rfl dX11_image_15 ?_
    have h_14 : rg (I_3 320 this_now) 0 600 := GX.rI hG 320 rfl
    replace hF := hF.trans (ap_n (cI_e (f := 320) hFr hap hO_this_now (by decide +kernel)))
    subst hQ
    exact W.iret (v := (I_3 320 this_now)) hx hb hr (fun t1 ht hW => ⟨⟨(I_3 320 this_now), (σ, I_3, J_4, ri_5, rj_6, rq_7), rfl, ⟨I_3, J_4, ri_5, rj_6, rq_7, rfl, hG, (hF0.symm.trans hF), hFr, (rg_w h_14 (by decide +kernel))⟩, by rw [ht]; exact hP, va_K.moved hW.alike hK, hD⟩, hS.F ht⟩) hS.2.2 dX11_image_18
  exact go _ _ _ hP hD hS hl

set_option maxRecDepth 100000 in
def g_X11_back (nI : Nat → Int32) (nJ : Nat → Int64) (nR : Nat → Nat → Int32) (nL : Nat → Nat → Int64) (nQ : Nat → Nat → Option Nat) (I : Nat → Int32) (J : Nat → Int64) (ri : Nat → Nat → Int32) (rj : Nat → Nat → Int64) (rq : Nat → Nat → Option Nat) : Int32 × vM := (bnV (g_X10_copyFrom nI nJ nR nL nQ I J ri rj rq) fun (I_3 : Nat → Int32) (J_4 : Nat → Int64) (ri_5 : Nat → Nat → Int32) (rj_6 : Nat → Nat → Int64) (rq_7 : Nat → Nat → Option Nat) => (ap1 (I_3 320) fun (y_15 : Int32) => ((y_15), I_3, J_4, ri_5, rj_6, rq_7)))
set_option maxRecDepth 100000 in
theorem g_X11_back_e {nI : Nat → Int32} {nJ : Nat → Int64} {nR : Nat → Nat → Int32} {nL : Nat → Nat → Int64} {nQ : Nat → Nat → Option Nat} {I : Nat → Int32} {J : Nat → Int64} {ri : Nat → Nat → Int32} {rj : Nat → Nat → Int64} {rq : Nat → Nat → Option Nat} : g_X11_back nI nJ nR nL nQ I J ri rj rq = (bnV (g_X10_copyFrom nI nJ nR nL nQ I J ri rj rq) fun (I_3 : Nat → Int32) (J_4 : Nat → Int64) (ri_5 : Nat → Nat → Int32) (rj_6 : Nat → Nat → Int64) (rq_7 : Nat → Nat → Option Nat) => (ap1 (I_3 320) fun (y_15 : Int32) => ((y_15), I_3, J_4, ri_5, rj_6, rq_7))) := rfl
set_option maxHeartbeats 4000000 in
set_option maxRecDepth 100000 in
theorem s_X11_back (l : Launch) (D : va_G) (t : pq_T) (σ : pq_S) (I : Nat → Nat → Int32) (J : Nat → Nat → Int64) (ri : Nat → Nat → Int32) (rj : Nat → Nat → Int64) (rq : Nat → Nat → Option Nat) (sz : Nat) (tg : Nat → Nat) (hSH : SH σ tg) (hG0 : GS tg σ I ri rq) (this : Nat) (hL_this : this ∈ σ.1) (hK_this : σ.2.1 this = 11) (this_kept : Nat) (hR_this_kept : σ.2.2.1 353 this = some this_kept) (hL_this_kept : this_kept ∈ σ.1) (hK_this_kept : σ.2.1 this_kept = 10) (this_now : Nat) (hR_this_now : σ.2.2.1 352 this = some this_now) (hL_this_now : this_now ∈ σ.1) (hK_this_now : σ.2.1 this_now = 10) (hap : AP 10 tg σ this_now this_kept) : MetI l yX11_back (wa yX11_back cX11_back 1 (some .int)) ({ frames := 5, cells := 0, slots := 0, locals := 144 }) [.ref this] D t σ (I, J, ri, rj, rq) sz 0 0 (fun (r : Int32) (u : pq_S × pq_M) => ∃ I' : Nat → Nat → Int32, ∃ J' : Nat → Nat → Int64, ∃ ri' : Nat → Nat → Int32, ∃ rj' : Nat → Nat → Int64, ∃ rq' : Nat → Nat → Option Nat, u = (σ, I', J', ri', rj', rq') ∧ GX [320, 224, 1225, 1226, 1227, 1228, 1229, 1230, 1231, 1232, 1233, 234, 235, 236, 64, 65, 1069, 1070, 1073, 1074, 1075, 1288, 1079, 0, 1005, 10, 96, 98, 32, 1033, 1034] tg σ I ri rj I' ri' rj' rq' ∧ g_X11_back (vI 10 σ this_kept I) (vJ 10 σ this_kept J) (vR 10 σ this_kept ri) (vL 10 σ this_kept rj) (vQ 10 σ this_kept rq) (vI 10 σ this_now I) (vJ 10 σ this_now J) (vR 10 σ this_now ri) (vL 10 σ this_now rj) (vQ 10 σ this_now rq) = (r, (vI 10 σ this_now I'), (vJ 10 σ this_now J'), (vR 10 σ this_now ri'), (vL 10 σ this_now rj'), (vQ 10 σ this_now rq')) ∧ FR 10 tg σ this_now (I, J, ri, rj, rq) (I', J', ri', rj', rq') ∧ rg r 0 600) := by
  refine Met.ofW (cc := cX11_back) (maxL := 1) (ret := (some .int)) (by decide +kernel) rfl ?_
  intro p e s m args below meth c s₁ B hml hv
  obtain ⟨rfl, hsz, hP, hK, hD0, hN⟩ := hv
  have hx := B.exec
  have hb := B.bytes
  have hr := B.returns
  have hts := atoms_spec (ws := (wa yX11_back cX11_back 1 (some .int))) B.pre
  have hown : s.vm.findClass RX11 = some m.cls := findClass_of_methodNamed B.named
  have hlocks := B.notSynchronized
  subst hsz
  have hD : va_D (pq_B t σ (I, J, ri, rj, rq) s.heap.size) (pq_P t σ (I, J, ri, rj, rq)) := hD0.self
  generalize hAe : pq_B t σ (I, J, ri, rj, rq) s.heap.size = A at hD ⊢
  have hA : ∀ q : Nat, s.heap.size ≤ q → A q := fun q h => by rw [← hAe]; exact Or.inr h
  have hS : va_S A s.heap s.heap [] := va_S.rf
  have hG : GX [320, 224, 1225, 1226, 1227, 1228, 1229, 1230, 1231, 1232, 1233, 234, 235, 236, 64, 65, 1069, 1070, 1073, 1074, 1075, 1288, 1079, 0, 1005, 10, 96, 98, 32, 1033, 1034] tg σ I ri rj I ri rj rq := ⟨hG0, fun _ _ _ => rfl, fun _ _ _ _ _ => rfl, fun _ _ _ _ _ => rfl⟩
  have hl := lv_entry ([.ref this]) (n := 1) (Nat.le_of_ble_eq_true rfl)
  rw [lg_entry_eq]
  generalize (lg_sl ([.ref this]) ++ List.replicate (1 - (lg_sl ([.ref this])).length) Slot.unset).toArray = ls at hl ⊢
  have hl : lv_has ls 1 [(0, .ref this)] := hl
  refine q_gen (fun Q hQ => ?_)
  have go : ∀ (H : Heap) (locs : List Loc) (ls : Array Slot), va_P D vwCl (pq_P t σ (I, J, ri, rj, rq)) H → va_D A (pq_P t σ (I, J, ri, rj, rq)) → va_S A s.heap H locs → lv_has ls 1 [(0, .ref this)] → W p l e ({ frames := 5, cells := 0, slots := 0, locals := 144 } : Room) s m (List.toArray ([.ref this] : List Value)) below meth c H locs 0 0 Q (F0 m 0 ls []) := by
    intro H locs ls hP hD hS hl
    have hVT : VT 10 σ tg this_now := vt_10 hSH hL_this_now hK_this_now
    have hFr : FR 10 tg σ this_now (I, J, ri, rj, rq) (I, J, ri, rj, rq) := fr_rf
    have hO_this_kept : this_kept = vo σ 10 this_kept := rfl
    have hO_this_now : this_now = vo σ 10 this_now := rfl
    obtain ⟨F, hF0⟩ : ∃ F, F = g_X11_back (vI 10 σ this_kept I) (vJ 10 σ this_kept J) (vR 10 σ this_kept ri) (vL 10 σ this_kept rj) (vQ 10 σ this_kept rq) (vI 10 σ this_now I) (vJ 10 σ this_now J) (vR 10 σ this_now ri) (vL 10 σ this_now rj) (vQ 10 σ this_now rq) := ⟨_, rfl⟩
    have hF := hF0.trans g_X11_back_e
    refine lv_aload_n hx hb dX11_back_0 rfl (lv_at hl 0 rfl) ?_
    refine pg_f (v := .ref this_now) (C := RX11) (T := TX11) (N := 5) hx hb hts (tw_i inlX11) hown hK hP hL_this hK_this (by decide +kernel) rfl 0 (by decide +kernel) (hts _ (tw_c tw_16)) (pq_hv rfl hR_this_now) dX11_back_1 ?_
    refine lv_aload_n hx hb dX11_back_4 rfl (lv_at hl 0 rfl) ?_
    refine pg_f (v := .ref this_kept) (C := RX11) (T := TX11) (N := 5) hx hb hts (tw_i inlX11) hown hK hP hL_this hK_this (by decide +kernel) rfl 1 (by decide +kernel) (hts _ (tw_c tw_17)) (pq_hv rfl hR_this_kept) dX11_back_5 ?_
    refine pk_v (va_runV (As := [.ref this_kept]) (rest := []) ⟨hx, hb, hml, hown, hts⟩ (s_X10_copyFrom l D t σ I J ri rj rq H.size tg hSH hG.1 this_now this_kept hL_this_now hK_this_now hL_this_kept hK_this_kept hap) (cwV 1 hts (tw_V tw_1362 tw_1363 tw_1364 tw_15 tw_1365) rfl rfl rfl cv_yX10_copyFrom_1 ⟨Nat.le_of_ble_eq_true rfl, Nat.le_of_ble_eq_true rfl⟩) ⟨pq_blind, pq_recv hK hP hL_this_now hK_this_now (by decide +kernel) rfl, pq_pre hK hN hP hD⟩ rfl rfl hl.1 rfl (lv_room (Nat.le_of_ble_eq_true rfl)) dX11_back_8 ⟨Nat.le_of_ble_eq_true rfl, Nat.le_of_ble_eq_true rfl⟩) hD hS hA (fun σ1 μ1 H locs hw_2 hP hD hS => ?_)
    obtain ⟨I_3, J_4, ri_5, rj_6, rq_7, hu_8, hg_9, hp_11, hfn_12, hfr_13⟩ := hw_2
    obtain ⟨hu_8a, hu_8b⟩ := Prod.mk.inj hu_8
    rw [hu_8a, hu_8b] at hP hD
    replace hF := hF.trans (bv_n hfn_12)
    replace hFr := fr_tr hFr hfr_13
    have hG := GX.tr hG hg_9 (by decide +kernel)
    refine lv_aload_n hx hb dX11_back_11 rfl (lv_at hl 0 rfl) ?_
    refine pg_f (v := .ref this_now) (C := RX11) (T := TX11) (N := 5) hx hb hts (tw_i inlX11) hown hK hP hL_this hK_this (by decide +kernel) rfl 0 (by decide +kernel) (hts _ (tw_c tw_16)) (pq_hv rfl hR_this_now) dX11_back_12 ?_
    refine pg_f (v := .int (I_3 320 this_now)) (C := RX10) (T := TX10) (N := 13) hx hb hts (tw_i inlX10) hown hK hP hL_this_now hK_this_now (by decide +kernel) rfl 0 (by decide +kernel) (hts _ (tw_c tw_209)) rfl dX11_back_15 ?_
    have h_14 : rg (I_3 320 this_now) 0 600 := GX.rI hG 320 rfl
    replace hF := hF.trans (ap_n (vI_e (f := 320) hO_this_now (by decide +kernel)))
    subst hQ
    exact W.iret (v := (I_3 320 this_now)) hx hb hr (fun t1 ht hW => ⟨⟨(I_3 320 this_now), (σ, I_3, J_4, ri_5, rj_6, rq_7), rfl, ⟨I_3, J_4, ri_5, rj_6, rq_7, rfl, hG, (hF0.symm.trans hF), hFr, (rg_w h_14 (by decide +kernel))⟩, by rw [ht]; exact hP, va_K.moved hW.alike hK, hD⟩, hS.F ht⟩) hS.2.2 dX11_back_18
  exact go _ _ _ hP hD hS hl
