theorem dX12_seaStands_0 : decode cX12_seaStands 0 = .ok (.iconst 0, 1) := oc_3 (by decide +kernel)
theorem dX12_seaStands_1 : decode cX12_seaStands 1 = .ok (.istore_n 3, 1) := oc_62 (by decide +kernel)
theorem dX12_seaStands_2 : decode cX12_seaStands 2 = .ok (.iconst 0, 1) := oc_3 (by decide +kernel)
theorem dX12_seaStands_3 : decode cX12_seaStands 3 = .ok (.istore 4, 2) := oc_54 (by decide +kernel)
theorem dX12_seaStands_5 : decode cX12_seaStands 5 = .ok (.iconst 0, 1) := oc_3 (by decide +kernel)
theorem dX12_seaStands_6 : decode cX12_seaStands 6 = .ok (.istore 5, 2) := oc_54 (by decide +kernel)
theorem dX12_seaStands_8 : decode cX12_seaStands 8 = .ok (.iload 5, 2) := oc_21 (by decide +kernel)
theorem dX12_seaStands_10 : decode cX12_seaStands 10 = .ok (.aload_n 0, 1) := oc_42 (by decide +kernel)
theorem dX12_seaStands_11 : decode cX12_seaStands 11 = .ok (.getfield 7, 3) := oc_180 (a := 0) (b := 7) (by decide +kernel)
theorem dX12_seaStands_14 : decode cX12_seaStands 14 = .ok (.iconst 2, 1) := oc_5 (by decide +kernel)
theorem dX12_seaStands_15 : decode cX12_seaStands 15 = .ok (.iaload, 1) := oc_46 (by decide +kernel)
theorem dX12_seaStands_16 : decode cX12_seaStands 16 = .ok (.if_icmp .ge 350, 3) := oc_162 (a := 1) (b := 94) (by decide +kernel)
theorem dX12_seaStands_366 : decode cX12_seaStands 366 = .ok (.aload_n 0, 1) := oc_42 (by decide +kernel)
theorem dX12_seaStands_367 : decode cX12_seaStands 367 = .ok (.getfield 7, 3) := oc_180 (a := 0) (b := 7) (by decide +kernel)
theorem dX12_seaStands_370 : decode cX12_seaStands 370 = .ok (.sipush 2520, 3) := oc_17 (a := 9) (b := 216) (by decide +kernel)
theorem dX12_seaStands_373 : decode cX12_seaStands 373 = .ok (.iconst 2, 1) := oc_5 (by decide +kernel)
theorem dX12_seaStands_374 : decode cX12_seaStands 374 = .ok (.iload_n 1, 1) := oc_27 (by decide +kernel)
theorem dX12_seaStands_375 : decode cX12_seaStands 375 = .ok (.imul, 1) := oc_104 (by decide +kernel)
theorem dX12_seaStands_376 : decode cX12_seaStands 376 = .ok (.iadd, 1) := oc_96 (by decide +kernel)
theorem dX12_seaStands_377 : decode cX12_seaStands 377 = .ok (.iload_n 3, 1) := oc_29 (by decide +kernel)
theorem dX12_seaStands_378 : decode cX12_seaStands 378 = .ok (.iastore, 1) := oc_79 (by decide +kernel)
theorem dX12_seaStands_379 : decode cX12_seaStands 379 = .ok (.aload_n 0, 1) := oc_42 (by decide +kernel)
theorem dX12_seaStands_380 : decode cX12_seaStands 380 = .ok (.getfield 7, 3) := oc_180 (a := 0) (b := 7) (by decide +kernel)
theorem dX12_seaStands_383 : decode cX12_seaStands 383 = .ok (.sipush 2520, 3) := oc_17 (a := 9) (b := 216) (by decide +kernel)
theorem dX12_seaStands_386 : decode cX12_seaStands 386 = .ok (.iconst 2, 1) := oc_5 (by decide +kernel)
theorem dX12_seaStands_387 : decode cX12_seaStands 387 = .ok (.iload_n 1, 1) := oc_27 (by decide +kernel)
theorem dX12_seaStands_388 : decode cX12_seaStands 388 = .ok (.imul, 1) := oc_104 (by decide +kernel)
theorem dX12_seaStands_389 : decode cX12_seaStands 389 = .ok (.iadd, 1) := oc_96 (by decide +kernel)
theorem dX12_seaStands_390 : decode cX12_seaStands 390 = .ok (.iconst 1, 1) := oc_4 (by decide +kernel)
theorem dX12_seaStands_391 : decode cX12_seaStands 391 = .ok (.iadd, 1) := oc_96 (by decide +kernel)
theorem dX12_seaStands_392 : decode cX12_seaStands 392 = .ok (.iload 4, 2) := oc_21 (by decide +kernel)
theorem dX12_seaStands_394 : decode cX12_seaStands 394 = .ok (.iastore, 1) := oc_79 (by decide +kernel)
theorem dX12_seaStands_395 : decode cX12_seaStands 395 = .ok (.return_, 1) := oc_177 (by decide +kernel)
theorem dX12_seaStands_19 : decode cX12_seaStands 19 = .ok (.bipush 100, 2) := oc_16 (a := 100) (by decide +kernel)
theorem dX12_seaStands_21 : decode cX12_seaStands 21 = .ok (.bipush 16, 2) := oc_16 (a := 16) (by decide +kernel)
theorem dX12_seaStands_23 : decode cX12_seaStands 23 = .ok (.iload 5, 2) := oc_21 (by decide +kernel)
theorem dX12_seaStands_25 : decode cX12_seaStands 25 = .ok (.imul, 1) := oc_104 (by decide +kernel)
theorem dX12_seaStands_26 : decode cX12_seaStands 26 = .ok (.iadd, 1) := oc_96 (by decide +kernel)
theorem dX12_seaStands_27 : decode cX12_seaStands 27 = .ok (.istore 6, 2) := oc_54 (by decide +kernel)
theorem dX12_seaStands_29 : decode cX12_seaStands 29 = .ok (.aload_n 0, 1) := oc_42 (by decide +kernel)
theorem dX12_seaStands_30 : decode cX12_seaStands 30 = .ok (.iload 5, 2) := oc_21 (by decide +kernel)
theorem tw_1213 : Cond.methodLink RX12 313 yX12_topOf ∈ wsL_law := sg_51 _ (List.mem_of_getElem? (i := 13) rfl)
theorem tw_1214 : Cond.instanceMethod yX12_topOf ∈ wsL_law := sg_51 _ (List.mem_of_getElem? (i := 14) rfl)
theorem tw_1215 : Cond.selects RX12 yX12_topOf yX12_topOf ∈ wsL_law := sg_51 _ (List.mem_of_getElem? (i := 15) rfl)
theorem tw_1216 : Cond.code yX12_topOf cX12_topOf 2 (some .int) ∈ wsL_law := sg_51 _ (List.mem_of_getElem? (i := 16) rfl)
theorem dX12_seaStands_32 : decode cX12_seaStands 32 = .ok (.invokevirtual 313, 3) := oc_182 (a := 1) (b := 57) (by decide +kernel)
theorem dX12_seaStands_35 : decode cX12_seaStands 35 = .ok (.iload_n 2, 1) := oc_28 (by decide +kernel)
theorem dX12_seaStands_36 : decode cX12_seaStands 36 = .ok (.aload_n 0, 1) := oc_42 (by decide +kernel)
theorem dX12_seaStands_37 : decode cX12_seaStands 37 = .ok (.iload_n 1, 1) := oc_27 (by decide +kernel)
theorem dX12_seaStands_38 : decode cX12_seaStands 38 = .ok (.iconst 1, 1) := oc_4 (by decide +kernel)
theorem dX12_seaStands_39 : decode cX12_seaStands 39 = .ok (.invokevirtual 310, 3) := oc_182 (a := 1) (b := 54) (by decide +kernel)
theorem dX12_seaStands_42 : decode cX12_seaStands 42 = .ok (.iadd, 1) := oc_96 (by decide +kernel)
theorem dX12_seaStands_51 : decode cX12_seaStands 51 = .ok (.istore 7, 2) := oc_54 (by decide +kernel)
theorem dX12_seaStands_53 : decode cX12_seaStands 53 = .ok (.aload_n 0, 1) := oc_42 (by decide +kernel)
theorem dX12_seaStands_54 : decode cX12_seaStands 54 = .ok (.iload 5, 2) := oc_21 (by decide +kernel)
theorem dX12_seaStands_56 : decode cX12_seaStands 56 = .ok (.invokevirtual 313, 3) := oc_182 (a := 1) (b := 57) (by decide +kernel)
theorem dX12_seaStands_59 : decode cX12_seaStands 59 = .ok (.iload_n 2, 1) := oc_28 (by decide +kernel)
theorem dX12_seaStands_60 : decode cX12_seaStands 60 = .ok (.aload_n 0, 1) := oc_42 (by decide +kernel)
theorem dX12_seaStands_61 : decode cX12_seaStands 61 = .ok (.iload_n 1, 1) := oc_27 (by decide +kernel)
theorem dX12_seaStands_62 : decode cX12_seaStands 62 = .ok (.iconst 0, 1) := oc_3 (by decide +kernel)
theorem dX12_seaStands_63 : decode cX12_seaStands 63 = .ok (.invokevirtual 310, 3) := oc_182 (a := 1) (b := 54) (by decide +kernel)
theorem dX12_seaStands_66 : decode cX12_seaStands 66 = .ok (.iadd, 1) := oc_96 (by decide +kernel)
theorem dX12_seaStands_75 : decode cX12_seaStands 75 = .ok (.istore 8, 2) := oc_54 (by decide +kernel)
theorem dX12_seaStands_77 : decode cX12_seaStands 77 = .ok (.aload_n 0, 1) := oc_42 (by decide +kernel)
theorem dX12_seaStands_78 : decode cX12_seaStands 78 = .ok (.getfield 7, 3) := oc_180 (a := 0) (b := 7) (by decide +kernel)
theorem dX12_seaStands_81 : decode cX12_seaStands 81 = .ok (.iload 6, 2) := oc_21 (by decide +kernel)
theorem dX12_seaStands_83 : decode cX12_seaStands 83 = .ok (.bipush 12, 2) := oc_16 (a := 12) (by decide +kernel)
theorem dX12_seaStands_85 : decode cX12_seaStands 85 = .ok (.iadd, 1) := oc_96 (by decide +kernel)
theorem dX12_seaStands_86 : decode cX12_seaStands 86 = .ok (.iload 7, 2) := oc_21 (by decide +kernel)
theorem dX12_seaStands_96 : decode cX12_seaStands 96 = .ok (.iastore, 1) := oc_79 (by decide +kernel)
theorem dX12_seaStands_97 : decode cX12_seaStands 97 = .ok (.aload_n 0, 1) := oc_42 (by decide +kernel)
theorem dX12_seaStands_98 : decode cX12_seaStands 98 = .ok (.getfield 7, 3) := oc_180 (a := 0) (b := 7) (by decide +kernel)
theorem dX12_seaStands_101 : decode cX12_seaStands 101 = .ok (.iload 6, 2) := oc_21 (by decide +kernel)
theorem dX12_seaStands_103 : decode cX12_seaStands 103 = .ok (.bipush 13, 2) := oc_16 (a := 13) (by decide +kernel)
theorem dX12_seaStands_105 : decode cX12_seaStands 105 = .ok (.iadd, 1) := oc_96 (by decide +kernel)
theorem dX12_seaStands_106 : decode cX12_seaStands 106 = .ok (.iload 8, 2) := oc_21 (by decide +kernel)
theorem dX12_seaStands_116 : decode cX12_seaStands 116 = .ok (.iastore, 1) := oc_79 (by decide +kernel)
theorem dX12_seaStands_117 : decode cX12_seaStands 117 = .ok (.aload_n 0, 1) := oc_42 (by decide +kernel)
theorem dX12_seaStands_118 : decode cX12_seaStands 118 = .ok (.getfield 7, 3) := oc_180 (a := 0) (b := 7) (by decide +kernel)
theorem dX12_seaStands_121 : decode cX12_seaStands 121 = .ok (.iload 6, 2) := oc_21 (by decide +kernel)
theorem dX12_seaStands_123 : decode cX12_seaStands 123 = .ok (.bipush 11, 2) := oc_16 (a := 11) (by decide +kernel)
theorem dX12_seaStands_125 : decode cX12_seaStands 125 = .ok (.iadd, 1) := oc_96 (by decide +kernel)
theorem dX12_seaStands_126 : decode cX12_seaStands 126 = .ok (.iload 7, 2) := oc_21 (by decide +kernel)
theorem dX12_seaStands_147 : decode cX12_seaStands 147 = .ok (.iastore, 1) := oc_79 (by decide +kernel)
theorem dX12_seaStands_148 : decode cX12_seaStands 148 = .ok (.iload 8, 2) := oc_21 (by decide +kernel)
theorem dX12_seaStands_167 : decode cX12_seaStands 167 = .ok (.iload 8, 2) := oc_21 (by decide +kernel)
theorem dX12_seaStands_191 : decode cX12_seaStands 191 = .ok (.iload 7, 2) := oc_21 (by decide +kernel)
theorem dX12_seaStands_207 : decode cX12_seaStands 207 = .ok (.aload_n 0, 1) := oc_42 (by decide +kernel)
theorem dX12_seaStands_208 : decode cX12_seaStands 208 = .ok (.getfield 7, 3) := oc_180 (a := 0) (b := 7) (by decide +kernel)
theorem dX12_seaStands_211 : decode cX12_seaStands 211 = .ok (.iload 6, 2) := oc_21 (by decide +kernel)
theorem dX12_seaStands_213 : decode cX12_seaStands 213 = .ok (.bipush 8, 2) := oc_16 (a := 8) (by decide +kernel)
theorem dX12_seaStands_215 : decode cX12_seaStands 215 = .ok (.iadd, 1) := oc_96 (by decide +kernel)
theorem dX12_seaStands_216 : decode cX12_seaStands 216 = .ok (.iaload, 1) := oc_46 (by decide +kernel)
theorem dX12_seaStands_360 : decode cX12_seaStands 360 = .ok (.iinc 5 1, 3) := oc_132 (b := 1) (by decide +kernel)
theorem dX12_seaStands_363 : decode cX12_seaStands 363 = .ok (.goto (-355), 3) := oc_167 (a := 254) (b := 157) (by decide +kernel)
theorem dX12_seaStands_217 : decode cX12_seaStands 217 = .ok (.ifCond .ne 6, 3) := oc_154 (a := 0) (b := 6) (by decide +kernel)
theorem dX12_seaStands_223 : decode cX12_seaStands 223 = .ok (.iload 7, 2) := oc_21 (by decide +kernel)
theorem dX12_seaStands_225 : decode cX12_seaStands 225 = .ok (.ifCond .eq 92, 3) := oc_153 (a := 0) (b := 92) (by decide +kernel)
theorem dX12_seaStands_317 : decode cX12_seaStands 317 = .ok (.aload_n 0, 1) := oc_42 (by decide +kernel)
theorem dX12_seaStands_318 : decode cX12_seaStands 318 = .ok (.getfield 7, 3) := oc_180 (a := 0) (b := 7) (by decide +kernel)
theorem dX12_seaStands_321 : decode cX12_seaStands 321 = .ok (.iload 6, 2) := oc_21 (by decide +kernel)
theorem dX12_seaStands_323 : decode cX12_seaStands 323 = .ok (.bipush 10, 2) := oc_16 (a := 10) (by decide +kernel)
theorem dX12_seaStands_325 : decode cX12_seaStands 325 = .ok (.iadd, 1) := oc_96 (by decide +kernel)
theorem dX12_seaStands_326 : decode cX12_seaStands 326 = .ok (.aload_n 0, 1) := oc_42 (by decide +kernel)
theorem dX12_seaStands_327 : decode cX12_seaStands 327 = .ok (.getfield 7, 3) := oc_180 (a := 0) (b := 7) (by decide +kernel)
theorem dX12_seaStands_330 : decode cX12_seaStands 330 = .ok (.iload 6, 2) := oc_21 (by decide +kernel)
theorem dX12_seaStands_332 : decode cX12_seaStands 332 = .ok (.bipush 10, 2) := oc_16 (a := 10) (by decide +kernel)
theorem dX12_seaStands_334 : decode cX12_seaStands 334 = .ok (.iadd, 1) := oc_96 (by decide +kernel)
theorem dX12_seaStands_335 : decode cX12_seaStands 335 = .ok (.iaload, 1) := oc_46 (by decide +kernel)
theorem dX12_seaStands_336 : decode cX12_seaStands 336 = .ok (.bipush 90, 2) := oc_16 (a := 90) (by decide +kernel)
theorem dX12_seaStands_359 : decode cX12_seaStands 359 = .ok (.iastore, 1) := oc_79 (by decide +kernel)
theorem dX12_seaStands_338 : decode cX12_seaStands 338 = .ok (.if_icmp .le 8, 3) := oc_164 (a := 0) (b := 8) (by decide +kernel)
theorem dX12_seaStands_346 : decode cX12_seaStands 346 = .ok (.aload_n 0, 1) := oc_42 (by decide +kernel)
theorem dX12_seaStands_347 : decode cX12_seaStands 347 = .ok (.getfield 7, 3) := oc_180 (a := 0) (b := 7) (by decide +kernel)
theorem dX12_seaStands_350 : decode cX12_seaStands 350 = .ok (.iload 6, 2) := oc_21 (by decide +kernel)
theorem dX12_seaStands_352 : decode cX12_seaStands 352 = .ok (.bipush 10, 2) := oc_16 (a := 10) (by decide +kernel)
theorem dX12_seaStands_354 : decode cX12_seaStands 354 = .ok (.iadd, 1) := oc_96 (by decide +kernel)
theorem dX12_seaStands_355 : decode cX12_seaStands 355 = .ok (.iaload, 1) := oc_46 (by decide +kernel)
theorem dX12_seaStands_356 : decode cX12_seaStands 356 = .ok (.bipush 10, 2) := oc_16 (a := 10) (by decide +kernel)
theorem dX12_seaStands_358 : decode cX12_seaStands 358 = .ok (.iadd, 1) := oc_96 (by decide +kernel)
theorem dX12_seaStands_341 : decode cX12_seaStands 341 = .ok (.bipush 100, 2) := oc_16 (a := 100) (by decide +kernel)
theorem dX12_seaStands_343 : decode cX12_seaStands 343 = .ok (.goto 16, 3) := oc_167 (a := 0) (b := 16) (by decide +kernel)
theorem dX12_seaStands_220 : decode cX12_seaStands 220 = .ok (.goto 140, 3) := oc_167 (a := 0) (b := 140) (by decide +kernel)
theorem dX12_seaStands_193 : decode cX12_seaStands 193 = .ok (.ifCond .ne 14, 3) := oc_154 (a := 0) (b := 14) (by decide +kernel)
theorem dX12_seaStands_196 : decode cX12_seaStands 196 = .ok (.aload_n 0, 1) := oc_42 (by decide +kernel)
theorem dX12_seaStands_197 : decode cX12_seaStands 197 = .ok (.getfield 7, 3) := oc_180 (a := 0) (b := 7) (by decide +kernel)
theorem dX12_seaStands_200 : decode cX12_seaStands 200 = .ok (.iload 6, 2) := oc_21 (by decide +kernel)
theorem dX12_seaStands_202 : decode cX12_seaStands 202 = .ok (.bipush 7, 2) := oc_16 (a := 7) (by decide +kernel)
theorem dX12_seaStands_204 : decode cX12_seaStands 204 = .ok (.iadd, 1) := oc_96 (by decide +kernel)
theorem dX12_seaStands_205 : decode cX12_seaStands 205 = .ok (.iconst 0, 1) := oc_3 (by decide +kernel)
theorem dX12_seaStands_206 : decode cX12_seaStands 206 = .ok (.iastore, 1) := oc_79 (by decide +kernel)
theorem dX12_seaStands_169 : decode cX12_seaStands 169 = .ok (.ifCond .eq 22, 3) := oc_153 (a := 0) (b := 22) (by decide +kernel)
theorem dX12_seaStands_150 : decode cX12_seaStands 150 = .ok (.ifCond .eq 17, 3) := oc_153 (a := 0) (b := 17) (by decide +kernel)
theorem dX12_seaStands_128 : decode cX12_seaStands 128 = .ok (.ifCond .eq 7, 3) := oc_153 (a := 0) (b := 7) (by decide +kernel)
theorem dX12_seaStands_135 : decode cX12_seaStands 135 = .ok (.aload_n 0, 1) := oc_42 (by decide +kernel)
theorem dX12_seaStands_136 : decode cX12_seaStands 136 = .ok (.getfield 7, 3) := oc_180 (a := 0) (b := 7) (by decide +kernel)
theorem dX12_seaStands_139 : decode cX12_seaStands 139 = .ok (.iload 6, 2) := oc_21 (by decide +kernel)
theorem dX12_seaStands_141 : decode cX12_seaStands 141 = .ok (.bipush 11, 2) := oc_16 (a := 11) (by decide +kernel)
theorem dX12_seaStands_143 : decode cX12_seaStands 143 = .ok (.iadd, 1) := oc_96 (by decide +kernel)
theorem dX12_seaStands_144 : decode cX12_seaStands 144 = .ok (.iaload, 1) := oc_46 (by decide +kernel)
theorem dX12_seaStands_145 : decode cX12_seaStands 145 = .ok (.iconst 1, 1) := oc_4 (by decide +kernel)
theorem dX12_seaStands_146 : decode cX12_seaStands 146 = .ok (.iadd, 1) := oc_96 (by decide +kernel)
theorem dX12_seaStands_108 : decode cX12_seaStands 108 = .ok (.ifCond .eq 7, 3) := oc_153 (a := 0) (b := 7) (by decide +kernel)
theorem dX12_seaStands_115 : decode cX12_seaStands 115 = .ok (.iconst 0, 1) := oc_3 (by decide +kernel)
theorem dX12_seaStands_88 : decode cX12_seaStands 88 = .ok (.ifCond .eq 7, 3) := oc_153 (a := 0) (b := 7) (by decide +kernel)
theorem dX12_seaStands_95 : decode cX12_seaStands 95 = .ok (.iconst 0, 1) := oc_3 (by decide +kernel)
theorem dX12_seaStands_172 : decode cX12_seaStands 172 = .ok (.iload 5, 2) := oc_21 (by decide +kernel)
theorem dX12_seaStands_174 : decode cX12_seaStands 174 = .ok (.bipush 20, 2) := oc_16 (a := 20) (by decide +kernel)
theorem dX12_seaStands_176 : decode cX12_seaStands 176 = .ok (.if_icmp .lt 15, 3) := oc_161 (a := 0) (b := 15) (by decide +kernel)
theorem dX12_seaStands_179 : decode cX12_seaStands 179 = .ok (.iload 4, 2) := oc_21 (by decide +kernel)
theorem dX12_seaStands_181 : decode cX12_seaStands 181 = .ok (.iconst 1, 1) := oc_4 (by decide +kernel)
theorem dX12_seaStands_182 : decode cX12_seaStands 182 = .ok (.iload 5, 2) := oc_21 (by decide +kernel)
theorem dX12_seaStands_184 : decode cX12_seaStands 184 = .ok (.bipush 20, 2) := oc_16 (a := 20) (by decide +kernel)
theorem dX12_seaStands_186 : decode cX12_seaStands 186 = .ok (.isub, 1) := oc_100 (by decide +kernel)
theorem dX12_seaStands_187 : decode cX12_seaStands 187 = .ok (.ishl, 1) := oc_120 (by decide +kernel)
theorem dX12_seaStands_188 : decode cX12_seaStands 188 = .ok (.ior, 1) := oc_128 (by decide +kernel)
theorem dX12_seaStands_189 : decode cX12_seaStands 189 = .ok (.istore 4, 2) := oc_54 (by decide +kernel)
theorem dX12_seaStands_153 : decode cX12_seaStands 153 = .ok (.iload 5, 2) := oc_21 (by decide +kernel)
theorem dX12_seaStands_155 : decode cX12_seaStands 155 = .ok (.bipush 20, 2) := oc_16 (a := 20) (by decide +kernel)
theorem dX12_seaStands_157 : decode cX12_seaStands 157 = .ok (.if_icmp .ge 10, 3) := oc_162 (a := 0) (b := 10) (by decide +kernel)
theorem dX12_seaStands_160 : decode cX12_seaStands 160 = .ok (.iload_n 3, 1) := oc_29 (by decide +kernel)
theorem dX12_seaStands_161 : decode cX12_seaStands 161 = .ok (.iconst 1, 1) := oc_4 (by decide +kernel)
theorem dX12_seaStands_162 : decode cX12_seaStands 162 = .ok (.iload 5, 2) := oc_21 (by decide +kernel)
theorem dX12_seaStands_164 : decode cX12_seaStands 164 = .ok (.ishl, 1) := oc_120 (by decide +kernel)
theorem dX12_seaStands_165 : decode cX12_seaStands 165 = .ok (.ior, 1) := oc_128 (by decide +kernel)
theorem dX12_seaStands_166 : decode cX12_seaStands 166 = .ok (.istore_n 3, 1) := oc_62 (by decide +kernel)
theorem dX12_seaStands_111 : decode cX12_seaStands 111 = .ok (.iconst 1, 1) := oc_4 (by decide +kernel)
theorem dX12_seaStands_112 : decode cX12_seaStands 112 = .ok (.goto 4, 3) := oc_167 (a := 0) (b := 4) (by decide +kernel)
theorem dX12_seaStands_67 : decode cX12_seaStands 67 = .ok (.if_icmp .le 7, 3) := oc_164 (a := 0) (b := 7) (by decide +kernel)
theorem dX12_seaStands_74 : decode cX12_seaStands 74 = .ok (.iconst 0, 1) := oc_3 (by decide +kernel)
theorem dX12_seaStands_70 : decode cX12_seaStands 70 = .ok (.iconst 1, 1) := oc_4 (by decide +kernel)
theorem dX12_seaStands_71 : decode cX12_seaStands 71 = .ok (.goto 4, 3) := oc_167 (a := 0) (b := 4) (by decide +kernel)
theorem dX12_seaStands_228 : decode cX12_seaStands 228 = .ok (.aload_n 0, 1) := oc_42 (by decide +kernel)
theorem dX12_seaStands_229 : decode cX12_seaStands 229 = .ok (.getfield 7, 3) := oc_180 (a := 0) (b := 7) (by decide +kernel)
theorem dX12_seaStands_232 : decode cX12_seaStands 232 = .ok (.iload 6, 2) := oc_21 (by decide +kernel)
theorem dX12_seaStands_234 : decode cX12_seaStands 234 = .ok (.bipush 9, 2) := oc_16 (a := 9) (by decide +kernel)
theorem dX12_seaStands_236 : decode cX12_seaStands 236 = .ok (.iadd, 1) := oc_96 (by decide +kernel)
theorem dX12_seaStands_237 : decode cX12_seaStands 237 = .ok (.dup2, 1) := oc_92 (by decide +kernel)
theorem dX12_seaStands_238 : decode cX12_seaStands 238 = .ok (.iaload, 1) := oc_46 (by decide +kernel)
theorem dX12_seaStands_239 : decode cX12_seaStands 239 = .ok (.aload_n 0, 1) := oc_42 (by decide +kernel)
theorem dX12_seaStands_240 : decode cX12_seaStands 240 = .ok (.iload_n 1, 1) := oc_27 (by decide +kernel)
theorem dX12_seaStands_241 : decode cX12_seaStands 241 = .ok (.iconst 4, 1) := oc_7 (by decide +kernel)
theorem dX12_seaStands_242 : decode cX12_seaStands 242 = .ok (.invokevirtual 310, 3) := oc_182 (a := 1) (b := 54) (by decide +kernel)
theorem dX12_seaStands_245 : decode cX12_seaStands 245 = .ok (.aload_n 0, 1) := oc_42 (by decide +kernel)
theorem dX12_seaStands_246 : decode cX12_seaStands 246 = .ok (.getfield 7, 3) := oc_180 (a := 0) (b := 7) (by decide +kernel)
theorem dX12_seaStands_249 : decode cX12_seaStands 249 = .ok (.iload 6, 2) := oc_21 (by decide +kernel)
theorem dX12_seaStands_251 : decode cX12_seaStands 251 = .ok (.bipush 8, 2) := oc_16 (a := 8) (by decide +kernel)
theorem dX12_seaStands_253 : decode cX12_seaStands 253 = .ok (.iadd, 1) := oc_96 (by decide +kernel)
theorem dX12_seaStands_254 : decode cX12_seaStands 254 = .ok (.iaload, 1) := oc_46 (by decide +kernel)
theorem dX12_seaStands_255 : decode cX12_seaStands 255 = .ok (.imul, 1) := oc_104 (by decide +kernel)
theorem dX12_seaStands_256 : decode cX12_seaStands 256 = .ok (.iadd, 1) := oc_96 (by decide +kernel)
theorem dX12_seaStands_257 : decode cX12_seaStands 257 = .ok (.iastore, 1) := oc_79 (by decide +kernel)
theorem dX12_seaStands_258 : decode cX12_seaStands 258 = .ok (.aload_n 0, 1) := oc_42 (by decide +kernel)
theorem dX12_seaStands_259 : decode cX12_seaStands 259 = .ok (.getfield 7, 3) := oc_180 (a := 0) (b := 7) (by decide +kernel)
theorem dX12_seaStands_262 : decode cX12_seaStands 262 = .ok (.iload 6, 2) := oc_21 (by decide +kernel)
theorem dX12_seaStands_264 : decode cX12_seaStands 264 = .ok (.bipush 9, 2) := oc_16 (a := 9) (by decide +kernel)
theorem dX12_seaStands_266 : decode cX12_seaStands 266 = .ok (.iadd, 1) := oc_96 (by decide +kernel)
theorem dX12_seaStands_267 : decode cX12_seaStands 267 = .ok (.iaload, 1) := oc_46 (by decide +kernel)
theorem dX12_seaStands_268 : decode cX12_seaStands 268 = .ok (.sipush 10000, 3) := oc_17 (a := 39) (b := 16) (by decide +kernel)
theorem dX12_seaStands_287 : decode cX12_seaStands 287 = .ok (.aload_n 0, 1) := oc_42 (by decide +kernel)
theorem dX12_seaStands_288 : decode cX12_seaStands 288 = .ok (.getfield 7, 3) := oc_180 (a := 0) (b := 7) (by decide +kernel)
theorem dX12_seaStands_291 : decode cX12_seaStands 291 = .ok (.iload 6, 2) := oc_21 (by decide +kernel)
theorem dX12_seaStands_293 : decode cX12_seaStands 293 = .ok (.bipush 10, 2) := oc_16 (a := 10) (by decide +kernel)
theorem dX12_seaStands_295 : decode cX12_seaStands 295 = .ok (.iadd, 1) := oc_96 (by decide +kernel)
theorem dX12_seaStands_296 : decode cX12_seaStands 296 = .ok (.iaload, 1) := oc_46 (by decide +kernel)
theorem dX12_seaStands_297 : decode cX12_seaStands 297 = .ok (.ifCond .le 63, 3) := oc_158 (a := 0) (b := 63) (by decide +kernel)
theorem dX12_seaStands_300 : decode cX12_seaStands 300 = .ok (.aload_n 0, 1) := oc_42 (by decide +kernel)
theorem dX12_seaStands_301 : decode cX12_seaStands 301 = .ok (.getfield 7, 3) := oc_180 (a := 0) (b := 7) (by decide +kernel)
theorem dX12_seaStands_304 : decode cX12_seaStands 304 = .ok (.iload 6, 2) := oc_21 (by decide +kernel)
theorem dX12_seaStands_306 : decode cX12_seaStands 306 = .ok (.bipush 10, 2) := oc_16 (a := 10) (by decide +kernel)
theorem dX12_seaStands_308 : decode cX12_seaStands 308 = .ok (.iadd, 1) := oc_96 (by decide +kernel)
theorem dX12_seaStands_309 : decode cX12_seaStands 309 = .ok (.dup2, 1) := oc_92 (by decide +kernel)
theorem dX12_seaStands_310 : decode cX12_seaStands 310 = .ok (.iaload, 1) := oc_46 (by decide +kernel)
theorem dX12_seaStands_311 : decode cX12_seaStands 311 = .ok (.iconst 1, 1) := oc_4 (by decide +kernel)
theorem dX12_seaStands_312 : decode cX12_seaStands 312 = .ok (.isub, 1) := oc_100 (by decide +kernel)
theorem dX12_seaStands_313 : decode cX12_seaStands 313 = .ok (.iastore, 1) := oc_79 (by decide +kernel)
theorem dX12_seaStands_314 : decode cX12_seaStands 314 = .ok (.goto 46, 3) := oc_167 (a := 0) (b := 46) (by decide +kernel)
theorem dX12_seaStands_271 : decode cX12_seaStands 271 = .ok (.if_icmp .le 16, 3) := oc_164 (a := 0) (b := 16) (by decide +kernel)
theorem dX12_seaStands_274 : decode cX12_seaStands 274 = .ok (.aload_n 0, 1) := oc_42 (by decide +kernel)
theorem dX12_seaStands_275 : decode cX12_seaStands 275 = .ok (.getfield 7, 3) := oc_180 (a := 0) (b := 7) (by decide +kernel)
theorem dX12_seaStands_278 : decode cX12_seaStands 278 = .ok (.iload 6, 2) := oc_21 (by decide +kernel)
theorem dX12_seaStands_280 : decode cX12_seaStands 280 = .ok (.bipush 9, 2) := oc_16 (a := 9) (by decide +kernel)
theorem dX12_seaStands_282 : decode cX12_seaStands 282 = .ok (.iadd, 1) := oc_96 (by decide +kernel)
theorem dX12_seaStands_283 : decode cX12_seaStands 283 = .ok (.sipush 10000, 3) := oc_17 (a := 39) (b := 16) (by decide +kernel)
theorem dX12_seaStands_286 : decode cX12_seaStands 286 = .ok (.iastore, 1) := oc_79 (by decide +kernel)
theorem dX12_seaStands_131 : decode cX12_seaStands 131 = .ok (.iconst 0, 1) := oc_3 (by decide +kernel)
theorem dX12_seaStands_132 : decode cX12_seaStands 132 = .ok (.goto 15, 3) := oc_167 (a := 0) (b := 15) (by decide +kernel)
theorem dX12_seaStands_91 : decode cX12_seaStands 91 = .ok (.iconst 1, 1) := oc_4 (by decide +kernel)
theorem dX12_seaStands_92 : decode cX12_seaStands 92 = .ok (.goto 4, 3) := oc_167 (a := 0) (b := 4) (by decide +kernel)
theorem dX12_seaStands_43 : decode cX12_seaStands 43 = .ok (.if_icmp .le 7, 3) := oc_164 (a := 0) (b := 7) (by decide +kernel)
theorem dX12_seaStands_50 : decode cX12_seaStands 50 = .ok (.iconst 0, 1) := oc_3 (by decide +kernel)
theorem dX12_seaStands_46 : decode cX12_seaStands 46 = .ok (.iconst 1, 1) := oc_4 (by decide +kernel)
theorem dX12_seaStands_47 : decode cX12_seaStands 47 = .ok (.goto 4, 3) := oc_167 (a := 0) (b := 4) (by decide +kernel)
set_option maxRecDepth 100000 in
def g_X12_tableAt_c1 (a0 : Int32) (I : Nat → Int32) (J : Nat → Int64) (ri : Nat → Nat → Int32) (rj : Nat → Nat → Int64) (rq : Nat → Nat → Option Nat) : Int32 × vM := (ap1 (a0 - a0 / (12 : Int32) * (12 : Int32)) fun (x_2 : Int32) => (ap1 ((5 : Int32) * x_2) fun (x_4 : Int32) => (ap1 ((20 : Int32) + x_4) fun (x_6 : Int32) => (ap1 (x_6 + (1 : Int32)) fun (x_8 : Int32) => (ap1 (ri 384 (x_8).toNatClampNeg) fun (x_10 : Int32) => (x_10, I, J, ri, rj, rq))))))
set_option maxRecDepth 100000 in
theorem g_X12_tableAt_c1_e {a0 : Int32} {I : Nat → Int32} {J : Nat → Int64} {ri : Nat → Nat → Int32} {rj : Nat → Nat → Int64} {rq : Nat → Nat → Option Nat} : g_X12_tableAt_c1 a0 I J ri rj rq = (ap1 (a0 - a0 / (12 : Int32) * (12 : Int32)) fun (x_2 : Int32) => (ap1 ((5 : Int32) * x_2) fun (x_4 : Int32) => (ap1 ((20 : Int32) + x_4) fun (x_6 : Int32) => (ap1 (x_6 + (1 : Int32)) fun (x_8 : Int32) => (ap1 (ri 384 (x_8).toNatClampNeg) fun (x_10 : Int32) => (x_10, I, J, ri, rj, rq)))))) := rfl
set_option maxHeartbeats 4000000 in
set_option maxRecDepth 100000 in
theorem s_X12_tableAt_c1 (l : Launch) (D : va_G) (t : pq_T) (σ : pq_S) (I : Nat → Nat → Int32) (J : Nat → Nat → Int64) (ri : Nat → Nat → Int32) (rj : Nat → Nat → Int64) (rq : Nat → Nat → Option Nat) (sz : Nat) (tg : Nat → Nat) (hSH : SH σ tg) (hG0 : GT tg I ri) (this : Nat) (a0 : Int32) (hL_this : this ∈ σ.1) (hK_this : σ.2.1 this = 12) (h_a0 : rg a0 0 600) : MetI l yX12_tableAt (wa yX12_tableAt cX12_tableAt 3 (some .int)) ({ frames := 0, cells := 0, slots := 0, locals := 0 }) [.ref this, .int a0, .int 1] D t σ (I, J, ri, rj, rq) sz 0 0 (fun (r : Int32) (u : pq_S × pq_M) => u = (σ, I, J, ri, rj, rq) ∧ g_X12_tableAt_c1 a0 (vI 12 σ this I) (vJ 12 σ this J) (vR 12 σ this ri) (vL 12 σ this rj) (vQ 12 σ this rq) = (r, (vI 12 σ this I), (vJ 12 σ this J), (vR 12 σ this ri), (vL 12 σ this rj), (vQ 12 σ this rq))) := by
  refine Met.ofW (cc := cX12_tableAt) (maxL := 3) (ret := (some .int)) (by decide +kernel) rfl ?_
  intro p e s m args below meth c s₁ B hml hv
  obtain ⟨rfl, hsz, hP, hK, hD0, hN⟩ := hv
  have hx := B.exec
  have hb := B.bytes
  have hr := B.returns
  have hts := atoms_spec (ws := (wa yX12_tableAt cX12_tableAt 3 (some .int))) B.pre
  have hown : s.vm.findClass RX12 = some m.cls := findClass_of_methodNamed B.named
  have hlocks := B.notSynchronized
  subst hsz
  have hD : va_D (pq_B t σ (I, J, ri, rj, rq) s.heap.size) (pq_P t σ (I, J, ri, rj, rq)) := hD0.self
  generalize hAe : pq_B t σ (I, J, ri, rj, rq) s.heap.size = A at hD ⊢
  have hA : ∀ q : Nat, s.heap.size ≤ q → A q := fun q h => by rw [← hAe]; exact Or.inr h
  have hS : va_S A s.heap s.heap [] := va_S.rf
  have hG : GM [] tg σ I ri I ri rq := ⟨hG0, fun _ _ _ => rfl, fun _ _ _ _ _ => rfl, fun _ _ _ _ _ _ => rfl⟩
  have hl := lv_entry ([.ref this, .int a0, .int 1]) (n := 3) (Nat.le_of_ble_eq_true rfl)
  rw [lg_entry_eq]
  generalize (lg_sl ([.ref this, .int a0, .int 1]) ++ List.replicate (3 - (lg_sl ([.ref this, .int a0, .int 1])).length) Slot.unset).toArray = ls at hl ⊢
  have hl : lv_has ls 3 [(0, .ref this), (1, .int a0), (2, .int 1)] := hl
  refine q_gen (fun Q hQ => ?_)
  have go : ∀ (H : Heap) (locs : List Loc) (ls : Array Slot), va_P D vwCl (pq_P t σ (I, J, ri, rj, rq)) H → va_D A (pq_P t σ (I, J, ri, rj, rq)) → va_S A s.heap H locs → lv_has ls 3 [(0, .ref this), (1, .int a0), (2, .int 1)] → W p l e ({ frames := 0, cells := 0, slots := 0, locals := 0 } : Room) s m (List.toArray ([.ref this, .int a0, .int 1] : List Value)) below meth c H locs 0 0 Q (F0 m 0 ls []) := by
    intro H locs ls hP hD hS hl
    have hO_this : this = vo σ 12 this := rfl
    have hVT : VT 12 σ tg this := vt_12 hSH hL_this hK_this
    have hFr : FR 12 tg σ this (I, J, ri, rj, rq) (I, J, ri, rj, rq) := fr_rf
    obtain ⟨F, hF0⟩ : ∃ F, F = g_X12_tableAt_c1 a0 (vI 12 σ this I) (vJ 12 σ this J) (vR 12 σ this ri) (vL 12 σ this rj) (vQ 12 σ this rq) := ⟨_, rfl⟩
    have hF := hF0.trans g_X12_tableAt_c1_e
    refine lv_aload_n hx hb dX12_tableAt_0 rfl (lv_at hl 0 rfl) ?_
    obtain ⟨w_1, hR_w_1, hL_w_1, hK_w_1, hN_w_1, hT_w_1⟩ := sh_a hSH 384 (ci := 12) (kd := 13) (len := 12720) rfl (by decide +kernel) hL_this hK_this
    have hO_w_1 : w_1 = vrow σ 384 this := vo_k (c := 12) hO_this hR_w_1
    refine pg_f (v := .ref w_1) (C := RX12) (T := TX12) (N := 31) hx hb hts (tw_i inlX12) hown hK hP hL_this hK_this (by decide +kernel) rfl 0 (by decide +kernel) (hts _ (tw_c tw_176)) (pq_hv rfl hR_w_1) dX12_tableAt_1 ?_
    refine lv_bipush (v := 20) hx hb dX12_tableAt_4 (by decide +kernel) ?_
    refine lv_iconst (v := 5) hx hb dX12_tableAt_6 (by decide +kernel) ?_
    refine lv_iload_n hx hb dX12_tableAt_7 rfl (lv_at hl 1 rfl) ?_
    refine lv_bipush (v := 12) hx hb dX12_tableAt_8 (by decide +kernel) ?_
    refine lv_irem hx hb dX12_tableAt_10 (by decide +kernel) ?_
    refine lv_topi (fun x_2 ex_2 => ?_)
    replace hF := hF.trans (ap_n ex_2)
    have h_3 : rg x_2 0 11 := rg_of_eq ex_2 (rg_rem h_a0 rfl (by decide +kernel))
    have uh_3 := h_3.1
    have vh_3 := h_3.2
    refine lv_imul hx hb dX12_tableAt_11 ?_
    refine lv_topi (fun x_4 ex_4 => ?_)
    replace hF := hF.trans (ap_n ex_4)
    have h_5 : rg x_4 0 55 := rg_of_eq ex_4 (rg_mul (rg_k (5 : Int32) 5 rfl) h_3 (by decide +kernel))
    have uh_5 := h_5.1
    have vh_5 := h_5.2
    have tx_4 : (x_4).toInt = 5 * (x_2).toInt := by rw [ex_4]; exact i_mul_rg (a2 := 5) (b2 := (x_2).toInt) rfl rfl (rg_k (5 : Int32) 5 rfl) h_3 (by decide +kernel)
    refine lv_iadd hx hb dX12_tableAt_12 ?_
    refine lv_topi (fun x_6 ex_6 => ?_)
    replace hF := hF.trans (ap_n ex_6)
    have h_7 : rg x_6 20 75 := rg_of_eq ex_6 (rg_add (rg_k (20 : Int32) 20 rfl) h_5 (by decide +kernel))
    have uh_7 := h_7.1
    have vh_7 := h_7.2
    have tx_6 : (x_6).toInt = 20 + (x_4).toInt := by rw [ex_6]; exact i_add_rg (a2 := 20) (b2 := (x_4).toInt) rfl rfl (rg_k (20 : Int32) 20 rfl) h_5 (by decide +kernel)
    refine lv_iload_n hx hb dX12_tableAt_13 rfl (lv_at hl 2 rfl) ?_
    refine lv_iadd hx hb dX12_tableAt_14 ?_
    refine lv_topi (fun x_8 ex_8 => ?_)
    replace hF := hF.trans (ap_n ex_8)
    have h_9 : rg x_8 21 76 := rg_of_eq ex_8 (rg_add h_7 (rg_k (1 : Int32) 1 rfl) (by decide +kernel))
    have uh_9 := h_9.1
    have vh_9 := h_9.2
    have tx_8 : (x_8).toInt = (x_6).toInt + 1 := by rw [ex_8]; exact i_add_rg (a2 := (x_6).toInt) (b2 := 1) rfl rfl h_7 (rg_k (1 : Int32) 1 rfl) (by decide +kernel)
    refine pl_i hx hb hK hP hL_w_1 hK_w_1 hN_w_1 (rg_in h_9 (by decide +kernel)) dX12_tableAt_15 ?_
    refine lv_topi (fun x_10 ex_10 => ?_)
    replace hF := hF.trans (ap_n (vR_r hO_w_1 (by decide +kernel) ex_10))
    subst hQ
    exact W.iret (v := x_10) hx hb hr (fun t1 ht hW => ⟨⟨x_10, (σ, I, J, ri, rj, rq), rfl, ⟨rfl, (hF0.symm.trans hF)⟩, by rw [ht]; exact hP, va_K.moved hW.alike hK, hD⟩, hS.F ht⟩) hS.2.2 dX12_tableAt_16
  exact go _ _ _ hP hD hS hl

set_option maxRecDepth 100000 in
def g_X12_tableAt_c0 (a0 : Int32) (I : Nat → Int32) (J : Nat → Int64) (ri : Nat → Nat → Int32) (rj : Nat → Nat → Int64) (rq : Nat → Nat → Option Nat) : Int32 × vM := (ap1 (a0 - a0 / (12 : Int32) * (12 : Int32)) fun (x_2 : Int32) => (ap1 ((5 : Int32) * x_2) fun (x_4 : Int32) => (ap1 ((20 : Int32) + x_4) fun (x_6 : Int32) => (ap1 (x_6 + (0 : Int32)) fun (x_8 : Int32) => (ap1 (ri 384 (x_8).toNatClampNeg) fun (x_10 : Int32) => (x_10, I, J, ri, rj, rq))))))
set_option maxRecDepth 100000 in
theorem g_X12_tableAt_c0_e {a0 : Int32} {I : Nat → Int32} {J : Nat → Int64} {ri : Nat → Nat → Int32} {rj : Nat → Nat → Int64} {rq : Nat → Nat → Option Nat} : g_X12_tableAt_c0 a0 I J ri rj rq = (ap1 (a0 - a0 / (12 : Int32) * (12 : Int32)) fun (x_2 : Int32) => (ap1 ((5 : Int32) * x_2) fun (x_4 : Int32) => (ap1 ((20 : Int32) + x_4) fun (x_6 : Int32) => (ap1 (x_6 + (0 : Int32)) fun (x_8 : Int32) => (ap1 (ri 384 (x_8).toNatClampNeg) fun (x_10 : Int32) => (x_10, I, J, ri, rj, rq)))))) := rfl
set_option maxHeartbeats 4000000 in
set_option maxRecDepth 100000 in
theorem s_X12_tableAt_c0 (l : Launch) (D : va_G) (t : pq_T) (σ : pq_S) (I : Nat → Nat → Int32) (J : Nat → Nat → Int64) (ri : Nat → Nat → Int32) (rj : Nat → Nat → Int64) (rq : Nat → Nat → Option Nat) (sz : Nat) (tg : Nat → Nat) (hSH : SH σ tg) (hG0 : GT tg I ri) (this : Nat) (a0 : Int32) (hL_this : this ∈ σ.1) (hK_this : σ.2.1 this = 12) (h_a0 : rg a0 0 600) : MetI l yX12_tableAt (wa yX12_tableAt cX12_tableAt 3 (some .int)) ({ frames := 0, cells := 0, slots := 0, locals := 0 }) [.ref this, .int a0, .int 0] D t σ (I, J, ri, rj, rq) sz 0 0 (fun (r : Int32) (u : pq_S × pq_M) => u = (σ, I, J, ri, rj, rq) ∧ g_X12_tableAt_c0 a0 (vI 12 σ this I) (vJ 12 σ this J) (vR 12 σ this ri) (vL 12 σ this rj) (vQ 12 σ this rq) = (r, (vI 12 σ this I), (vJ 12 σ this J), (vR 12 σ this ri), (vL 12 σ this rj), (vQ 12 σ this rq))) := by
  refine Met.ofW (cc := cX12_tableAt) (maxL := 3) (ret := (some .int)) (by decide +kernel) rfl ?_
  intro p e s m args below meth c s₁ B hml hv
  obtain ⟨rfl, hsz, hP, hK, hD0, hN⟩ := hv
  have hx := B.exec
  have hb := B.bytes
  have hr := B.returns
  have hts := atoms_spec (ws := (wa yX12_tableAt cX12_tableAt 3 (some .int))) B.pre
  have hown : s.vm.findClass RX12 = some m.cls := findClass_of_methodNamed B.named
  have hlocks := B.notSynchronized
  subst hsz
  have hD : va_D (pq_B t σ (I, J, ri, rj, rq) s.heap.size) (pq_P t σ (I, J, ri, rj, rq)) := hD0.self
  generalize hAe : pq_B t σ (I, J, ri, rj, rq) s.heap.size = A at hD ⊢
  have hA : ∀ q : Nat, s.heap.size ≤ q → A q := fun q h => by rw [← hAe]; exact Or.inr h
  have hS : va_S A s.heap s.heap [] := va_S.rf
  have hG : GM [] tg σ I ri I ri rq := ⟨hG0, fun _ _ _ => rfl, fun _ _ _ _ _ => rfl, fun _ _ _ _ _ _ => rfl⟩
  have hl := lv_entry ([.ref this, .int a0, .int 0]) (n := 3) (Nat.le_of_ble_eq_true rfl)
  rw [lg_entry_eq]
  generalize (lg_sl ([.ref this, .int a0, .int 0]) ++ List.replicate (3 - (lg_sl ([.ref this, .int a0, .int 0])).length) Slot.unset).toArray = ls at hl ⊢
  have hl : lv_has ls 3 [(0, .ref this), (1, .int a0), (2, .int 0)] := hl
  refine q_gen (fun Q hQ => ?_)
  have go : ∀ (H : Heap) (locs : List Loc) (ls : Array Slot), va_P D vwCl (pq_P t σ (I, J, ri, rj, rq)) H → va_D A (pq_P t σ (I, J, ri, rj, rq)) → va_S A s.heap H locs → lv_has ls 3 [(0, .ref this), (1, .int a0), (2, .int 0)] → W p l e ({ frames := 0, cells := 0, slots := 0, locals := 0 } : Room) s m (List.toArray ([.ref this, .int a0, .int 0] : List Value)) below meth c H locs 0 0 Q (F0 m 0 ls []) := by
    intro H locs ls hP hD hS hl
    have hO_this : this = vo σ 12 this := rfl
    have hVT : VT 12 σ tg this := vt_12 hSH hL_this hK_this
    have hFr : FR 12 tg σ this (I, J, ri, rj, rq) (I, J, ri, rj, rq) := fr_rf
    obtain ⟨F, hF0⟩ : ∃ F, F = g_X12_tableAt_c0 a0 (vI 12 σ this I) (vJ 12 σ this J) (vR 12 σ this ri) (vL 12 σ this rj) (vQ 12 σ this rq) := ⟨_, rfl⟩
    have hF := hF0.trans g_X12_tableAt_c0_e
    refine lv_aload_n hx hb dX12_tableAt_0 rfl (lv_at hl 0 rfl) ?_
    obtain ⟨w_1, hR_w_1, hL_w_1, hK_w_1, hN_w_1, hT_w_1⟩ := sh_a hSH 384 (ci := 12) (kd := 13) (len := 12720) rfl (by decide +kernel) hL_this hK_this
    have hO_w_1 : w_1 = vrow σ 384 this := vo_k (c := 12) hO_this hR_w_1
    refine pg_f (v := .ref w_1) (C := RX12) (T := TX12) (N := 31) hx hb hts (tw_i inlX12) hown hK hP hL_this hK_this (by decide +kernel) rfl 0 (by decide +kernel) (hts _ (tw_c tw_176)) (pq_hv rfl hR_w_1) dX12_tableAt_1 ?_
    refine lv_bipush (v := 20) hx hb dX12_tableAt_4 (by decide +kernel) ?_
    refine lv_iconst (v := 5) hx hb dX12_tableAt_6 (by decide +kernel) ?_
    refine lv_iload_n hx hb dX12_tableAt_7 rfl (lv_at hl 1 rfl) ?_
    refine lv_bipush (v := 12) hx hb dX12_tableAt_8 (by decide +kernel) ?_
    refine lv_irem hx hb dX12_tableAt_10 (by decide +kernel) ?_
    refine lv_topi (fun x_2 ex_2 => ?_)
    replace hF := hF.trans (ap_n ex_2)
    have h_3 : rg x_2 0 11 := rg_of_eq ex_2 (rg_rem h_a0 rfl (by decide +kernel))
    have uh_3 := h_3.1
    have vh_3 := h_3.2
    refine lv_imul hx hb dX12_tableAt_11 ?_
    refine lv_topi (fun x_4 ex_4 => ?_)
    replace hF := hF.trans (ap_n ex_4)
    have h_5 : rg x_4 0 55 := rg_of_eq ex_4 (rg_mul (rg_k (5 : Int32) 5 rfl) h_3 (by decide +kernel))
    have uh_5 := h_5.1
    have vh_5 := h_5.2
    have tx_4 : (x_4).toInt = 5 * (x_2).toInt := by rw [ex_4]; exact i_mul_rg (a2 := 5) (b2 := (x_2).toInt) rfl rfl (rg_k (5 : Int32) 5 rfl) h_3 (by decide +kernel)
    refine lv_iadd hx hb dX12_tableAt_12 ?_
    refine lv_topi (fun x_6 ex_6 => ?_)
    replace hF := hF.trans (ap_n ex_6)
    have h_7 : rg x_6 20 75 := rg_of_eq ex_6 (rg_add (rg_k (20 : Int32) 20 rfl) h_5 (by decide +kernel))
    have uh_7 := h_7.1
    have vh_7 := h_7.2
    have tx_6 : (x_6).toInt = 20 + (x_4).toInt := by rw [ex_6]; exact i_add_rg (a2 := 20) (b2 := (x_4).toInt) rfl rfl (rg_k (20 : Int32) 20 rfl) h_5 (by decide +kernel)
    refine lv_iload_n hx hb dX12_tableAt_13 rfl (lv_at hl 2 rfl) ?_
    refine lv_iadd hx hb dX12_tableAt_14 ?_
    refine lv_topi (fun x_8 ex_8 => ?_)
    replace hF := hF.trans (ap_n ex_8)
    have h_9 : rg x_8 20 75 := rg_of_eq ex_8 (rg_add h_7 (rg_k (0 : Int32) 0 rfl) (by decide +kernel))
    have uh_9 := h_9.1
    have vh_9 := h_9.2
    have tx_8 : (x_8).toInt = (x_6).toInt + 0 := by rw [ex_8]; exact i_add_rg (a2 := (x_6).toInt) (b2 := 0) rfl rfl h_7 (rg_k (0 : Int32) 0 rfl) (by decide +kernel)
    refine pl_i hx hb hK hP hL_w_1 hK_w_1 hN_w_1 (rg_in h_9 (by decide +kernel)) dX12_tableAt_15 ?_
    refine lv_topi (fun x_10 ex_10 => ?_)
    replace hF := hF.trans (ap_n (vR_r hO_w_1 (by decide +kernel) ex_10))
    subst hQ
    exact W.iret (v := x_10) hx hb hr (fun t1 ht hW => ⟨⟨x_10, (σ, I, J, ri, rj, rq), rfl, ⟨rfl, (hF0.symm.trans hF)⟩, by rw [ht]; exact hP, va_K.moved hW.alike hK, hD⟩, hS.F ht⟩) hS.2.2 dX12_tableAt_16
  exact go _ _ _ hP hD hS hl

set_option maxRecDepth 100000 in
def g_X12_tableAt_c4 (a0 : Int32) (I : Nat → Int32) (J : Nat → Int64) (ri : Nat → Nat → Int32) (rj : Nat → Nat → Int64) (rq : Nat → Nat → Option Nat) : Int32 × vM := (ap1 (a0 - a0 / (12 : Int32) * (12 : Int32)) fun (x_2 : Int32) => (ap1 ((5 : Int32) * x_2) fun (x_4 : Int32) => (ap1 ((20 : Int32) + x_4) fun (x_6 : Int32) => (ap1 (x_6 + (4 : Int32)) fun (x_8 : Int32) => (ap1 (ri 384 (x_8).toNatClampNeg) fun (x_10 : Int32) => (x_10, I, J, ri, rj, rq))))))
set_option maxRecDepth 100000 in
theorem g_X12_tableAt_c4_e {a0 : Int32} {I : Nat → Int32} {J : Nat → Int64} {ri : Nat → Nat → Int32} {rj : Nat → Nat → Int64} {rq : Nat → Nat → Option Nat} : g_X12_tableAt_c4 a0 I J ri rj rq = (ap1 (a0 - a0 / (12 : Int32) * (12 : Int32)) fun (x_2 : Int32) => (ap1 ((5 : Int32) * x_2) fun (x_4 : Int32) => (ap1 ((20 : Int32) + x_4) fun (x_6 : Int32) => (ap1 (x_6 + (4 : Int32)) fun (x_8 : Int32) => (ap1 (ri 384 (x_8).toNatClampNeg) fun (x_10 : Int32) => (x_10, I, J, ri, rj, rq)))))) := rfl
set_option maxHeartbeats 4000000 in
set_option maxRecDepth 100000 in
theorem s_X12_tableAt_c4 (l : Launch) (D : va_G) (t : pq_T) (σ : pq_S) (I : Nat → Nat → Int32) (J : Nat → Nat → Int64) (ri : Nat → Nat → Int32) (rj : Nat → Nat → Int64) (rq : Nat → Nat → Option Nat) (sz : Nat) (tg : Nat → Nat) (hSH : SH σ tg) (hG0 : GT tg I ri) (this : Nat) (a0 : Int32) (hL_this : this ∈ σ.1) (hK_this : σ.2.1 this = 12) (h_a0 : rg a0 0 600) : MetI l yX12_tableAt (wa yX12_tableAt cX12_tableAt 3 (some .int)) ({ frames := 0, cells := 0, slots := 0, locals := 0 }) [.ref this, .int a0, .int 4] D t σ (I, J, ri, rj, rq) sz 0 0 (fun (r : Int32) (u : pq_S × pq_M) => u = (σ, I, J, ri, rj, rq) ∧ g_X12_tableAt_c4 a0 (vI 12 σ this I) (vJ 12 σ this J) (vR 12 σ this ri) (vL 12 σ this rj) (vQ 12 σ this rq) = (r, (vI 12 σ this I), (vJ 12 σ this J), (vR 12 σ this ri), (vL 12 σ this rj), (vQ 12 σ this rq))) := by
  refine Met.ofW (cc := cX12_tableAt) (maxL := 3) (ret := (some .int)) (by decide +kernel) rfl ?_
  intro p e s m args below meth c s₁ B hml hv
  obtain ⟨rfl, hsz, hP, hK, hD0, hN⟩ := hv
  have hx := B.exec
  have hb := B.bytes
  have hr := B.returns
  have hts := atoms_spec (ws := (wa yX12_tableAt cX12_tableAt 3 (some .int))) B.pre
  have hown : s.vm.findClass RX12 = some m.cls := findClass_of_methodNamed B.named
  have hlocks := B.notSynchronized
  subst hsz
  have hD : va_D (pq_B t σ (I, J, ri, rj, rq) s.heap.size) (pq_P t σ (I, J, ri, rj, rq)) := hD0.self
  generalize hAe : pq_B t σ (I, J, ri, rj, rq) s.heap.size = A at hD ⊢
  have hA : ∀ q : Nat, s.heap.size ≤ q → A q := fun q h => by rw [← hAe]; exact Or.inr h
  have hS : va_S A s.heap s.heap [] := va_S.rf
  have hG : GM [] tg σ I ri I ri rq := ⟨hG0, fun _ _ _ => rfl, fun _ _ _ _ _ => rfl, fun _ _ _ _ _ _ => rfl⟩
  have hl := lv_entry ([.ref this, .int a0, .int 4]) (n := 3) (Nat.le_of_ble_eq_true rfl)
  rw [lg_entry_eq]
  generalize (lg_sl ([.ref this, .int a0, .int 4]) ++ List.replicate (3 - (lg_sl ([.ref this, .int a0, .int 4])).length) Slot.unset).toArray = ls at hl ⊢
  have hl : lv_has ls 3 [(0, .ref this), (1, .int a0), (2, .int 4)] := hl
  refine q_gen (fun Q hQ => ?_)
  have go : ∀ (H : Heap) (locs : List Loc) (ls : Array Slot), va_P D vwCl (pq_P t σ (I, J, ri, rj, rq)) H → va_D A (pq_P t σ (I, J, ri, rj, rq)) → va_S A s.heap H locs → lv_has ls 3 [(0, .ref this), (1, .int a0), (2, .int 4)] → W p l e ({ frames := 0, cells := 0, slots := 0, locals := 0 } : Room) s m (List.toArray ([.ref this, .int a0, .int 4] : List Value)) below meth c H locs 0 0 Q (F0 m 0 ls []) := by
    intro H locs ls hP hD hS hl
    have hO_this : this = vo σ 12 this := rfl
    have hVT : VT 12 σ tg this := vt_12 hSH hL_this hK_this
    have hFr : FR 12 tg σ this (I, J, ri, rj, rq) (I, J, ri, rj, rq) := fr_rf
    obtain ⟨F, hF0⟩ : ∃ F, F = g_X12_tableAt_c4 a0 (vI 12 σ this I) (vJ 12 σ this J) (vR 12 σ this ri) (vL 12 σ this rj) (vQ 12 σ this rq) := ⟨_, rfl⟩
    have hF := hF0.trans g_X12_tableAt_c4_e
    refine lv_aload_n hx hb dX12_tableAt_0 rfl (lv_at hl 0 rfl) ?_
    obtain ⟨w_1, hR_w_1, hL_w_1, hK_w_1, hN_w_1, hT_w_1⟩ := sh_a hSH 384 (ci := 12) (kd := 13) (len := 12720) rfl (by decide +kernel) hL_this hK_this
    have hO_w_1 : w_1 = vrow σ 384 this := vo_k (c := 12) hO_this hR_w_1
    refine pg_f (v := .ref w_1) (C := RX12) (T := TX12) (N := 31) hx hb hts (tw_i inlX12) hown hK hP hL_this hK_this (by decide +kernel) rfl 0 (by decide +kernel) (hts _ (tw_c tw_176)) (pq_hv rfl hR_w_1) dX12_tableAt_1 ?_
    refine lv_bipush (v := 20) hx hb dX12_tableAt_4 (by decide +kernel) ?_
    refine lv_iconst (v := 5) hx hb dX12_tableAt_6 (by decide +kernel) ?_
    refine lv_iload_n hx hb dX12_tableAt_7 rfl (lv_at hl 1 rfl) ?_
    refine lv_bipush (v := 12) hx hb dX12_tableAt_8 (by decide +kernel) ?_
    refine lv_irem hx hb dX12_tableAt_10 (by decide +kernel) ?_
    refine lv_topi (fun x_2 ex_2 => ?_)
    replace hF := hF.trans (ap_n ex_2)
    have h_3 : rg x_2 0 11 := rg_of_eq ex_2 (rg_rem h_a0 rfl (by decide +kernel))
    have uh_3 := h_3.1
    have vh_3 := h_3.2
    refine lv_imul hx hb dX12_tableAt_11 ?_
    refine lv_topi (fun x_4 ex_4 => ?_)
    replace hF := hF.trans (ap_n ex_4)
    have h_5 : rg x_4 0 55 := rg_of_eq ex_4 (rg_mul (rg_k (5 : Int32) 5 rfl) h_3 (by decide +kernel))
    have uh_5 := h_5.1
    have vh_5 := h_5.2
    have tx_4 : (x_4).toInt = 5 * (x_2).toInt := by rw [ex_4]; exact i_mul_rg (a2 := 5) (b2 := (x_2).toInt) rfl rfl (rg_k (5 : Int32) 5 rfl) h_3 (by decide +kernel)
    refine lv_iadd hx hb dX12_tableAt_12 ?_
    refine lv_topi (fun x_6 ex_6 => ?_)
    replace hF := hF.trans (ap_n ex_6)
    have h_7 : rg x_6 20 75 := rg_of_eq ex_6 (rg_add (rg_k (20 : Int32) 20 rfl) h_5 (by decide +kernel))
    have uh_7 := h_7.1
    have vh_7 := h_7.2
    have tx_6 : (x_6).toInt = 20 + (x_4).toInt := by rw [ex_6]; exact i_add_rg (a2 := 20) (b2 := (x_4).toInt) rfl rfl (rg_k (20 : Int32) 20 rfl) h_5 (by decide +kernel)
    refine lv_iload_n hx hb dX12_tableAt_13 rfl (lv_at hl 2 rfl) ?_
    refine lv_iadd hx hb dX12_tableAt_14 ?_
    refine lv_topi (fun x_8 ex_8 => ?_)
    replace hF := hF.trans (ap_n ex_8)
    have h_9 : rg x_8 24 79 := rg_of_eq ex_8 (rg_add h_7 (rg_k (4 : Int32) 4 rfl) (by decide +kernel))
    have uh_9 := h_9.1
    have vh_9 := h_9.2
    have tx_8 : (x_8).toInt = (x_6).toInt + 4 := by rw [ex_8]; exact i_add_rg (a2 := (x_6).toInt) (b2 := 4) rfl rfl h_7 (rg_k (4 : Int32) 4 rfl) (by decide +kernel)
    refine pl_i hx hb hK hP hL_w_1 hK_w_1 hN_w_1 (rg_in h_9 (by decide +kernel)) dX12_tableAt_15 ?_
    refine lv_topi (fun x_10 ex_10 => ?_)
    replace hF := hF.trans (ap_n (vR_r hO_w_1 (by decide +kernel) ex_10))
    subst hQ
    exact W.iret (v := x_10) hx hb hr (fun t1 ht hW => ⟨⟨x_10, (σ, I, J, ri, rj, rq), rfl, ⟨rfl, (hF0.symm.trans hF)⟩, by rw [ht]; exact hP, va_K.moved hW.alike hK, hD⟩, hS.F ht⟩) hS.2.2 dX12_tableAt_16
  exact go _ _ _ hP hD hS hl

set_option maxRecDepth 100000 in
def g_X12_seaStands_K360 (x_4567 : Int32) (x_4568 : Int32) (x_4569 : Int32) (k_g_X12_seaStands_L8 : (Int32) → (Int32) → (Int32) → (Nat → Nat → Int32) → vM) (ri_5723 : Nat → Nat → Int32) : vM := (ap1 (x_4569 + Int32.ofInt 1) fun (x_5727 : Int32) => (k_g_X12_seaStands_L8 x_4567 x_4568 x_5727 ri_5723))
set_option maxRecDepth 100000 in
theorem g_X12_seaStands_K360_e {x_4567 : Int32} {x_4568 : Int32} {x_4569 : Int32} {k_g_X12_seaStands_L8 : (Int32) → (Int32) → (Int32) → (Nat → Nat → Int32) → vM} {ri_5723 : Nat → Nat → Int32} : g_X12_seaStands_K360 x_4567 x_4568 x_4569 k_g_X12_seaStands_L8 ri_5723 = (ap1 (x_4569 + Int32.ofInt 1) fun (x_5727 : Int32) => (k_g_X12_seaStands_L8 x_4567 x_4568 x_5727 ri_5723)) := rfl
set_option maxRecDepth 100000 in
def g_X12_seaStands_K359 (x_4567 : Int32) (x_4568 : Int32) (x_4569 : Int32) (k_g_X12_seaStands_L8 : (Int32) → (Int32) → (Int32) → (Nat → Nat → Int32) → vM) (ri_5670 : Nat → Nat → Int32) (x_5735 : Int32) (x_5749 : Int32) : vM := (ap1 (va_up ri_5670 384 (upd (ri_5670 384) (x_5735).toNatClampNeg x_5749)) fun (r_5752 : Nat → Nat → Int32) => (g_X12_seaStands_K360 x_4567 x_4568 x_4569 k_g_X12_seaStands_L8 r_5752))
set_option maxRecDepth 100000 in
theorem g_X12_seaStands_K359_e {x_4567 : Int32} {x_4568 : Int32} {x_4569 : Int32} {k_g_X12_seaStands_L8 : (Int32) → (Int32) → (Int32) → (Nat → Nat → Int32) → vM} {ri_5670 : Nat → Nat → Int32} {x_5735 : Int32} {x_5749 : Int32} : g_X12_seaStands_K359 x_4567 x_4568 x_4569 k_g_X12_seaStands_L8 ri_5670 x_5735 x_5749 = (ap1 (va_up ri_5670 384 (upd (ri_5670 384) (x_5735).toNatClampNeg x_5749)) fun (r_5752 : Nat → Nat → Int32) => (g_X12_seaStands_K360 x_4567 x_4568 x_4569 k_g_X12_seaStands_L8 r_5752)) := rfl
set_option maxRecDepth 100000 in
def g_X12_seaStands_K207 (x_4567 : Int32) (x_4568 : Int32) (x_4569 : Int32) (k_g_X12_seaStands_L8 : (Int32) → (Int32) → (Int32) → (Nat → Nat → Int32) → vM) (x_4966 : Int32) (ri_5670 : Nat → Nat → Int32) : vM := (ap1 (x_4966 + (8 : Int32)) fun (x_5699 : Int32) => (ap1 (ri_5670 384 (x_5699).toNatClampNeg) fun (x_5701 : Int32) => (if x_5701 = (0 : Int32) then (g_X12_seaStands_K360 x_4567 x_4568 x_4569 k_g_X12_seaStands_L8 ri_5670) else (ap1 (x_4966 + (10 : Int32)) fun (x_5735 : Int32) => (ap1 (x_4966 + (10 : Int32)) fun (x_5737 : Int32) => (ap1 (ri_5670 384 (x_5737).toNatClampNeg) fun (x_5739 : Int32) => (if x_5739 ≤ (90 : Int32) then (ap1 (x_4966 + (10 : Int32)) fun (x_5760 : Int32) => (ap1 (ri_5670 384 (x_5760).toNatClampNeg) fun (x_5762 : Int32) => (ap1 (x_5762 + (10 : Int32)) fun (x_5763 : Int32) => (g_X12_seaStands_K359 x_4567 x_4568 x_4569 k_g_X12_seaStands_L8 ri_5670 x_5735 x_5763)))) else (g_X12_seaStands_K359 x_4567 x_4568 x_4569 k_g_X12_seaStands_L8 ri_5670 x_5735 (100 : Int32)))))))))
set_option maxRecDepth 100000 in
theorem g_X12_seaStands_K207_e {x_4567 : Int32} {x_4568 : Int32} {x_4569 : Int32} {k_g_X12_seaStands_L8 : (Int32) → (Int32) → (Int32) → (Nat → Nat → Int32) → vM} {x_4966 : Int32} {ri_5670 : Nat → Nat → Int32} : g_X12_seaStands_K207 x_4567 x_4568 x_4569 k_g_X12_seaStands_L8 x_4966 ri_5670 = (ap1 (x_4966 + (8 : Int32)) fun (x_5699 : Int32) => (ap1 (ri_5670 384 (x_5699).toNatClampNeg) fun (x_5701 : Int32) => (if x_5701 = (0 : Int32) then (g_X12_seaStands_K360 x_4567 x_4568 x_4569 k_g_X12_seaStands_L8 ri_5670) else (ap1 (x_4966 + (10 : Int32)) fun (x_5735 : Int32) => (ap1 (x_4966 + (10 : Int32)) fun (x_5737 : Int32) => (ap1 (ri_5670 384 (x_5737).toNatClampNeg) fun (x_5739 : Int32) => (if x_5739 ≤ (90 : Int32) then (ap1 (x_4966 + (10 : Int32)) fun (x_5760 : Int32) => (ap1 (ri_5670 384 (x_5760).toNatClampNeg) fun (x_5762 : Int32) => (ap1 (x_5762 + (10 : Int32)) fun (x_5763 : Int32) => (g_X12_seaStands_K359 x_4567 x_4568 x_4569 k_g_X12_seaStands_L8 ri_5670 x_5735 x_5763)))) else (g_X12_seaStands_K359 x_4567 x_4568 x_4569 k_g_X12_seaStands_L8 ri_5670 x_5735 (100 : Int32))))))))) := rfl
set_option maxRecDepth 100000 in
def g_X12_seaStands_K191 (x_4567 : Int32) (x_4568 : Int32) (x_4569 : Int32) (k_g_X12_seaStands_L8 : (Int32) → (Int32) → (Int32) → (Nat → Nat → Int32) → vM) (x_4966 : Int32) (r_5596 : Nat → Nat → Int32) : vM := (ap1 (x_4966 + (7 : Int32)) fun (x_5769 : Int32) => (ap1 (va_up r_5596 384 (upd (r_5596 384) (x_5769).toNatClampNeg (0 : Int32))) fun (r_5771 : Nat → Nat → Int32) => (g_X12_seaStands_K207 x_4567 x_4568 x_4569 k_g_X12_seaStands_L8 x_4966 r_5771)))
set_option maxRecDepth 100000 in
theorem g_X12_seaStands_K191_e {x_4567 : Int32} {x_4568 : Int32} {x_4569 : Int32} {k_g_X12_seaStands_L8 : (Int32) → (Int32) → (Int32) → (Nat → Nat → Int32) → vM} {x_4966 : Int32} {r_5596 : Nat → Nat → Int32} : g_X12_seaStands_K191 x_4567 x_4568 x_4569 k_g_X12_seaStands_L8 x_4966 r_5596  = (ap1 (x_4966 + (7 : Int32)) fun (x_5769 : Int32) => (ap1 (va_up r_5596 384 (upd (r_5596 384) (x_5769).toNatClampNeg (0 : Int32))) fun (r_5771 : Nat → Nat → Int32) => (g_X12_seaStands_K207 x_4567 x_4568 x_4569 k_g_X12_seaStands_L8 x_4966 r_5771))) := rfl
set_option maxRecDepth 100000 in
def g_X12_seaStands_K167 (x_4567 : Int32) (x_4568 : Int32) (x_4569 : Int32) (k_g_X12_seaStands_L8 : (Int32) → (Int32) → (Int32) → (Nat → Nat → Int32) → vM) (x_4966 : Int32) (r_5596 : Nat → Nat → Int32) : vM := (g_X12_seaStands_K191 x_4567 x_4568 x_4569 k_g_X12_seaStands_L8 x_4966 r_5596 )
set_option maxRecDepth 100000 in
theorem g_X12_seaStands_K167_e {x_4567 : Int32} {x_4568 : Int32} {x_4569 : Int32} {k_g_X12_seaStands_L8 : (Int32) → (Int32) → (Int32) → (Nat → Nat → Int32) → vM} {x_4966 : Int32} {r_5596 : Nat → Nat → Int32} : g_X12_seaStands_K167 x_4567 x_4568 x_4569 k_g_X12_seaStands_L8 x_4966 r_5596  = (g_X12_seaStands_K191 x_4567 x_4568 x_4569 k_g_X12_seaStands_L8 x_4966 r_5596 ) := rfl
set_option maxRecDepth 100000 in
def g_X12_seaStands_K147 (x_4567 : Int32) (x_4568 : Int32) (x_4569 : Int32) (k_g_X12_seaStands_L8 : (Int32) → (Int32) → (Int32) → (Nat → Nat → Int32) → vM) (x_4966 : Int32) (r_5551 : Nat → Nat → Int32) (x_5552 : Int32) (x_5559 : Int32) : vM := (ap1 (va_up r_5551 384 (upd (r_5551 384) (x_5552).toNatClampNeg x_5559)) fun (r_5596 : Nat → Nat → Int32) => (g_X12_seaStands_K167 x_4567 x_4568 x_4569 k_g_X12_seaStands_L8 x_4966 r_5596 ))
set_option maxRecDepth 100000 in
theorem g_X12_seaStands_K147_e {x_4567 : Int32} {x_4568 : Int32} {x_4569 : Int32} {k_g_X12_seaStands_L8 : (Int32) → (Int32) → (Int32) → (Nat → Nat → Int32) → vM} {x_4966 : Int32} {r_5551 : Nat → Nat → Int32} {x_5552 : Int32} {x_5559 : Int32} : g_X12_seaStands_K147 x_4567 x_4568 x_4569 k_g_X12_seaStands_L8 x_4966 r_5551 x_5552 x_5559 = (ap1 (va_up r_5551 384 (upd (r_5551 384) (x_5552).toNatClampNeg x_5559)) fun (r_5596 : Nat → Nat → Int32) => (g_X12_seaStands_K167 x_4567 x_4568 x_4569 k_g_X12_seaStands_L8 x_4966 r_5596 )) := rfl
set_option maxRecDepth 100000 in
def g_X12_seaStands_K116 (x_4567 : Int32) (x_4568 : Int32) (x_4569 : Int32) (k_g_X12_seaStands_L8 : (Int32) → (Int32) → (Int32) → (Nat → Nat → Int32) → vM) (x_4966 : Int32) (r_5502 : Nat → Nat → Int32) (x_5503 : Int32) : vM := (ap1 (va_up r_5502 384 (upd (r_5502 384) (x_5503).toNatClampNeg (0 : Int32))) fun (r_5551 : Nat → Nat → Int32) => (ap1 (x_4966 + (11 : Int32)) fun (x_5552 : Int32) => (ap1 (x_4966 + (11 : Int32)) fun (x_5775 : Int32) => (ap1 (r_5551 384 (x_5775).toNatClampNeg) fun (x_5777 : Int32) => (ap1 (x_5777 + (1 : Int32)) fun (x_5778 : Int32) => (g_X12_seaStands_K147 x_4567 x_4568 x_4569 k_g_X12_seaStands_L8 x_4966 r_5551 x_5552 x_5778))))))
set_option maxRecDepth 100000 in
theorem g_X12_seaStands_K116_e {x_4567 : Int32} {x_4568 : Int32} {x_4569 : Int32} {k_g_X12_seaStands_L8 : (Int32) → (Int32) → (Int32) → (Nat → Nat → Int32) → vM} {x_4966 : Int32} {r_5502 : Nat → Nat → Int32} {x_5503 : Int32} : g_X12_seaStands_K116 x_4567 x_4568 x_4569 k_g_X12_seaStands_L8 x_4966 r_5502 x_5503  = (ap1 (va_up r_5502 384 (upd (r_5502 384) (x_5503).toNatClampNeg (0 : Int32))) fun (r_5551 : Nat → Nat → Int32) => (ap1 (x_4966 + (11 : Int32)) fun (x_5552 : Int32) => (ap1 (x_4966 + (11 : Int32)) fun (x_5775 : Int32) => (ap1 (r_5551 384 (x_5775).toNatClampNeg) fun (x_5777 : Int32) => (ap1 (x_5777 + (1 : Int32)) fun (x_5778 : Int32) => (g_X12_seaStands_K147 x_4567 x_4568 x_4569 k_g_X12_seaStands_L8 x_4966 r_5551 x_5552 x_5778)))))) := rfl
set_option maxRecDepth 100000 in
def g_X12_seaStands_K96 (x_4567 : Int32) (x_4568 : Int32) (x_4569 : Int32) (ri_4570 : Nat → Nat → Int32) (k_g_X12_seaStands_L8 : (Int32) → (Int32) → (Int32) → (Nat → Nat → Int32) → vM) (x_4966 : Int32) (x_5450 : Int32) : vM := (ap1 (va_up ri_4570 384 (upd (ri_4570 384) (x_5450).toNatClampNeg (0 : Int32))) fun (r_5502 : Nat → Nat → Int32) => (ap1 (x_4966 + (13 : Int32)) fun (x_5503 : Int32) => (g_X12_seaStands_K116 x_4567 x_4568 x_4569 k_g_X12_seaStands_L8 x_4966 r_5502 x_5503 )))
set_option maxRecDepth 100000 in
theorem g_X12_seaStands_K96_e {x_4567 : Int32} {x_4568 : Int32} {x_4569 : Int32} {ri_4570 : Nat → Nat → Int32} {k_g_X12_seaStands_L8 : (Int32) → (Int32) → (Int32) → (Nat → Nat → Int32) → vM} {x_4966 : Int32} {x_5450 : Int32} : g_X12_seaStands_K96 x_4567 x_4568 x_4569 ri_4570 k_g_X12_seaStands_L8 x_4966 x_5450  = (ap1 (va_up ri_4570 384 (upd (ri_4570 384) (x_5450).toNatClampNeg (0 : Int32))) fun (r_5502 : Nat → Nat → Int32) => (ap1 (x_4966 + (13 : Int32)) fun (x_5503 : Int32) => (g_X12_seaStands_K116 x_4567 x_4568 x_4569 k_g_X12_seaStands_L8 x_4966 r_5502 x_5503 ))) := rfl
set_option maxRecDepth 100000 in
def g_X12_seaStands_K75 (x_4567 : Int32) (x_4568 : Int32) (x_4569 : Int32) (ri_4570 : Nat → Nat → Int32) (k_g_X12_seaStands_L8 : (Int32) → (Int32) → (Int32) → (Nat → Nat → Int32) → vM) (x_4966 : Int32) : vM := (ap1 (x_4966 + (12 : Int32)) fun (x_5450 : Int32) => (g_X12_seaStands_K96 x_4567 x_4568 x_4569 ri_4570 k_g_X12_seaStands_L8 x_4966 x_5450 ))
set_option maxRecDepth 100000 in
theorem g_X12_seaStands_K75_e {x_4567 : Int32} {x_4568 : Int32} {x_4569 : Int32} {ri_4570 : Nat → Nat → Int32} {k_g_X12_seaStands_L8 : (Int32) → (Int32) → (Int32) → (Nat → Nat → Int32) → vM} {x_4966 : Int32} : g_X12_seaStands_K75 x_4567 x_4568 x_4569 ri_4570 k_g_X12_seaStands_L8 x_4966  = (ap1 (x_4966 + (12 : Int32)) fun (x_5450 : Int32) => (g_X12_seaStands_K96 x_4567 x_4568 x_4569 ri_4570 k_g_X12_seaStands_L8 x_4966 x_5450 )) := rfl
set_option maxRecDepth 100000 in
def g_X12_seaStands_K360_2 (x_4569 : Int32) (k_g_X12_seaStands_L8 : (Int32) → (Int32) → (Int32) → (Nat → Nat → Int32) → vM) (x_5995 : Int32) (x_6050 : Int32) (ri_6141 : Nat → Nat → Int32) : vM := (ap1 (x_4569 + Int32.ofInt 1) fun (x_6145 : Int32) => (k_g_X12_seaStands_L8 x_5995 x_6050 x_6145 ri_6141))
set_option maxRecDepth 100000 in
theorem g_X12_seaStands_K360_2_e {x_4569 : Int32} {k_g_X12_seaStands_L8 : (Int32) → (Int32) → (Int32) → (Nat → Nat → Int32) → vM} {x_5995 : Int32} {x_6050 : Int32} {ri_6141 : Nat → Nat → Int32} : g_X12_seaStands_K360_2 x_4569 k_g_X12_seaStands_L8 x_5995 x_6050 ri_6141 = (ap1 (x_4569 + Int32.ofInt 1) fun (x_6145 : Int32) => (k_g_X12_seaStands_L8 x_5995 x_6050 x_6145 ri_6141)) := rfl
set_option maxRecDepth 100000 in
def g_X12_seaStands_K359_2 (x_4569 : Int32) (k_g_X12_seaStands_L8 : (Int32) → (Int32) → (Int32) → (Nat → Nat → Int32) → vM) (x_5995 : Int32) (x_6050 : Int32) (ri_6088 : Nat → Nat → Int32) (x_6153 : Int32) (x_6167 : Int32) : vM := (ap1 (va_up ri_6088 384 (upd (ri_6088 384) (x_6153).toNatClampNeg x_6167)) fun (r_6170 : Nat → Nat → Int32) => (g_X12_seaStands_K360_2 x_4569 k_g_X12_seaStands_L8 x_5995 x_6050 r_6170))
set_option maxRecDepth 100000 in
theorem g_X12_seaStands_K359_2_e {x_4569 : Int32} {k_g_X12_seaStands_L8 : (Int32) → (Int32) → (Int32) → (Nat → Nat → Int32) → vM} {x_5995 : Int32} {x_6050 : Int32} {ri_6088 : Nat → Nat → Int32} {x_6153 : Int32} {x_6167 : Int32} : g_X12_seaStands_K359_2 x_4569 k_g_X12_seaStands_L8 x_5995 x_6050 ri_6088 x_6153 x_6167 = (ap1 (va_up ri_6088 384 (upd (ri_6088 384) (x_6153).toNatClampNeg x_6167)) fun (r_6170 : Nat → Nat → Int32) => (g_X12_seaStands_K360_2 x_4569 k_g_X12_seaStands_L8 x_5995 x_6050 r_6170)) := rfl
set_option maxRecDepth 100000 in
def g_X12_seaStands_K207_2 (x_4569 : Int32) (k_g_X12_seaStands_L8 : (Int32) → (Int32) → (Int32) → (Nat → Nat → Int32) → vM) (x_4966 : Int32) (x_5995 : Int32) (x_6050 : Int32) (ri_6088 : Nat → Nat → Int32) : vM := (ap1 (x_4966 + (8 : Int32)) fun (x_6117 : Int32) => (ap1 (ri_6088 384 (x_6117).toNatClampNeg) fun (x_6119 : Int32) => (if x_6119 = (0 : Int32) then (g_X12_seaStands_K360_2 x_4569 k_g_X12_seaStands_L8 x_5995 x_6050 ri_6088) else (ap1 (x_4966 + (10 : Int32)) fun (x_6153 : Int32) => (ap1 (x_4966 + (10 : Int32)) fun (x_6155 : Int32) => (ap1 (ri_6088 384 (x_6155).toNatClampNeg) fun (x_6157 : Int32) => (if x_6157 ≤ (90 : Int32) then (ap1 (x_4966 + (10 : Int32)) fun (x_6178 : Int32) => (ap1 (ri_6088 384 (x_6178).toNatClampNeg) fun (x_6180 : Int32) => (ap1 (x_6180 + (10 : Int32)) fun (x_6181 : Int32) => (g_X12_seaStands_K359_2 x_4569 k_g_X12_seaStands_L8 x_5995 x_6050 ri_6088 x_6153 x_6181)))) else (g_X12_seaStands_K359_2 x_4569 k_g_X12_seaStands_L8 x_5995 x_6050 ri_6088 x_6153 (100 : Int32)))))))))
set_option maxRecDepth 100000 in
theorem g_X12_seaStands_K207_2_e {x_4569 : Int32} {k_g_X12_seaStands_L8 : (Int32) → (Int32) → (Int32) → (Nat → Nat → Int32) → vM} {x_4966 : Int32} {x_5995 : Int32} {x_6050 : Int32} {ri_6088 : Nat → Nat → Int32} : g_X12_seaStands_K207_2 x_4569 k_g_X12_seaStands_L8 x_4966 x_5995 x_6050 ri_6088 = (ap1 (x_4966 + (8 : Int32)) fun (x_6117 : Int32) => (ap1 (ri_6088 384 (x_6117).toNatClampNeg) fun (x_6119 : Int32) => (if x_6119 = (0 : Int32) then (g_X12_seaStands_K360_2 x_4569 k_g_X12_seaStands_L8 x_5995 x_6050 ri_6088) else (ap1 (x_4966 + (10 : Int32)) fun (x_6153 : Int32) => (ap1 (x_4966 + (10 : Int32)) fun (x_6155 : Int32) => (ap1 (ri_6088 384 (x_6155).toNatClampNeg) fun (x_6157 : Int32) => (if x_6157 ≤ (90 : Int32) then (ap1 (x_4966 + (10 : Int32)) fun (x_6178 : Int32) => (ap1 (ri_6088 384 (x_6178).toNatClampNeg) fun (x_6180 : Int32) => (ap1 (x_6180 + (10 : Int32)) fun (x_6181 : Int32) => (g_X12_seaStands_K359_2 x_4569 k_g_X12_seaStands_L8 x_5995 x_6050 ri_6088 x_6153 x_6181)))) else (g_X12_seaStands_K359_2 x_4569 k_g_X12_seaStands_L8 x_5995 x_6050 ri_6088 x_6153 (100 : Int32))))))))) := rfl
set_option maxRecDepth 100000 in
def g_X12_seaStands_K191_2 (x_4569 : Int32) (k_g_X12_seaStands_L8 : (Int32) → (Int32) → (Int32) → (Nat → Nat → Int32) → vM) (x_4966 : Int32) (r_5986 : Nat → Nat → Int32) (x_5995 : Int32) (x_6050 : Int32) : vM := (ap1 (x_4966 + (7 : Int32)) fun (x_6187 : Int32) => (ap1 (va_up r_5986 384 (upd (r_5986 384) (x_6187).toNatClampNeg (0 : Int32))) fun (r_6189 : Nat → Nat → Int32) => (g_X12_seaStands_K207_2 x_4569 k_g_X12_seaStands_L8 x_4966 x_5995 x_6050 r_6189)))
set_option maxRecDepth 100000 in
theorem g_X12_seaStands_K191_2_e {x_4569 : Int32} {k_g_X12_seaStands_L8 : (Int32) → (Int32) → (Int32) → (Nat → Nat → Int32) → vM} {x_4966 : Int32} {r_5986 : Nat → Nat → Int32} {x_5995 : Int32} {x_6050 : Int32} : g_X12_seaStands_K191_2 x_4569 k_g_X12_seaStands_L8 x_4966 r_5986 x_5995 x_6050 = (ap1 (x_4966 + (7 : Int32)) fun (x_6187 : Int32) => (ap1 (va_up r_5986 384 (upd (r_5986 384) (x_6187).toNatClampNeg (0 : Int32))) fun (r_6189 : Nat → Nat → Int32) => (g_X12_seaStands_K207_2 x_4569 k_g_X12_seaStands_L8 x_4966 x_5995 x_6050 r_6189))) := rfl
set_option maxRecDepth 100000 in
def g_X12_seaStands_K167_2 (x_4568 : Int32) (x_4569 : Int32) (k_g_X12_seaStands_L8 : (Int32) → (Int32) → (Int32) → (Nat → Nat → Int32) → vM) (x_4966 : Int32) (r_5986 : Nat → Nat → Int32) (x_5995 : Int32) : vM := (if x_4569 < (20 : Int32) then (g_X12_seaStands_K191_2 x_4569 k_g_X12_seaStands_L8 x_4966 r_5986 x_5995 x_4568) else (ap1 (x_4569 - (20 : Int32)) fun (x_6200 : Int32) => (ap1 ((1 : Int32) <<< (x_6200 &&& 31)) fun (x_6202 : Int32) => (ap1 (x_4568 ||| x_6202) fun (x_6203 : Int32) => (g_X12_seaStands_K191_2 x_4569 k_g_X12_seaStands_L8 x_4966 r_5986 x_5995 x_6203)))))
set_option maxRecDepth 100000 in
theorem g_X12_seaStands_K167_2_e {x_4568 : Int32} {x_4569 : Int32} {k_g_X12_seaStands_L8 : (Int32) → (Int32) → (Int32) → (Nat → Nat → Int32) → vM} {x_4966 : Int32} {r_5986 : Nat → Nat → Int32} {x_5995 : Int32} : g_X12_seaStands_K167_2 x_4568 x_4569 k_g_X12_seaStands_L8 x_4966 r_5986 x_5995 = (if x_4569 < (20 : Int32) then (g_X12_seaStands_K191_2 x_4569 k_g_X12_seaStands_L8 x_4966 r_5986 x_5995 x_4568) else (ap1 (x_4569 - (20 : Int32)) fun (x_6200 : Int32) => (ap1 ((1 : Int32) <<< (x_6200 &&& 31)) fun (x_6202 : Int32) => (ap1 (x_4568 ||| x_6202) fun (x_6203 : Int32) => (g_X12_seaStands_K191_2 x_4569 k_g_X12_seaStands_L8 x_4966 r_5986 x_5995 x_6203))))) := rfl
set_option maxRecDepth 100000 in
def g_X12_seaStands_K147_2 (x_4567 : Int32) (x_4568 : Int32) (x_4569 : Int32) (k_g_X12_seaStands_L8 : (Int32) → (Int32) → (Int32) → (Nat → Nat → Int32) → vM) (x_4966 : Int32) (r_5923 : Nat → Nat → Int32) (x_5924 : Int32) (x_5931 : Int32) : vM := (ap1 (va_up r_5923 384 (upd (r_5923 384) (x_5924).toNatClampNeg x_5931)) fun (r_5986 : Nat → Nat → Int32) => (if (20 : Int32) ≤ x_4569 then (g_X12_seaStands_K167_2 x_4568 x_4569 k_g_X12_seaStands_L8 x_4966 r_5986 x_4567) else (ap1 ((1 : Int32) <<< (x_4569 &&& 31)) fun (x_6214 : Int32) => (ap1 (x_4567 ||| x_6214) fun (x_6215 : Int32) => (g_X12_seaStands_K167_2 x_4568 x_4569 k_g_X12_seaStands_L8 x_4966 r_5986 x_6215)))))
set_option maxRecDepth 100000 in
theorem g_X12_seaStands_K147_2_e {x_4567 : Int32} {x_4568 : Int32} {x_4569 : Int32} {k_g_X12_seaStands_L8 : (Int32) → (Int32) → (Int32) → (Nat → Nat → Int32) → vM} {x_4966 : Int32} {r_5923 : Nat → Nat → Int32} {x_5924 : Int32} {x_5931 : Int32} : g_X12_seaStands_K147_2 x_4567 x_4568 x_4569 k_g_X12_seaStands_L8 x_4966 r_5923 x_5924 x_5931 = (ap1 (va_up r_5923 384 (upd (r_5923 384) (x_5924).toNatClampNeg x_5931)) fun (r_5986 : Nat → Nat → Int32) => (if (20 : Int32) ≤ x_4569 then (g_X12_seaStands_K167_2 x_4568 x_4569 k_g_X12_seaStands_L8 x_4966 r_5986 x_4567) else (ap1 ((1 : Int32) <<< (x_4569 &&& 31)) fun (x_6214 : Int32) => (ap1 (x_4567 ||| x_6214) fun (x_6215 : Int32) => (g_X12_seaStands_K167_2 x_4568 x_4569 k_g_X12_seaStands_L8 x_4966 r_5986 x_6215))))) := rfl
set_option maxRecDepth 100000 in
def g_X12_seaStands_K116_2 (x_4567 : Int32) (x_4568 : Int32) (x_4569 : Int32) (k_g_X12_seaStands_L8 : (Int32) → (Int32) → (Int32) → (Nat → Nat → Int32) → vM) (x_4966 : Int32) (r_5856 : Nat → Nat → Int32) (x_5857 : Int32) : vM := (ap1 (va_up r_5856 384 (upd (r_5856 384) (x_5857).toNatClampNeg (1 : Int32))) fun (r_5923 : Nat → Nat → Int32) => (ap1 (x_4966 + (11 : Int32)) fun (x_5924 : Int32) => (ap1 (x_4966 + (11 : Int32)) fun (x_6217 : Int32) => (ap1 (r_5923 384 (x_6217).toNatClampNeg) fun (x_6219 : Int32) => (ap1 (x_6219 + (1 : Int32)) fun (x_6220 : Int32) => (g_X12_seaStands_K147_2 x_4567 x_4568 x_4569 k_g_X12_seaStands_L8 x_4966 r_5923 x_5924 x_6220))))))
set_option maxRecDepth 100000 in
theorem g_X12_seaStands_K116_2_e {x_4567 : Int32} {x_4568 : Int32} {x_4569 : Int32} {k_g_X12_seaStands_L8 : (Int32) → (Int32) → (Int32) → (Nat → Nat → Int32) → vM} {x_4966 : Int32} {r_5856 : Nat → Nat → Int32} {x_5857 : Int32} : g_X12_seaStands_K116_2 x_4567 x_4568 x_4569 k_g_X12_seaStands_L8 x_4966 r_5856 x_5857  = (ap1 (va_up r_5856 384 (upd (r_5856 384) (x_5857).toNatClampNeg (1 : Int32))) fun (r_5923 : Nat → Nat → Int32) => (ap1 (x_4966 + (11 : Int32)) fun (x_5924 : Int32) => (ap1 (x_4966 + (11 : Int32)) fun (x_6217 : Int32) => (ap1 (r_5923 384 (x_6217).toNatClampNeg) fun (x_6219 : Int32) => (ap1 (x_6219 + (1 : Int32)) fun (x_6220 : Int32) => (g_X12_seaStands_K147_2 x_4567 x_4568 x_4569 k_g_X12_seaStands_L8 x_4966 r_5923 x_5924 x_6220)))))) := rfl
set_option maxRecDepth 100000 in
def g_X12_seaStands_K96_2 (x_4567 : Int32) (x_4568 : Int32) (x_4569 : Int32) (ri_4570 : Nat → Nat → Int32) (k_g_X12_seaStands_L8 : (Int32) → (Int32) → (Int32) → (Nat → Nat → Int32) → vM) (x_4966 : Int32) (x_5786 : Int32) : vM := (ap1 (va_up ri_4570 384 (upd (ri_4570 384) (x_5786).toNatClampNeg (0 : Int32))) fun (r_5856 : Nat → Nat → Int32) => (ap1 (x_4966 + (13 : Int32)) fun (x_5857 : Int32) => (g_X12_seaStands_K116_2 x_4567 x_4568 x_4569 k_g_X12_seaStands_L8 x_4966 r_5856 x_5857 )))
set_option maxRecDepth 100000 in
theorem g_X12_seaStands_K96_2_e {x_4567 : Int32} {x_4568 : Int32} {x_4569 : Int32} {ri_4570 : Nat → Nat → Int32} {k_g_X12_seaStands_L8 : (Int32) → (Int32) → (Int32) → (Nat → Nat → Int32) → vM} {x_4966 : Int32} {x_5786 : Int32} : g_X12_seaStands_K96_2 x_4567 x_4568 x_4569 ri_4570 k_g_X12_seaStands_L8 x_4966 x_5786  = (ap1 (va_up ri_4570 384 (upd (ri_4570 384) (x_5786).toNatClampNeg (0 : Int32))) fun (r_5856 : Nat → Nat → Int32) => (ap1 (x_4966 + (13 : Int32)) fun (x_5857 : Int32) => (g_X12_seaStands_K116_2 x_4567 x_4568 x_4569 k_g_X12_seaStands_L8 x_4966 r_5856 x_5857 ))) := rfl
set_option maxRecDepth 100000 in
def g_X12_seaStands_K75_2 (x_4567 : Int32) (x_4568 : Int32) (x_4569 : Int32) (ri_4570 : Nat → Nat → Int32) (k_g_X12_seaStands_L8 : (Int32) → (Int32) → (Int32) → (Nat → Nat → Int32) → vM) (x_4966 : Int32) : vM := (ap1 (x_4966 + (12 : Int32)) fun (x_5786 : Int32) => (g_X12_seaStands_K96_2 x_4567 x_4568 x_4569 ri_4570 k_g_X12_seaStands_L8 x_4966 x_5786 ))
set_option maxRecDepth 100000 in
theorem g_X12_seaStands_K75_2_e {x_4567 : Int32} {x_4568 : Int32} {x_4569 : Int32} {ri_4570 : Nat → Nat → Int32} {k_g_X12_seaStands_L8 : (Int32) → (Int32) → (Int32) → (Nat → Nat → Int32) → vM} {x_4966 : Int32} : g_X12_seaStands_K75_2 x_4567 x_4568 x_4569 ri_4570 k_g_X12_seaStands_L8 x_4966  = (ap1 (x_4966 + (12 : Int32)) fun (x_5786 : Int32) => (g_X12_seaStands_K96_2 x_4567 x_4568 x_4569 ri_4570 k_g_X12_seaStands_L8 x_4966 x_5786 )) := rfl
set_option maxRecDepth 100000 in
def g_X12_seaStands_K51 (a0 : Int32) (a1 : Int32) (I : Nat → Int32) (J : Nat → Int64) (rj : Nat → Nat → Int64) (rq : Nat → Nat → Option Nat) (x_4567 : Int32) (x_4568 : Int32) (x_4569 : Int32) (ri_4570 : Nat → Nat → Int32) (k_g_X12_seaStands_L8 : (Int32) → (Int32) → (Int32) → (Nat → Nat → Int32) → vM) (x_4966 : Int32) : vM := (bnI (g_X12_topOf x_4569 I J ri_4570 rj rq) fun (x_5307 : Int32) (_ : Nat → Int32) (_ : Nat → Int64) (_ : Nat → Nat → Int32) (_ : Nat → Nat → Int64) (_ : Nat → Nat → Option Nat) => (bnI (g_X12_tableAt_c0 a0 I J ri_4570 rj rq) fun (x_5314 : Int32) (_ : Nat → Int32) (_ : Nat → Int64) (_ : Nat → Nat → Int32) (_ : Nat → Nat → Int64) (_ : Nat → Nat → Option Nat) => (ap1 (a1 + x_5314) fun (x_5321 : Int32) => (if x_5307 ≤ x_5321 then (g_X12_seaStands_K75 x_4567 x_4568 x_4569 ri_4570 k_g_X12_seaStands_L8 x_4966 ) else (g_X12_seaStands_K75_2 x_4567 x_4568 x_4569 ri_4570 k_g_X12_seaStands_L8 x_4966 )))))
set_option maxRecDepth 100000 in
theorem g_X12_seaStands_K51_e {a0 : Int32} {a1 : Int32} {I : Nat → Int32} {J : Nat → Int64} {rj : Nat → Nat → Int64} {rq : Nat → Nat → Option Nat} {x_4567 : Int32} {x_4568 : Int32} {x_4569 : Int32} {ri_4570 : Nat → Nat → Int32} {k_g_X12_seaStands_L8 : (Int32) → (Int32) → (Int32) → (Nat → Nat → Int32) → vM} {x_4966 : Int32} : g_X12_seaStands_K51 a0 a1 I J rj rq x_4567 x_4568 x_4569 ri_4570 k_g_X12_seaStands_L8 x_4966  = (bnI (g_X12_topOf x_4569 I J ri_4570 rj rq) fun (x_5307 : Int32) (_ : Nat → Int32) (_ : Nat → Int64) (_ : Nat → Nat → Int32) (_ : Nat → Nat → Int64) (_ : Nat → Nat → Option Nat) => (bnI (g_X12_tableAt_c0 a0 I J ri_4570 rj rq) fun (x_5314 : Int32) (_ : Nat → Int32) (_ : Nat → Int64) (_ : Nat → Nat → Int32) (_ : Nat → Nat → Int64) (_ : Nat → Nat → Option Nat) => (ap1 (a1 + x_5314) fun (x_5321 : Int32) => (if x_5307 ≤ x_5321 then (g_X12_seaStands_K75 x_4567 x_4568 x_4569 ri_4570 k_g_X12_seaStands_L8 x_4966 ) else (g_X12_seaStands_K75_2 x_4567 x_4568 x_4569 ri_4570 k_g_X12_seaStands_L8 x_4966 ))))) := rfl
set_option maxRecDepth 100000 in
def g_X12_seaStands_K360_3 (x_4567 : Int32) (x_4568 : Int32) (x_4569 : Int32) (k_g_X12_seaStands_L8 : (Int32) → (Int32) → (Int32) → (Nat → Nat → Int32) → vM) (ri_6821 : Nat → Nat → Int32) : vM := (ap1 (x_4569 + Int32.ofInt 1) fun (x_6825 : Int32) => (k_g_X12_seaStands_L8 x_4567 x_4568 x_6825 ri_6821))
set_option maxRecDepth 100000 in
theorem g_X12_seaStands_K360_3_e {x_4567 : Int32} {x_4568 : Int32} {x_4569 : Int32} {k_g_X12_seaStands_L8 : (Int32) → (Int32) → (Int32) → (Nat → Nat → Int32) → vM} {ri_6821 : Nat → Nat → Int32} : g_X12_seaStands_K360_3 x_4567 x_4568 x_4569 k_g_X12_seaStands_L8 ri_6821 = (ap1 (x_4569 + Int32.ofInt 1) fun (x_6825 : Int32) => (k_g_X12_seaStands_L8 x_4567 x_4568 x_6825 ri_6821)) := rfl
set_option maxRecDepth 100000 in
def g_X12_seaStands_K287 (x_4567 : Int32) (x_4568 : Int32) (x_4569 : Int32) (k_g_X12_seaStands_L8 : (Int32) → (Int32) → (Int32) → (Nat → Nat → Int32) → vM) (x_4966 : Int32) (ri_6860 : Nat → Nat → Int32) : vM := (ap1 (x_4966 + (10 : Int32)) fun (x_6875 : Int32) => (ap1 (ri_6860 384 (x_6875).toNatClampNeg) fun (x_6877 : Int32) => (if x_6877 ≤ (0 : Int32) then (g_X12_seaStands_K360_3 x_4567 x_4568 x_4569 k_g_X12_seaStands_L8 ri_6860) else (ap1 (x_4966 + (10 : Int32)) fun (x_6887 : Int32) => (ap1 (ri_6860 384 (x_6887).toNatClampNeg) fun (x_6889 : Int32) => (ap1 (x_6889 - (1 : Int32)) fun (x_6890 : Int32) => (ap1 (va_up ri_6860 384 (upd (ri_6860 384) (x_6887).toNatClampNeg x_6890)) fun (r_6891 : Nat → Nat → Int32) => (g_X12_seaStands_K360_3 x_4567 x_4568 x_4569 k_g_X12_seaStands_L8 r_6891))))))))
set_option maxRecDepth 100000 in
theorem g_X12_seaStands_K287_e {x_4567 : Int32} {x_4568 : Int32} {x_4569 : Int32} {k_g_X12_seaStands_L8 : (Int32) → (Int32) → (Int32) → (Nat → Nat → Int32) → vM} {x_4966 : Int32} {ri_6860 : Nat → Nat → Int32} : g_X12_seaStands_K287 x_4567 x_4568 x_4569 k_g_X12_seaStands_L8 x_4966 ri_6860 = (ap1 (x_4966 + (10 : Int32)) fun (x_6875 : Int32) => (ap1 (ri_6860 384 (x_6875).toNatClampNeg) fun (x_6877 : Int32) => (if x_6877 ≤ (0 : Int32) then (g_X12_seaStands_K360_3 x_4567 x_4568 x_4569 k_g_X12_seaStands_L8 ri_6860) else (ap1 (x_4966 + (10 : Int32)) fun (x_6887 : Int32) => (ap1 (ri_6860 384 (x_6887).toNatClampNeg) fun (x_6889 : Int32) => (ap1 (x_6889 - (1 : Int32)) fun (x_6890 : Int32) => (ap1 (va_up ri_6860 384 (upd (ri_6860 384) (x_6887).toNatClampNeg x_6890)) fun (r_6891 : Nat → Nat → Int32) => (g_X12_seaStands_K360_3 x_4567 x_4568 x_4569 k_g_X12_seaStands_L8 r_6891)))))))) := rfl
set_option maxRecDepth 100000 in
def g_X12_seaStands_K207_3 (a0 : Int32) (I : Nat → Int32) (J : Nat → Int64) (rj : Nat → Nat → Int64) (rq : Nat → Nat → Option Nat) (x_4567 : Int32) (x_4568 : Int32) (x_4569 : Int32) (k_g_X12_seaStands_L8 : (Int32) → (Int32) → (Int32) → (Nat → Nat → Int32) → vM) (x_4966 : Int32) (r_6606 : Nat → Nat → Int32) : vM := (ap1 (x_4966 + (8 : Int32)) fun (x_6772 : Int32) => (ap1 (r_6606 384 (x_6772).toNatClampNeg) fun (x_6774 : Int32) => (if x_6774 = (0 : Int32) then (g_X12_seaStands_K360_3 x_4567 x_4568 x_4569 k_g_X12_seaStands_L8 r_6606) else (ap1 (x_4966 + (9 : Int32)) fun (x_6833 : Int32) => (ap1 (r_6606 384 (x_6833).toNatClampNeg) fun (x_6835 : Int32) => (bnI (g_X12_tableAt_c4 a0 I J r_6606 rj rq) fun (x_6836 : Int32) (_ : Nat → Int32) (_ : Nat → Int64) (_ : Nat → Nat → Int32) (_ : Nat → Nat → Int64) (_ : Nat → Nat → Option Nat) => (ap1 (x_4966 + (8 : Int32)) fun (x_6843 : Int32) => (ap1 (r_6606 384 (x_6843).toNatClampNeg) fun (x_6845 : Int32) => (ap1 (x_6836 * x_6845) fun (x_6846 : Int32) => (ap1 (x_6835 + x_6846) fun (x_6847 : Int32) => (ap1 (va_up r_6606 384 (upd (r_6606 384) (x_6833).toNatClampNeg x_6847)) fun (r_6848 : Nat → Nat → Int32) => (ap1 (x_4966 + (9 : Int32)) fun (x_6849 : Int32) => (ap1 (r_6848 384 (x_6849).toNatClampNeg) fun (x_6851 : Int32) => (if x_6851 ≤ (10000 : Int32) then (g_X12_seaStands_K287 x_4567 x_4568 x_4569 k_g_X12_seaStands_L8 x_4966 r_6848) else (ap1 (x_4966 + (9 : Int32)) fun (x_6901 : Int32) => (ap1 (va_up r_6848 384 (upd (r_6848 384) (x_6901).toNatClampNeg (10000 : Int32))) fun (r_6903 : Nat → Nat → Int32) => (g_X12_seaStands_K287 x_4567 x_4568 x_4569 k_g_X12_seaStands_L8 x_4966 r_6903)))))))))))))))))
set_option maxRecDepth 100000 in
theorem g_X12_seaStands_K207_3_e {a0 : Int32} {I : Nat → Int32} {J : Nat → Int64} {rj : Nat → Nat → Int64} {rq : Nat → Nat → Option Nat} {x_4567 : Int32} {x_4568 : Int32} {x_4569 : Int32} {k_g_X12_seaStands_L8 : (Int32) → (Int32) → (Int32) → (Nat → Nat → Int32) → vM} {x_4966 : Int32} {r_6606 : Nat → Nat → Int32} : g_X12_seaStands_K207_3 a0 I J rj rq x_4567 x_4568 x_4569 k_g_X12_seaStands_L8 x_4966 r_6606  = (ap1 (x_4966 + (8 : Int32)) fun (x_6772 : Int32) => (ap1 (r_6606 384 (x_6772).toNatClampNeg) fun (x_6774 : Int32) => (if x_6774 = (0 : Int32) then (g_X12_seaStands_K360_3 x_4567 x_4568 x_4569 k_g_X12_seaStands_L8 r_6606) else (ap1 (x_4966 + (9 : Int32)) fun (x_6833 : Int32) => (ap1 (r_6606 384 (x_6833).toNatClampNeg) fun (x_6835 : Int32) => (bnI (g_X12_tableAt_c4 a0 I J r_6606 rj rq) fun (x_6836 : Int32) (_ : Nat → Int32) (_ : Nat → Int64) (_ : Nat → Nat → Int32) (_ : Nat → Nat → Int64) (_ : Nat → Nat → Option Nat) => (ap1 (x_4966 + (8 : Int32)) fun (x_6843 : Int32) => (ap1 (r_6606 384 (x_6843).toNatClampNeg) fun (x_6845 : Int32) => (ap1 (x_6836 * x_6845) fun (x_6846 : Int32) => (ap1 (x_6835 + x_6846) fun (x_6847 : Int32) => (ap1 (va_up r_6606 384 (upd (r_6606 384) (x_6833).toNatClampNeg x_6847)) fun (r_6848 : Nat → Nat → Int32) => (ap1 (x_4966 + (9 : Int32)) fun (x_6849 : Int32) => (ap1 (r_6848 384 (x_6849).toNatClampNeg) fun (x_6851 : Int32) => (if x_6851 ≤ (10000 : Int32) then (g_X12_seaStands_K287 x_4567 x_4568 x_4569 k_g_X12_seaStands_L8 x_4966 r_6848) else (ap1 (x_4966 + (9 : Int32)) fun (x_6901 : Int32) => (ap1 (va_up r_6848 384 (upd (r_6848 384) (x_6901).toNatClampNeg (10000 : Int32))) fun (r_6903 : Nat → Nat → Int32) => (g_X12_seaStands_K287 x_4567 x_4568 x_4569 k_g_X12_seaStands_L8 x_4966 r_6903))))))))))))))))) := rfl
set_option maxRecDepth 100000 in
def g_X12_seaStands_K191_3 (a0 : Int32) (I : Nat → Int32) (J : Nat → Int64) (rj : Nat → Nat → Int64) (rq : Nat → Nat → Option Nat) (x_4567 : Int32) (x_4568 : Int32) (x_4569 : Int32) (k_g_X12_seaStands_L8 : (Int32) → (Int32) → (Int32) → (Nat → Nat → Int32) → vM) (x_4966 : Int32) (r_6606 : Nat → Nat → Int32) : vM := (g_X12_seaStands_K207_3 a0 I J rj rq x_4567 x_4568 x_4569 k_g_X12_seaStands_L8 x_4966 r_6606 )
set_option maxRecDepth 100000 in
theorem g_X12_seaStands_K191_3_e {a0 : Int32} {I : Nat → Int32} {J : Nat → Int64} {rj : Nat → Nat → Int64} {rq : Nat → Nat → Option Nat} {x_4567 : Int32} {x_4568 : Int32} {x_4569 : Int32} {k_g_X12_seaStands_L8 : (Int32) → (Int32) → (Int32) → (Nat → Nat → Int32) → vM} {x_4966 : Int32} {r_6606 : Nat → Nat → Int32} : g_X12_seaStands_K191_3 a0 I J rj rq x_4567 x_4568 x_4569 k_g_X12_seaStands_L8 x_4966 r_6606  = (g_X12_seaStands_K207_3 a0 I J rj rq x_4567 x_4568 x_4569 k_g_X12_seaStands_L8 x_4966 r_6606 ) := rfl
set_option maxRecDepth 100000 in
def g_X12_seaStands_K167_3 (a0 : Int32) (I : Nat → Int32) (J : Nat → Int64) (rj : Nat → Nat → Int64) (rq : Nat → Nat → Option Nat) (x_4567 : Int32) (x_4568 : Int32) (x_4569 : Int32) (k_g_X12_seaStands_L8 : (Int32) → (Int32) → (Int32) → (Nat → Nat → Int32) → vM) (x_4966 : Int32) (r_6606 : Nat → Nat → Int32) : vM := (g_X12_seaStands_K191_3 a0 I J rj rq x_4567 x_4568 x_4569 k_g_X12_seaStands_L8 x_4966 r_6606 )
set_option maxRecDepth 100000 in
theorem g_X12_seaStands_K167_3_e {a0 : Int32} {I : Nat → Int32} {J : Nat → Int64} {rj : Nat → Nat → Int64} {rq : Nat → Nat → Option Nat} {x_4567 : Int32} {x_4568 : Int32} {x_4569 : Int32} {k_g_X12_seaStands_L8 : (Int32) → (Int32) → (Int32) → (Nat → Nat → Int32) → vM} {x_4966 : Int32} {r_6606 : Nat → Nat → Int32} : g_X12_seaStands_K167_3 a0 I J rj rq x_4567 x_4568 x_4569 k_g_X12_seaStands_L8 x_4966 r_6606  = (g_X12_seaStands_K191_3 a0 I J rj rq x_4567 x_4568 x_4569 k_g_X12_seaStands_L8 x_4966 r_6606 ) := rfl
set_option maxRecDepth 100000 in
def g_X12_seaStands_K147_3 (a0 : Int32) (I : Nat → Int32) (J : Nat → Int64) (rj : Nat → Nat → Int64) (rq : Nat → Nat → Option Nat) (x_4567 : Int32) (x_4568 : Int32) (x_4569 : Int32) (k_g_X12_seaStands_L8 : (Int32) → (Int32) → (Int32) → (Nat → Nat → Int32) → vM) (x_4966 : Int32) (r_6545 : Nat → Nat → Int32) (x_6546 : Int32) : vM := (ap1 (va_up r_6545 384 (upd (r_6545 384) (x_6546).toNatClampNeg (0 : Int32))) fun (r_6606 : Nat → Nat → Int32) => (g_X12_seaStands_K167_3 a0 I J rj rq x_4567 x_4568 x_4569 k_g_X12_seaStands_L8 x_4966 r_6606 ))
set_option maxRecDepth 100000 in
theorem g_X12_seaStands_K147_3_e {a0 : Int32} {I : Nat → Int32} {J : Nat → Int64} {rj : Nat → Nat → Int64} {rq : Nat → Nat → Option Nat} {x_4567 : Int32} {x_4568 : Int32} {x_4569 : Int32} {k_g_X12_seaStands_L8 : (Int32) → (Int32) → (Int32) → (Nat → Nat → Int32) → vM} {x_4966 : Int32} {r_6545 : Nat → Nat → Int32} {x_6546 : Int32} : g_X12_seaStands_K147_3 a0 I J rj rq x_4567 x_4568 x_4569 k_g_X12_seaStands_L8 x_4966 r_6545 x_6546  = (ap1 (va_up r_6545 384 (upd (r_6545 384) (x_6546).toNatClampNeg (0 : Int32))) fun (r_6606 : Nat → Nat → Int32) => (g_X12_seaStands_K167_3 a0 I J rj rq x_4567 x_4568 x_4569 k_g_X12_seaStands_L8 x_4966 r_6606 )) := rfl
set_option maxRecDepth 100000 in
def g_X12_seaStands_K116_3 (a0 : Int32) (I : Nat → Int32) (J : Nat → Int64) (rj : Nat → Nat → Int64) (rq : Nat → Nat → Option Nat) (x_4567 : Int32) (x_4568 : Int32) (x_4569 : Int32) (k_g_X12_seaStands_L8 : (Int32) → (Int32) → (Int32) → (Nat → Nat → Int32) → vM) (x_4966 : Int32) (r_6480 : Nat → Nat → Int32) (x_6481 : Int32) : vM := (ap1 (va_up r_6480 384 (upd (r_6480 384) (x_6481).toNatClampNeg (0 : Int32))) fun (r_6545 : Nat → Nat → Int32) => (ap1 (x_4966 + (11 : Int32)) fun (x_6546 : Int32) => (g_X12_seaStands_K147_3 a0 I J rj rq x_4567 x_4568 x_4569 k_g_X12_seaStands_L8 x_4966 r_6545 x_6546 )))
set_option maxRecDepth 100000 in
theorem g_X12_seaStands_K116_3_e {a0 : Int32} {I : Nat → Int32} {J : Nat → Int64} {rj : Nat → Nat → Int64} {rq : Nat → Nat → Option Nat} {x_4567 : Int32} {x_4568 : Int32} {x_4569 : Int32} {k_g_X12_seaStands_L8 : (Int32) → (Int32) → (Int32) → (Nat → Nat → Int32) → vM} {x_4966 : Int32} {r_6480 : Nat → Nat → Int32} {x_6481 : Int32} : g_X12_seaStands_K116_3 a0 I J rj rq x_4567 x_4568 x_4569 k_g_X12_seaStands_L8 x_4966 r_6480 x_6481  = (ap1 (va_up r_6480 384 (upd (r_6480 384) (x_6481).toNatClampNeg (0 : Int32))) fun (r_6545 : Nat → Nat → Int32) => (ap1 (x_4966 + (11 : Int32)) fun (x_6546 : Int32) => (g_X12_seaStands_K147_3 a0 I J rj rq x_4567 x_4568 x_4569 k_g_X12_seaStands_L8 x_4966 r_6545 x_6546 ))) := rfl
set_option maxRecDepth 100000 in
def g_X12_seaStands_K96_3 (a0 : Int32) (I : Nat → Int32) (J : Nat → Int64) (rj : Nat → Nat → Int64) (rq : Nat → Nat → Option Nat) (x_4567 : Int32) (x_4568 : Int32) (x_4569 : Int32) (ri_4570 : Nat → Nat → Int32) (k_g_X12_seaStands_L8 : (Int32) → (Int32) → (Int32) → (Nat → Nat → Int32) → vM) (x_4966 : Int32) (x_6412 : Int32) : vM := (ap1 (va_up ri_4570 384 (upd (ri_4570 384) (x_6412).toNatClampNeg (1 : Int32))) fun (r_6480 : Nat → Nat → Int32) => (ap1 (x_4966 + (13 : Int32)) fun (x_6481 : Int32) => (g_X12_seaStands_K116_3 a0 I J rj rq x_4567 x_4568 x_4569 k_g_X12_seaStands_L8 x_4966 r_6480 x_6481 )))
set_option maxRecDepth 100000 in
theorem g_X12_seaStands_K96_3_e {a0 : Int32} {I : Nat → Int32} {J : Nat → Int64} {rj : Nat → Nat → Int64} {rq : Nat → Nat → Option Nat} {x_4567 : Int32} {x_4568 : Int32} {x_4569 : Int32} {ri_4570 : Nat → Nat → Int32} {k_g_X12_seaStands_L8 : (Int32) → (Int32) → (Int32) → (Nat → Nat → Int32) → vM} {x_4966 : Int32} {x_6412 : Int32} : g_X12_seaStands_K96_3 a0 I J rj rq x_4567 x_4568 x_4569 ri_4570 k_g_X12_seaStands_L8 x_4966 x_6412  = (ap1 (va_up ri_4570 384 (upd (ri_4570 384) (x_6412).toNatClampNeg (1 : Int32))) fun (r_6480 : Nat → Nat → Int32) => (ap1 (x_4966 + (13 : Int32)) fun (x_6481 : Int32) => (g_X12_seaStands_K116_3 a0 I J rj rq x_4567 x_4568 x_4569 k_g_X12_seaStands_L8 x_4966 r_6480 x_6481 ))) := rfl
set_option maxRecDepth 100000 in
def g_X12_seaStands_K75_3 (a0 : Int32) (I : Nat → Int32) (J : Nat → Int64) (rj : Nat → Nat → Int64) (rq : Nat → Nat → Option Nat) (x_4567 : Int32) (x_4568 : Int32) (x_4569 : Int32) (ri_4570 : Nat → Nat → Int32) (k_g_X12_seaStands_L8 : (Int32) → (Int32) → (Int32) → (Nat → Nat → Int32) → vM) (x_4966 : Int32) : vM := (ap1 (x_4966 + (12 : Int32)) fun (x_6412 : Int32) => (g_X12_seaStands_K96_3 a0 I J rj rq x_4567 x_4568 x_4569 ri_4570 k_g_X12_seaStands_L8 x_4966 x_6412 ))
set_option maxRecDepth 100000 in
theorem g_X12_seaStands_K75_3_e {a0 : Int32} {I : Nat → Int32} {J : Nat → Int64} {rj : Nat → Nat → Int64} {rq : Nat → Nat → Option Nat} {x_4567 : Int32} {x_4568 : Int32} {x_4569 : Int32} {ri_4570 : Nat → Nat → Int32} {k_g_X12_seaStands_L8 : (Int32) → (Int32) → (Int32) → (Nat → Nat → Int32) → vM} {x_4966 : Int32} : g_X12_seaStands_K75_3 a0 I J rj rq x_4567 x_4568 x_4569 ri_4570 k_g_X12_seaStands_L8 x_4966  = (ap1 (x_4966 + (12 : Int32)) fun (x_6412 : Int32) => (g_X12_seaStands_K96_3 a0 I J rj rq x_4567 x_4568 x_4569 ri_4570 k_g_X12_seaStands_L8 x_4966 x_6412 )) := rfl
set_option maxRecDepth 100000 in
def g_X12_seaStands_K360_4 (x_4569 : Int32) (k_g_X12_seaStands_L8 : (Int32) → (Int32) → (Int32) → (Nat → Nat → Int32) → vM) (x_7174 : Int32) (x_7250 : Int32) (ri_7408 : Nat → Nat → Int32) : vM := (ap1 (x_4569 + Int32.ofInt 1) fun (x_7412 : Int32) => (k_g_X12_seaStands_L8 x_7174 x_7250 x_7412 ri_7408))
set_option maxRecDepth 100000 in
theorem g_X12_seaStands_K360_4_e {x_4569 : Int32} {k_g_X12_seaStands_L8 : (Int32) → (Int32) → (Int32) → (Nat → Nat → Int32) → vM} {x_7174 : Int32} {x_7250 : Int32} {ri_7408 : Nat → Nat → Int32} : g_X12_seaStands_K360_4 x_4569 k_g_X12_seaStands_L8 x_7174 x_7250 ri_7408 = (ap1 (x_4569 + Int32.ofInt 1) fun (x_7412 : Int32) => (k_g_X12_seaStands_L8 x_7174 x_7250 x_7412 ri_7408)) := rfl
set_option maxRecDepth 100000 in
def g_X12_seaStands_K287_2 (x_4569 : Int32) (k_g_X12_seaStands_L8 : (Int32) → (Int32) → (Int32) → (Nat → Nat → Int32) → vM) (x_4966 : Int32) (x_7174 : Int32) (x_7250 : Int32) (ri_7447 : Nat → Nat → Int32) : vM := (ap1 (x_4966 + (10 : Int32)) fun (x_7462 : Int32) => (ap1 (ri_7447 384 (x_7462).toNatClampNeg) fun (x_7464 : Int32) => (if x_7464 ≤ (0 : Int32) then (g_X12_seaStands_K360_4 x_4569 k_g_X12_seaStands_L8 x_7174 x_7250 ri_7447) else (ap1 (x_4966 + (10 : Int32)) fun (x_7474 : Int32) => (ap1 (ri_7447 384 (x_7474).toNatClampNeg) fun (x_7476 : Int32) => (ap1 (x_7476 - (1 : Int32)) fun (x_7477 : Int32) => (ap1 (va_up ri_7447 384 (upd (ri_7447 384) (x_7474).toNatClampNeg x_7477)) fun (r_7478 : Nat → Nat → Int32) => (g_X12_seaStands_K360_4 x_4569 k_g_X12_seaStands_L8 x_7174 x_7250 r_7478))))))))
set_option maxRecDepth 100000 in
theorem g_X12_seaStands_K287_2_e {x_4569 : Int32} {k_g_X12_seaStands_L8 : (Int32) → (Int32) → (Int32) → (Nat → Nat → Int32) → vM} {x_4966 : Int32} {x_7174 : Int32} {x_7250 : Int32} {ri_7447 : Nat → Nat → Int32} : g_X12_seaStands_K287_2 x_4569 k_g_X12_seaStands_L8 x_4966 x_7174 x_7250 ri_7447 = (ap1 (x_4966 + (10 : Int32)) fun (x_7462 : Int32) => (ap1 (ri_7447 384 (x_7462).toNatClampNeg) fun (x_7464 : Int32) => (if x_7464 ≤ (0 : Int32) then (g_X12_seaStands_K360_4 x_4569 k_g_X12_seaStands_L8 x_7174 x_7250 ri_7447) else (ap1 (x_4966 + (10 : Int32)) fun (x_7474 : Int32) => (ap1 (ri_7447 384 (x_7474).toNatClampNeg) fun (x_7476 : Int32) => (ap1 (x_7476 - (1 : Int32)) fun (x_7477 : Int32) => (ap1 (va_up ri_7447 384 (upd (ri_7447 384) (x_7474).toNatClampNeg x_7477)) fun (r_7478 : Nat → Nat → Int32) => (g_X12_seaStands_K360_4 x_4569 k_g_X12_seaStands_L8 x_7174 x_7250 r_7478)))))))) := rfl
set_option maxRecDepth 100000 in
def g_X12_seaStands_K207_4 (a0 : Int32) (I : Nat → Int32) (J : Nat → Int64) (rj : Nat → Nat → Int64) (rq : Nat → Nat → Option Nat) (x_4569 : Int32) (k_g_X12_seaStands_L8 : (Int32) → (Int32) → (Int32) → (Nat → Nat → Int32) → vM) (x_4966 : Int32) (r_7165 : Nat → Nat → Int32) (x_7174 : Int32) (x_7250 : Int32) : vM := (ap1 (x_4966 + (8 : Int32)) fun (x_7359 : Int32) => (ap1 (r_7165 384 (x_7359).toNatClampNeg) fun (x_7361 : Int32) => (if x_7361 = (0 : Int32) then (g_X12_seaStands_K360_4 x_4569 k_g_X12_seaStands_L8 x_7174 x_7250 r_7165) else (ap1 (x_4966 + (9 : Int32)) fun (x_7420 : Int32) => (ap1 (r_7165 384 (x_7420).toNatClampNeg) fun (x_7422 : Int32) => (bnI (g_X12_tableAt_c4 a0 I J r_7165 rj rq) fun (x_7423 : Int32) (_ : Nat → Int32) (_ : Nat → Int64) (_ : Nat → Nat → Int32) (_ : Nat → Nat → Int64) (_ : Nat → Nat → Option Nat) => (ap1 (x_4966 + (8 : Int32)) fun (x_7430 : Int32) => (ap1 (r_7165 384 (x_7430).toNatClampNeg) fun (x_7432 : Int32) => (ap1 (x_7423 * x_7432) fun (x_7433 : Int32) => (ap1 (x_7422 + x_7433) fun (x_7434 : Int32) => (ap1 (va_up r_7165 384 (upd (r_7165 384) (x_7420).toNatClampNeg x_7434)) fun (r_7435 : Nat → Nat → Int32) => (ap1 (x_4966 + (9 : Int32)) fun (x_7436 : Int32) => (ap1 (r_7435 384 (x_7436).toNatClampNeg) fun (x_7438 : Int32) => (if x_7438 ≤ (10000 : Int32) then (g_X12_seaStands_K287_2 x_4569 k_g_X12_seaStands_L8 x_4966 x_7174 x_7250 r_7435) else (ap1 (x_4966 + (9 : Int32)) fun (x_7488 : Int32) => (ap1 (va_up r_7435 384 (upd (r_7435 384) (x_7488).toNatClampNeg (10000 : Int32))) fun (r_7490 : Nat → Nat → Int32) => (g_X12_seaStands_K287_2 x_4569 k_g_X12_seaStands_L8 x_4966 x_7174 x_7250 r_7490)))))))))))))))))
set_option maxRecDepth 100000 in
theorem g_X12_seaStands_K207_4_e {a0 : Int32} {I : Nat → Int32} {J : Nat → Int64} {rj : Nat → Nat → Int64} {rq : Nat → Nat → Option Nat} {x_4569 : Int32} {k_g_X12_seaStands_L8 : (Int32) → (Int32) → (Int32) → (Nat → Nat → Int32) → vM} {x_4966 : Int32} {r_7165 : Nat → Nat → Int32} {x_7174 : Int32} {x_7250 : Int32} : g_X12_seaStands_K207_4 a0 I J rj rq x_4569 k_g_X12_seaStands_L8 x_4966 r_7165 x_7174 x_7250  = (ap1 (x_4966 + (8 : Int32)) fun (x_7359 : Int32) => (ap1 (r_7165 384 (x_7359).toNatClampNeg) fun (x_7361 : Int32) => (if x_7361 = (0 : Int32) then (g_X12_seaStands_K360_4 x_4569 k_g_X12_seaStands_L8 x_7174 x_7250 r_7165) else (ap1 (x_4966 + (9 : Int32)) fun (x_7420 : Int32) => (ap1 (r_7165 384 (x_7420).toNatClampNeg) fun (x_7422 : Int32) => (bnI (g_X12_tableAt_c4 a0 I J r_7165 rj rq) fun (x_7423 : Int32) (_ : Nat → Int32) (_ : Nat → Int64) (_ : Nat → Nat → Int32) (_ : Nat → Nat → Int64) (_ : Nat → Nat → Option Nat) => (ap1 (x_4966 + (8 : Int32)) fun (x_7430 : Int32) => (ap1 (r_7165 384 (x_7430).toNatClampNeg) fun (x_7432 : Int32) => (ap1 (x_7423 * x_7432) fun (x_7433 : Int32) => (ap1 (x_7422 + x_7433) fun (x_7434 : Int32) => (ap1 (va_up r_7165 384 (upd (r_7165 384) (x_7420).toNatClampNeg x_7434)) fun (r_7435 : Nat → Nat → Int32) => (ap1 (x_4966 + (9 : Int32)) fun (x_7436 : Int32) => (ap1 (r_7435 384 (x_7436).toNatClampNeg) fun (x_7438 : Int32) => (if x_7438 ≤ (10000 : Int32) then (g_X12_seaStands_K287_2 x_4569 k_g_X12_seaStands_L8 x_4966 x_7174 x_7250 r_7435) else (ap1 (x_4966 + (9 : Int32)) fun (x_7488 : Int32) => (ap1 (va_up r_7435 384 (upd (r_7435 384) (x_7488).toNatClampNeg (10000 : Int32))) fun (r_7490 : Nat → Nat → Int32) => (g_X12_seaStands_K287_2 x_4569 k_g_X12_seaStands_L8 x_4966 x_7174 x_7250 r_7490))))))))))))))))) := rfl
set_option maxRecDepth 100000 in
def g_X12_seaStands_K191_4 (a0 : Int32) (I : Nat → Int32) (J : Nat → Int64) (rj : Nat → Nat → Int64) (rq : Nat → Nat → Option Nat) (x_4569 : Int32) (k_g_X12_seaStands_L8 : (Int32) → (Int32) → (Int32) → (Nat → Nat → Int32) → vM) (x_4966 : Int32) (r_7165 : Nat → Nat → Int32) (x_7174 : Int32) (x_7250 : Int32) : vM := (g_X12_seaStands_K207_4 a0 I J rj rq x_4569 k_g_X12_seaStands_L8 x_4966 r_7165 x_7174 x_7250 )
set_option maxRecDepth 100000 in
theorem g_X12_seaStands_K191_4_e {a0 : Int32} {I : Nat → Int32} {J : Nat → Int64} {rj : Nat → Nat → Int64} {rq : Nat → Nat → Option Nat} {x_4569 : Int32} {k_g_X12_seaStands_L8 : (Int32) → (Int32) → (Int32) → (Nat → Nat → Int32) → vM} {x_4966 : Int32} {r_7165 : Nat → Nat → Int32} {x_7174 : Int32} {x_7250 : Int32} : g_X12_seaStands_K191_4 a0 I J rj rq x_4569 k_g_X12_seaStands_L8 x_4966 r_7165 x_7174 x_7250 = (g_X12_seaStands_K207_4 a0 I J rj rq x_4569 k_g_X12_seaStands_L8 x_4966 r_7165 x_7174 x_7250 ) := rfl
set_option maxRecDepth 100000 in
def g_X12_seaStands_K167_4 (a0 : Int32) (I : Nat → Int32) (J : Nat → Int64) (rj : Nat → Nat → Int64) (rq : Nat → Nat → Option Nat) (x_4568 : Int32) (x_4569 : Int32) (k_g_X12_seaStands_L8 : (Int32) → (Int32) → (Int32) → (Nat → Nat → Int32) → vM) (x_4966 : Int32) (r_7165 : Nat → Nat → Int32) (x_7174 : Int32) : vM := (if x_4569 < (20 : Int32) then (g_X12_seaStands_K191_4 a0 I J rj rq x_4569 k_g_X12_seaStands_L8 x_4966 r_7165 x_7174 x_4568) else (ap1 (x_4569 - (20 : Int32)) fun (x_7504 : Int32) => (ap1 ((1 : Int32) <<< (x_7504 &&& 31)) fun (x_7506 : Int32) => (ap1 (x_4568 ||| x_7506) fun (x_7507 : Int32) => (g_X12_seaStands_K191_4 a0 I J rj rq x_4569 k_g_X12_seaStands_L8 x_4966 r_7165 x_7174 x_7507)))))
set_option maxRecDepth 100000 in
theorem g_X12_seaStands_K167_4_e {a0 : Int32} {I : Nat → Int32} {J : Nat → Int64} {rj : Nat → Nat → Int64} {rq : Nat → Nat → Option Nat} {x_4568 : Int32} {x_4569 : Int32} {k_g_X12_seaStands_L8 : (Int32) → (Int32) → (Int32) → (Nat → Nat → Int32) → vM} {x_4966 : Int32} {r_7165 : Nat → Nat → Int32} {x_7174 : Int32} : g_X12_seaStands_K167_4 a0 I J rj rq x_4568 x_4569 k_g_X12_seaStands_L8 x_4966 r_7165 x_7174 = (if x_4569 < (20 : Int32) then (g_X12_seaStands_K191_4 a0 I J rj rq x_4569 k_g_X12_seaStands_L8 x_4966 r_7165 x_7174 x_4568) else (ap1 (x_4569 - (20 : Int32)) fun (x_7504 : Int32) => (ap1 ((1 : Int32) <<< (x_7504 &&& 31)) fun (x_7506 : Int32) => (ap1 (x_4568 ||| x_7506) fun (x_7507 : Int32) => (g_X12_seaStands_K191_4 a0 I J rj rq x_4569 k_g_X12_seaStands_L8 x_4966 r_7165 x_7174 x_7507))))) := rfl
set_option maxRecDepth 100000 in
def g_X12_seaStands_K147_4 (a0 : Int32) (I : Nat → Int32) (J : Nat → Int64) (rj : Nat → Nat → Int64) (rq : Nat → Nat → Option Nat) (x_4567 : Int32) (x_4568 : Int32) (x_4569 : Int32) (k_g_X12_seaStands_L8 : (Int32) → (Int32) → (Int32) → (Nat → Nat → Int32) → vM) (x_4966 : Int32) (r_7086 : Nat → Nat → Int32) (x_7087 : Int32) : vM := (ap1 (va_up r_7086 384 (upd (r_7086 384) (x_7087).toNatClampNeg (0 : Int32))) fun (r_7165 : Nat → Nat → Int32) => (if (20 : Int32) ≤ x_4569 then (g_X12_seaStands_K167_4 a0 I J rj rq x_4568 x_4569 k_g_X12_seaStands_L8 x_4966 r_7165 x_4567) else (ap1 ((1 : Int32) <<< (x_4569 &&& 31)) fun (x_7518 : Int32) => (ap1 (x_4567 ||| x_7518) fun (x_7519 : Int32) => (g_X12_seaStands_K167_4 a0 I J rj rq x_4568 x_4569 k_g_X12_seaStands_L8 x_4966 r_7165 x_7519)))))
set_option maxRecDepth 100000 in
theorem g_X12_seaStands_K147_4_e {a0 : Int32} {I : Nat → Int32} {J : Nat → Int64} {rj : Nat → Nat → Int64} {rq : Nat → Nat → Option Nat} {x_4567 : Int32} {x_4568 : Int32} {x_4569 : Int32} {k_g_X12_seaStands_L8 : (Int32) → (Int32) → (Int32) → (Nat → Nat → Int32) → vM} {x_4966 : Int32} {r_7086 : Nat → Nat → Int32} {x_7087 : Int32} : g_X12_seaStands_K147_4 a0 I J rj rq x_4567 x_4568 x_4569 k_g_X12_seaStands_L8 x_4966 r_7086 x_7087  = (ap1 (va_up r_7086 384 (upd (r_7086 384) (x_7087).toNatClampNeg (0 : Int32))) fun (r_7165 : Nat → Nat → Int32) => (if (20 : Int32) ≤ x_4569 then (g_X12_seaStands_K167_4 a0 I J rj rq x_4568 x_4569 k_g_X12_seaStands_L8 x_4966 r_7165 x_4567) else (ap1 ((1 : Int32) <<< (x_4569 &&& 31)) fun (x_7518 : Int32) => (ap1 (x_4567 ||| x_7518) fun (x_7519 : Int32) => (g_X12_seaStands_K167_4 a0 I J rj rq x_4568 x_4569 k_g_X12_seaStands_L8 x_4966 r_7165 x_7519))))) := rfl
set_option maxRecDepth 100000 in
def g_X12_seaStands_K116_4 (a0 : Int32) (I : Nat → Int32) (J : Nat → Int64) (rj : Nat → Nat → Int64) (rq : Nat → Nat → Option Nat) (x_4567 : Int32) (x_4568 : Int32) (x_4569 : Int32) (k_g_X12_seaStands_L8 : (Int32) → (Int32) → (Int32) → (Nat → Nat → Int32) → vM) (x_4966 : Int32) (r_7003 : Nat → Nat → Int32) (x_7004 : Int32) : vM := (ap1 (va_up r_7003 384 (upd (r_7003 384) (x_7004).toNatClampNeg (1 : Int32))) fun (r_7086 : Nat → Nat → Int32) => (ap1 (x_4966 + (11 : Int32)) fun (x_7087 : Int32) => (g_X12_seaStands_K147_4 a0 I J rj rq x_4567 x_4568 x_4569 k_g_X12_seaStands_L8 x_4966 r_7086 x_7087 )))
set_option maxRecDepth 100000 in
theorem g_X12_seaStands_K116_4_e {a0 : Int32} {I : Nat → Int32} {J : Nat → Int64} {rj : Nat → Nat → Int64} {rq : Nat → Nat → Option Nat} {x_4567 : Int32} {x_4568 : Int32} {x_4569 : Int32} {k_g_X12_seaStands_L8 : (Int32) → (Int32) → (Int32) → (Nat → Nat → Int32) → vM} {x_4966 : Int32} {r_7003 : Nat → Nat → Int32} {x_7004 : Int32} : g_X12_seaStands_K116_4 a0 I J rj rq x_4567 x_4568 x_4569 k_g_X12_seaStands_L8 x_4966 r_7003 x_7004  = (ap1 (va_up r_7003 384 (upd (r_7003 384) (x_7004).toNatClampNeg (1 : Int32))) fun (r_7086 : Nat → Nat → Int32) => (ap1 (x_4966 + (11 : Int32)) fun (x_7087 : Int32) => (g_X12_seaStands_K147_4 a0 I J rj rq x_4567 x_4568 x_4569 k_g_X12_seaStands_L8 x_4966 r_7086 x_7087 ))) := rfl
set_option maxRecDepth 100000 in
def g_X12_seaStands_K96_4 (a0 : Int32) (I : Nat → Int32) (J : Nat → Int64) (rj : Nat → Nat → Int64) (rq : Nat → Nat → Option Nat) (x_4567 : Int32) (x_4568 : Int32) (x_4569 : Int32) (ri_4570 : Nat → Nat → Int32) (k_g_X12_seaStands_L8 : (Int32) → (Int32) → (Int32) → (Nat → Nat → Int32) → vM) (x_4966 : Int32) (x_6917 : Int32) : vM := (ap1 (va_up ri_4570 384 (upd (ri_4570 384) (x_6917).toNatClampNeg (1 : Int32))) fun (r_7003 : Nat → Nat → Int32) => (ap1 (x_4966 + (13 : Int32)) fun (x_7004 : Int32) => (g_X12_seaStands_K116_4 a0 I J rj rq x_4567 x_4568 x_4569 k_g_X12_seaStands_L8 x_4966 r_7003 x_7004 )))
set_option maxRecDepth 100000 in
theorem g_X12_seaStands_K96_4_e {a0 : Int32} {I : Nat → Int32} {J : Nat → Int64} {rj : Nat → Nat → Int64} {rq : Nat → Nat → Option Nat} {x_4567 : Int32} {x_4568 : Int32} {x_4569 : Int32} {ri_4570 : Nat → Nat → Int32} {k_g_X12_seaStands_L8 : (Int32) → (Int32) → (Int32) → (Nat → Nat → Int32) → vM} {x_4966 : Int32} {x_6917 : Int32} : g_X12_seaStands_K96_4 a0 I J rj rq x_4567 x_4568 x_4569 ri_4570 k_g_X12_seaStands_L8 x_4966 x_6917  = (ap1 (va_up ri_4570 384 (upd (ri_4570 384) (x_6917).toNatClampNeg (1 : Int32))) fun (r_7003 : Nat → Nat → Int32) => (ap1 (x_4966 + (13 : Int32)) fun (x_7004 : Int32) => (g_X12_seaStands_K116_4 a0 I J rj rq x_4567 x_4568 x_4569 k_g_X12_seaStands_L8 x_4966 r_7003 x_7004 ))) := rfl
set_option maxRecDepth 100000 in
def g_X12_seaStands_K75_4 (a0 : Int32) (I : Nat → Int32) (J : Nat → Int64) (rj : Nat → Nat → Int64) (rq : Nat → Nat → Option Nat) (x_4567 : Int32) (x_4568 : Int32) (x_4569 : Int32) (ri_4570 : Nat → Nat → Int32) (k_g_X12_seaStands_L8 : (Int32) → (Int32) → (Int32) → (Nat → Nat → Int32) → vM) (x_4966 : Int32) : vM := (ap1 (x_4966 + (12 : Int32)) fun (x_6917 : Int32) => (g_X12_seaStands_K96_4 a0 I J rj rq x_4567 x_4568 x_4569 ri_4570 k_g_X12_seaStands_L8 x_4966 x_6917 ))
set_option maxRecDepth 100000 in
theorem g_X12_seaStands_K75_4_e {a0 : Int32} {I : Nat → Int32} {J : Nat → Int64} {rj : Nat → Nat → Int64} {rq : Nat → Nat → Option Nat} {x_4567 : Int32} {x_4568 : Int32} {x_4569 : Int32} {ri_4570 : Nat → Nat → Int32} {k_g_X12_seaStands_L8 : (Int32) → (Int32) → (Int32) → (Nat → Nat → Int32) → vM} {x_4966 : Int32} : g_X12_seaStands_K75_4 a0 I J rj rq x_4567 x_4568 x_4569 ri_4570 k_g_X12_seaStands_L8 x_4966  = (ap1 (x_4966 + (12 : Int32)) fun (x_6917 : Int32) => (g_X12_seaStands_K96_4 a0 I J rj rq x_4567 x_4568 x_4569 ri_4570 k_g_X12_seaStands_L8 x_4966 x_6917 )) := rfl
set_option maxRecDepth 100000 in
def g_X12_seaStands_K51_2 (a0 : Int32) (a1 : Int32) (I : Nat → Int32) (J : Nat → Int64) (rj : Nat → Nat → Int64) (rq : Nat → Nat → Option Nat) (x_4567 : Int32) (x_4568 : Int32) (x_4569 : Int32) (ri_4570 : Nat → Nat → Int32) (k_g_X12_seaStands_L8 : (Int32) → (Int32) → (Int32) → (Nat → Nat → Int32) → vM) (x_4966 : Int32) : vM := (bnI (g_X12_topOf x_4569 I J ri_4570 rj rq) fun (x_6237 : Int32) (_ : Nat → Int32) (_ : Nat → Int64) (_ : Nat → Nat → Int32) (_ : Nat → Nat → Int64) (_ : Nat → Nat → Option Nat) => (bnI (g_X12_tableAt_c0 a0 I J ri_4570 rj rq) fun (x_6244 : Int32) (_ : Nat → Int32) (_ : Nat → Int64) (_ : Nat → Nat → Int32) (_ : Nat → Nat → Int64) (_ : Nat → Nat → Option Nat) => (ap1 (a1 + x_6244) fun (x_6251 : Int32) => (if x_6237 ≤ x_6251 then (g_X12_seaStands_K75_3 a0 I J rj rq x_4567 x_4568 x_4569 ri_4570 k_g_X12_seaStands_L8 x_4966 ) else (g_X12_seaStands_K75_4 a0 I J rj rq x_4567 x_4568 x_4569 ri_4570 k_g_X12_seaStands_L8 x_4966 )))))
set_option maxRecDepth 100000 in
theorem g_X12_seaStands_K51_2_e {a0 : Int32} {a1 : Int32} {I : Nat → Int32} {J : Nat → Int64} {rj : Nat → Nat → Int64} {rq : Nat → Nat → Option Nat} {x_4567 : Int32} {x_4568 : Int32} {x_4569 : Int32} {ri_4570 : Nat → Nat → Int32} {k_g_X12_seaStands_L8 : (Int32) → (Int32) → (Int32) → (Nat → Nat → Int32) → vM} {x_4966 : Int32} : g_X12_seaStands_K51_2 a0 a1 I J rj rq x_4567 x_4568 x_4569 ri_4570 k_g_X12_seaStands_L8 x_4966  = (bnI (g_X12_topOf x_4569 I J ri_4570 rj rq) fun (x_6237 : Int32) (_ : Nat → Int32) (_ : Nat → Int64) (_ : Nat → Nat → Int32) (_ : Nat → Nat → Int64) (_ : Nat → Nat → Option Nat) => (bnI (g_X12_tableAt_c0 a0 I J ri_4570 rj rq) fun (x_6244 : Int32) (_ : Nat → Int32) (_ : Nat → Int64) (_ : Nat → Nat → Int32) (_ : Nat → Nat → Int64) (_ : Nat → Nat → Option Nat) => (ap1 (a1 + x_6244) fun (x_6251 : Int32) => (if x_6237 ≤ x_6251 then (g_X12_seaStands_K75_3 a0 I J rj rq x_4567 x_4568 x_4569 ri_4570 k_g_X12_seaStands_L8 x_4966 ) else (g_X12_seaStands_K75_4 a0 I J rj rq x_4567 x_4568 x_4569 ri_4570 k_g_X12_seaStands_L8 x_4966 ))))) := rfl
set_option maxRecDepth 100000 in
def g_X12_seaStands_L8 (a0 : Int32) (a1 : Int32) (I : Nat → Int32) (J : Nat → Int64) (ri : Nat → Nat → Int32) (rj : Nat → Nat → Int64) (rq : Nat → Nat → Option Nat) : Nat → (Int32) → (Int32) → (Int32) → (Nat → Nat → Int32) → vM
  | 0, x_4567, x_4568, x_4569, ri_4570 => (I, J, ri_4570, rj, rq)
  | n_4935 + 1, x_4567, x_4568, x_4569, ri_4570 => (ap1 (ri 384 2) fun (y_4942 : Int32) => (if (y_4942) ≤ x_4569 then (ap1 ((2 : Int32) * a0) fun (x_4949 : Int32) => (ap1 ((2520 : Int32) + x_4949) fun (x_4951 : Int32) => (ap1 (va_up ri_4570 384 (upd (ri_4570 384) (x_4951).toNatClampNeg x_4567)) fun (r_4953 : Nat → Nat → Int32) => (ap1 ((2 : Int32) * a0) fun (x_4954 : Int32) => (ap1 ((2520 : Int32) + x_4954) fun (x_4956 : Int32) => (ap1 (x_4956 + (1 : Int32)) fun (x_4958 : Int32) => (ap1 (va_up r_4953 384 (upd (r_4953 384) (x_4958).toNatClampNeg x_4568)) fun (r_4960 : Nat → Nat → Int32) => (I, J, r_4960, rj, rq)))))))) else (ap1 ((16 : Int32) * x_4569) fun (x_4964 : Int32) => (ap1 ((100 : Int32) + x_4964) fun (x_4966 : Int32) => (bnI (g_X12_topOf x_4569 I J ri_4570 rj rq) fun (x_4968 : Int32) (_ : Nat → Int32) (_ : Nat → Int64) (_ : Nat → Nat → Int32) (_ : Nat → Nat → Int64) (_ : Nat → Nat → Option Nat) => (bnI (g_X12_tableAt_c1 a0 I J ri_4570 rj rq) fun (x_4975 : Int32) (_ : Nat → Int32) (_ : Nat → Int64) (_ : Nat → Nat → Int32) (_ : Nat → Nat → Int64) (_ : Nat → Nat → Option Nat) => (ap1 (a1 + x_4975) fun (x_4982 : Int32) => (if x_4968 ≤ x_4982 then (g_X12_seaStands_K51 a0 a1 I J rj rq x_4567 x_4568 x_4569 ri_4570 (g_X12_seaStands_L8 a0 a1 I J ri rj rq n_4935) x_4966 ) else (g_X12_seaStands_K51_2 a0 a1 I J rj rq x_4567 x_4568 x_4569 ri_4570 (g_X12_seaStands_L8 a0 a1 I J ri rj rq n_4935) x_4966 )))))))))
set_option maxRecDepth 100000 in
theorem g_X12_seaStands_L8_e {a0 : Int32} {a1 : Int32} {I : Nat → Int32} {J : Nat → Int64} {ri : Nat → Nat → Int32} {rj : Nat → Nat → Int64} {rq : Nat → Nat → Option Nat} {n_4935 : Nat} {x_4567 : Int32} {x_4568 : Int32} {x_4569 : Int32} {ri_4570 : Nat → Nat → Int32} : g_X12_seaStands_L8 a0 a1 I J ri rj rq (n_4935 + 1) x_4567 x_4568 x_4569 ri_4570 = (ap1 (ri 384 2) fun (y_4942 : Int32) => (if (y_4942) ≤ x_4569 then (ap1 ((2 : Int32) * a0) fun (x_4949 : Int32) => (ap1 ((2520 : Int32) + x_4949) fun (x_4951 : Int32) => (ap1 (va_up ri_4570 384 (upd (ri_4570 384) (x_4951).toNatClampNeg x_4567)) fun (r_4953 : Nat → Nat → Int32) => (ap1 ((2 : Int32) * a0) fun (x_4954 : Int32) => (ap1 ((2520 : Int32) + x_4954) fun (x_4956 : Int32) => (ap1 (x_4956 + (1 : Int32)) fun (x_4958 : Int32) => (ap1 (va_up r_4953 384 (upd (r_4953 384) (x_4958).toNatClampNeg x_4568)) fun (r_4960 : Nat → Nat → Int32) => (I, J, r_4960, rj, rq)))))))) else (ap1 ((16 : Int32) * x_4569) fun (x_4964 : Int32) => (ap1 ((100 : Int32) + x_4964) fun (x_4966 : Int32) => (bnI (g_X12_topOf x_4569 I J ri_4570 rj rq) fun (x_4968 : Int32) (_ : Nat → Int32) (_ : Nat → Int64) (_ : Nat → Nat → Int32) (_ : Nat → Nat → Int64) (_ : Nat → Nat → Option Nat) => (bnI (g_X12_tableAt_c1 a0 I J ri_4570 rj rq) fun (x_4975 : Int32) (_ : Nat → Int32) (_ : Nat → Int64) (_ : Nat → Nat → Int32) (_ : Nat → Nat → Int64) (_ : Nat → Nat → Option Nat) => (ap1 (a1 + x_4975) fun (x_4982 : Int32) => (if x_4968 ≤ x_4982 then (g_X12_seaStands_K51 a0 a1 I J rj rq x_4567 x_4568 x_4569 ri_4570 (g_X12_seaStands_L8 a0 a1 I J ri rj rq n_4935) x_4966 ) else (g_X12_seaStands_K51_2 a0 a1 I J rj rq x_4567 x_4568 x_4569 ri_4570 (g_X12_seaStands_L8 a0 a1 I J ri rj rq n_4935) x_4966 ))))))))) := rfl
set_option maxRecDepth 100000 in
def g_X12_seaStands (a0 : Int32) (a1 : Int32) (I : Nat → Int32) (J : Nat → Int64) (ri : Nat → Nat → Int32) (rj : Nat → Nat → Int64) (rq : Nat → Nat → Option Nat) : vM := (g_X12_seaStands_L8 a0 a1 I J ri rj rq ((40 - ((0 : Int32)).toInt).toNat + 1) (0 : Int32) (0 : Int32) (0 : Int32) ri)
set_option maxRecDepth 100000 in
theorem g_X12_seaStands_e {a0 : Int32} {a1 : Int32} {I : Nat → Int32} {J : Nat → Int64} {ri : Nat → Nat → Int32} {rj : Nat → Nat → Int64} {rq : Nat → Nat → Option Nat} : g_X12_seaStands a0 a1 I J ri rj rq = (g_X12_seaStands_L8 a0 a1 I J ri rj rq ((40 - ((0 : Int32)).toInt).toNat + 1) (0 : Int32) (0 : Int32) (0 : Int32) ri) := rfl
set_option maxHeartbeats 4000000 in
set_option maxRecDepth 100000 in
theorem s_X12_seaStands (l : Launch) (D : va_G) (t : pq_T) (σ : pq_S) (I : Nat → Nat → Int32) (J : Nat → Nat → Int64) (ri : Nat → Nat → Int32) (rj : Nat → Nat → Int64) (rq : Nat → Nat → Option Nat) (sz : Nat) (tg : Nat → Nat) (hSH : SH σ tg) (hG0 : GT tg I ri) (this : Nat) (a0 : Int32) (a1 : Int32) (hL_this : this ∈ σ.1) (hK_this : σ.2.1 this = 12) (h_a0 : rg a0 0 599) : MetV l yX12_seaStands (wa yX12_seaStands cX12_seaStands 9 none) ({ frames := 2, cells := 0, slots := 0, locals := 43 }) [.ref this, .int a0, .int a1] D t σ (I, J, ri, rj, rq) sz 0 0 (fun (u : pq_S × pq_M) => ∃ ri' : Nat → Nat → Int32, u = (σ, I, J, ri', rj, rq) ∧ GM [] tg σ I ri I ri' rq ∧ g_X12_seaStands a0 a1 (vI 12 σ this I) (vJ 12 σ this J) (vR 12 σ this ri) (vL 12 σ this rj) (vQ 12 σ this rq) = ((vI 12 σ this I), (vJ 12 σ this J), (vR 12 σ this ri'), (vL 12 σ this rj), (vQ 12 σ this rq)) ∧ FR 12 tg σ this (I, J, ri, rj, rq) (I, J, ri', rj, rq)) := by
  refine Met.ofW (cc := cX12_seaStands) (maxL := 9) (ret := none) (by decide +kernel) rfl ?_
  intro p e s m args below meth c s₁ B hml hv
  obtain ⟨rfl, hsz, hP, hK, hD0, hN⟩ := hv
  have hx := B.exec
  have hb := B.bytes
  have hr := B.returns
  have hts := atoms_spec (ws := (wa yX12_seaStands cX12_seaStands 9 none)) B.pre
  have hown : s.vm.findClass RX12 = some m.cls := findClass_of_methodNamed B.named
  have hlocks := B.notSynchronized
  subst hsz
  have hD : va_D (pq_B t σ (I, J, ri, rj, rq) s.heap.size) (pq_P t σ (I, J, ri, rj, rq)) := hD0.self
  generalize hAe : pq_B t σ (I, J, ri, rj, rq) s.heap.size = A at hD ⊢
  have hA : ∀ q : Nat, s.heap.size ≤ q → A q := fun q h => by rw [← hAe]; exact Or.inr h
  have hS : va_S A s.heap s.heap [] := va_S.rf
  have hG : GM [] tg σ I ri I ri rq := ⟨hG0, fun _ _ _ => rfl, fun _ _ _ _ _ => rfl, fun _ _ _ _ _ _ => rfl⟩
  have hl := lv_entry ([.ref this, .int a0, .int a1]) (n := 9) (Nat.le_of_ble_eq_true rfl)
  rw [lg_entry_eq]
  generalize (lg_sl ([.ref this, .int a0, .int a1]) ++ List.replicate (9 - (lg_sl ([.ref this, .int a0, .int a1])).length) Slot.unset).toArray = ls at hl ⊢
  have hl : lv_has ls 9 [(0, .ref this), (1, .int a0), (2, .int a1)] := hl
  refine q_gen (fun Q hQ => ?_)
  have go : ∀ (H : Heap) (locs : List Loc) (ls : Array Slot), va_P D vwCl (pq_P t σ (I, J, ri, rj, rq)) H → va_D A (pq_P t σ (I, J, ri, rj, rq)) → va_S A s.heap H locs → lv_has ls 9 [(0, .ref this), (1, .int a0), (2, .int a1)] → W p l e ({ frames := 2, cells := 0, slots := 0, locals := 43 } : Room) s m (List.toArray ([.ref this, .int a0, .int a1] : List Value)) below meth c H locs 0 0 Q (F0 m 0 ls []) := by
    intro H locs ls hP hD hS hl
    have hO_this : this = vo σ 12 this := rfl
    have hVT : VT 12 σ tg this := vt_12 hSH hL_this hK_this
    have hFr : FR 12 tg σ this (I, J, ri, rj, rq) (I, J, ri, rj, rq) := fr_rf
    obtain ⟨F, hF0⟩ : ∃ F, F = g_X12_seaStands a0 a1 (vI 12 σ this I) (vJ 12 σ this J) (vR 12 σ this ri) (vL 12 σ this rj) (vQ 12 σ this rq) := ⟨_, rfl⟩
    have hF := hF0.trans g_X12_seaStands_e
    refine lv_iconst (v := 0) hx hb dX12_seaStands_0 (by decide +kernel) ?_
    refine lv_istore_n (lv' := [(3, .int 0), (0, .ref this), (1, .int a0), (2, .int a1)]) hx hb dX12_seaStands_1 rfl hl (by decide +kernel) rfl (fun ls hl => ?_)
    refine lv_iconst (v := 0) hx hb dX12_seaStands_2 (by decide +kernel) ?_
    refine lv_istore (lv' := [(4, .int 0), (3, .int 0), (0, .ref this), (1, .int a0), (2, .int a1)]) hx hb dX12_seaStands_3 hl (by decide +kernel) rfl (fun ls hl => ?_)
    refine lv_iconst (v := 0) hx hb dX12_seaStands_5 (by decide +kernel) ?_
    refine lv_istore (lv' := [(5, .int 0), (4, .int 0), (3, .int 0), (0, .ref this), (1, .int a0), (2, .int a1)]) hx hb dX12_seaStands_6 hl (by decide +kernel) rfl (fun ls hl => ?_)
    have L_4936 : ∀ (n_4935 : Nat) (x_4567 : Int32) (x_4568 : Int32) (x_4569 : Int32) (ri_4570 : Nat → Nat → Int32) (H : Heap) (locs : List Loc) (ls : Array Slot), rg x_4569 0 40 → (40 - (x_4569).toInt).toNat < n_4935 → F = g_X12_seaStands_L8 a0 a1 (vI 12 σ this I) (vJ 12 σ this J) (vR 12 σ this ri) (vL 12 σ this rj) (vQ 12 σ this rq) n_4935 x_4567 x_4568 x_4569 (vR 12 σ this ri_4570) → FR 12 tg σ this (I, J, ri, rj, rq) (I, J, ri_4570, rj, rq) → GM [] tg σ I ri I ri_4570 rq → va_P D vwCl (pq_P t σ (I, J, ri_4570, rj, rq)) H → va_D A (pq_P t σ (I, J, ri_4570, rj, rq)) → va_S A s.heap H locs → lv_has ls 9 [(0, .ref this), (1, .int a0), (2, .int a1), (3, .int x_4567), (4, .int x_4568), (5, .int x_4569)] → W p l e ({ frames := 2, cells := 0, slots := 0, locals := 43 } : Room) s m (List.toArray ([.ref this, .int a0, .int a1] : List Value)) below meth c H locs 0 0 Q (F0 m 8 ls []) := by
      intro n_4935
      induction n_4935 with
      | zero => intro x_4567 x_4568 x_4569 ri_4570 H locs ls h_4939 hm_4934 hF hFr hG hP hD hS hl; exact absurd hm_4934 (Nat.not_lt_zero _)
      | succ n_4935 ih_4937 =>
        intro x_4567 x_4568 x_4569 ri_4570 H locs ls h_4939 hm_4934 hF hFr hG hP hD hS hl
        have uh_4939 := h_4939.1
        have vh_4939 := h_4939.2
        replace hF := hF.trans g_X12_seaStands_L8_e
        refine lv_iload hx hb dX12_seaStands_8 (lv_at hl 5 rfl) ?_
        refine lv_aload_n hx hb dX12_seaStands_10 rfl (lv_at hl 0 rfl) ?_
        obtain ⟨w_4940, hR_w_4940, hL_w_4940, hK_w_4940, hN_w_4940, hT_w_4940⟩ := sh_a hSH 384 (ci := 12) (kd := 13) (len := 12720) rfl (by decide +kernel) hL_this hK_this
        have hO_w_4940 : w_4940 = vrow σ 384 this := vo_k (c := 12) hO_this hR_w_4940
        refine pg_f (v := .ref w_4940) (C := RX12) (T := TX12) (N := 31) hx hb hts (tw_i inlX12) hown hK hP hL_this hK_this (by decide +kernel) rfl 0 (by decide +kernel) (hts _ (tw_c tw_176)) (pq_hv rfl hR_w_4940) dX12_seaStands_11 ?_
        refine lv_iconst (v := 2) hx hb dX12_seaStands_14 (by decide +kernel) ?_
        refine pl_i hx hb hK hP hL_w_4940 hK_w_4940 hN_w_4940 (vp_in_iff.mpr (by decide +kernel)) dX12_seaStands_15 ?_
        refine lv_tov (ri w_4940 2) (hG.2.2.1 w_4940 hT_w_4940 2 (by decide +kernel) (by decide +kernel)) ?_
        have h_4941 : rg (ri w_4940 2) 0 40 := GM.z0 hG0 (by rw [hT_w_4940]; decide) (i := 2) (k := 2) (by decide +kernel) rfl
        have uh_4941 := h_4941.1
        have vh_4941 := h_4941.2
        replace hF := hF.trans (ap_n (vR_r hO_w_4940 (by decide +kernel) rfl))
        refine lv_icmp_ge (tgt := 366) hx hb dX12_seaStands_16 (by decide +kernel) (fun c_4943 => ?_) (fun c_4943 => ?_)
        · replace hF := hF.trans (if_pos c_4943)
          have tc_4948 : (ri w_4940 2).toInt ≤ (x_4569).toInt := Int32.le_iff_toInt_le.mp c_4943
          refine lv_aload_n hx hb dX12_seaStands_366 rfl (lv_at hl 0 rfl) ?_
          refine pg_f (v := .ref w_4940) (C := RX12) (T := TX12) (N := 31) hx hb hts (tw_i inlX12) hown hK hP hL_this hK_this (by decide +kernel) rfl 0 (by decide +kernel) (hts _ (tw_c tw_176)) (pq_hv rfl hR_w_4940) dX12_seaStands_367 ?_
          refine lv_sipush (v := 2520) hx hb dX12_seaStands_370 (by decide +kernel) ?_
          refine lv_iconst (v := 2) hx hb dX12_seaStands_373 (by decide +kernel) ?_
          refine lv_iload_n hx hb dX12_seaStands_374 rfl (lv_at hl 1 rfl) ?_
          refine lv_imul hx hb dX12_seaStands_375 ?_
          refine lv_topi (fun x_4949 ex_4949 => ?_)
          replace hF := hF.trans (ap_n ex_4949)
          have h_4950 : rg x_4949 0 1198 := rg_of_eq ex_4949 (rg_mul (rg_k (2 : Int32) 2 rfl) h_a0 (by decide +kernel))
          have uh_4950 := h_4950.1
          have vh_4950 := h_4950.2
          have tx_4949 : (x_4949).toInt = 2 * (a0).toInt := by rw [ex_4949]; exact i_mul_rg (a2 := 2) (b2 := (a0).toInt) rfl rfl (rg_k (2 : Int32) 2 rfl) h_a0 (by decide +kernel)
          refine lv_iadd hx hb dX12_seaStands_376 ?_
          refine lv_topi (fun x_4951 ex_4951 => ?_)
          replace hF := hF.trans (ap_n ex_4951)
          have h_4952 : rg x_4951 2520 3718 := rg_of_eq ex_4951 (rg_add (rg_k (2520 : Int32) 2520 rfl) h_4950 (by decide +kernel))
          have uh_4952 := h_4952.1
          have vh_4952 := h_4952.2
          have tx_4951 : (x_4951).toInt = 2520 + (x_4949).toInt := by rw [ex_4951]; exact i_add_rg (a2 := 2520) (b2 := (x_4949).toInt) rfl rfl (rg_k (2520 : Int32) 2520 rfl) h_4950 (by decide +kernel)
          refine lv_iload_n hx hb dX12_seaStands_377 rfl (lv_at hl 3 rfl) ?_
          refine pt_i hx hb hK hP hD hS hL_w_4940 hK_w_4940 hN_w_4940 (rg_in h_4952 (by decide +kernel)) dX12_seaStands_378 (fun r_4953 H locs er_4953 hP hD hS => ?_)
          replace hFr := fr_R hFr hO_w_4940 (by decide +kernel) er_4953
          replace hF := hF.trans (ap_n (vR_st hVT hO_w_4940 (by decide +kernel) er_4953))
          have hG := GM.wz hG hT_w_4940 (by decide +kernel) er_4953 (zn_ROCKS (c := a0.toNatClampNeg) (k := 0) (by have z_i := clampE x_4951; have z_0 := clampE a0; omega) (rg_cl1 h_a0 (by decide +kernel)) (by decide +kernel)) rfl (rg_w (rg_full _) (by decide +kernel)) (by decide +kernel)
          refine lv_aload_n hx hb dX12_seaStands_379 rfl (lv_at hl 0 rfl) ?_
          refine pg_f (v := .ref w_4940) (C := RX12) (T := TX12) (N := 31) hx hb hts (tw_i inlX12) hown hK hP hL_this hK_this (by decide +kernel) rfl 0 (by decide +kernel) (hts _ (tw_c tw_176)) (pq_hv rfl hR_w_4940) dX12_seaStands_380 ?_
          refine lv_sipush (v := 2520) hx hb dX12_seaStands_383 (by decide +kernel) ?_
          refine lv_iconst (v := 2) hx hb dX12_seaStands_386 (by decide +kernel) ?_
          refine lv_iload_n hx hb dX12_seaStands_387 rfl (lv_at hl 1 rfl) ?_
          refine lv_imul hx hb dX12_seaStands_388 ?_
          refine lv_topi (fun x_4954 ex_4954 => ?_)
          replace hF := hF.trans (ap_n ex_4954)
          have h_4955 : rg x_4954 0 1198 := rg_of_eq ex_4954 (rg_mul (rg_k (2 : Int32) 2 rfl) h_a0 (by decide +kernel))
          have uh_4955 := h_4955.1
          have vh_4955 := h_4955.2
          have tx_4954 : (x_4954).toInt = 2 * (a0).toInt := by rw [ex_4954]; exact i_mul_rg (a2 := 2) (b2 := (a0).toInt) rfl rfl (rg_k (2 : Int32) 2 rfl) h_a0 (by decide +kernel)
          refine lv_iadd hx hb dX12_seaStands_389 ?_
          refine lv_topi (fun x_4956 ex_4956 => ?_)
          replace hF := hF.trans (ap_n ex_4956)
          have h_4957 : rg x_4956 2520 3718 := rg_of_eq ex_4956 (rg_add (rg_k (2520 : Int32) 2520 rfl) h_4955 (by decide +kernel))
          have uh_4957 := h_4957.1
          have vh_4957 := h_4957.2
          have tx_4956 : (x_4956).toInt = 2520 + (x_4954).toInt := by rw [ex_4956]; exact i_add_rg (a2 := 2520) (b2 := (x_4954).toInt) rfl rfl (rg_k (2520 : Int32) 2520 rfl) h_4955 (by decide +kernel)
          refine lv_iconst (v := 1) hx hb dX12_seaStands_390 (by decide +kernel) ?_
          refine lv_iadd hx hb dX12_seaStands_391 ?_
          refine lv_topi (fun x_4958 ex_4958 => ?_)
          replace hF := hF.trans (ap_n ex_4958)
          have h_4959 : rg x_4958 2521 3719 := rg_of_eq ex_4958 (rg_add h_4957 (rg_k (1 : Int32) 1 rfl) (by decide +kernel))
          have uh_4959 := h_4959.1
          have vh_4959 := h_4959.2
          have tx_4958 : (x_4958).toInt = (x_4956).toInt + 1 := by rw [ex_4958]; exact i_add_rg (a2 := (x_4956).toInt) (b2 := 1) rfl rfl h_4957 (rg_k (1 : Int32) 1 rfl) (by decide +kernel)
          refine lv_iload hx hb dX12_seaStands_392 (lv_at hl 4 rfl) ?_
          refine pt_i hx hb hK hP hD hS hL_w_4940 hK_w_4940 hN_w_4940 (rg_in h_4959 (by decide +kernel)) dX12_seaStands_394 (fun r_4960 H locs er_4960 hP hD hS => ?_)
          replace hFr := fr_R hFr hO_w_4940 (by decide +kernel) er_4960
          replace hF := hF.trans (ap_n (vR_st hVT hO_w_4940 (by decide +kernel) er_4960))
          have hG := GM.wz hG hT_w_4940 (by decide +kernel) er_4960 (zn_ROCKS (c := a0.toNatClampNeg) (k := 1) (by have z_i := clampE x_4958; have z_0 := clampE a0; omega) (rg_cl1 h_a0 (by decide +kernel)) (by decide +kernel)) rfl (rg_w (rg_full _) (by decide +kernel)) (by decide +kernel)
          subst hQ
          exact W.vret hx hb hr (fun t1 ht hW => ⟨⟨(σ, I, J, r_4960, rj, rq), rfl, ⟨r_4960, rfl, hG, (hF0.symm.trans hF), hFr⟩, by rw [ht]; exact hP, va_K.moved hW.alike hK, hD⟩, hS.F ht⟩) hS.2.2 dX12_seaStands_395
        · replace hF := hF.trans (if_neg c_4943)
          have tc_4961 : (x_4569).toInt < (ri w_4940 2).toInt := Int32.lt_iff_toInt_lt.mp (nle c_4943)
          have h_4962 : rg x_4569 0 39 := rg_lt1 (nle c_4943) h_4939 h_4941 (by decide +kernel)
          have uh_4962 := h_4962.1
          have vh_4962 := h_4962.2
          have h_4963 : rg (ri w_4940 2) 1 40 := rg_lt2 (nle c_4943) h_4939 h_4941 (by decide +kernel)
          have uh_4963 := h_4963.1
          have vh_4963 := h_4963.2
          refine lv_bipush (v := 100) hx hb dX12_seaStands_19 (by decide +kernel) ?_
          refine lv_bipush (v := 16) hx hb dX12_seaStands_21 (by decide +kernel) ?_
          refine lv_iload hx hb dX12_seaStands_23 (lv_at hl 5 rfl) ?_
          refine lv_imul hx hb dX12_seaStands_25 ?_
          refine lv_topi (fun x_4964 ex_4964 => ?_)
          replace hF := hF.trans (ap_n ex_4964)
          have h_4965 : rg x_4964 0 624 := rg_of_eq ex_4964 (rg_mul (rg_k (16 : Int32) 16 rfl) h_4962 (by decide +kernel))
          have uh_4965 := h_4965.1
          have vh_4965 := h_4965.2
          have tx_4964 : (x_4964).toInt = 16 * (x_4569).toInt := by rw [ex_4964]; exact i_mul_rg (a2 := 16) (b2 := (x_4569).toInt) rfl rfl (rg_k (16 : Int32) 16 rfl) h_4962 (by decide +kernel)
          refine lv_iadd hx hb dX12_seaStands_26 ?_
          refine lv_topi (fun x_4966 ex_4966 => ?_)
          replace hF := hF.trans (ap_n ex_4966)
          have h_4967 : rg x_4966 100 724 := rg_of_eq ex_4966 (rg_add (rg_k (100 : Int32) 100 rfl) h_4965 (by decide +kernel))
          have uh_4967 := h_4967.1
          have vh_4967 := h_4967.2
          have tx_4966 : (x_4966).toInt = 100 + (x_4964).toInt := by rw [ex_4966]; exact i_add_rg (a2 := 100) (b2 := (x_4964).toInt) rfl rfl (rg_k (100 : Int32) 100 rfl) h_4965 (by decide +kernel)
          refine lv_istore (lv' := [(6, .int x_4966), (0, .ref this), (1, .int a0), (2, .int a1), (3, .int x_4567), (4, .int x_4568), (5, .int x_4569)]) hx hb dX12_seaStands_27 hl (by decide +kernel) rfl (fun ls hl => ?_)
          refine lv_aload_n hx hb dX12_seaStands_29 rfl (lv_at hl 1 rfl) ?_
          refine lv_iload hx hb dX12_seaStands_30 (lv_at hl 6 rfl) ?_
          refine pk_i (va_runV (As := [.int x_4569]) (rest := []) ⟨hx, hb, hml, hown, hts⟩ (s_X12_topOf l D t σ I J ri_4570 rj rq H.size tg hSH hG.1 this x_4569 hL_this hK_this (rg_w h_4962 (by decide +kernel))) (cwV 1 hts (tw_V tw_1213 tw_1214 tw_1215 tw_5 tw_1216) rfl rfl rfl cv_yX12_topOf_1 ⟨Nat.le_of_ble_eq_true rfl, Nat.le_of_ble_eq_true rfl⟩) ⟨pq_blind, pq_recv hK hP hL_this hK_this (by decide +kernel) rfl, pq_pre hK hN hP hD⟩ rfl rfl hl.1 rfl (lv_room (Nat.le_of_ble_eq_true rfl)) dX12_seaStands_32 ⟨Nat.le_of_ble_eq_true rfl, Nat.le_of_ble_eq_true rfl⟩) hD hS hA (fun x_4968 σ1 μ1 H locs hw_4969 hP hD hS => ?_)
          obtain ⟨hu_4970, hfn_4973⟩ := hw_4969
          obtain ⟨hu_4970a, hu_4970b⟩ := Prod.mk.inj hu_4970
          rw [hu_4970a, hu_4970b] at hP hD
          replace hF := hF.trans (bn_n hfn_4973)
          refine lv_iload_n hx hb dX12_seaStands_35 rfl (lv_at hl 3 rfl) ?_
          refine lv_aload_n hx hb dX12_seaStands_36 rfl (lv_at hl 1 rfl) ?_
          refine lv_iload_n hx hb dX12_seaStands_37 rfl (lv_at hl 2 rfl) ?_
          refine lv_iconst (v := 1) hx hb dX12_seaStands_38 (by decide +kernel) ?_
          refine pk_i (va_runV (As := [.int a0, .int 1]) (rest := [.int a1, .int x_4968]) ⟨hx, hb, hml, hown, hts⟩ (s_X12_tableAt_c1 l D t σ I J ri_4570 rj rq H.size tg hSH hG.1 this a0 hL_this hK_this (rg_w h_a0 (by decide +kernel))) (cwV 2 hts (tw_V tw_1201 tw_1202 tw_1203 tw_5 tw_1204) rfl rfl rfl cv_yX12_tableAt_2 ⟨Nat.le_of_ble_eq_true rfl, Nat.le_of_ble_eq_true rfl⟩) ⟨pq_blind, pq_recv hK hP hL_this hK_this (by decide +kernel) rfl, pq_pre hK hN hP hD⟩ rfl rfl hl.1 rfl (lv_room (Nat.le_of_ble_eq_true rfl)) dX12_seaStands_39 ⟨Nat.le_of_ble_eq_true rfl, Nat.le_of_ble_eq_true rfl⟩) hD hS hA (fun x_4975 σ1 μ1 H locs hw_4976 hP hD hS => ?_)
          obtain ⟨hu_4977, hfn_4980⟩ := hw_4976
          obtain ⟨hu_4977a, hu_4977b⟩ := Prod.mk.inj hu_4977
          rw [hu_4977a, hu_4977b] at hP hD
          replace hF := hF.trans (bn_n hfn_4980)
          refine lv_iadd hx hb dX12_seaStands_42 ?_
          refine lv_topi (fun x_4982 ex_4982 => ?_)
          replace hF := hF.trans (ap_n ex_4982)
          have K_5306 : ∀  (H : Heap) (locs : List Loc) (ls : Array Slot), F = g_X12_seaStands_K51 a0 a1 (vI 12 σ this I) (vJ 12 σ this J) (vL 12 σ this rj) (vQ 12 σ this rq) x_4567 x_4568 x_4569 (vR 12 σ this ri_4570) (g_X12_seaStands_L8 a0 a1 (vI 12 σ this I) (vJ 12 σ this J) (vR 12 σ this ri) (vL 12 σ this rj) (vQ 12 σ this rq) n_4935) x_4966  → FR 12 tg σ this (I, J, ri, rj, rq) (I, J, ri_4570, rj, rq) → GM [] tg σ I ri I ri_4570 rq → va_P D vwCl (pq_P t σ (I, J, ri_4570, rj, rq)) H → va_D A (pq_P t σ (I, J, ri_4570, rj, rq)) → va_S A s.heap H locs → lv_has ls 9 [(0, .ref this), (1, .int a0), (2, .int a1), (3, .int x_4567), (4, .int x_4568), (5, .int x_4569), (6, .int x_4966)] → W p l e ({ frames := 2, cells := 0, slots := 0, locals := 43 } : Room) s m (List.toArray ([.ref this, .int a0, .int a1] : List Value)) below meth c H locs 0 0 Q (F0 m 51 ls [.int 0]) := by
            intro H locs ls hF hFr hG hP hD hS hl
            replace hF := hF.trans g_X12_seaStands_K51_e
            refine lv_istore (lv' := [(7, .int 0), (0, .ref this), (1, .int a0), (2, .int a1), (3, .int x_4567), (4, .int x_4568), (5, .int x_4569), (6, .int x_4966)]) hx hb dX12_seaStands_51 hl (by decide +kernel) rfl (fun ls hl => ?_)
            refine lv_aload_n hx hb dX12_seaStands_53 rfl (lv_at hl 1 rfl) ?_
            refine lv_iload hx hb dX12_seaStands_54 (lv_at hl 6 rfl) ?_
            refine pk_i (va_runV (As := [.int x_4569]) (rest := []) ⟨hx, hb, hml, hown, hts⟩ (s_X12_topOf l D t σ I J ri_4570 rj rq H.size tg hSH hG.1 this x_4569 hL_this hK_this (rg_w h_4962 (by decide +kernel))) (cwV 1 hts (tw_V tw_1213 tw_1214 tw_1215 tw_5 tw_1216) rfl rfl rfl cv_yX12_topOf_1 ⟨Nat.le_of_ble_eq_true rfl, Nat.le_of_ble_eq_true rfl⟩) ⟨pq_blind, pq_recv hK hP hL_this hK_this (by decide +kernel) rfl, pq_pre hK hN hP hD⟩ rfl rfl hl.1 rfl (lv_room (Nat.le_of_ble_eq_true rfl)) dX12_seaStands_56 ⟨Nat.le_of_ble_eq_true rfl, Nat.le_of_ble_eq_true rfl⟩) hD hS hA (fun x_5307 σ1 μ1 H locs hw_5308 hP hD hS => ?_)
            obtain ⟨hu_5309, hfn_5312⟩ := hw_5308
            obtain ⟨hu_5309a, hu_5309b⟩ := Prod.mk.inj hu_5309
            rw [hu_5309a, hu_5309b] at hP hD
            replace hF := hF.trans (bn_n hfn_5312)
            refine lv_iload_n hx hb dX12_seaStands_59 rfl (lv_at hl 3 rfl) ?_
            refine lv_aload_n hx hb dX12_seaStands_60 rfl (lv_at hl 1 rfl) ?_
            refine lv_iload_n hx hb dX12_seaStands_61 rfl (lv_at hl 2 rfl) ?_
            refine lv_iconst (v := 0) hx hb dX12_seaStands_62 (by decide +kernel) ?_
            refine pk_i (va_runV (As := [.int a0, .int 0]) (rest := [.int a1, .int x_5307]) ⟨hx, hb, hml, hown, hts⟩ (s_X12_tableAt_c0 l D t σ I J ri_4570 rj rq H.size tg hSH hG.1 this a0 hL_this hK_this (rg_w h_a0 (by decide +kernel))) (cwV 2 hts (tw_V tw_1201 tw_1202 tw_1203 tw_5 tw_1204) rfl rfl rfl cv_yX12_tableAt_2 ⟨Nat.le_of_ble_eq_true rfl, Nat.le_of_ble_eq_true rfl⟩) ⟨pq_blind, pq_recv hK hP hL_this hK_this (by decide +kernel) rfl, pq_pre hK hN hP hD⟩ rfl rfl hl.1 rfl (lv_room (Nat.le_of_ble_eq_true rfl)) dX12_seaStands_63 ⟨Nat.le_of_ble_eq_true rfl, Nat.le_of_ble_eq_true rfl⟩) hD hS hA (fun x_5314 σ1 μ1 H locs hw_5315 hP hD hS => ?_)
            obtain ⟨hu_5316, hfn_5319⟩ := hw_5315
            obtain ⟨hu_5316a, hu_5316b⟩ := Prod.mk.inj hu_5316
            rw [hu_5316a, hu_5316b] at hP hD
            replace hF := hF.trans (bn_n hfn_5319)
            refine lv_iadd hx hb dX12_seaStands_66 ?_
            refine lv_topi (fun x_5321 ex_5321 => ?_)
            replace hF := hF.trans (ap_n ex_5321)
            have K_5449 : ∀  (H : Heap) (locs : List Loc) (ls : Array Slot), F = g_X12_seaStands_K75 x_4567 x_4568 x_4569 (vR 12 σ this ri_4570) (g_X12_seaStands_L8 a0 a1 (vI 12 σ this I) (vJ 12 σ this J) (vR 12 σ this ri) (vL 12 σ this rj) (vQ 12 σ this rq) n_4935) x_4966  → FR 12 tg σ this (I, J, ri, rj, rq) (I, J, ri_4570, rj, rq) → GM [] tg σ I ri I ri_4570 rq → va_P D vwCl (pq_P t σ (I, J, ri_4570, rj, rq)) H → va_D A (pq_P t σ (I, J, ri_4570, rj, rq)) → va_S A s.heap H locs → lv_has ls 9 [(0, .ref this), (1, .int a0), (2, .int a1), (3, .int x_4567), (4, .int x_4568), (5, .int x_4569), (6, .int x_4966), (7, .int 0)] → W p l e ({ frames := 2, cells := 0, slots := 0, locals := 43 } : Room) s m (List.toArray ([.ref this, .int a0, .int a1] : List Value)) below meth c H locs 0 0 Q (F0 m 75 ls [.int 0]) := by
              intro H locs ls hF hFr hG hP hD hS hl
              replace hF := hF.trans g_X12_seaStands_K75_e
              refine lv_istore (lv' := [(8, .int 0), (0, .ref this), (1, .int a0), (2, .int a1), (3, .int x_4567), (4, .int x_4568), (5, .int x_4569), (6, .int x_4966), (7, .int 0)]) hx hb dX12_seaStands_75 hl (by decide +kernel) rfl (fun ls hl => ?_)
              refine lv_aload_n hx hb dX12_seaStands_77 rfl (lv_at hl 1 rfl) ?_
              refine pg_f (v := .ref w_4940) (C := RX12) (T := TX12) (N := 31) hx hb hts (tw_i inlX12) hown hK hP hL_this hK_this (by decide +kernel) rfl 0 (by decide +kernel) (hts _ (tw_c tw_176)) (pq_hv rfl hR_w_4940) dX12_seaStands_78 ?_
              refine lv_iload hx hb dX12_seaStands_81 (lv_at hl 7 rfl) ?_
              refine lv_bipush (v := 12) hx hb dX12_seaStands_83 (by decide +kernel) ?_
              refine lv_iadd hx hb dX12_seaStands_85 ?_
              refine lv_topi (fun x_5450 ex_5450 => ?_)
              replace hF := hF.trans (ap_n ex_5450)
              have h_5451 : rg x_5450 112 736 := rg_of_eq ex_5450 (rg_add h_4967 (rg_k (12 : Int32) 12 rfl) (by decide +kernel))
              have uh_5451 := h_5451.1
              have vh_5451 := h_5451.2
              have tx_5450 : (x_5450).toInt = (x_4966).toInt + 12 := by rw [ex_5450]; exact i_add_rg (a2 := (x_4966).toInt) (b2 := 12) rfl rfl h_4967 (rg_k (12 : Int32) 12 rfl) (by decide +kernel)
              refine lv_iload hx hb dX12_seaStands_86 (lv_at hl 8 rfl) ?_
              have K_5501 : ∀  (H : Heap) (locs : List Loc) (ls : Array Slot), F = g_X12_seaStands_K96 x_4567 x_4568 x_4569 (vR 12 σ this ri_4570) (g_X12_seaStands_L8 a0 a1 (vI 12 σ this I) (vJ 12 σ this J) (vR 12 σ this ri) (vL 12 σ this rj) (vQ 12 σ this rq) n_4935) x_4966 x_5450  → FR 12 tg σ this (I, J, ri, rj, rq) (I, J, ri_4570, rj, rq) → GM [] tg σ I ri I ri_4570 rq → va_P D vwCl (pq_P t σ (I, J, ri_4570, rj, rq)) H → va_D A (pq_P t σ (I, J, ri_4570, rj, rq)) → va_S A s.heap H locs → lv_has ls 9 [(0, .ref this), (1, .int a0), (2, .int a1), (3, .int x_4567), (4, .int x_4568), (5, .int x_4569), (6, .int x_4966), (7, .int 0), (8, .int 0)] → W p l e ({ frames := 2, cells := 0, slots := 0, locals := 43 } : Room) s m (List.toArray ([.ref this, .int a0, .int a1] : List Value)) below meth c H locs 0 0 Q (F0 m 96 ls [.int 0, .int x_5450, .ref w_4940]) := by
                intro H locs ls hF hFr hG hP hD hS hl
                replace hF := hF.trans g_X12_seaStands_K96_e
                refine pt_i hx hb hK hP hD hS hL_w_4940 hK_w_4940 hN_w_4940 (rg_in h_5451 (by decide +kernel)) dX12_seaStands_96 (fun r_5502 H locs er_5502 hP hD hS => ?_)
                replace hFr := fr_R hFr hO_w_4940 (by decide +kernel) er_5502
                replace hF := hF.trans (ap_n (vR_st hVT hO_w_4940 (by decide +kernel) er_5502))
                have hG := GM.wz hG hT_w_4940 (by decide +kernel) er_5502 (zn_CELL (c := x_4569.toNatClampNeg) (k := 12) (by have z_i := clampE x_5450; have z_0 := clampE x_4569; omega) (rg_cl1 h_4962 (by decide +kernel)) (by decide +kernel)) rfl (rg_w (rg_k (0 : Int32) 0 rfl) (by decide +kernel)) (by decide +kernel)
                refine lv_aload_n hx hb dX12_seaStands_97 rfl (lv_at hl 0 rfl) ?_
                refine pg_f (v := .ref w_4940) (C := RX12) (T := TX12) (N := 31) hx hb hts (tw_i inlX12) hown hK hP hL_this hK_this (by decide +kernel) rfl 0 (by decide +kernel) (hts _ (tw_c tw_176)) (pq_hv rfl hR_w_4940) dX12_seaStands_98 ?_
                refine lv_iload hx hb dX12_seaStands_101 (lv_at hl 6 rfl) ?_
                refine lv_bipush (v := 13) hx hb dX12_seaStands_103 (by decide +kernel) ?_
                refine lv_iadd hx hb dX12_seaStands_105 ?_
                refine lv_topi (fun x_5503 ex_5503 => ?_)
                replace hF := hF.trans (ap_n ex_5503)
                have h_5504 : rg x_5503 113 737 := rg_of_eq ex_5503 (rg_add h_4967 (rg_k (13 : Int32) 13 rfl) (by decide +kernel))
                have uh_5504 := h_5504.1
                have vh_5504 := h_5504.2
                have tx_5503 : (x_5503).toInt = (x_4966).toInt + 13 := by rw [ex_5503]; exact i_add_rg (a2 := (x_4966).toInt) (b2 := 13) rfl rfl h_4967 (rg_k (13 : Int32) 13 rfl) (by decide +kernel)
                refine lv_iload hx hb dX12_seaStands_106 (lv_at hl 8 rfl) ?_
                have K_5550 : ∀  (H : Heap) (locs : List Loc) (ls : Array Slot), F = g_X12_seaStands_K116 x_4567 x_4568 x_4569 (g_X12_seaStands_L8 a0 a1 (vI 12 σ this I) (vJ 12 σ this J) (vR 12 σ this ri) (vL 12 σ this rj) (vQ 12 σ this rq) n_4935) x_4966 (vR 12 σ this r_5502) x_5503  → FR 12 tg σ this (I, J, ri, rj, rq) (I, J, r_5502, rj, rq) → GM [] tg σ I ri I r_5502 rq → va_P D vwCl (pq_P t σ (I, J, r_5502, rj, rq)) H → va_D A (pq_P t σ (I, J, r_5502, rj, rq)) → va_S A s.heap H locs → lv_has ls 9 [(0, .ref this), (1, .int a0), (2, .int a1), (3, .int x_4567), (4, .int x_4568), (5, .int x_4569), (6, .int x_4966), (7, .int 0), (8, .int 0)] → W p l e ({ frames := 2, cells := 0, slots := 0, locals := 43 } : Room) s m (List.toArray ([.ref this, .int a0, .int a1] : List Value)) below meth c H locs 0 0 Q (F0 m 116 ls [.int 0, .int x_5503, .ref w_4940]) := by
                  intro H locs ls hF hFr hG hP hD hS hl
                  replace hF := hF.trans g_X12_seaStands_K116_e
                  refine pt_i hx hb hK hP hD hS hL_w_4940 hK_w_4940 hN_w_4940 (rg_in h_5504 (by decide +kernel)) dX12_seaStands_116 (fun r_5551 H locs er_5551 hP hD hS => ?_)
                  replace hFr := fr_R hFr hO_w_4940 (by decide +kernel) er_5551
                  replace hF := hF.trans (ap_n (vR_st hVT hO_w_4940 (by decide +kernel) er_5551))
                  have hG := GM.wz hG hT_w_4940 (by decide +kernel) er_5551 (zn_CELL (c := x_4569.toNatClampNeg) (k := 13) (by have z_i := clampE x_5503; have z_0 := clampE x_4569; omega) (rg_cl1 h_4962 (by decide +kernel)) (by decide +kernel)) rfl (rg_w (rg_k (0 : Int32) 0 rfl) (by decide +kernel)) (by decide +kernel)
                  refine lv_aload_n hx hb dX12_seaStands_117 rfl (lv_at hl 0 rfl) ?_
                  refine pg_f (v := .ref w_4940) (C := RX12) (T := TX12) (N := 31) hx hb hts (tw_i inlX12) hown hK hP hL_this hK_this (by decide +kernel) rfl 0 (by decide +kernel) (hts _ (tw_c tw_176)) (pq_hv rfl hR_w_4940) dX12_seaStands_118 ?_
                  refine lv_iload hx hb dX12_seaStands_121 (lv_at hl 6 rfl) ?_
                  refine lv_bipush (v := 11) hx hb dX12_seaStands_123 (by decide +kernel) ?_
                  refine lv_iadd hx hb dX12_seaStands_125 ?_
                  refine lv_topi (fun x_5552 ex_5552 => ?_)
                  replace hF := hF.trans (ap_n ex_5552)
                  have h_5553 : rg x_5552 111 735 := rg_of_eq ex_5552 (rg_add h_4967 (rg_k (11 : Int32) 11 rfl) (by decide +kernel))
                  have uh_5553 := h_5553.1
                  have vh_5553 := h_5553.2
                  have tx_5552 : (x_5552).toInt = (x_4966).toInt + 11 := by rw [ex_5552]; exact i_add_rg (a2 := (x_4966).toInt) (b2 := 11) rfl rfl h_4967 (rg_k (11 : Int32) 11 rfl) (by decide +kernel)
                  refine lv_iload hx hb dX12_seaStands_126 (lv_at hl 7 rfl) ?_
                  have K_5595 : ∀  (x_5559 : Int32) (H : Heap) (locs : List Loc) (ls : Array Slot), F = g_X12_seaStands_K147 x_4567 x_4568 x_4569 (g_X12_seaStands_L8 a0 a1 (vI 12 σ this I) (vJ 12 σ this J) (vR 12 σ this ri) (vL 12 σ this rj) (vQ 12 σ this rq) n_4935) x_4966 (vR 12 σ this r_5551) x_5552 x_5559 → FR 12 tg σ this (I, J, ri, rj, rq) (I, J, r_5551, rj, rq) → GM [] tg σ I ri I r_5551 rq → va_P D vwCl (pq_P t σ (I, J, r_5551, rj, rq)) H → va_D A (pq_P t σ (I, J, r_5551, rj, rq)) → va_S A s.heap H locs → lv_has ls 9 [(0, .ref this), (1, .int a0), (2, .int a1), (3, .int x_4567), (4, .int x_4568), (5, .int x_4569), (6, .int x_4966), (7, .int 0), (8, .int 0)] → W p l e ({ frames := 2, cells := 0, slots := 0, locals := 43 } : Room) s m (List.toArray ([.ref this, .int a0, .int a1] : List Value)) below meth c H locs 0 0 Q (F0 m 147 ls [.int x_5559, .int x_5552, .ref w_4940]) := by
                    intro x_5559 H locs ls hF hFr hG hP hD hS hl
                    replace hF := hF.trans g_X12_seaStands_K147_e
                    refine pt_i hx hb hK hP hD hS hL_w_4940 hK_w_4940 hN_w_4940 (rg_in h_5553 (by decide +kernel)) dX12_seaStands_147 (fun r_5596 H locs er_5596 hP hD hS => ?_)
                    replace hFr := fr_R hFr hO_w_4940 (by decide +kernel) er_5596
                    replace hF := hF.trans (ap_n (vR_st hVT hO_w_4940 (by decide +kernel) er_5596))
                    have hG := GM.wz hG hT_w_4940 (by decide +kernel) er_5596 (zn_CELL (c := x_4569.toNatClampNeg) (k := 11) (by have z_i := clampE x_5552; have z_0 := clampE x_4569; omega) (rg_cl1 h_4962 (by decide +kernel)) (by decide +kernel)) rfl (rg_w (rg_full _) (by decide +kernel)) (by decide +kernel)
                    refine lv_iload hx hb dX12_seaStands_148 (lv_at hl 8 rfl) ?_
                    have K_5631 : ∀  (H : Heap) (locs : List Loc) (ls : Array Slot), F = g_X12_seaStands_K167 x_4567 x_4568 x_4569 (g_X12_seaStands_L8 a0 a1 (vI 12 σ this I) (vJ 12 σ this J) (vR 12 σ this ri) (vL 12 σ this rj) (vQ 12 σ this rq) n_4935) x_4966 (vR 12 σ this r_5596)  → FR 12 tg σ this (I, J, ri, rj, rq) (I, J, r_5596, rj, rq) → GM [] tg σ I ri I r_5596 rq → va_P D vwCl (pq_P t σ (I, J, r_5596, rj, rq)) H → va_D A (pq_P t σ (I, J, r_5596, rj, rq)) → va_S A s.heap H locs → lv_has ls 9 [(0, .ref this), (1, .int a0), (2, .int a1), (3, .int x_4567), (4, .int x_4568), (5, .int x_4569), (6, .int x_4966), (7, .int 0), (8, .int 0)] → W p l e ({ frames := 2, cells := 0, slots := 0, locals := 43 } : Room) s m (List.toArray ([.ref this, .int a0, .int a1] : List Value)) below meth c H locs 0 0 Q (F0 m 167 ls []) := by
                      intro H locs ls hF hFr hG hP hD hS hl
                      replace hF := hF.trans g_X12_seaStands_K167_e
                      refine lv_iload hx hb dX12_seaStands_167 (lv_at hl 8 rfl) ?_
                      have K_5665 : ∀  (H : Heap) (locs : List Loc) (ls : Array Slot), F = g_X12_seaStands_K191 x_4567 x_4568 x_4569 (g_X12_seaStands_L8 a0 a1 (vI 12 σ this I) (vJ 12 σ this J) (vR 12 σ this ri) (vL 12 σ this rj) (vQ 12 σ this rq) n_4935) x_4966 (vR 12 σ this r_5596)  → FR 12 tg σ this (I, J, ri, rj, rq) (I, J, r_5596, rj, rq) → GM [] tg σ I ri I r_5596 rq → va_P D vwCl (pq_P t σ (I, J, r_5596, rj, rq)) H → va_D A (pq_P t σ (I, J, r_5596, rj, rq)) → va_S A s.heap H locs → lv_has ls 9 [(0, .ref this), (1, .int a0), (2, .int a1), (3, .int x_4567), (4, .int x_4568), (5, .int x_4569), (6, .int x_4966), (7, .int 0)] → W p l e ({ frames := 2, cells := 0, slots := 0, locals := 43 } : Room) s m (List.toArray ([.ref this, .int a0, .int a1] : List Value)) below meth c H locs 0 0 Q (F0 m 191 ls []) := by
                        intro H locs ls hF hFr hG hP hD hS hl
                        replace hF := hF.trans g_X12_seaStands_K191_e
                        refine lv_iload hx hb dX12_seaStands_191 (lv_at hl 7 rfl) ?_
                        have K_5698 : ∀  (ri_5670 : Nat → Nat → Int32) (H : Heap) (locs : List Loc) (ls : Array Slot), F = g_X12_seaStands_K207 x_4567 x_4568 x_4569 (g_X12_seaStands_L8 a0 a1 (vI 12 σ this I) (vJ 12 σ this J) (vR 12 σ this ri) (vL 12 σ this rj) (vQ 12 σ this rq) n_4935) x_4966 (vR 12 σ this ri_5670) → FR 12 tg σ this (I, J, ri, rj, rq) (I, J, ri_5670, rj, rq) → GM [] tg σ I ri I ri_5670 rq → va_P D vwCl (pq_P t σ (I, J, ri_5670, rj, rq)) H → va_D A (pq_P t σ (I, J, ri_5670, rj, rq)) → va_S A s.heap H locs → lv_has ls 9 [(0, .ref this), (1, .int a0), (2, .int a1), (3, .int x_4567), (4, .int x_4568), (5, .int x_4569), (6, .int x_4966), (7, .int 0)] → W p l e ({ frames := 2, cells := 0, slots := 0, locals := 43 } : Room) s m (List.toArray ([.ref this, .int a0, .int a1] : List Value)) below meth c H locs 0 0 Q (F0 m 207 ls []) := by
                          intro ri_5670 H locs ls hF hFr hG hP hD hS hl
                          replace hF := hF.trans g_X12_seaStands_K207_e
                          refine lv_aload_n hx hb dX12_seaStands_207 rfl (lv_at hl 0 rfl) ?_
                          refine pg_f (v := .ref w_4940) (C := RX12) (T := TX12) (N := 31) hx hb hts (tw_i inlX12) hown hK hP hL_this hK_this (by decide +kernel) rfl 0 (by decide +kernel) (hts _ (tw_c tw_176)) (pq_hv rfl hR_w_4940) dX12_seaStands_208 ?_
                          refine lv_iload hx hb dX12_seaStands_211 (lv_at hl 6 rfl) ?_
                          refine lv_bipush (v := 8) hx hb dX12_seaStands_213 (by decide +kernel) ?_
                          refine lv_iadd hx hb dX12_seaStands_215 ?_
                          refine lv_topi (fun x_5699 ex_5699 => ?_)
                          replace hF := hF.trans (ap_n ex_5699)
                          have h_5700 : rg x_5699 108 732 := rg_of_eq ex_5699 (rg_add h_4967 (rg_k (8 : Int32) 8 rfl) (by decide +kernel))
                          have uh_5700 := h_5700.1
                          have vh_5700 := h_5700.2
                          have tx_5699 : (x_5699).toInt = (x_4966).toInt + 8 := by rw [ex_5699]; exact i_add_rg (a2 := (x_4966).toInt) (b2 := 8) rfl rfl h_4967 (rg_k (8 : Int32) 8 rfl) (by decide +kernel)
                          refine pl_i hx hb hK hP hL_w_4940 hK_w_4940 hN_w_4940 (rg_in h_5700 (by decide +kernel)) dX12_seaStands_216 ?_
                          refine lv_topi (fun x_5701 ex_5701 => ?_)
                          replace hF := hF.trans (ap_n (vR_r hO_w_4940 (by decide +kernel) ex_5701))
                          have K_5726 : ∀  (ri_5723 : Nat → Nat → Int32) (H : Heap) (locs : List Loc) (ls : Array Slot), F = g_X12_seaStands_K360 x_4567 x_4568 x_4569 (g_X12_seaStands_L8 a0 a1 (vI 12 σ this I) (vJ 12 σ this J) (vR 12 σ this ri) (vL 12 σ this rj) (vQ 12 σ this rq) n_4935) (vR 12 σ this ri_5723) → FR 12 tg σ this (I, J, ri, rj, rq) (I, J, ri_5723, rj, rq) → GM [] tg σ I ri I ri_5723 rq → va_P D vwCl (pq_P t σ (I, J, ri_5723, rj, rq)) H → va_D A (pq_P t σ (I, J, ri_5723, rj, rq)) → va_S A s.heap H locs → lv_has ls 9 [(0, .ref this), (1, .int a0), (2, .int a1), (3, .int x_4567), (4, .int x_4568), (5, .int x_4569)] → W p l e ({ frames := 2, cells := 0, slots := 0, locals := 43 } : Room) s m (List.toArray ([.ref this, .int a0, .int a1] : List Value)) below meth c H locs 0 0 Q (F0 m 360 ls []) := by
                            intro ri_5723 H locs ls hF hFr hG hP hD hS hl
                            replace hF := hF.trans g_X12_seaStands_K360_e
                            obtain ⟨x_5727, ex_5727⟩ : ∃ y : Int32, y = x_4569 + Int32.ofInt 1 := ⟨_, rfl⟩
                            replace hF := hF.trans (ap_n ex_5727)
                            have h_5728 : rg x_5727 1 40 := rg_of_eq ex_5727 (rg_add h_4962 (rg_k (Int32.ofInt 1) 1 rfl) (by decide +kernel))
                            have uh_5728 := h_5728.1
                            have vh_5728 := h_5728.2
                            have tx_5727 : (x_5727).toInt = (x_4569).toInt + 1 := by rw [ex_5727]; exact i_add_rg (a2 := (x_4569).toInt) (b2 := 1) rfl rfl h_4962 (rg_k (Int32.ofInt 1) 1 rfl) (by decide +kernel)
                            refine lv_iinc (v := x_5727) (lv' := [(5, .int x_5727), (0, .ref this), (1, .int a0), (2, .int a1), (3, .int x_4567), (4, .int x_4568)]) hx hb dX12_seaStands_360 hl (k := 5) rfl ex_5727.symm (by decide +kernel) rfl (fun ls hl => ?_)
                            refine lv_goto (tgt := 8) hx hb dX12_seaStands_363 (by decide +kernel) ?_
                            exact ih_4937 x_4567 x_4568 x_5727 ri_5723 _ _ _ (rg_w h_5728 (by decide +kernel)) (ms_up 1 hm_4934 ex_5727 rfl (by decide +kernel) h_4962 (by decide +kernel) (by decide +kernel)) hF hFr hG hP hD hS (lv_sub hl [1, 2, 3, 4, 5, 0] rfl)
                          refine lv_if_ne (tgt := 223) hx hb dX12_seaStands_217 (by decide +kernel) (fun c_5729 => ?_) (fun c_5729 => ?_)
                          · replace hF := hF.trans (if_neg c_5729)
                            have tc_5733 : (x_5701).toInt ≠ 0 := fun q => c_5729 (Int32.toInt_inj.mp q)
                            refine lv_iload hx hb dX12_seaStands_223 (lv_at hl 7 rfl) ?_
                            refine lv_if_eq (tgt := 317) hx hb dX12_seaStands_225 (by decide +kernel) (fun c_5734 => ?_) (fun c_5734 => absurd c_5734 (by decide +kernel))
                            refine lv_aload_n hx hb dX12_seaStands_317 rfl (lv_at hl 0 rfl) ?_
                            refine pg_f (v := .ref w_4940) (C := RX12) (T := TX12) (N := 31) hx hb hts (tw_i inlX12) hown hK hP hL_this hK_this (by decide +kernel) rfl 0 (by decide +kernel) (hts _ (tw_c tw_176)) (pq_hv rfl hR_w_4940) dX12_seaStands_318 ?_
                            refine lv_iload hx hb dX12_seaStands_321 (lv_at hl 6 rfl) ?_
                            refine lv_bipush (v := 10) hx hb dX12_seaStands_323 (by decide +kernel) ?_
                            refine lv_iadd hx hb dX12_seaStands_325 ?_
                            refine lv_topi (fun x_5735 ex_5735 => ?_)
                            replace hF := hF.trans (ap_n ex_5735)
                            have h_5736 : rg x_5735 110 734 := rg_of_eq ex_5735 (rg_add h_4967 (rg_k (10 : Int32) 10 rfl) (by decide +kernel))
                            have uh_5736 := h_5736.1
                            have vh_5736 := h_5736.2
                            have tx_5735 : (x_5735).toInt = (x_4966).toInt + 10 := by rw [ex_5735]; exact i_add_rg (a2 := (x_4966).toInt) (b2 := 10) rfl rfl h_4967 (rg_k (10 : Int32) 10 rfl) (by decide +kernel)
                            refine lv_aload_n hx hb dX12_seaStands_326 rfl (lv_at hl 0 rfl) ?_
                            refine pg_f (v := .ref w_4940) (C := RX12) (T := TX12) (N := 31) hx hb hts (tw_i inlX12) hown hK hP hL_this hK_this (by decide +kernel) rfl 0 (by decide +kernel) (hts _ (tw_c tw_176)) (pq_hv rfl hR_w_4940) dX12_seaStands_327 ?_
                            refine lv_iload hx hb dX12_seaStands_330 (lv_at hl 6 rfl) ?_
                            refine lv_bipush (v := 10) hx hb dX12_seaStands_332 (by decide +kernel) ?_
                            refine lv_iadd hx hb dX12_seaStands_334 ?_
                            refine lv_topi (fun x_5737 ex_5737 => ?_)
                            replace hF := hF.trans (ap_n ex_5737)
                            have h_5738 : rg x_5737 110 734 := rg_of_eq ex_5737 (rg_add h_4967 (rg_k (10 : Int32) 10 rfl) (by decide +kernel))
                            have uh_5738 := h_5738.1
                            have vh_5738 := h_5738.2
                            have tx_5737 : (x_5737).toInt = (x_4966).toInt + 10 := by rw [ex_5737]; exact i_add_rg (a2 := (x_4966).toInt) (b2 := 10) rfl rfl h_4967 (rg_k (10 : Int32) 10 rfl) (by decide +kernel)
                            refine pl_i hx hb hK hP hL_w_4940 hK_w_4940 hN_w_4940 (rg_in h_5738 (by decide +kernel)) dX12_seaStands_335 ?_
                            refine lv_topi (fun x_5739 ex_5739 => ?_)
                            replace hF := hF.trans (ap_n (vR_r hO_w_4940 (by decide +kernel) ex_5739))
                            refine lv_bipush (v := 90) hx hb dX12_seaStands_336 (by decide +kernel) ?_
                            have K_5751 : ∀  (x_5749 : Int32) (H : Heap) (locs : List Loc) (ls : Array Slot), F = g_X12_seaStands_K359 x_4567 x_4568 x_4569 (g_X12_seaStands_L8 a0 a1 (vI 12 σ this I) (vJ 12 σ this J) (vR 12 σ this ri) (vL 12 σ this rj) (vQ 12 σ this rq) n_4935) (vR 12 σ this ri_5670) x_5735 x_5749 → FR 12 tg σ this (I, J, ri, rj, rq) (I, J, ri_5670, rj, rq) → GM [] tg σ I ri I ri_5670 rq → va_P D vwCl (pq_P t σ (I, J, ri_5670, rj, rq)) H → va_D A (pq_P t σ (I, J, ri_5670, rj, rq)) → va_S A s.heap H locs → lv_has ls 9 [(0, .ref this), (1, .int a0), (2, .int a1), (3, .int x_4567), (4, .int x_4568), (5, .int x_4569)] → W p l e ({ frames := 2, cells := 0, slots := 0, locals := 43 } : Room) s m (List.toArray ([.ref this, .int a0, .int a1] : List Value)) below meth c H locs 0 0 Q (F0 m 359 ls [.int x_5749, .int x_5735, .ref w_4940]) := by
                              intro x_5749 H locs ls hF hFr hG hP hD hS hl
                              replace hF := hF.trans g_X12_seaStands_K359_e
                              refine pt_i hx hb hK hP hD hS hL_w_4940 hK_w_4940 hN_w_4940 (rg_in h_5736 (by decide +kernel)) dX12_seaStands_359 (fun r_5752 H locs er_5752 hP hD hS => ?_)
                              replace hFr := fr_R hFr hO_w_4940 (by decide +kernel) er_5752
                              replace hF := hF.trans (ap_n (vR_st hVT hO_w_4940 (by decide +kernel) er_5752))
                              have hG := GM.wz hG hT_w_4940 (by decide +kernel) er_5752 (zn_CELL (c := x_4569.toNatClampNeg) (k := 10) (by have z_i := clampE x_5735; have z_0 := clampE x_4569; omega) (rg_cl1 h_4962 (by decide +kernel)) (by decide +kernel)) rfl (rg_w (rg_full _) (by decide +kernel)) (by decide +kernel)
                              exact K_5726 r_5752 _ _ _ hF hFr hG hP hD hS (lv_sub hl [0, 1, 2, 3, 4, 5] rfl)
                            refine lv_icmp_le (tgt := 346) hx hb dX12_seaStands_338 (by decide +kernel) (fun c_5753 => ?_) (fun c_5753 => ?_)
                            · replace hF := hF.trans (if_pos c_5753)
                              have tc_5758 : (x_5739).toInt ≤ 90 := Int32.le_iff_toInt_le.mp c_5753
                              have h_5759 : rg x_5739 (-2147483648) 90 := rg_le1 c_5753 (rg_full _) (rg_k (90 : Int32) 90 rfl) (by decide +kernel)
                              have uh_5759 := h_5759.1
                              have vh_5759 := h_5759.2
                              refine lv_aload_n hx hb dX12_seaStands_346 rfl (lv_at hl 0 rfl) ?_
                              refine pg_f (v := .ref w_4940) (C := RX12) (T := TX12) (N := 31) hx hb hts (tw_i inlX12) hown hK hP hL_this hK_this (by decide +kernel) rfl 0 (by decide +kernel) (hts _ (tw_c tw_176)) (pq_hv rfl hR_w_4940) dX12_seaStands_347 ?_
                              refine lv_iload hx hb dX12_seaStands_350 (lv_at hl 6 rfl) ?_
                              refine lv_bipush (v := 10) hx hb dX12_seaStands_352 (by decide +kernel) ?_
                              refine lv_iadd hx hb dX12_seaStands_354 ?_
                              refine lv_topi (fun x_5760 ex_5760 => ?_)
                              replace hF := hF.trans (ap_n ex_5760)
                              have h_5761 : rg x_5760 110 734 := rg_of_eq ex_5760 (rg_add h_4967 (rg_k (10 : Int32) 10 rfl) (by decide +kernel))
                              have uh_5761 := h_5761.1
                              have vh_5761 := h_5761.2
                              have tx_5760 : (x_5760).toInt = (x_4966).toInt + 10 := by rw [ex_5760]; exact i_add_rg (a2 := (x_4966).toInt) (b2 := 10) rfl rfl h_4967 (rg_k (10 : Int32) 10 rfl) (by decide +kernel)
                              refine pl_i hx hb hK hP hL_w_4940 hK_w_4940 hN_w_4940 (rg_in h_5761 (by decide +kernel)) dX12_seaStands_355 ?_
                              refine lv_topi (fun x_5762 ex_5762 => ?_)
                              replace hF := hF.trans (ap_n (vR_r hO_w_4940 (by decide +kernel) ex_5762))
                              refine lv_bipush (v := 10) hx hb dX12_seaStands_356 (by decide +kernel) ?_
                              refine lv_iadd hx hb dX12_seaStands_358 ?_
                              refine lv_topi (fun x_5763 ex_5763 => ?_)
                              replace hF := hF.trans (ap_n ex_5763)
                              exact K_5751 x_5763 _ _ _ hF hFr hG hP hD hS (lv_sub hl [0, 1, 2, 3, 4, 5] rfl)
                            · replace hF := hF.trans (if_neg c_5753)
                              have tc_5764 : 90 < (x_5739).toInt := Int32.lt_iff_toInt_lt.mp (nle c_5753)
                              have h_5765 : rg x_5739 91 2147483647 := rg_lt2 (nle c_5753) (rg_k (90 : Int32) 90 rfl) (rg_full _) (by decide +kernel)
                              have uh_5765 := h_5765.1
                              have vh_5765 := h_5765.2
                              refine lv_bipush (v := 100) hx hb dX12_seaStands_341 (by decide +kernel) ?_
                              refine lv_goto (tgt := 359) hx hb dX12_seaStands_343 (by decide +kernel) ?_
                              exact K_5751 (100 : Int32) _ _ _ hF hFr hG hP hD hS (lv_sub hl [0, 1, 2, 3, 4, 5] rfl)
                          · replace hF := hF.trans (if_pos c_5729)
                            have tc_5766 : (x_5701).toInt = 0 := congrArg Int32.toInt c_5729
                            have h_5767 : rg x_5701 0 0 := rg_and (rg_full _) (rg_of_eq c_5729 (rg_k (0 : Int32) 0 rfl)) (by decide +kernel)
                            have uh_5767 := h_5767.1
                            have vh_5767 := h_5767.2
                            refine lv_goto (tgt := 360) hx hb dX12_seaStands_220 (by decide +kernel) ?_
                            exact K_5726 ri_5670 _ _ _ hF hFr hG hP hD hS (lv_sub hl [0, 1, 2, 3, 4, 5] rfl)
                        refine lv_if_ne (tgt := 207) hx hb dX12_seaStands_193 (by decide +kernel) (fun c_5768 => absurd c_5768 (by decide +kernel)) (fun c_5768 => ?_)
                        refine lv_aload_n hx hb dX12_seaStands_196 rfl (lv_at hl 0 rfl) ?_
                        refine pg_f (v := .ref w_4940) (C := RX12) (T := TX12) (N := 31) hx hb hts (tw_i inlX12) hown hK hP hL_this hK_this (by decide +kernel) rfl 0 (by decide +kernel) (hts _ (tw_c tw_176)) (pq_hv rfl hR_w_4940) dX12_seaStands_197 ?_
                        refine lv_iload hx hb dX12_seaStands_200 (lv_at hl 6 rfl) ?_
                        refine lv_bipush (v := 7) hx hb dX12_seaStands_202 (by decide +kernel) ?_
                        refine lv_iadd hx hb dX12_seaStands_204 ?_
                        refine lv_topi (fun x_5769 ex_5769 => ?_)
                        replace hF := hF.trans (ap_n ex_5769)
                        have h_5770 : rg x_5769 107 731 := rg_of_eq ex_5769 (rg_add h_4967 (rg_k (7 : Int32) 7 rfl) (by decide +kernel))
                        have uh_5770 := h_5770.1
                        have vh_5770 := h_5770.2
                        have tx_5769 : (x_5769).toInt = (x_4966).toInt + 7 := by rw [ex_5769]; exact i_add_rg (a2 := (x_4966).toInt) (b2 := 7) rfl rfl h_4967 (rg_k (7 : Int32) 7 rfl) (by decide +kernel)
                        refine lv_iconst (v := 0) hx hb dX12_seaStands_205 (by decide +kernel) ?_
                        refine pt_i hx hb hK hP hD hS hL_w_4940 hK_w_4940 hN_w_4940 (rg_in h_5770 (by decide +kernel)) dX12_seaStands_206 (fun r_5771 H locs er_5771 hP hD hS => ?_)
                        replace hFr := fr_R hFr hO_w_4940 (by decide +kernel) er_5771
                        replace hF := hF.trans (ap_n (vR_st hVT hO_w_4940 (by decide +kernel) er_5771))
                        have hG := GM.wz hG hT_w_4940 (by decide +kernel) er_5771 (zn_CELL (c := x_4569.toNatClampNeg) (k := 7) (by have z_i := clampE x_5769; have z_0 := clampE x_4569; omega) (rg_cl1 h_4962 (by decide +kernel)) (by decide +kernel)) rfl (rg_w (rg_k (0 : Int32) 0 rfl) (by decide +kernel)) (by decide +kernel)
                        exact K_5698 r_5771 _ _ _ hF hFr hG hP hD hS (lv_sub hl [0, 1, 2, 3, 4, 5, 6, 7] rfl)
                      refine lv_if_eq (tgt := 191) hx hb dX12_seaStands_169 (by decide +kernel) (fun c_5772 => ?_) (fun c_5772 => absurd c_5772 (by decide +kernel))
                      exact K_5665 _ _ _ hF hFr hG hP hD hS (lv_sub hl [0, 1, 2, 3, 4, 5, 6, 7] rfl)
                    refine lv_if_eq (tgt := 167) hx hb dX12_seaStands_150 (by decide +kernel) (fun c_5773 => ?_) (fun c_5773 => absurd c_5773 (by decide +kernel))
                    exact K_5631 _ _ _ hF hFr hG hP hD hS (lv_sub hl [0, 1, 2, 3, 4, 5, 6, 7, 8] rfl)
                  refine lv_if_eq (tgt := 135) hx hb dX12_seaStands_128 (by decide +kernel) (fun c_5774 => ?_) (fun c_5774 => absurd c_5774 (by decide +kernel))
                  refine lv_aload_n hx hb dX12_seaStands_135 rfl (lv_at hl 0 rfl) ?_
                  refine pg_f (v := .ref w_4940) (C := RX12) (T := TX12) (N := 31) hx hb hts (tw_i inlX12) hown hK hP hL_this hK_this (by decide +kernel) rfl 0 (by decide +kernel) (hts _ (tw_c tw_176)) (pq_hv rfl hR_w_4940) dX12_seaStands_136 ?_
                  refine lv_iload hx hb dX12_seaStands_139 (lv_at hl 6 rfl) ?_
                  refine lv_bipush (v := 11) hx hb dX12_seaStands_141 (by decide +kernel) ?_
                  refine lv_iadd hx hb dX12_seaStands_143 ?_
                  refine lv_topi (fun x_5775 ex_5775 => ?_)
                  replace hF := hF.trans (ap_n ex_5775)
                  have h_5776 : rg x_5775 111 735 := rg_of_eq ex_5775 (rg_add h_4967 (rg_k (11 : Int32) 11 rfl) (by decide +kernel))
                  have uh_5776 := h_5776.1
                  have vh_5776 := h_5776.2
                  have tx_5775 : (x_5775).toInt = (x_4966).toInt + 11 := by rw [ex_5775]; exact i_add_rg (a2 := (x_4966).toInt) (b2 := 11) rfl rfl h_4967 (rg_k (11 : Int32) 11 rfl) (by decide +kernel)
                  refine pl_i hx hb hK hP hL_w_4940 hK_w_4940 hN_w_4940 (rg_in h_5776 (by decide +kernel)) dX12_seaStands_144 ?_
                  refine lv_topi (fun x_5777 ex_5777 => ?_)
                  replace hF := hF.trans (ap_n (vR_r hO_w_4940 (by decide +kernel) ex_5777))
                  refine lv_iconst (v := 1) hx hb dX12_seaStands_145 (by decide +kernel) ?_
                  refine lv_iadd hx hb dX12_seaStands_146 ?_
                  refine lv_topi (fun x_5778 ex_5778 => ?_)
                  replace hF := hF.trans (ap_n ex_5778)
                  exact K_5595 x_5778 _ _ _ hF hFr hG hP hD hS (lv_sub hl [0, 1, 2, 3, 4, 5, 6, 7, 8] rfl)
                refine lv_if_eq (tgt := 115) hx hb dX12_seaStands_108 (by decide +kernel) (fun c_5779 => ?_) (fun c_5779 => absurd c_5779 (by decide +kernel))
                refine lv_iconst (v := 0) hx hb dX12_seaStands_115 (by decide +kernel) ?_
                exact K_5550 _ _ _ hF hFr hG hP hD hS (lv_sub hl [0, 1, 2, 3, 4, 5, 6, 7, 8] rfl)
              refine lv_if_eq (tgt := 95) hx hb dX12_seaStands_88 (by decide +kernel) (fun c_5780 => ?_) (fun c_5780 => absurd c_5780 (by decide +kernel))
              refine lv_iconst (v := 0) hx hb dX12_seaStands_95 (by decide +kernel) ?_
              exact K_5501 _ _ _ hF hFr hG hP hD hS (lv_sub hl [1, 2, 3, 4, 5, 6, 7, 8, 0] rfl)
            have K_5781 : ∀  (H : Heap) (locs : List Loc) (ls : Array Slot), rg (x_5307) (-2147483647) 2147483647 → rg (x_5321) (-2147483648) 2147483646 → F = g_X12_seaStands_K75_2 x_4567 x_4568 x_4569 (vR 12 σ this ri_4570) (g_X12_seaStands_L8 a0 a1 (vI 12 σ this I) (vJ 12 σ this J) (vR 12 σ this ri) (vL 12 σ this rj) (vQ 12 σ this rq) n_4935) x_4966  → FR 12 tg σ this (I, J, ri, rj, rq) (I, J, ri_4570, rj, rq) → GM [] tg σ I ri I ri_4570 rq → va_P D vwCl (pq_P t σ (I, J, ri_4570, rj, rq)) H → va_D A (pq_P t σ (I, J, ri_4570, rj, rq)) → va_S A s.heap H locs → lv_has ls 9 [(0, .ref this), (1, .int a0), (2, .int a1), (3, .int x_4567), (4, .int x_4568), (5, .int x_4569), (6, .int x_4966), (7, .int 0)] → W p l e ({ frames := 2, cells := 0, slots := 0, locals := 43 } : Room) s m (List.toArray ([.ref this, .int a0, .int a1] : List Value)) below meth c H locs 0 0 Q (F0 m 75 ls [.int 1]) := by
              intro H locs ls h_5784 h_5785 hF hFr hG hP hD hS hl
              have uh_5784 := h_5784.1
              have vh_5784 := h_5784.2
              have uh_5785 := h_5785.1
              have vh_5785 := h_5785.2
              replace hF := hF.trans g_X12_seaStands_K75_2_e
              refine lv_istore (lv' := [(8, .int 1), (0, .ref this), (1, .int a0), (2, .int a1), (3, .int x_4567), (4, .int x_4568), (5, .int x_4569), (6, .int x_4966), (7, .int 0)]) hx hb dX12_seaStands_75 hl (by decide +kernel) rfl (fun ls hl => ?_)
              refine lv_aload_n hx hb dX12_seaStands_77 rfl (lv_at hl 1 rfl) ?_
              refine pg_f (v := .ref w_4940) (C := RX12) (T := TX12) (N := 31) hx hb hts (tw_i inlX12) hown hK hP hL_this hK_this (by decide +kernel) rfl 0 (by decide +kernel) (hts _ (tw_c tw_176)) (pq_hv rfl hR_w_4940) dX12_seaStands_78 ?_
              refine lv_iload hx hb dX12_seaStands_81 (lv_at hl 7 rfl) ?_
              refine lv_bipush (v := 12) hx hb dX12_seaStands_83 (by decide +kernel) ?_
              refine lv_iadd hx hb dX12_seaStands_85 ?_
              refine lv_topi (fun x_5786 ex_5786 => ?_)
              replace hF := hF.trans (ap_n ex_5786)
              have h_5787 : rg x_5786 112 736 := rg_of_eq ex_5786 (rg_add h_4967 (rg_k (12 : Int32) 12 rfl) (by decide +kernel))
              have uh_5787 := h_5787.1
              have vh_5787 := h_5787.2
              have tx_5786 : (x_5786).toInt = (x_4966).toInt + 12 := by rw [ex_5786]; exact i_add_rg (a2 := (x_4966).toInt) (b2 := 12) rfl rfl h_4967 (rg_k (12 : Int32) 12 rfl) (by decide +kernel)
              refine lv_iload hx hb dX12_seaStands_86 (lv_at hl 8 rfl) ?_
              have K_5855 : ∀  (H : Heap) (locs : List Loc) (ls : Array Slot), F = g_X12_seaStands_K96_2 x_4567 x_4568 x_4569 (vR 12 σ this ri_4570) (g_X12_seaStands_L8 a0 a1 (vI 12 σ this I) (vJ 12 σ this J) (vR 12 σ this ri) (vL 12 σ this rj) (vQ 12 σ this rq) n_4935) x_4966 x_5786  → FR 12 tg σ this (I, J, ri, rj, rq) (I, J, ri_4570, rj, rq) → GM [] tg σ I ri I ri_4570 rq → va_P D vwCl (pq_P t σ (I, J, ri_4570, rj, rq)) H → va_D A (pq_P t σ (I, J, ri_4570, rj, rq)) → va_S A s.heap H locs → lv_has ls 9 [(0, .ref this), (1, .int a0), (2, .int a1), (3, .int x_4567), (4, .int x_4568), (5, .int x_4569), (6, .int x_4966), (7, .int 0), (8, .int 1)] → W p l e ({ frames := 2, cells := 0, slots := 0, locals := 43 } : Room) s m (List.toArray ([.ref this, .int a0, .int a1] : List Value)) below meth c H locs 0 0 Q (F0 m 96 ls [.int 0, .int x_5786, .ref w_4940]) := by
                intro H locs ls hF hFr hG hP hD hS hl
                replace hF := hF.trans g_X12_seaStands_K96_2_e
                refine pt_i hx hb hK hP hD hS hL_w_4940 hK_w_4940 hN_w_4940 (rg_in h_5787 (by decide +kernel)) dX12_seaStands_96 (fun r_5856 H locs er_5856 hP hD hS => ?_)
                replace hFr := fr_R hFr hO_w_4940 (by decide +kernel) er_5856
                replace hF := hF.trans (ap_n (vR_st hVT hO_w_4940 (by decide +kernel) er_5856))
                have hG := GM.wz hG hT_w_4940 (by decide +kernel) er_5856 (zn_CELL (c := x_4569.toNatClampNeg) (k := 12) (by have z_i := clampE x_5786; have z_0 := clampE x_4569; omega) (rg_cl1 h_4962 (by decide +kernel)) (by decide +kernel)) rfl (rg_w (rg_k (0 : Int32) 0 rfl) (by decide +kernel)) (by decide +kernel)
                refine lv_aload_n hx hb dX12_seaStands_97 rfl (lv_at hl 0 rfl) ?_
                refine pg_f (v := .ref w_4940) (C := RX12) (T := TX12) (N := 31) hx hb hts (tw_i inlX12) hown hK hP hL_this hK_this (by decide +kernel) rfl 0 (by decide +kernel) (hts _ (tw_c tw_176)) (pq_hv rfl hR_w_4940) dX12_seaStands_98 ?_
                refine lv_iload hx hb dX12_seaStands_101 (lv_at hl 6 rfl) ?_
                refine lv_bipush (v := 13) hx hb dX12_seaStands_103 (by decide +kernel) ?_
                refine lv_iadd hx hb dX12_seaStands_105 ?_
                refine lv_topi (fun x_5857 ex_5857 => ?_)
                replace hF := hF.trans (ap_n ex_5857)
                have h_5858 : rg x_5857 113 737 := rg_of_eq ex_5857 (rg_add h_4967 (rg_k (13 : Int32) 13 rfl) (by decide +kernel))
                have uh_5858 := h_5858.1
                have vh_5858 := h_5858.2
                have tx_5857 : (x_5857).toInt = (x_4966).toInt + 13 := by rw [ex_5857]; exact i_add_rg (a2 := (x_4966).toInt) (b2 := 13) rfl rfl h_4967 (rg_k (13 : Int32) 13 rfl) (by decide +kernel)
                refine lv_iload hx hb dX12_seaStands_106 (lv_at hl 8 rfl) ?_
                have K_5922 : ∀  (H : Heap) (locs : List Loc) (ls : Array Slot), F = g_X12_seaStands_K116_2 x_4567 x_4568 x_4569 (g_X12_seaStands_L8 a0 a1 (vI 12 σ this I) (vJ 12 σ this J) (vR 12 σ this ri) (vL 12 σ this rj) (vQ 12 σ this rq) n_4935) x_4966 (vR 12 σ this r_5856) x_5857  → FR 12 tg σ this (I, J, ri, rj, rq) (I, J, r_5856, rj, rq) → GM [] tg σ I ri I r_5856 rq → va_P D vwCl (pq_P t σ (I, J, r_5856, rj, rq)) H → va_D A (pq_P t σ (I, J, r_5856, rj, rq)) → va_S A s.heap H locs → lv_has ls 9 [(0, .ref this), (1, .int a0), (2, .int a1), (3, .int x_4567), (4, .int x_4568), (5, .int x_4569), (6, .int x_4966), (7, .int 0), (8, .int 1)] → W p l e ({ frames := 2, cells := 0, slots := 0, locals := 43 } : Room) s m (List.toArray ([.ref this, .int a0, .int a1] : List Value)) below meth c H locs 0 0 Q (F0 m 116 ls [.int 1, .int x_5857, .ref w_4940]) := by
                  intro H locs ls hF hFr hG hP hD hS hl
                  replace hF := hF.trans g_X12_seaStands_K116_2_e
                  refine pt_i hx hb hK hP hD hS hL_w_4940 hK_w_4940 hN_w_4940 (rg_in h_5858 (by decide +kernel)) dX12_seaStands_116 (fun r_5923 H locs er_5923 hP hD hS => ?_)
                  replace hFr := fr_R hFr hO_w_4940 (by decide +kernel) er_5923
                  replace hF := hF.trans (ap_n (vR_st hVT hO_w_4940 (by decide +kernel) er_5923))
                  have hG := GM.wz hG hT_w_4940 (by decide +kernel) er_5923 (zn_CELL (c := x_4569.toNatClampNeg) (k := 13) (by have z_i := clampE x_5857; have z_0 := clampE x_4569; omega) (rg_cl1 h_4962 (by decide +kernel)) (by decide +kernel)) rfl (rg_w (rg_k (1 : Int32) 1 rfl) (by decide +kernel)) (by decide +kernel)
                  refine lv_aload_n hx hb dX12_seaStands_117 rfl (lv_at hl 0 rfl) ?_
                  refine pg_f (v := .ref w_4940) (C := RX12) (T := TX12) (N := 31) hx hb hts (tw_i inlX12) hown hK hP hL_this hK_this (by decide +kernel) rfl 0 (by decide +kernel) (hts _ (tw_c tw_176)) (pq_hv rfl hR_w_4940) dX12_seaStands_118 ?_
                  refine lv_iload hx hb dX12_seaStands_121 (lv_at hl 6 rfl) ?_
                  refine lv_bipush (v := 11) hx hb dX12_seaStands_123 (by decide +kernel) ?_
                  refine lv_iadd hx hb dX12_seaStands_125 ?_
                  refine lv_topi (fun x_5924 ex_5924 => ?_)
                  replace hF := hF.trans (ap_n ex_5924)
                  have h_5925 : rg x_5924 111 735 := rg_of_eq ex_5924 (rg_add h_4967 (rg_k (11 : Int32) 11 rfl) (by decide +kernel))
                  have uh_5925 := h_5925.1
                  have vh_5925 := h_5925.2
                  have tx_5924 : (x_5924).toInt = (x_4966).toInt + 11 := by rw [ex_5924]; exact i_add_rg (a2 := (x_4966).toInt) (b2 := 11) rfl rfl h_4967 (rg_k (11 : Int32) 11 rfl) (by decide +kernel)
                  refine lv_iload hx hb dX12_seaStands_126 (lv_at hl 7 rfl) ?_
                  have K_5985 : ∀  (x_5931 : Int32) (H : Heap) (locs : List Loc) (ls : Array Slot), F = g_X12_seaStands_K147_2 x_4567 x_4568 x_4569 (g_X12_seaStands_L8 a0 a1 (vI 12 σ this I) (vJ 12 σ this J) (vR 12 σ this ri) (vL 12 σ this rj) (vQ 12 σ this rq) n_4935) x_4966 (vR 12 σ this r_5923) x_5924 x_5931 → FR 12 tg σ this (I, J, ri, rj, rq) (I, J, r_5923, rj, rq) → GM [] tg σ I ri I r_5923 rq → va_P D vwCl (pq_P t σ (I, J, r_5923, rj, rq)) H → va_D A (pq_P t σ (I, J, r_5923, rj, rq)) → va_S A s.heap H locs → lv_has ls 9 [(0, .ref this), (1, .int a0), (2, .int a1), (3, .int x_4567), (4, .int x_4568), (5, .int x_4569), (6, .int x_4966), (7, .int 0), (8, .int 1)] → W p l e ({ frames := 2, cells := 0, slots := 0, locals := 43 } : Room) s m (List.toArray ([.ref this, .int a0, .int a1] : List Value)) below meth c H locs 0 0 Q (F0 m 147 ls [.int x_5931, .int x_5924, .ref w_4940]) := by
                    intro x_5931 H locs ls hF hFr hG hP hD hS hl
                    replace hF := hF.trans g_X12_seaStands_K147_2_e
                    refine pt_i hx hb hK hP hD hS hL_w_4940 hK_w_4940 hN_w_4940 (rg_in h_5925 (by decide +kernel)) dX12_seaStands_147 (fun r_5986 H locs er_5986 hP hD hS => ?_)
                    replace hFr := fr_R hFr hO_w_4940 (by decide +kernel) er_5986
                    replace hF := hF.trans (ap_n (vR_st hVT hO_w_4940 (by decide +kernel) er_5986))
                    have hG := GM.wz hG hT_w_4940 (by decide +kernel) er_5986 (zn_CELL (c := x_4569.toNatClampNeg) (k := 11) (by have z_i := clampE x_5924; have z_0 := clampE x_4569; omega) (rg_cl1 h_4962 (by decide +kernel)) (by decide +kernel)) rfl (rg_w (rg_full _) (by decide +kernel)) (by decide +kernel)
                    refine lv_iload hx hb dX12_seaStands_148 (lv_at hl 8 rfl) ?_
                    have K_6039 : ∀  (x_5995 : Int32) (H : Heap) (locs : List Loc) (ls : Array Slot), F = g_X12_seaStands_K167_2 x_4568 x_4569 (g_X12_seaStands_L8 a0 a1 (vI 12 σ this I) (vJ 12 σ this J) (vR 12 σ this ri) (vL 12 σ this rj) (vQ 12 σ this rq) n_4935) x_4966 (vR 12 σ this r_5986) x_5995 → FR 12 tg σ this (I, J, ri, rj, rq) (I, J, r_5986, rj, rq) → GM [] tg σ I ri I r_5986 rq → va_P D vwCl (pq_P t σ (I, J, r_5986, rj, rq)) H → va_D A (pq_P t σ (I, J, r_5986, rj, rq)) → va_S A s.heap H locs → lv_has ls 9 [(0, .ref this), (1, .int a0), (2, .int a1), (3, .int x_5995), (4, .int x_4568), (5, .int x_4569), (6, .int x_4966), (7, .int 0), (8, .int 1)] → W p l e ({ frames := 2, cells := 0, slots := 0, locals := 43 } : Room) s m (List.toArray ([.ref this, .int a0, .int a1] : List Value)) below meth c H locs 0 0 Q (F0 m 167 ls []) := by
                      intro x_5995 H locs ls hF hFr hG hP hD hS hl
                      replace hF := hF.trans g_X12_seaStands_K167_2_e
                      refine lv_iload hx hb dX12_seaStands_167 (lv_at hl 8 rfl) ?_
                      have K_6083 : ∀  (x_6050 : Int32) (H : Heap) (locs : List Loc) (ls : Array Slot), F = g_X12_seaStands_K191_2 x_4569 (g_X12_seaStands_L8 a0 a1 (vI 12 σ this I) (vJ 12 σ this J) (vR 12 σ this ri) (vL 12 σ this rj) (vQ 12 σ this rq) n_4935) x_4966 (vR 12 σ this r_5986) x_5995 x_6050 → FR 12 tg σ this (I, J, ri, rj, rq) (I, J, r_5986, rj, rq) → GM [] tg σ I ri I r_5986 rq → va_P D vwCl (pq_P t σ (I, J, r_5986, rj, rq)) H → va_D A (pq_P t σ (I, J, r_5986, rj, rq)) → va_S A s.heap H locs → lv_has ls 9 [(0, .ref this), (1, .int a0), (2, .int a1), (3, .int x_5995), (4, .int x_6050), (5, .int x_4569), (6, .int x_4966), (7, .int 0)] → W p l e ({ frames := 2, cells := 0, slots := 0, locals := 43 } : Room) s m (List.toArray ([.ref this, .int a0, .int a1] : List Value)) below meth c H locs 0 0 Q (F0 m 191 ls []) := by
                        intro x_6050 H locs ls hF hFr hG hP hD hS hl
                        replace hF := hF.trans g_X12_seaStands_K191_2_e
                        refine lv_iload hx hb dX12_seaStands_191 (lv_at hl 7 rfl) ?_
                        have K_6116 : ∀  (ri_6088 : Nat → Nat → Int32) (H : Heap) (locs : List Loc) (ls : Array Slot), F = g_X12_seaStands_K207_2 x_4569 (g_X12_seaStands_L8 a0 a1 (vI 12 σ this I) (vJ 12 σ this J) (vR 12 σ this ri) (vL 12 σ this rj) (vQ 12 σ this rq) n_4935) x_4966 x_5995 x_6050 (vR 12 σ this ri_6088) → FR 12 tg σ this (I, J, ri, rj, rq) (I, J, ri_6088, rj, rq) → GM [] tg σ I ri I ri_6088 rq → va_P D vwCl (pq_P t σ (I, J, ri_6088, rj, rq)) H → va_D A (pq_P t σ (I, J, ri_6088, rj, rq)) → va_S A s.heap H locs → lv_has ls 9 [(0, .ref this), (1, .int a0), (2, .int a1), (3, .int x_5995), (4, .int x_6050), (5, .int x_4569), (6, .int x_4966), (7, .int 0)] → W p l e ({ frames := 2, cells := 0, slots := 0, locals := 43 } : Room) s m (List.toArray ([.ref this, .int a0, .int a1] : List Value)) below meth c H locs 0 0 Q (F0 m 207 ls []) := by
                          intro ri_6088 H locs ls hF hFr hG hP hD hS hl
                          replace hF := hF.trans g_X12_seaStands_K207_2_e
                          refine lv_aload_n hx hb dX12_seaStands_207 rfl (lv_at hl 0 rfl) ?_
                          refine pg_f (v := .ref w_4940) (C := RX12) (T := TX12) (N := 31) hx hb hts (tw_i inlX12) hown hK hP hL_this hK_this (by decide +kernel) rfl 0 (by decide +kernel) (hts _ (tw_c tw_176)) (pq_hv rfl hR_w_4940) dX12_seaStands_208 ?_
                          refine lv_iload hx hb dX12_seaStands_211 (lv_at hl 6 rfl) ?_
                          refine lv_bipush (v := 8) hx hb dX12_seaStands_213 (by decide +kernel) ?_
                          refine lv_iadd hx hb dX12_seaStands_215 ?_
                          refine lv_topi (fun x_6117 ex_6117 => ?_)
                          replace hF := hF.trans (ap_n ex_6117)
                          have h_6118 : rg x_6117 108 732 := rg_of_eq ex_6117 (rg_add h_4967 (rg_k (8 : Int32) 8 rfl) (by decide +kernel))
                          have uh_6118 := h_6118.1
                          have vh_6118 := h_6118.2
                          have tx_6117 : (x_6117).toInt = (x_4966).toInt + 8 := by rw [ex_6117]; exact i_add_rg (a2 := (x_4966).toInt) (b2 := 8) rfl rfl h_4967 (rg_k (8 : Int32) 8 rfl) (by decide +kernel)
                          refine pl_i hx hb hK hP hL_w_4940 hK_w_4940 hN_w_4940 (rg_in h_6118 (by decide +kernel)) dX12_seaStands_216 ?_
                          refine lv_topi (fun x_6119 ex_6119 => ?_)
                          replace hF := hF.trans (ap_n (vR_r hO_w_4940 (by decide +kernel) ex_6119))
                          have K_6144 : ∀  (ri_6141 : Nat → Nat → Int32) (H : Heap) (locs : List Loc) (ls : Array Slot), F = g_X12_seaStands_K360_2 x_4569 (g_X12_seaStands_L8 a0 a1 (vI 12 σ this I) (vJ 12 σ this J) (vR 12 σ this ri) (vL 12 σ this rj) (vQ 12 σ this rq) n_4935) x_5995 x_6050 (vR 12 σ this ri_6141) → FR 12 tg σ this (I, J, ri, rj, rq) (I, J, ri_6141, rj, rq) → GM [] tg σ I ri I ri_6141 rq → va_P D vwCl (pq_P t σ (I, J, ri_6141, rj, rq)) H → va_D A (pq_P t σ (I, J, ri_6141, rj, rq)) → va_S A s.heap H locs → lv_has ls 9 [(0, .ref this), (1, .int a0), (2, .int a1), (3, .int x_5995), (4, .int x_6050), (5, .int x_4569)] → W p l e ({ frames := 2, cells := 0, slots := 0, locals := 43 } : Room) s m (List.toArray ([.ref this, .int a0, .int a1] : List Value)) below meth c H locs 0 0 Q (F0 m 360 ls []) := by
                            intro ri_6141 H locs ls hF hFr hG hP hD hS hl
                            replace hF := hF.trans g_X12_seaStands_K360_2_e
                            obtain ⟨x_6145, ex_6145⟩ : ∃ y : Int32, y = x_4569 + Int32.ofInt 1 := ⟨_, rfl⟩
                            replace hF := hF.trans (ap_n ex_6145)
                            have h_6146 : rg x_6145 1 40 := rg_of_eq ex_6145 (rg_add h_4962 (rg_k (Int32.ofInt 1) 1 rfl) (by decide +kernel))
                            have uh_6146 := h_6146.1
                            have vh_6146 := h_6146.2
                            have tx_6145 : (x_6145).toInt = (x_4569).toInt + 1 := by rw [ex_6145]; exact i_add_rg (a2 := (x_4569).toInt) (b2 := 1) rfl rfl h_4962 (rg_k (Int32.ofInt 1) 1 rfl) (by decide +kernel)
                            refine lv_iinc (v := x_6145) (lv' := [(5, .int x_6145), (0, .ref this), (1, .int a0), (2, .int a1), (3, .int x_5995), (4, .int x_6050)]) hx hb dX12_seaStands_360 hl (k := 5) rfl ex_6145.symm (by decide +kernel) rfl (fun ls hl => ?_)
                            refine lv_goto (tgt := 8) hx hb dX12_seaStands_363 (by decide +kernel) ?_
                            exact ih_4937 x_5995 x_6050 x_6145 ri_6141 _ _ _ (rg_w h_6146 (by decide +kernel)) (ms_up 1 hm_4934 ex_6145 rfl (by decide +kernel) h_4962 (by decide +kernel) (by decide +kernel)) hF hFr hG hP hD hS (lv_sub hl [1, 2, 3, 4, 5, 0] rfl)
                          refine lv_if_ne (tgt := 223) hx hb dX12_seaStands_217 (by decide +kernel) (fun c_6147 => ?_) (fun c_6147 => ?_)
                          · replace hF := hF.trans (if_neg c_6147)
                            have tc_6151 : (x_6119).toInt ≠ 0 := fun q => c_6147 (Int32.toInt_inj.mp q)
                            refine lv_iload hx hb dX12_seaStands_223 (lv_at hl 7 rfl) ?_
                            refine lv_if_eq (tgt := 317) hx hb dX12_seaStands_225 (by decide +kernel) (fun c_6152 => ?_) (fun c_6152 => absurd c_6152 (by decide +kernel))
                            refine lv_aload_n hx hb dX12_seaStands_317 rfl (lv_at hl 0 rfl) ?_
                            refine pg_f (v := .ref w_4940) (C := RX12) (T := TX12) (N := 31) hx hb hts (tw_i inlX12) hown hK hP hL_this hK_this (by decide +kernel) rfl 0 (by decide +kernel) (hts _ (tw_c tw_176)) (pq_hv rfl hR_w_4940) dX12_seaStands_318 ?_
                            refine lv_iload hx hb dX12_seaStands_321 (lv_at hl 6 rfl) ?_
                            refine lv_bipush (v := 10) hx hb dX12_seaStands_323 (by decide +kernel) ?_
                            refine lv_iadd hx hb dX12_seaStands_325 ?_
                            refine lv_topi (fun x_6153 ex_6153 => ?_)
                            replace hF := hF.trans (ap_n ex_6153)
                            have h_6154 : rg x_6153 110 734 := rg_of_eq ex_6153 (rg_add h_4967 (rg_k (10 : Int32) 10 rfl) (by decide +kernel))
                            have uh_6154 := h_6154.1
                            have vh_6154 := h_6154.2
                            have tx_6153 : (x_6153).toInt = (x_4966).toInt + 10 := by rw [ex_6153]; exact i_add_rg (a2 := (x_4966).toInt) (b2 := 10) rfl rfl h_4967 (rg_k (10 : Int32) 10 rfl) (by decide +kernel)
                            refine lv_aload_n hx hb dX12_seaStands_326 rfl (lv_at hl 0 rfl) ?_
                            refine pg_f (v := .ref w_4940) (C := RX12) (T := TX12) (N := 31) hx hb hts (tw_i inlX12) hown hK hP hL_this hK_this (by decide +kernel) rfl 0 (by decide +kernel) (hts _ (tw_c tw_176)) (pq_hv rfl hR_w_4940) dX12_seaStands_327 ?_
                            refine lv_iload hx hb dX12_seaStands_330 (lv_at hl 6 rfl) ?_
                            refine lv_bipush (v := 10) hx hb dX12_seaStands_332 (by decide +kernel) ?_
                            refine lv_iadd hx hb dX12_seaStands_334 ?_
                            refine lv_topi (fun x_6155 ex_6155 => ?_)
                            replace hF := hF.trans (ap_n ex_6155)
                            have h_6156 : rg x_6155 110 734 := rg_of_eq ex_6155 (rg_add h_4967 (rg_k (10 : Int32) 10 rfl) (by decide +kernel))
                            have uh_6156 := h_6156.1
                            have vh_6156 := h_6156.2
                            have tx_6155 : (x_6155).toInt = (x_4966).toInt + 10 := by rw [ex_6155]; exact i_add_rg (a2 := (x_4966).toInt) (b2 := 10) rfl rfl h_4967 (rg_k (10 : Int32) 10 rfl) (by decide +kernel)
                            refine pl_i hx hb hK hP hL_w_4940 hK_w_4940 hN_w_4940 (rg_in h_6156 (by decide +kernel)) dX12_seaStands_335 ?_
                            refine lv_topi (fun x_6157 ex_6157 => ?_)
                            replace hF := hF.trans (ap_n (vR_r hO_w_4940 (by decide +kernel) ex_6157))
                            refine lv_bipush (v := 90) hx hb dX12_seaStands_336 (by decide +kernel) ?_
                            have K_6169 : ∀  (x_6167 : Int32) (H : Heap) (locs : List Loc) (ls : Array Slot), F = g_X12_seaStands_K359_2 x_4569 (g_X12_seaStands_L8 a0 a1 (vI 12 σ this I) (vJ 12 σ this J) (vR 12 σ this ri) (vL 12 σ this rj) (vQ 12 σ this rq) n_4935) x_5995 x_6050 (vR 12 σ this ri_6088) x_6153 x_6167 → FR 12 tg σ this (I, J, ri, rj, rq) (I, J, ri_6088, rj, rq) → GM [] tg σ I ri I ri_6088 rq → va_P D vwCl (pq_P t σ (I, J, ri_6088, rj, rq)) H → va_D A (pq_P t σ (I, J, ri_6088, rj, rq)) → va_S A s.heap H locs → lv_has ls 9 [(0, .ref this), (1, .int a0), (2, .int a1), (3, .int x_5995), (4, .int x_6050), (5, .int x_4569)] → W p l e ({ frames := 2, cells := 0, slots := 0, locals := 43 } : Room) s m (List.toArray ([.ref this, .int a0, .int a1] : List Value)) below meth c H locs 0 0 Q (F0 m 359 ls [.int x_6167, .int x_6153, .ref w_4940]) := by
                              intro x_6167 H locs ls hF hFr hG hP hD hS hl
                              replace hF := hF.trans g_X12_seaStands_K359_2_e
                              refine pt_i hx hb hK hP hD hS hL_w_4940 hK_w_4940 hN_w_4940 (rg_in h_6154 (by decide +kernel)) dX12_seaStands_359 (fun r_6170 H locs er_6170 hP hD hS => ?_)
                              replace hFr := fr_R hFr hO_w_4940 (by decide +kernel) er_6170
                              replace hF := hF.trans (ap_n (vR_st hVT hO_w_4940 (by decide +kernel) er_6170))
                              have hG := GM.wz hG hT_w_4940 (by decide +kernel) er_6170 (zn_CELL (c := x_4569.toNatClampNeg) (k := 10) (by have z_i := clampE x_6153; have z_0 := clampE x_4569; omega) (rg_cl1 h_4962 (by decide +kernel)) (by decide +kernel)) rfl (rg_w (rg_full _) (by decide +kernel)) (by decide +kernel)
                              exact K_6144 r_6170 _ _ _ hF hFr hG hP hD hS (lv_sub hl [0, 1, 2, 3, 4, 5] rfl)
                            refine lv_icmp_le (tgt := 346) hx hb dX12_seaStands_338 (by decide +kernel) (fun c_6171 => ?_) (fun c_6171 => ?_)
                            · replace hF := hF.trans (if_pos c_6171)
                              have tc_6176 : (x_6157).toInt ≤ 90 := Int32.le_iff_toInt_le.mp c_6171
                              have h_6177 : rg x_6157 (-2147483648) 90 := rg_le1 c_6171 (rg_full _) (rg_k (90 : Int32) 90 rfl) (by decide +kernel)
                              have uh_6177 := h_6177.1
                              have vh_6177 := h_6177.2
                              refine lv_aload_n hx hb dX12_seaStands_346 rfl (lv_at hl 0 rfl) ?_
                              refine pg_f (v := .ref w_4940) (C := RX12) (T := TX12) (N := 31) hx hb hts (tw_i inlX12) hown hK hP hL_this hK_this (by decide +kernel) rfl 0 (by decide +kernel) (hts _ (tw_c tw_176)) (pq_hv rfl hR_w_4940) dX12_seaStands_347 ?_
                              refine lv_iload hx hb dX12_seaStands_350 (lv_at hl 6 rfl) ?_
                              refine lv_bipush (v := 10) hx hb dX12_seaStands_352 (by decide +kernel) ?_
                              refine lv_iadd hx hb dX12_seaStands_354 ?_
                              refine lv_topi (fun x_6178 ex_6178 => ?_)
                              replace hF := hF.trans (ap_n ex_6178)
                              have h_6179 : rg x_6178 110 734 := rg_of_eq ex_6178 (rg_add h_4967 (rg_k (10 : Int32) 10 rfl) (by decide +kernel))
                              have uh_6179 := h_6179.1
                              have vh_6179 := h_6179.2
                              have tx_6178 : (x_6178).toInt = (x_4966).toInt + 10 := by rw [ex_6178]; exact i_add_rg (a2 := (x_4966).toInt) (b2 := 10) rfl rfl h_4967 (rg_k (10 : Int32) 10 rfl) (by decide +kernel)
                              refine pl_i hx hb hK hP hL_w_4940 hK_w_4940 hN_w_4940 (rg_in h_6179 (by decide +kernel)) dX12_seaStands_355 ?_
                              refine lv_topi (fun x_6180 ex_6180 => ?_)
                              replace hF := hF.trans (ap_n (vR_r hO_w_4940 (by decide +kernel) ex_6180))
                              refine lv_bipush (v := 10) hx hb dX12_seaStands_356 (by decide +kernel) ?_
                              refine lv_iadd hx hb dX12_seaStands_358 ?_
                              refine lv_topi (fun x_6181 ex_6181 => ?_)
                              replace hF := hF.trans (ap_n ex_6181)
                              exact K_6169 x_6181 _ _ _ hF hFr hG hP hD hS (lv_sub hl [0, 1, 2, 3, 4, 5] rfl)
                            · replace hF := hF.trans (if_neg c_6171)
                              have tc_6182 : 90 < (x_6157).toInt := Int32.lt_iff_toInt_lt.mp (nle c_6171)
                              have h_6183 : rg x_6157 91 2147483647 := rg_lt2 (nle c_6171) (rg_k (90 : Int32) 90 rfl) (rg_full _) (by decide +kernel)
                              have uh_6183 := h_6183.1
                              have vh_6183 := h_6183.2
                              refine lv_bipush (v := 100) hx hb dX12_seaStands_341 (by decide +kernel) ?_
                              refine lv_goto (tgt := 359) hx hb dX12_seaStands_343 (by decide +kernel) ?_
                              exact K_6169 (100 : Int32) _ _ _ hF hFr hG hP hD hS (lv_sub hl [0, 1, 2, 3, 4, 5] rfl)
                          · replace hF := hF.trans (if_pos c_6147)
                            have tc_6184 : (x_6119).toInt = 0 := congrArg Int32.toInt c_6147
                            have h_6185 : rg x_6119 0 0 := rg_and (rg_full _) (rg_of_eq c_6147 (rg_k (0 : Int32) 0 rfl)) (by decide +kernel)
                            have uh_6185 := h_6185.1
                            have vh_6185 := h_6185.2
                            refine lv_goto (tgt := 360) hx hb dX12_seaStands_220 (by decide +kernel) ?_
                            exact K_6144 ri_6088 _ _ _ hF hFr hG hP hD hS (lv_sub hl [0, 1, 2, 3, 4, 5] rfl)
                        refine lv_if_ne (tgt := 207) hx hb dX12_seaStands_193 (by decide +kernel) (fun c_6186 => absurd c_6186 (by decide +kernel)) (fun c_6186 => ?_)
                        refine lv_aload_n hx hb dX12_seaStands_196 rfl (lv_at hl 0 rfl) ?_
                        refine pg_f (v := .ref w_4940) (C := RX12) (T := TX12) (N := 31) hx hb hts (tw_i inlX12) hown hK hP hL_this hK_this (by decide +kernel) rfl 0 (by decide +kernel) (hts _ (tw_c tw_176)) (pq_hv rfl hR_w_4940) dX12_seaStands_197 ?_
                        refine lv_iload hx hb dX12_seaStands_200 (lv_at hl 6 rfl) ?_
                        refine lv_bipush (v := 7) hx hb dX12_seaStands_202 (by decide +kernel) ?_
                        refine lv_iadd hx hb dX12_seaStands_204 ?_
                        refine lv_topi (fun x_6187 ex_6187 => ?_)
                        replace hF := hF.trans (ap_n ex_6187)
                        have h_6188 : rg x_6187 107 731 := rg_of_eq ex_6187 (rg_add h_4967 (rg_k (7 : Int32) 7 rfl) (by decide +kernel))
                        have uh_6188 := h_6188.1
                        have vh_6188 := h_6188.2
                        have tx_6187 : (x_6187).toInt = (x_4966).toInt + 7 := by rw [ex_6187]; exact i_add_rg (a2 := (x_4966).toInt) (b2 := 7) rfl rfl h_4967 (rg_k (7 : Int32) 7 rfl) (by decide +kernel)
                        refine lv_iconst (v := 0) hx hb dX12_seaStands_205 (by decide +kernel) ?_
                        refine pt_i hx hb hK hP hD hS hL_w_4940 hK_w_4940 hN_w_4940 (rg_in h_6188 (by decide +kernel)) dX12_seaStands_206 (fun r_6189 H locs er_6189 hP hD hS => ?_)
                        replace hFr := fr_R hFr hO_w_4940 (by decide +kernel) er_6189
                        replace hF := hF.trans (ap_n (vR_st hVT hO_w_4940 (by decide +kernel) er_6189))
                        have hG := GM.wz hG hT_w_4940 (by decide +kernel) er_6189 (zn_CELL (c := x_4569.toNatClampNeg) (k := 7) (by have z_i := clampE x_6187; have z_0 := clampE x_4569; omega) (rg_cl1 h_4962 (by decide +kernel)) (by decide +kernel)) rfl (rg_w (rg_k (0 : Int32) 0 rfl) (by decide +kernel)) (by decide +kernel)
                        exact K_6116 r_6189 _ _ _ hF hFr hG hP hD hS (lv_sub hl [0, 1, 2, 3, 4, 5, 6, 7] rfl)
                      refine lv_if_eq (tgt := 191) hx hb dX12_seaStands_169 (by decide +kernel) (fun c_6190 => absurd c_6190 (by decide +kernel)) (fun c_6190 => ?_)
                      refine lv_iload hx hb dX12_seaStands_172 (lv_at hl 5 rfl) ?_
                      refine lv_bipush (v := 20) hx hb dX12_seaStands_174 (by decide +kernel) ?_
                      refine lv_icmp_lt (tgt := 191) hx hb dX12_seaStands_176 (by decide +kernel) (fun c_6191 => ?_) (fun c_6191 => ?_)
                      · replace hF := hF.trans (if_pos c_6191)
                        have tc_6196 : (x_4569).toInt < 20 := Int32.lt_iff_toInt_lt.mp c_6191
                        have h_6197 : rg x_4569 0 19 := rg_lt1 c_6191 h_4962 (rg_k (20 : Int32) 20 rfl) (by decide +kernel)
                        have uh_6197 := h_6197.1
                        have vh_6197 := h_6197.2
                        exact K_6083 x_4568 _ _ _ hF hFr hG hP hD hS (lv_sub hl [0, 1, 2, 3, 4, 5, 6, 7] rfl)
                      · replace hF := hF.trans (if_neg c_6191)
                        have tc_6198 : 20 ≤ (x_4569).toInt := Int32.le_iff_toInt_le.mp (nlt c_6191)
                        have h_6199 : rg x_4569 20 39 := rg_le2 (nlt c_6191) (rg_k (20 : Int32) 20 rfl) h_4962 (by decide +kernel)
                        have uh_6199 := h_6199.1
                        have vh_6199 := h_6199.2
                        refine lv_iload hx hb dX12_seaStands_179 (lv_at hl 4 rfl) ?_
                        refine lv_iconst (v := 1) hx hb dX12_seaStands_181 (by decide +kernel) ?_
                        refine lv_iload hx hb dX12_seaStands_182 (lv_at hl 5 rfl) ?_
                        refine lv_bipush (v := 20) hx hb dX12_seaStands_184 (by decide +kernel) ?_
                        refine lv_isub hx hb dX12_seaStands_186 ?_
                        refine lv_topi (fun x_6200 ex_6200 => ?_)
                        replace hF := hF.trans (ap_n ex_6200)
                        have h_6201 : rg x_6200 0 19 := rg_of_eq ex_6200 (rg_sub h_6199 (rg_k (20 : Int32) 20 rfl) (by decide +kernel))
                        have uh_6201 := h_6201.1
                        have vh_6201 := h_6201.2
                        have tx_6200 : (x_6200).toInt = (x_4569).toInt - 20 := by rw [ex_6200]; exact i_sub_rg (a2 := (x_4569).toInt) (b2 := 20) rfl rfl h_6199 (rg_k (20 : Int32) 20 rfl) (by decide +kernel)
                        refine lv_ishl hx hb dX12_seaStands_187 ?_
                        refine lv_topi (fun x_6202 ex_6202 => ?_)
                        replace hF := hF.trans (ap_n ex_6202)
                        refine lv_ior hx hb dX12_seaStands_188 ?_
                        refine lv_topi (fun x_6203 ex_6203 => ?_)
                        replace hF := hF.trans (ap_n ex_6203)
                        refine lv_istore (lv' := [(4, .int x_6203), (0, .ref this), (1, .int a0), (2, .int a1), (3, .int x_5995), (5, .int x_4569), (6, .int x_4966), (7, .int 0), (8, .int 1)]) hx hb dX12_seaStands_189 hl (by decide +kernel) rfl (fun ls hl => ?_)
                        exact K_6083 x_6203 _ _ _ hF hFr hG hP hD hS (lv_sub hl [1, 2, 3, 4, 0, 5, 6, 7] rfl)
                    refine lv_if_eq (tgt := 167) hx hb dX12_seaStands_150 (by decide +kernel) (fun c_6204 => absurd c_6204 (by decide +kernel)) (fun c_6204 => ?_)
                    refine lv_iload hx hb dX12_seaStands_153 (lv_at hl 5 rfl) ?_
                    refine lv_bipush (v := 20) hx hb dX12_seaStands_155 (by decide +kernel) ?_
                    refine lv_icmp_ge (tgt := 167) hx hb dX12_seaStands_157 (by decide +kernel) (fun c_6205 => ?_) (fun c_6205 => ?_)
                    · replace hF := hF.trans (if_pos c_6205)
                      have tc_6210 : 20 ≤ (x_4569).toInt := Int32.le_iff_toInt_le.mp c_6205
                      have h_6211 : rg x_4569 20 39 := rg_le2 c_6205 (rg_k (20 : Int32) 20 rfl) h_4962 (by decide +kernel)
                      have uh_6211 := h_6211.1
                      have vh_6211 := h_6211.2
                      exact K_6039 x_4567 _ _ _ hF hFr hG hP hD hS (lv_sub hl [0, 1, 2, 3, 4, 5, 6, 7, 8] rfl)
                    · replace hF := hF.trans (if_neg c_6205)
                      have tc_6212 : (x_4569).toInt < 20 := Int32.lt_iff_toInt_lt.mp (nle c_6205)
                      have h_6213 : rg x_4569 0 19 := rg_lt1 (nle c_6205) h_4962 (rg_k (20 : Int32) 20 rfl) (by decide +kernel)
                      have uh_6213 := h_6213.1
                      have vh_6213 := h_6213.2
                      refine lv_iload_n hx hb dX12_seaStands_160 rfl (lv_at hl 3 rfl) ?_
                      refine lv_iconst (v := 1) hx hb dX12_seaStands_161 (by decide +kernel) ?_
                      refine lv_iload hx hb dX12_seaStands_162 (lv_at hl 5 rfl) ?_
                      refine lv_ishl hx hb dX12_seaStands_164 ?_
                      refine lv_topi (fun x_6214 ex_6214 => ?_)
                      replace hF := hF.trans (ap_n ex_6214)
                      refine lv_ior hx hb dX12_seaStands_165 ?_
                      refine lv_topi (fun x_6215 ex_6215 => ?_)
                      replace hF := hF.trans (ap_n ex_6215)
                      refine lv_istore_n (lv' := [(3, .int x_6215), (0, .ref this), (1, .int a0), (2, .int a1), (4, .int x_4568), (5, .int x_4569), (6, .int x_4966), (7, .int 0), (8, .int 1)]) hx hb dX12_seaStands_166 rfl hl (by decide +kernel) rfl (fun ls hl => ?_)
                      exact K_6039 x_6215 _ _ _ hF hFr hG hP hD hS (lv_sub hl [1, 2, 3, 0, 4, 5, 6, 7, 8] rfl)
                  refine lv_if_eq (tgt := 135) hx hb dX12_seaStands_128 (by decide +kernel) (fun c_6216 => ?_) (fun c_6216 => absurd c_6216 (by decide +kernel))
                  refine lv_aload_n hx hb dX12_seaStands_135 rfl (lv_at hl 0 rfl) ?_
                  refine pg_f (v := .ref w_4940) (C := RX12) (T := TX12) (N := 31) hx hb hts (tw_i inlX12) hown hK hP hL_this hK_this (by decide +kernel) rfl 0 (by decide +kernel) (hts _ (tw_c tw_176)) (pq_hv rfl hR_w_4940) dX12_seaStands_136 ?_
                  refine lv_iload hx hb dX12_seaStands_139 (lv_at hl 6 rfl) ?_
                  refine lv_bipush (v := 11) hx hb dX12_seaStands_141 (by decide +kernel) ?_
                  refine lv_iadd hx hb dX12_seaStands_143 ?_
                  refine lv_topi (fun x_6217 ex_6217 => ?_)
                  replace hF := hF.trans (ap_n ex_6217)
                  have h_6218 : rg x_6217 111 735 := rg_of_eq ex_6217 (rg_add h_4967 (rg_k (11 : Int32) 11 rfl) (by decide +kernel))
                  have uh_6218 := h_6218.1
                  have vh_6218 := h_6218.2
                  have tx_6217 : (x_6217).toInt = (x_4966).toInt + 11 := by rw [ex_6217]; exact i_add_rg (a2 := (x_4966).toInt) (b2 := 11) rfl rfl h_4967 (rg_k (11 : Int32) 11 rfl) (by decide +kernel)
                  refine pl_i hx hb hK hP hL_w_4940 hK_w_4940 hN_w_4940 (rg_in h_6218 (by decide +kernel)) dX12_seaStands_144 ?_
                  refine lv_topi (fun x_6219 ex_6219 => ?_)
                  replace hF := hF.trans (ap_n (vR_r hO_w_4940 (by decide +kernel) ex_6219))
                  refine lv_iconst (v := 1) hx hb dX12_seaStands_145 (by decide +kernel) ?_
                  refine lv_iadd hx hb dX12_seaStands_146 ?_
                  refine lv_topi (fun x_6220 ex_6220 => ?_)
                  replace hF := hF.trans (ap_n ex_6220)
                  exact K_5985 x_6220 _ _ _ hF hFr hG hP hD hS (lv_sub hl [0, 1, 2, 3, 4, 5, 6, 7, 8] rfl)
                refine lv_if_eq (tgt := 115) hx hb dX12_seaStands_108 (by decide +kernel) (fun c_6221 => absurd c_6221 (by decide +kernel)) (fun c_6221 => ?_)
                refine lv_iconst (v := 1) hx hb dX12_seaStands_111 (by decide +kernel) ?_
                refine lv_goto (tgt := 116) hx hb dX12_seaStands_112 (by decide +kernel) ?_
                exact K_5922 _ _ _ hF hFr hG hP hD hS (lv_sub hl [0, 1, 2, 3, 4, 5, 6, 7, 8] rfl)
              refine lv_if_eq (tgt := 95) hx hb dX12_seaStands_88 (by decide +kernel) (fun c_6222 => ?_) (fun c_6222 => absurd c_6222 (by decide +kernel))
              refine lv_iconst (v := 0) hx hb dX12_seaStands_95 (by decide +kernel) ?_
              exact K_5855 _ _ _ hF hFr hG hP hD hS (lv_sub hl [1, 2, 3, 4, 5, 6, 7, 8, 0] rfl)
            refine lv_icmp_le (tgt := 74) hx hb dX12_seaStands_67 (by decide +kernel) (fun c_6223 => ?_) (fun c_6223 => ?_)
            · replace hF := hF.trans (if_pos c_6223)
              have tc_6228 : (x_5307).toInt ≤ (x_5321).toInt := Int32.le_iff_toInt_le.mp c_6223
              refine lv_iconst (v := 0) hx hb dX12_seaStands_74 (by decide +kernel) ?_
              exact K_5449 _ _ _ hF hFr hG hP hD hS (lv_sub hl [1, 2, 3, 4, 5, 6, 7, 0] rfl)
            · replace hF := hF.trans (if_neg c_6223)
              have tc_6229 : (x_5321).toInt < (x_5307).toInt := Int32.lt_iff_toInt_lt.mp (nle c_6223)
              have h_6230 : rg x_5321 (-2147483648) 2147483646 := rg_lt1 (nle c_6223) (rg_full _) (rg_full _) (by decide +kernel)
              have uh_6230 := h_6230.1
              have vh_6230 := h_6230.2
              have h_6231 : rg x_5307 (-2147483647) 2147483647 := rg_lt2 (nle c_6223) (rg_full _) (rg_full _) (by decide +kernel)
              have uh_6231 := h_6231.1
              have vh_6231 := h_6231.2
              refine lv_iconst (v := 1) hx hb dX12_seaStands_70 (by decide +kernel) ?_
              refine lv_goto (tgt := 75) hx hb dX12_seaStands_71 (by decide +kernel) ?_
              exact K_5781 _ _ _ (rg_w h_6231 (by decide +kernel)) (rg_w h_6230 (by decide +kernel)) hF hFr hG hP hD hS (lv_sub hl [1, 2, 3, 4, 5, 6, 7, 0] rfl)
          have K_6232 : ∀  (H : Heap) (locs : List Loc) (ls : Array Slot), rg (x_4968) (-2147483647) 2147483647 → rg (x_4982) (-2147483648) 2147483646 → F = g_X12_seaStands_K51_2 a0 a1 (vI 12 σ this I) (vJ 12 σ this J) (vL 12 σ this rj) (vQ 12 σ this rq) x_4567 x_4568 x_4569 (vR 12 σ this ri_4570) (g_X12_seaStands_L8 a0 a1 (vI 12 σ this I) (vJ 12 σ this J) (vR 12 σ this ri) (vL 12 σ this rj) (vQ 12 σ this rq) n_4935) x_4966  → FR 12 tg σ this (I, J, ri, rj, rq) (I, J, ri_4570, rj, rq) → GM [] tg σ I ri I ri_4570 rq → va_P D vwCl (pq_P t σ (I, J, ri_4570, rj, rq)) H → va_D A (pq_P t σ (I, J, ri_4570, rj, rq)) → va_S A s.heap H locs → lv_has ls 9 [(0, .ref this), (1, .int a0), (2, .int a1), (3, .int x_4567), (4, .int x_4568), (5, .int x_4569), (6, .int x_4966)] → W p l e ({ frames := 2, cells := 0, slots := 0, locals := 43 } : Room) s m (List.toArray ([.ref this, .int a0, .int a1] : List Value)) below meth c H locs 0 0 Q (F0 m 51 ls [.int 1]) := by
            intro H locs ls h_6235 h_6236 hF hFr hG hP hD hS hl
            have uh_6235 := h_6235.1
            have vh_6235 := h_6235.2
            have uh_6236 := h_6236.1
            have vh_6236 := h_6236.2
            replace hF := hF.trans g_X12_seaStands_K51_2_e
            refine lv_istore (lv' := [(7, .int 1), (0, .ref this), (1, .int a0), (2, .int a1), (3, .int x_4567), (4, .int x_4568), (5, .int x_4569), (6, .int x_4966)]) hx hb dX12_seaStands_51 hl (by decide +kernel) rfl (fun ls hl => ?_)
            refine lv_aload_n hx hb dX12_seaStands_53 rfl (lv_at hl 1 rfl) ?_
            refine lv_iload hx hb dX12_seaStands_54 (lv_at hl 6 rfl) ?_
            refine pk_i (va_runV (As := [.int x_4569]) (rest := []) ⟨hx, hb, hml, hown, hts⟩ (s_X12_topOf l D t σ I J ri_4570 rj rq H.size tg hSH hG.1 this x_4569 hL_this hK_this (rg_w h_4962 (by decide +kernel))) (cwV 1 hts (tw_V tw_1213 tw_1214 tw_1215 tw_5 tw_1216) rfl rfl rfl cv_yX12_topOf_1 ⟨Nat.le_of_ble_eq_true rfl, Nat.le_of_ble_eq_true rfl⟩) ⟨pq_blind, pq_recv hK hP hL_this hK_this (by decide +kernel) rfl, pq_pre hK hN hP hD⟩ rfl rfl hl.1 rfl (lv_room (Nat.le_of_ble_eq_true rfl)) dX12_seaStands_56 ⟨Nat.le_of_ble_eq_true rfl, Nat.le_of_ble_eq_true rfl⟩) hD hS hA (fun x_6237 σ1 μ1 H locs hw_6238 hP hD hS => ?_)
            obtain ⟨hu_6239, hfn_6242⟩ := hw_6238
            obtain ⟨hu_6239a, hu_6239b⟩ := Prod.mk.inj hu_6239
            rw [hu_6239a, hu_6239b] at hP hD
            replace hF := hF.trans (bn_n hfn_6242)
            refine lv_iload_n hx hb dX12_seaStands_59 rfl (lv_at hl 3 rfl) ?_
            refine lv_aload_n hx hb dX12_seaStands_60 rfl (lv_at hl 1 rfl) ?_
            refine lv_iload_n hx hb dX12_seaStands_61 rfl (lv_at hl 2 rfl) ?_
            refine lv_iconst (v := 0) hx hb dX12_seaStands_62 (by decide +kernel) ?_
            refine pk_i (va_runV (As := [.int a0, .int 0]) (rest := [.int a1, .int x_6237]) ⟨hx, hb, hml, hown, hts⟩ (s_X12_tableAt_c0 l D t σ I J ri_4570 rj rq H.size tg hSH hG.1 this a0 hL_this hK_this (rg_w h_a0 (by decide +kernel))) (cwV 2 hts (tw_V tw_1201 tw_1202 tw_1203 tw_5 tw_1204) rfl rfl rfl cv_yX12_tableAt_2 ⟨Nat.le_of_ble_eq_true rfl, Nat.le_of_ble_eq_true rfl⟩) ⟨pq_blind, pq_recv hK hP hL_this hK_this (by decide +kernel) rfl, pq_pre hK hN hP hD⟩ rfl rfl hl.1 rfl (lv_room (Nat.le_of_ble_eq_true rfl)) dX12_seaStands_63 ⟨Nat.le_of_ble_eq_true rfl, Nat.le_of_ble_eq_true rfl⟩) hD hS hA (fun x_6244 σ1 μ1 H locs hw_6245 hP hD hS => ?_)
            obtain ⟨hu_6246, hfn_6249⟩ := hw_6245
            obtain ⟨hu_6246a, hu_6246b⟩ := Prod.mk.inj hu_6246
            rw [hu_6246a, hu_6246b] at hP hD
            replace hF := hF.trans (bn_n hfn_6249)
            refine lv_iadd hx hb dX12_seaStands_66 ?_
            refine lv_topi (fun x_6251 ex_6251 => ?_)
            replace hF := hF.trans (ap_n ex_6251)
            have K_6411 : ∀  (H : Heap) (locs : List Loc) (ls : Array Slot), F = g_X12_seaStands_K75_3 a0 (vI 12 σ this I) (vJ 12 σ this J) (vL 12 σ this rj) (vQ 12 σ this rq) x_4567 x_4568 x_4569 (vR 12 σ this ri_4570) (g_X12_seaStands_L8 a0 a1 (vI 12 σ this I) (vJ 12 σ this J) (vR 12 σ this ri) (vL 12 σ this rj) (vQ 12 σ this rq) n_4935) x_4966  → FR 12 tg σ this (I, J, ri, rj, rq) (I, J, ri_4570, rj, rq) → GM [] tg σ I ri I ri_4570 rq → va_P D vwCl (pq_P t σ (I, J, ri_4570, rj, rq)) H → va_D A (pq_P t σ (I, J, ri_4570, rj, rq)) → va_S A s.heap H locs → lv_has ls 9 [(0, .ref this), (1, .int a0), (2, .int a1), (3, .int x_4567), (4, .int x_4568), (5, .int x_4569), (6, .int x_4966), (7, .int 1)] → W p l e ({ frames := 2, cells := 0, slots := 0, locals := 43 } : Room) s m (List.toArray ([.ref this, .int a0, .int a1] : List Value)) below meth c H locs 0 0 Q (F0 m 75 ls [.int 0]) := by
              intro H locs ls hF hFr hG hP hD hS hl
              replace hF := hF.trans g_X12_seaStands_K75_3_e
              refine lv_istore (lv' := [(8, .int 0), (0, .ref this), (1, .int a0), (2, .int a1), (3, .int x_4567), (4, .int x_4568), (5, .int x_4569), (6, .int x_4966), (7, .int 1)]) hx hb dX12_seaStands_75 hl (by decide +kernel) rfl (fun ls hl => ?_)
              refine lv_aload_n hx hb dX12_seaStands_77 rfl (lv_at hl 1 rfl) ?_
              refine pg_f (v := .ref w_4940) (C := RX12) (T := TX12) (N := 31) hx hb hts (tw_i inlX12) hown hK hP hL_this hK_this (by decide +kernel) rfl 0 (by decide +kernel) (hts _ (tw_c tw_176)) (pq_hv rfl hR_w_4940) dX12_seaStands_78 ?_
              refine lv_iload hx hb dX12_seaStands_81 (lv_at hl 7 rfl) ?_
              refine lv_bipush (v := 12) hx hb dX12_seaStands_83 (by decide +kernel) ?_
              refine lv_iadd hx hb dX12_seaStands_85 ?_
              refine lv_topi (fun x_6412 ex_6412 => ?_)
              replace hF := hF.trans (ap_n ex_6412)
              have h_6413 : rg x_6412 112 736 := rg_of_eq ex_6412 (rg_add h_4967 (rg_k (12 : Int32) 12 rfl) (by decide +kernel))
              have uh_6413 := h_6413.1
              have vh_6413 := h_6413.2
              have tx_6412 : (x_6412).toInt = (x_4966).toInt + 12 := by rw [ex_6412]; exact i_add_rg (a2 := (x_4966).toInt) (b2 := 12) rfl rfl h_4967 (rg_k (12 : Int32) 12 rfl) (by decide +kernel)
              refine lv_iload hx hb dX12_seaStands_86 (lv_at hl 8 rfl) ?_
              have K_6479 : ∀  (H : Heap) (locs : List Loc) (ls : Array Slot), F = g_X12_seaStands_K96_3 a0 (vI 12 σ this I) (vJ 12 σ this J) (vL 12 σ this rj) (vQ 12 σ this rq) x_4567 x_4568 x_4569 (vR 12 σ this ri_4570) (g_X12_seaStands_L8 a0 a1 (vI 12 σ this I) (vJ 12 σ this J) (vR 12 σ this ri) (vL 12 σ this rj) (vQ 12 σ this rq) n_4935) x_4966 x_6412  → FR 12 tg σ this (I, J, ri, rj, rq) (I, J, ri_4570, rj, rq) → GM [] tg σ I ri I ri_4570 rq → va_P D vwCl (pq_P t σ (I, J, ri_4570, rj, rq)) H → va_D A (pq_P t σ (I, J, ri_4570, rj, rq)) → va_S A s.heap H locs → lv_has ls 9 [(0, .ref this), (1, .int a0), (2, .int a1), (3, .int x_4567), (4, .int x_4568), (5, .int x_4569), (6, .int x_4966), (7, .int 1), (8, .int 0)] → W p l e ({ frames := 2, cells := 0, slots := 0, locals := 43 } : Room) s m (List.toArray ([.ref this, .int a0, .int a1] : List Value)) below meth c H locs 0 0 Q (F0 m 96 ls [.int 1, .int x_6412, .ref w_4940]) := by
                intro H locs ls hF hFr hG hP hD hS hl
                replace hF := hF.trans g_X12_seaStands_K96_3_e
                refine pt_i hx hb hK hP hD hS hL_w_4940 hK_w_4940 hN_w_4940 (rg_in h_6413 (by decide +kernel)) dX12_seaStands_96 (fun r_6480 H locs er_6480 hP hD hS => ?_)
                replace hFr := fr_R hFr hO_w_4940 (by decide +kernel) er_6480
                replace hF := hF.trans (ap_n (vR_st hVT hO_w_4940 (by decide +kernel) er_6480))
                have hG := GM.wz hG hT_w_4940 (by decide +kernel) er_6480 (zn_CELL (c := x_4569.toNatClampNeg) (k := 12) (by have z_i := clampE x_6412; have z_0 := clampE x_4569; omega) (rg_cl1 h_4962 (by decide +kernel)) (by decide +kernel)) rfl (rg_w (rg_k (1 : Int32) 1 rfl) (by decide +kernel)) (by decide +kernel)
                refine lv_aload_n hx hb dX12_seaStands_97 rfl (lv_at hl 0 rfl) ?_
                refine pg_f (v := .ref w_4940) (C := RX12) (T := TX12) (N := 31) hx hb hts (tw_i inlX12) hown hK hP hL_this hK_this (by decide +kernel) rfl 0 (by decide +kernel) (hts _ (tw_c tw_176)) (pq_hv rfl hR_w_4940) dX12_seaStands_98 ?_
                refine lv_iload hx hb dX12_seaStands_101 (lv_at hl 6 rfl) ?_
                refine lv_bipush (v := 13) hx hb dX12_seaStands_103 (by decide +kernel) ?_
                refine lv_iadd hx hb dX12_seaStands_105 ?_
                refine lv_topi (fun x_6481 ex_6481 => ?_)
                replace hF := hF.trans (ap_n ex_6481)
                have h_6482 : rg x_6481 113 737 := rg_of_eq ex_6481 (rg_add h_4967 (rg_k (13 : Int32) 13 rfl) (by decide +kernel))
                have uh_6482 := h_6482.1
                have vh_6482 := h_6482.2
                have tx_6481 : (x_6481).toInt = (x_4966).toInt + 13 := by rw [ex_6481]; exact i_add_rg (a2 := (x_4966).toInt) (b2 := 13) rfl rfl h_4967 (rg_k (13 : Int32) 13 rfl) (by decide +kernel)
                refine lv_iload hx hb dX12_seaStands_106 (lv_at hl 8 rfl) ?_
                have K_6544 : ∀  (H : Heap) (locs : List Loc) (ls : Array Slot), F = g_X12_seaStands_K116_3 a0 (vI 12 σ this I) (vJ 12 σ this J) (vL 12 σ this rj) (vQ 12 σ this rq) x_4567 x_4568 x_4569 (g_X12_seaStands_L8 a0 a1 (vI 12 σ this I) (vJ 12 σ this J) (vR 12 σ this ri) (vL 12 σ this rj) (vQ 12 σ this rq) n_4935) x_4966 (vR 12 σ this r_6480) x_6481  → FR 12 tg σ this (I, J, ri, rj, rq) (I, J, r_6480, rj, rq) → GM [] tg σ I ri I r_6480 rq → va_P D vwCl (pq_P t σ (I, J, r_6480, rj, rq)) H → va_D A (pq_P t σ (I, J, r_6480, rj, rq)) → va_S A s.heap H locs → lv_has ls 9 [(0, .ref this), (1, .int a0), (2, .int a1), (3, .int x_4567), (4, .int x_4568), (5, .int x_4569), (6, .int x_4966), (7, .int 1), (8, .int 0)] → W p l e ({ frames := 2, cells := 0, slots := 0, locals := 43 } : Room) s m (List.toArray ([.ref this, .int a0, .int a1] : List Value)) below meth c H locs 0 0 Q (F0 m 116 ls [.int 0, .int x_6481, .ref w_4940]) := by
                  intro H locs ls hF hFr hG hP hD hS hl
                  replace hF := hF.trans g_X12_seaStands_K116_3_e
                  refine pt_i hx hb hK hP hD hS hL_w_4940 hK_w_4940 hN_w_4940 (rg_in h_6482 (by decide +kernel)) dX12_seaStands_116 (fun r_6545 H locs er_6545 hP hD hS => ?_)
                  replace hFr := fr_R hFr hO_w_4940 (by decide +kernel) er_6545
                  replace hF := hF.trans (ap_n (vR_st hVT hO_w_4940 (by decide +kernel) er_6545))
                  have hG := GM.wz hG hT_w_4940 (by decide +kernel) er_6545 (zn_CELL (c := x_4569.toNatClampNeg) (k := 13) (by have z_i := clampE x_6481; have z_0 := clampE x_4569; omega) (rg_cl1 h_4962 (by decide +kernel)) (by decide +kernel)) rfl (rg_w (rg_k (0 : Int32) 0 rfl) (by decide +kernel)) (by decide +kernel)
                  refine lv_aload_n hx hb dX12_seaStands_117 rfl (lv_at hl 0 rfl) ?_
                  refine pg_f (v := .ref w_4940) (C := RX12) (T := TX12) (N := 31) hx hb hts (tw_i inlX12) hown hK hP hL_this hK_this (by decide +kernel) rfl 0 (by decide +kernel) (hts _ (tw_c tw_176)) (pq_hv rfl hR_w_4940) dX12_seaStands_118 ?_
                  refine lv_iload hx hb dX12_seaStands_121 (lv_at hl 6 rfl) ?_
                  refine lv_bipush (v := 11) hx hb dX12_seaStands_123 (by decide +kernel) ?_
                  refine lv_iadd hx hb dX12_seaStands_125 ?_
                  refine lv_topi (fun x_6546 ex_6546 => ?_)
                  replace hF := hF.trans (ap_n ex_6546)
                  have h_6547 : rg x_6546 111 735 := rg_of_eq ex_6546 (rg_add h_4967 (rg_k (11 : Int32) 11 rfl) (by decide +kernel))
                  have uh_6547 := h_6547.1
                  have vh_6547 := h_6547.2
                  have tx_6546 : (x_6546).toInt = (x_4966).toInt + 11 := by rw [ex_6546]; exact i_add_rg (a2 := (x_4966).toInt) (b2 := 11) rfl rfl h_4967 (rg_k (11 : Int32) 11 rfl) (by decide +kernel)
                  refine lv_iload hx hb dX12_seaStands_126 (lv_at hl 7 rfl) ?_
                  have K_6605 : ∀  (H : Heap) (locs : List Loc) (ls : Array Slot), F = g_X12_seaStands_K147_3 a0 (vI 12 σ this I) (vJ 12 σ this J) (vL 12 σ this rj) (vQ 12 σ this rq) x_4567 x_4568 x_4569 (g_X12_seaStands_L8 a0 a1 (vI 12 σ this I) (vJ 12 σ this J) (vR 12 σ this ri) (vL 12 σ this rj) (vQ 12 σ this rq) n_4935) x_4966 (vR 12 σ this r_6545) x_6546  → FR 12 tg σ this (I, J, ri, rj, rq) (I, J, r_6545, rj, rq) → GM [] tg σ I ri I r_6545 rq → va_P D vwCl (pq_P t σ (I, J, r_6545, rj, rq)) H → va_D A (pq_P t σ (I, J, r_6545, rj, rq)) → va_S A s.heap H locs → lv_has ls 9 [(0, .ref this), (1, .int a0), (2, .int a1), (3, .int x_4567), (4, .int x_4568), (5, .int x_4569), (6, .int x_4966), (7, .int 1), (8, .int 0)] → W p l e ({ frames := 2, cells := 0, slots := 0, locals := 43 } : Room) s m (List.toArray ([.ref this, .int a0, .int a1] : List Value)) below meth c H locs 0 0 Q (F0 m 147 ls [.int 0, .int x_6546, .ref w_4940]) := by
                    intro H locs ls hF hFr hG hP hD hS hl
                    replace hF := hF.trans g_X12_seaStands_K147_3_e
                    refine pt_i hx hb hK hP hD hS hL_w_4940 hK_w_4940 hN_w_4940 (rg_in h_6547 (by decide +kernel)) dX12_seaStands_147 (fun r_6606 H locs er_6606 hP hD hS => ?_)
                    replace hFr := fr_R hFr hO_w_4940 (by decide +kernel) er_6606
                    replace hF := hF.trans (ap_n (vR_st hVT hO_w_4940 (by decide +kernel) er_6606))
                    have hG := GM.wz hG hT_w_4940 (by decide +kernel) er_6606 (zn_CELL (c := x_4569.toNatClampNeg) (k := 11) (by have z_i := clampE x_6546; have z_0 := clampE x_4569; omega) (rg_cl1 h_4962 (by decide +kernel)) (by decide +kernel)) rfl (rg_w (rg_k (0 : Int32) 0 rfl) (by decide +kernel)) (by decide +kernel)
                    refine lv_iload hx hb dX12_seaStands_148 (lv_at hl 8 rfl) ?_
                    have K_6662 : ∀  (H : Heap) (locs : List Loc) (ls : Array Slot), F = g_X12_seaStands_K167_3 a0 (vI 12 σ this I) (vJ 12 σ this J) (vL 12 σ this rj) (vQ 12 σ this rq) x_4567 x_4568 x_4569 (g_X12_seaStands_L8 a0 a1 (vI 12 σ this I) (vJ 12 σ this J) (vR 12 σ this ri) (vL 12 σ this rj) (vQ 12 σ this rq) n_4935) x_4966 (vR 12 σ this r_6606)  → FR 12 tg σ this (I, J, ri, rj, rq) (I, J, r_6606, rj, rq) → GM [] tg σ I ri I r_6606 rq → va_P D vwCl (pq_P t σ (I, J, r_6606, rj, rq)) H → va_D A (pq_P t σ (I, J, r_6606, rj, rq)) → va_S A s.heap H locs → lv_has ls 9 [(0, .ref this), (1, .int a0), (2, .int a1), (3, .int x_4567), (4, .int x_4568), (5, .int x_4569), (6, .int x_4966), (7, .int 1), (8, .int 0)] → W p l e ({ frames := 2, cells := 0, slots := 0, locals := 43 } : Room) s m (List.toArray ([.ref this, .int a0, .int a1] : List Value)) below meth c H locs 0 0 Q (F0 m 167 ls []) := by
                      intro H locs ls hF hFr hG hP hD hS hl
                      replace hF := hF.trans g_X12_seaStands_K167_3_e
                      refine lv_iload hx hb dX12_seaStands_167 (lv_at hl 8 rfl) ?_
                      have K_6717 : ∀  (H : Heap) (locs : List Loc) (ls : Array Slot), F = g_X12_seaStands_K191_3 a0 (vI 12 σ this I) (vJ 12 σ this J) (vL 12 σ this rj) (vQ 12 σ this rq) x_4567 x_4568 x_4569 (g_X12_seaStands_L8 a0 a1 (vI 12 σ this I) (vJ 12 σ this J) (vR 12 σ this ri) (vL 12 σ this rj) (vQ 12 σ this rq) n_4935) x_4966 (vR 12 σ this r_6606)  → FR 12 tg σ this (I, J, ri, rj, rq) (I, J, r_6606, rj, rq) → GM [] tg σ I ri I r_6606 rq → va_P D vwCl (pq_P t σ (I, J, r_6606, rj, rq)) H → va_D A (pq_P t σ (I, J, r_6606, rj, rq)) → va_S A s.heap H locs → lv_has ls 9 [(0, .ref this), (1, .int a0), (2, .int a1), (3, .int x_4567), (4, .int x_4568), (5, .int x_4569), (6, .int x_4966), (7, .int 1)] → W p l e ({ frames := 2, cells := 0, slots := 0, locals := 43 } : Room) s m (List.toArray ([.ref this, .int a0, .int a1] : List Value)) below meth c H locs 0 0 Q (F0 m 191 ls []) := by
                        intro H locs ls hF hFr hG hP hD hS hl
                        replace hF := hF.trans g_X12_seaStands_K191_3_e
                        refine lv_iload hx hb dX12_seaStands_191 (lv_at hl 7 rfl) ?_
                        have K_6771 : ∀  (H : Heap) (locs : List Loc) (ls : Array Slot), F = g_X12_seaStands_K207_3 a0 (vI 12 σ this I) (vJ 12 σ this J) (vL 12 σ this rj) (vQ 12 σ this rq) x_4567 x_4568 x_4569 (g_X12_seaStands_L8 a0 a1 (vI 12 σ this I) (vJ 12 σ this J) (vR 12 σ this ri) (vL 12 σ this rj) (vQ 12 σ this rq) n_4935) x_4966 (vR 12 σ this r_6606)  → FR 12 tg σ this (I, J, ri, rj, rq) (I, J, r_6606, rj, rq) → GM [] tg σ I ri I r_6606 rq → va_P D vwCl (pq_P t σ (I, J, r_6606, rj, rq)) H → va_D A (pq_P t σ (I, J, r_6606, rj, rq)) → va_S A s.heap H locs → lv_has ls 9 [(0, .ref this), (1, .int a0), (2, .int a1), (3, .int x_4567), (4, .int x_4568), (5, .int x_4569), (6, .int x_4966), (7, .int 1)] → W p l e ({ frames := 2, cells := 0, slots := 0, locals := 43 } : Room) s m (List.toArray ([.ref this, .int a0, .int a1] : List Value)) below meth c H locs 0 0 Q (F0 m 207 ls []) := by
                          intro H locs ls hF hFr hG hP hD hS hl
                          replace hF := hF.trans g_X12_seaStands_K207_3_e
                          refine lv_aload_n hx hb dX12_seaStands_207 rfl (lv_at hl 0 rfl) ?_
                          refine pg_f (v := .ref w_4940) (C := RX12) (T := TX12) (N := 31) hx hb hts (tw_i inlX12) hown hK hP hL_this hK_this (by decide +kernel) rfl 0 (by decide +kernel) (hts _ (tw_c tw_176)) (pq_hv rfl hR_w_4940) dX12_seaStands_208 ?_
                          refine lv_iload hx hb dX12_seaStands_211 (lv_at hl 6 rfl) ?_
                          refine lv_bipush (v := 8) hx hb dX12_seaStands_213 (by decide +kernel) ?_
                          refine lv_iadd hx hb dX12_seaStands_215 ?_
                          refine lv_topi (fun x_6772 ex_6772 => ?_)
                          replace hF := hF.trans (ap_n ex_6772)
                          have h_6773 : rg x_6772 108 732 := rg_of_eq ex_6772 (rg_add h_4967 (rg_k (8 : Int32) 8 rfl) (by decide +kernel))
                          have uh_6773 := h_6773.1
                          have vh_6773 := h_6773.2
                          have tx_6772 : (x_6772).toInt = (x_4966).toInt + 8 := by rw [ex_6772]; exact i_add_rg (a2 := (x_4966).toInt) (b2 := 8) rfl rfl h_4967 (rg_k (8 : Int32) 8 rfl) (by decide +kernel)
                          refine pl_i hx hb hK hP hL_w_4940 hK_w_4940 hN_w_4940 (rg_in h_6773 (by decide +kernel)) dX12_seaStands_216 ?_
                          refine lv_topi (fun x_6774 ex_6774 => ?_)
                          replace hF := hF.trans (ap_n (vR_r hO_w_4940 (by decide +kernel) ex_6774))
                          have K_6824 : ∀  (ri_6821 : Nat → Nat → Int32) (H : Heap) (locs : List Loc) (ls : Array Slot), F = g_X12_seaStands_K360_3 x_4567 x_4568 x_4569 (g_X12_seaStands_L8 a0 a1 (vI 12 σ this I) (vJ 12 σ this J) (vR 12 σ this ri) (vL 12 σ this rj) (vQ 12 σ this rq) n_4935) (vR 12 σ this ri_6821) → FR 12 tg σ this (I, J, ri, rj, rq) (I, J, ri_6821, rj, rq) → GM [] tg σ I ri I ri_6821 rq → va_P D vwCl (pq_P t σ (I, J, ri_6821, rj, rq)) H → va_D A (pq_P t σ (I, J, ri_6821, rj, rq)) → va_S A s.heap H locs → lv_has ls 9 [(0, .ref this), (1, .int a0), (2, .int a1), (3, .int x_4567), (4, .int x_4568), (5, .int x_4569)] → W p l e ({ frames := 2, cells := 0, slots := 0, locals := 43 } : Room) s m (List.toArray ([.ref this, .int a0, .int a1] : List Value)) below meth c H locs 0 0 Q (F0 m 360 ls []) := by
                            intro ri_6821 H locs ls hF hFr hG hP hD hS hl
                            replace hF := hF.trans g_X12_seaStands_K360_3_e
                            obtain ⟨x_6825, ex_6825⟩ : ∃ y : Int32, y = x_4569 + Int32.ofInt 1 := ⟨_, rfl⟩
                            replace hF := hF.trans (ap_n ex_6825)
                            have h_6826 : rg x_6825 1 40 := rg_of_eq ex_6825 (rg_add h_4962 (rg_k (Int32.ofInt 1) 1 rfl) (by decide +kernel))
                            have uh_6826 := h_6826.1
                            have vh_6826 := h_6826.2
                            have tx_6825 : (x_6825).toInt = (x_4569).toInt + 1 := by rw [ex_6825]; exact i_add_rg (a2 := (x_4569).toInt) (b2 := 1) rfl rfl h_4962 (rg_k (Int32.ofInt 1) 1 rfl) (by decide +kernel)
                            refine lv_iinc (v := x_6825) (lv' := [(5, .int x_6825), (0, .ref this), (1, .int a0), (2, .int a1), (3, .int x_4567), (4, .int x_4568)]) hx hb dX12_seaStands_360 hl (k := 5) rfl ex_6825.symm (by decide +kernel) rfl (fun ls hl => ?_)
                            refine lv_goto (tgt := 8) hx hb dX12_seaStands_363 (by decide +kernel) ?_
                            exact ih_4937 x_4567 x_4568 x_6825 ri_6821 _ _ _ (rg_w h_6826 (by decide +kernel)) (ms_up 1 hm_4934 ex_6825 rfl (by decide +kernel) h_4962 (by decide +kernel) (by decide +kernel)) hF hFr hG hP hD hS (lv_sub hl [1, 2, 3, 4, 5, 0] rfl)
                          refine lv_if_ne (tgt := 223) hx hb dX12_seaStands_217 (by decide +kernel) (fun c_6827 => ?_) (fun c_6827 => ?_)
                          · replace hF := hF.trans (if_neg c_6827)
                            have tc_6831 : (x_6774).toInt ≠ 0 := fun q => c_6827 (Int32.toInt_inj.mp q)
                            refine lv_iload hx hb dX12_seaStands_223 (lv_at hl 7 rfl) ?_
                            refine lv_if_eq (tgt := 317) hx hb dX12_seaStands_225 (by decide +kernel) (fun c_6832 => absurd c_6832 (by decide +kernel)) (fun c_6832 => ?_)
                            refine lv_aload_n hx hb dX12_seaStands_228 rfl (lv_at hl 0 rfl) ?_
                            refine pg_f (v := .ref w_4940) (C := RX12) (T := TX12) (N := 31) hx hb hts (tw_i inlX12) hown hK hP hL_this hK_this (by decide +kernel) rfl 0 (by decide +kernel) (hts _ (tw_c tw_176)) (pq_hv rfl hR_w_4940) dX12_seaStands_229 ?_
                            refine lv_iload hx hb dX12_seaStands_232 (lv_at hl 6 rfl) ?_
                            refine lv_bipush (v := 9) hx hb dX12_seaStands_234 (by decide +kernel) ?_
                            refine lv_iadd hx hb dX12_seaStands_236 ?_
                            refine lv_topi (fun x_6833 ex_6833 => ?_)
                            replace hF := hF.trans (ap_n ex_6833)
                            have h_6834 : rg x_6833 109 733 := rg_of_eq ex_6833 (rg_add h_4967 (rg_k (9 : Int32) 9 rfl) (by decide +kernel))
                            have uh_6834 := h_6834.1
                            have vh_6834 := h_6834.2
                            have tx_6833 : (x_6833).toInt = (x_4966).toInt + 9 := by rw [ex_6833]; exact i_add_rg (a2 := (x_4966).toInt) (b2 := 9) rfl rfl h_4967 (rg_k (9 : Int32) 9 rfl) (by decide +kernel)
                            refine lv_dup2_11 hx hb dX12_seaStands_237 rfl rfl ?_
                            refine pl_i hx hb hK hP hL_w_4940 hK_w_4940 hN_w_4940 (rg_in h_6834 (by decide +kernel)) dX12_seaStands_238 ?_
                            refine lv_topi (fun x_6835 ex_6835 => ?_)
                            replace hF := hF.trans (ap_n (vR_r hO_w_4940 (by decide +kernel) ex_6835))
                            refine lv_aload_n hx hb dX12_seaStands_239 rfl (lv_at hl 0 rfl) ?_
                            refine lv_iload_n hx hb dX12_seaStands_240 rfl (lv_at hl 1 rfl) ?_
                            refine lv_iconst (v := 4) hx hb dX12_seaStands_241 (by decide +kernel) ?_
                            refine pk_i (va_runV (As := [.int a0, .int 4]) (rest := [.int x_6835, .int x_6833, .ref w_4940]) ⟨hx, hb, hml, hown, hts⟩ (s_X12_tableAt_c4 l D t σ I J r_6606 rj rq H.size tg hSH hG.1 this a0 hL_this hK_this (rg_w h_a0 (by decide +kernel))) (cwV 2 hts (tw_V tw_1201 tw_1202 tw_1203 tw_5 tw_1204) rfl rfl rfl cv_yX12_tableAt_2 ⟨Nat.le_of_ble_eq_true rfl, Nat.le_of_ble_eq_true rfl⟩) ⟨pq_blind, pq_recv hK hP hL_this hK_this (by decide +kernel) rfl, pq_pre hK hN hP hD⟩ rfl rfl hl.1 rfl (lv_room (Nat.le_of_ble_eq_true rfl)) dX12_seaStands_242 ⟨Nat.le_of_ble_eq_true rfl, Nat.le_of_ble_eq_true rfl⟩) hD hS hA (fun x_6836 σ1 μ1 H locs hw_6837 hP hD hS => ?_)
                            obtain ⟨hu_6838, hfn_6841⟩ := hw_6837
                            obtain ⟨hu_6838a, hu_6838b⟩ := Prod.mk.inj hu_6838
                            rw [hu_6838a, hu_6838b] at hP hD
                            replace hF := hF.trans (bn_n hfn_6841)
                            refine lv_aload_n hx hb dX12_seaStands_245 rfl (lv_at hl 0 rfl) ?_
                            refine pg_f (v := .ref w_4940) (C := RX12) (T := TX12) (N := 31) hx hb hts (tw_i inlX12) hown hK hP hL_this hK_this (by decide +kernel) rfl 0 (by decide +kernel) (hts _ (tw_c tw_176)) (pq_hv rfl hR_w_4940) dX12_seaStands_246 ?_
                            refine lv_iload hx hb dX12_seaStands_249 (lv_at hl 6 rfl) ?_
                            refine lv_bipush (v := 8) hx hb dX12_seaStands_251 (by decide +kernel) ?_
                            refine lv_iadd hx hb dX12_seaStands_253 ?_
                            refine lv_topi (fun x_6843 ex_6843 => ?_)
                            replace hF := hF.trans (ap_n ex_6843)
                            have h_6844 : rg x_6843 108 732 := rg_of_eq ex_6843 (rg_add h_4967 (rg_k (8 : Int32) 8 rfl) (by decide +kernel))
                            have uh_6844 := h_6844.1
                            have vh_6844 := h_6844.2
                            have tx_6843 : (x_6843).toInt = (x_4966).toInt + 8 := by rw [ex_6843]; exact i_add_rg (a2 := (x_4966).toInt) (b2 := 8) rfl rfl h_4967 (rg_k (8 : Int32) 8 rfl) (by decide +kernel)
                            refine pl_i hx hb hK hP hL_w_4940 hK_w_4940 hN_w_4940 (rg_in h_6844 (by decide +kernel)) dX12_seaStands_254 ?_
                            refine lv_topi (fun x_6845 ex_6845 => ?_)
                            replace hF := hF.trans (ap_n (vR_r hO_w_4940 (by decide +kernel) ex_6845))
                            refine lv_imul hx hb dX12_seaStands_255 ?_
                            refine lv_topi (fun x_6846 ex_6846 => ?_)
                            replace hF := hF.trans (ap_n ex_6846)
                            refine lv_iadd hx hb dX12_seaStands_256 ?_
                            refine lv_topi (fun x_6847 ex_6847 => ?_)
                            replace hF := hF.trans (ap_n ex_6847)
                            refine pt_i hx hb hK hP hD hS hL_w_4940 hK_w_4940 hN_w_4940 (rg_in h_6834 (by decide +kernel)) dX12_seaStands_257 (fun r_6848 H locs er_6848 hP hD hS => ?_)
                            replace hFr := fr_R hFr hO_w_4940 (by decide +kernel) er_6848
                            replace hF := hF.trans (ap_n (vR_st hVT hO_w_4940 (by decide +kernel) er_6848))
                            have hG := GM.wz hG hT_w_4940 (by decide +kernel) er_6848 (zn_CELL (c := x_4569.toNatClampNeg) (k := 9) (by have z_i := clampE x_6833; have z_0 := clampE x_4569; omega) (rg_cl1 h_4962 (by decide +kernel)) (by decide +kernel)) rfl (rg_w (rg_full _) (by decide +kernel)) (by decide +kernel)
                            refine lv_aload_n hx hb dX12_seaStands_258 rfl (lv_at hl 0 rfl) ?_
                            refine pg_f (v := .ref w_4940) (C := RX12) (T := TX12) (N := 31) hx hb hts (tw_i inlX12) hown hK hP hL_this hK_this (by decide +kernel) rfl 0 (by decide +kernel) (hts _ (tw_c tw_176)) (pq_hv rfl hR_w_4940) dX12_seaStands_259 ?_
                            refine lv_iload hx hb dX12_seaStands_262 (lv_at hl 6 rfl) ?_
                            refine lv_bipush (v := 9) hx hb dX12_seaStands_264 (by decide +kernel) ?_
                            refine lv_iadd hx hb dX12_seaStands_266 ?_
                            refine lv_topi (fun x_6849 ex_6849 => ?_)
                            replace hF := hF.trans (ap_n ex_6849)
                            have h_6850 : rg x_6849 109 733 := rg_of_eq ex_6849 (rg_add h_4967 (rg_k (9 : Int32) 9 rfl) (by decide +kernel))
                            have uh_6850 := h_6850.1
                            have vh_6850 := h_6850.2
                            have tx_6849 : (x_6849).toInt = (x_4966).toInt + 9 := by rw [ex_6849]; exact i_add_rg (a2 := (x_4966).toInt) (b2 := 9) rfl rfl h_4967 (rg_k (9 : Int32) 9 rfl) (by decide +kernel)
                            refine pl_i hx hb hK hP hL_w_4940 hK_w_4940 hN_w_4940 (rg_in h_6850 (by decide +kernel)) dX12_seaStands_267 ?_
                            refine lv_topi (fun x_6851 ex_6851 => ?_)
                            replace hF := hF.trans (ap_n (vR_r hO_w_4940 (by decide +kernel) ex_6851))
                            refine lv_sipush (v := 10000) hx hb dX12_seaStands_268 (by decide +kernel) ?_
                            have K_6874 : ∀  (ri_6860 : Nat → Nat → Int32) (H : Heap) (locs : List Loc) (ls : Array Slot), F = g_X12_seaStands_K287 x_4567 x_4568 x_4569 (g_X12_seaStands_L8 a0 a1 (vI 12 σ this I) (vJ 12 σ this J) (vR 12 σ this ri) (vL 12 σ this rj) (vQ 12 σ this rq) n_4935) x_4966 (vR 12 σ this ri_6860) → FR 12 tg σ this (I, J, ri, rj, rq) (I, J, ri_6860, rj, rq) → GM [] tg σ I ri I ri_6860 rq → va_P D vwCl (pq_P t σ (I, J, ri_6860, rj, rq)) H → va_D A (pq_P t σ (I, J, ri_6860, rj, rq)) → va_S A s.heap H locs → lv_has ls 9 [(0, .ref this), (1, .int a0), (2, .int a1), (3, .int x_4567), (4, .int x_4568), (5, .int x_4569), (6, .int x_4966)] → W p l e ({ frames := 2, cells := 0, slots := 0, locals := 43 } : Room) s m (List.toArray ([.ref this, .int a0, .int a1] : List Value)) below meth c H locs 0 0 Q (F0 m 287 ls []) := by
                              intro ri_6860 H locs ls hF hFr hG hP hD hS hl
                              replace hF := hF.trans g_X12_seaStands_K287_e
                              refine lv_aload_n hx hb dX12_seaStands_287 rfl (lv_at hl 0 rfl) ?_
                              refine pg_f (v := .ref w_4940) (C := RX12) (T := TX12) (N := 31) hx hb hts (tw_i inlX12) hown hK hP hL_this hK_this (by decide +kernel) rfl 0 (by decide +kernel) (hts _ (tw_c tw_176)) (pq_hv rfl hR_w_4940) dX12_seaStands_288 ?_
                              refine lv_iload hx hb dX12_seaStands_291 (lv_at hl 6 rfl) ?_
                              refine lv_bipush (v := 10) hx hb dX12_seaStands_293 (by decide +kernel) ?_
                              refine lv_iadd hx hb dX12_seaStands_295 ?_
                              refine lv_topi (fun x_6875 ex_6875 => ?_)
                              replace hF := hF.trans (ap_n ex_6875)
                              have h_6876 : rg x_6875 110 734 := rg_of_eq ex_6875 (rg_add h_4967 (rg_k (10 : Int32) 10 rfl) (by decide +kernel))
                              have uh_6876 := h_6876.1
                              have vh_6876 := h_6876.2
                              have tx_6875 : (x_6875).toInt = (x_4966).toInt + 10 := by rw [ex_6875]; exact i_add_rg (a2 := (x_4966).toInt) (b2 := 10) rfl rfl h_4967 (rg_k (10 : Int32) 10 rfl) (by decide +kernel)
                              refine pl_i hx hb hK hP hL_w_4940 hK_w_4940 hN_w_4940 (rg_in h_6876 (by decide +kernel)) dX12_seaStands_296 ?_
                              refine lv_topi (fun x_6877 ex_6877 => ?_)
                              replace hF := hF.trans (ap_n (vR_r hO_w_4940 (by decide +kernel) ex_6877))
                              refine lv_if_le (tgt := 360) hx hb dX12_seaStands_297 (by decide +kernel) (fun c_6878 => ?_) (fun c_6878 => ?_)
                              · replace hF := hF.trans (if_pos c_6878)
                                have tc_6883 : (x_6877).toInt ≤ 0 := Int32.le_iff_toInt_le.mp c_6878
                                have h_6884 : rg x_6877 (-2147483648) 0 := rg_le1 c_6878 (rg_full _) (rg_k (0 : Int32) 0 rfl) (by decide +kernel)
                                have uh_6884 := h_6884.1
                                have vh_6884 := h_6884.2
                                exact K_6824 ri_6860 _ _ _ hF hFr hG hP hD hS (lv_sub hl [0, 1, 2, 3, 4, 5] rfl)
                              · replace hF := hF.trans (if_neg c_6878)
                                have tc_6885 : 0 < (x_6877).toInt := Int32.lt_iff_toInt_lt.mp (nle c_6878)
                                have h_6886 : rg x_6877 1 2147483647 := rg_lt2 (nle c_6878) (rg_k (0 : Int32) 0 rfl) (rg_full _) (by decide +kernel)
                                have uh_6886 := h_6886.1
                                have vh_6886 := h_6886.2
                                refine lv_aload_n hx hb dX12_seaStands_300 rfl (lv_at hl 0 rfl) ?_
                                refine pg_f (v := .ref w_4940) (C := RX12) (T := TX12) (N := 31) hx hb hts (tw_i inlX12) hown hK hP hL_this hK_this (by decide +kernel) rfl 0 (by decide +kernel) (hts _ (tw_c tw_176)) (pq_hv rfl hR_w_4940) dX12_seaStands_301 ?_
                                refine lv_iload hx hb dX12_seaStands_304 (lv_at hl 6 rfl) ?_
                                refine lv_bipush (v := 10) hx hb dX12_seaStands_306 (by decide +kernel) ?_
                                refine lv_iadd hx hb dX12_seaStands_308 ?_
                                refine lv_topi (fun x_6887 ex_6887 => ?_)
                                replace hF := hF.trans (ap_n ex_6887)
                                have h_6888 : rg x_6887 110 734 := rg_of_eq ex_6887 (rg_add h_4967 (rg_k (10 : Int32) 10 rfl) (by decide +kernel))
                                have uh_6888 := h_6888.1
                                have vh_6888 := h_6888.2
                                have tx_6887 : (x_6887).toInt = (x_4966).toInt + 10 := by rw [ex_6887]; exact i_add_rg (a2 := (x_4966).toInt) (b2 := 10) rfl rfl h_4967 (rg_k (10 : Int32) 10 rfl) (by decide +kernel)
                                refine lv_dup2_11 hx hb dX12_seaStands_309 rfl rfl ?_
                                refine pl_i hx hb hK hP hL_w_4940 hK_w_4940 hN_w_4940 (rg_in h_6888 (by decide +kernel)) dX12_seaStands_310 ?_
                                refine lv_topi (fun x_6889 ex_6889 => ?_)
                                replace hF := hF.trans (ap_n (vR_r hO_w_4940 (by decide +kernel) ex_6889))
                                refine lv_iconst (v := 1) hx hb dX12_seaStands_311 (by decide +kernel) ?_
                                refine lv_isub hx hb dX12_seaStands_312 ?_
                                refine lv_topi (fun x_6890 ex_6890 => ?_)
                                replace hF := hF.trans (ap_n ex_6890)
                                refine pt_i hx hb hK hP hD hS hL_w_4940 hK_w_4940 hN_w_4940 (rg_in h_6888 (by decide +kernel)) dX12_seaStands_313 (fun r_6891 H locs er_6891 hP hD hS => ?_)
                                replace hFr := fr_R hFr hO_w_4940 (by decide +kernel) er_6891
                                replace hF := hF.trans (ap_n (vR_st hVT hO_w_4940 (by decide +kernel) er_6891))
                                have hG := GM.wz hG hT_w_4940 (by decide +kernel) er_6891 (zn_CELL (c := x_4569.toNatClampNeg) (k := 10) (by have z_i := clampE x_6887; have z_0 := clampE x_4569; omega) (rg_cl1 h_4962 (by decide +kernel)) (by decide +kernel)) rfl (rg_w (rg_full _) (by decide +kernel)) (by decide +kernel)
                                refine lv_goto (tgt := 360) hx hb dX12_seaStands_314 (by decide +kernel) ?_
                                exact K_6824 r_6891 _ _ _ hF hFr hG hP hD hS (lv_sub hl [0, 1, 2, 3, 4, 5] rfl)
                            refine lv_icmp_le (tgt := 287) hx hb dX12_seaStands_271 (by decide +kernel) (fun c_6892 => ?_) (fun c_6892 => ?_)
                            · replace hF := hF.trans (if_pos c_6892)
                              have tc_6897 : (x_6851).toInt ≤ 10000 := Int32.le_iff_toInt_le.mp c_6892
                              have h_6898 : rg x_6851 (-2147483648) 10000 := rg_le1 c_6892 (rg_full _) (rg_k (10000 : Int32) 10000 rfl) (by decide +kernel)
                              have uh_6898 := h_6898.1
                              have vh_6898 := h_6898.2
                              exact K_6874 r_6848 _ _ _ hF hFr hG hP hD hS (lv_sub hl [0, 1, 2, 3, 4, 5, 6] rfl)
                            · replace hF := hF.trans (if_neg c_6892)
                              have tc_6899 : 10000 < (x_6851).toInt := Int32.lt_iff_toInt_lt.mp (nle c_6892)
                              have h_6900 : rg x_6851 10001 2147483647 := rg_lt2 (nle c_6892) (rg_k (10000 : Int32) 10000 rfl) (rg_full _) (by decide +kernel)
                              have uh_6900 := h_6900.1
                              have vh_6900 := h_6900.2
                              refine lv_aload_n hx hb dX12_seaStands_274 rfl (lv_at hl 0 rfl) ?_
                              refine pg_f (v := .ref w_4940) (C := RX12) (T := TX12) (N := 31) hx hb hts (tw_i inlX12) hown hK hP hL_this hK_this (by decide +kernel) rfl 0 (by decide +kernel) (hts _ (tw_c tw_176)) (pq_hv rfl hR_w_4940) dX12_seaStands_275 ?_
                              refine lv_iload hx hb dX12_seaStands_278 (lv_at hl 6 rfl) ?_
                              refine lv_bipush (v := 9) hx hb dX12_seaStands_280 (by decide +kernel) ?_
                              refine lv_iadd hx hb dX12_seaStands_282 ?_
                              refine lv_topi (fun x_6901 ex_6901 => ?_)
                              replace hF := hF.trans (ap_n ex_6901)
                              have h_6902 : rg x_6901 109 733 := rg_of_eq ex_6901 (rg_add h_4967 (rg_k (9 : Int32) 9 rfl) (by decide +kernel))
                              have uh_6902 := h_6902.1
                              have vh_6902 := h_6902.2
                              have tx_6901 : (x_6901).toInt = (x_4966).toInt + 9 := by rw [ex_6901]; exact i_add_rg (a2 := (x_4966).toInt) (b2 := 9) rfl rfl h_4967 (rg_k (9 : Int32) 9 rfl) (by decide +kernel)
                              refine lv_sipush (v := 10000) hx hb dX12_seaStands_283 (by decide +kernel) ?_
                              refine pt_i hx hb hK hP hD hS hL_w_4940 hK_w_4940 hN_w_4940 (rg_in h_6902 (by decide +kernel)) dX12_seaStands_286 (fun r_6903 H locs er_6903 hP hD hS => ?_)
                              replace hFr := fr_R hFr hO_w_4940 (by decide +kernel) er_6903
                              replace hF := hF.trans (ap_n (vR_st hVT hO_w_4940 (by decide +kernel) er_6903))
                              have hG := GM.wz hG hT_w_4940 (by decide +kernel) er_6903 (zn_CELL (c := x_4569.toNatClampNeg) (k := 9) (by have z_i := clampE x_6901; have z_0 := clampE x_4569; omega) (rg_cl1 h_4962 (by decide +kernel)) (by decide +kernel)) rfl (rg_w (rg_k (10000 : Int32) 10000 rfl) (by decide +kernel)) (by decide +kernel)
                              exact K_6874 r_6903 _ _ _ hF hFr hG hP hD hS (lv_sub hl [0, 1, 2, 3, 4, 5, 6] rfl)
                          · replace hF := hF.trans (if_pos c_6827)
                            have tc_6904 : (x_6774).toInt = 0 := congrArg Int32.toInt c_6827
                            have h_6905 : rg x_6774 0 0 := rg_and (rg_full _) (rg_of_eq c_6827 (rg_k (0 : Int32) 0 rfl)) (by decide +kernel)
                            have uh_6905 := h_6905.1
                            have vh_6905 := h_6905.2
                            refine lv_goto (tgt := 360) hx hb dX12_seaStands_220 (by decide +kernel) ?_
                            exact K_6824 r_6606 _ _ _ hF hFr hG hP hD hS (lv_sub hl [0, 1, 2, 3, 4, 5] rfl)
                        refine lv_if_ne (tgt := 207) hx hb dX12_seaStands_193 (by decide +kernel) (fun c_6906 => ?_) (fun c_6906 => absurd c_6906 (by decide +kernel))
                        exact K_6771 _ _ _ hF hFr hG hP hD hS (lv_sub hl [0, 1, 2, 3, 4, 5, 6, 7] rfl)
                      refine lv_if_eq (tgt := 191) hx hb dX12_seaStands_169 (by decide +kernel) (fun c_6907 => ?_) (fun c_6907 => absurd c_6907 (by decide +kernel))
                      exact K_6717 _ _ _ hF hFr hG hP hD hS (lv_sub hl [0, 1, 2, 3, 4, 5, 6, 7] rfl)
                    refine lv_if_eq (tgt := 167) hx hb dX12_seaStands_150 (by decide +kernel) (fun c_6908 => ?_) (fun c_6908 => absurd c_6908 (by decide +kernel))
                    exact K_6662 _ _ _ hF hFr hG hP hD hS (lv_sub hl [0, 1, 2, 3, 4, 5, 6, 7, 8] rfl)
                  refine lv_if_eq (tgt := 135) hx hb dX12_seaStands_128 (by decide +kernel) (fun c_6909 => absurd c_6909 (by decide +kernel)) (fun c_6909 => ?_)
                  refine lv_iconst (v := 0) hx hb dX12_seaStands_131 (by decide +kernel) ?_
                  refine lv_goto (tgt := 147) hx hb dX12_seaStands_132 (by decide +kernel) ?_
                  exact K_6605 _ _ _ hF hFr hG hP hD hS (lv_sub hl [0, 1, 2, 3, 4, 5, 6, 7, 8] rfl)
                refine lv_if_eq (tgt := 115) hx hb dX12_seaStands_108 (by decide +kernel) (fun c_6910 => ?_) (fun c_6910 => absurd c_6910 (by decide +kernel))
                refine lv_iconst (v := 0) hx hb dX12_seaStands_115 (by decide +kernel) ?_
                exact K_6544 _ _ _ hF hFr hG hP hD hS (lv_sub hl [0, 1, 2, 3, 4, 5, 6, 7, 8] rfl)
              refine lv_if_eq (tgt := 95) hx hb dX12_seaStands_88 (by decide +kernel) (fun c_6911 => absurd c_6911 (by decide +kernel)) (fun c_6911 => ?_)
              refine lv_iconst (v := 1) hx hb dX12_seaStands_91 (by decide +kernel) ?_
              refine lv_goto (tgt := 96) hx hb dX12_seaStands_92 (by decide +kernel) ?_
              exact K_6479 _ _ _ hF hFr hG hP hD hS (lv_sub hl [1, 2, 3, 4, 5, 6, 7, 8, 0] rfl)
            have K_6912 : ∀  (H : Heap) (locs : List Loc) (ls : Array Slot), rg (x_6237) (-2147483647) 2147483647 → rg (x_6251) (-2147483648) 2147483646 → F = g_X12_seaStands_K75_4 a0 (vI 12 σ this I) (vJ 12 σ this J) (vL 12 σ this rj) (vQ 12 σ this rq) x_4567 x_4568 x_4569 (vR 12 σ this ri_4570) (g_X12_seaStands_L8 a0 a1 (vI 12 σ this I) (vJ 12 σ this J) (vR 12 σ this ri) (vL 12 σ this rj) (vQ 12 σ this rq) n_4935) x_4966  → FR 12 tg σ this (I, J, ri, rj, rq) (I, J, ri_4570, rj, rq) → GM [] tg σ I ri I ri_4570 rq → va_P D vwCl (pq_P t σ (I, J, ri_4570, rj, rq)) H → va_D A (pq_P t σ (I, J, ri_4570, rj, rq)) → va_S A s.heap H locs → lv_has ls 9 [(0, .ref this), (1, .int a0), (2, .int a1), (3, .int x_4567), (4, .int x_4568), (5, .int x_4569), (6, .int x_4966), (7, .int 1)] → W p l e ({ frames := 2, cells := 0, slots := 0, locals := 43 } : Room) s m (List.toArray ([.ref this, .int a0, .int a1] : List Value)) below meth c H locs 0 0 Q (F0 m 75 ls [.int 1]) := by
              intro H locs ls h_6915 h_6916 hF hFr hG hP hD hS hl
              have uh_6915 := h_6915.1
              have vh_6915 := h_6915.2
              have uh_6916 := h_6916.1
              have vh_6916 := h_6916.2
              replace hF := hF.trans g_X12_seaStands_K75_4_e
              refine lv_istore (lv' := [(8, .int 1), (0, .ref this), (1, .int a0), (2, .int a1), (3, .int x_4567), (4, .int x_4568), (5, .int x_4569), (6, .int x_4966), (7, .int 1)]) hx hb dX12_seaStands_75 hl (by decide +kernel) rfl (fun ls hl => ?_)
              refine lv_aload_n hx hb dX12_seaStands_77 rfl (lv_at hl 1 rfl) ?_
              refine pg_f (v := .ref w_4940) (C := RX12) (T := TX12) (N := 31) hx hb hts (tw_i inlX12) hown hK hP hL_this hK_this (by decide +kernel) rfl 0 (by decide +kernel) (hts _ (tw_c tw_176)) (pq_hv rfl hR_w_4940) dX12_seaStands_78 ?_
              refine lv_iload hx hb dX12_seaStands_81 (lv_at hl 7 rfl) ?_
              refine lv_bipush (v := 12) hx hb dX12_seaStands_83 (by decide +kernel) ?_
              refine lv_iadd hx hb dX12_seaStands_85 ?_
              refine lv_topi (fun x_6917 ex_6917 => ?_)
              replace hF := hF.trans (ap_n ex_6917)
              have h_6918 : rg x_6917 112 736 := rg_of_eq ex_6917 (rg_add h_4967 (rg_k (12 : Int32) 12 rfl) (by decide +kernel))
              have uh_6918 := h_6918.1
              have vh_6918 := h_6918.2
              have tx_6917 : (x_6917).toInt = (x_4966).toInt + 12 := by rw [ex_6917]; exact i_add_rg (a2 := (x_4966).toInt) (b2 := 12) rfl rfl h_4967 (rg_k (12 : Int32) 12 rfl) (by decide +kernel)
              refine lv_iload hx hb dX12_seaStands_86 (lv_at hl 8 rfl) ?_
              have K_7002 : ∀  (H : Heap) (locs : List Loc) (ls : Array Slot), F = g_X12_seaStands_K96_4 a0 (vI 12 σ this I) (vJ 12 σ this J) (vL 12 σ this rj) (vQ 12 σ this rq) x_4567 x_4568 x_4569 (vR 12 σ this ri_4570) (g_X12_seaStands_L8 a0 a1 (vI 12 σ this I) (vJ 12 σ this J) (vR 12 σ this ri) (vL 12 σ this rj) (vQ 12 σ this rq) n_4935) x_4966 x_6917  → FR 12 tg σ this (I, J, ri, rj, rq) (I, J, ri_4570, rj, rq) → GM [] tg σ I ri I ri_4570 rq → va_P D vwCl (pq_P t σ (I, J, ri_4570, rj, rq)) H → va_D A (pq_P t σ (I, J, ri_4570, rj, rq)) → va_S A s.heap H locs → lv_has ls 9 [(0, .ref this), (1, .int a0), (2, .int a1), (3, .int x_4567), (4, .int x_4568), (5, .int x_4569), (6, .int x_4966), (7, .int 1), (8, .int 1)] → W p l e ({ frames := 2, cells := 0, slots := 0, locals := 43 } : Room) s m (List.toArray ([.ref this, .int a0, .int a1] : List Value)) below meth c H locs 0 0 Q (F0 m 96 ls [.int 1, .int x_6917, .ref w_4940]) := by
                intro H locs ls hF hFr hG hP hD hS hl
                replace hF := hF.trans g_X12_seaStands_K96_4_e
                refine pt_i hx hb hK hP hD hS hL_w_4940 hK_w_4940 hN_w_4940 (rg_in h_6918 (by decide +kernel)) dX12_seaStands_96 (fun r_7003 H locs er_7003 hP hD hS => ?_)
                replace hFr := fr_R hFr hO_w_4940 (by decide +kernel) er_7003
                replace hF := hF.trans (ap_n (vR_st hVT hO_w_4940 (by decide +kernel) er_7003))
                have hG := GM.wz hG hT_w_4940 (by decide +kernel) er_7003 (zn_CELL (c := x_4569.toNatClampNeg) (k := 12) (by have z_i := clampE x_6917; have z_0 := clampE x_4569; omega) (rg_cl1 h_4962 (by decide +kernel)) (by decide +kernel)) rfl (rg_w (rg_k (1 : Int32) 1 rfl) (by decide +kernel)) (by decide +kernel)
                refine lv_aload_n hx hb dX12_seaStands_97 rfl (lv_at hl 0 rfl) ?_
                refine pg_f (v := .ref w_4940) (C := RX12) (T := TX12) (N := 31) hx hb hts (tw_i inlX12) hown hK hP hL_this hK_this (by decide +kernel) rfl 0 (by decide +kernel) (hts _ (tw_c tw_176)) (pq_hv rfl hR_w_4940) dX12_seaStands_98 ?_
                refine lv_iload hx hb dX12_seaStands_101 (lv_at hl 6 rfl) ?_
                refine lv_bipush (v := 13) hx hb dX12_seaStands_103 (by decide +kernel) ?_
                refine lv_iadd hx hb dX12_seaStands_105 ?_
                refine lv_topi (fun x_7004 ex_7004 => ?_)
                replace hF := hF.trans (ap_n ex_7004)
                have h_7005 : rg x_7004 113 737 := rg_of_eq ex_7004 (rg_add h_4967 (rg_k (13 : Int32) 13 rfl) (by decide +kernel))
                have uh_7005 := h_7005.1
                have vh_7005 := h_7005.2
                have tx_7004 : (x_7004).toInt = (x_4966).toInt + 13 := by rw [ex_7004]; exact i_add_rg (a2 := (x_4966).toInt) (b2 := 13) rfl rfl h_4967 (rg_k (13 : Int32) 13 rfl) (by decide +kernel)
                refine lv_iload hx hb dX12_seaStands_106 (lv_at hl 8 rfl) ?_
                have K_7085 : ∀  (H : Heap) (locs : List Loc) (ls : Array Slot), F = g_X12_seaStands_K116_4 a0 (vI 12 σ this I) (vJ 12 σ this J) (vL 12 σ this rj) (vQ 12 σ this rq) x_4567 x_4568 x_4569 (g_X12_seaStands_L8 a0 a1 (vI 12 σ this I) (vJ 12 σ this J) (vR 12 σ this ri) (vL 12 σ this rj) (vQ 12 σ this rq) n_4935) x_4966 (vR 12 σ this r_7003) x_7004  → FR 12 tg σ this (I, J, ri, rj, rq) (I, J, r_7003, rj, rq) → GM [] tg σ I ri I r_7003 rq → va_P D vwCl (pq_P t σ (I, J, r_7003, rj, rq)) H → va_D A (pq_P t σ (I, J, r_7003, rj, rq)) → va_S A s.heap H locs → lv_has ls 9 [(0, .ref this), (1, .int a0), (2, .int a1), (3, .int x_4567), (4, .int x_4568), (5, .int x_4569), (6, .int x_4966), (7, .int 1), (8, .int 1)] → W p l e ({ frames := 2, cells := 0, slots := 0, locals := 43 } : Room) s m (List.toArray ([.ref this, .int a0, .int a1] : List Value)) below meth c H locs 0 0 Q (F0 m 116 ls [.int 1, .int x_7004, .ref w_4940]) := by
                  intro H locs ls hF hFr hG hP hD hS hl
                  replace hF := hF.trans g_X12_seaStands_K116_4_e
                  refine pt_i hx hb hK hP hD hS hL_w_4940 hK_w_4940 hN_w_4940 (rg_in h_7005 (by decide +kernel)) dX12_seaStands_116 (fun r_7086 H locs er_7086 hP hD hS => ?_)
                  replace hFr := fr_R hFr hO_w_4940 (by decide +kernel) er_7086
                  replace hF := hF.trans (ap_n (vR_st hVT hO_w_4940 (by decide +kernel) er_7086))
                  have hG := GM.wz hG hT_w_4940 (by decide +kernel) er_7086 (zn_CELL (c := x_4569.toNatClampNeg) (k := 13) (by have z_i := clampE x_7004; have z_0 := clampE x_4569; omega) (rg_cl1 h_4962 (by decide +kernel)) (by decide +kernel)) rfl (rg_w (rg_k (1 : Int32) 1 rfl) (by decide +kernel)) (by decide +kernel)
                  refine lv_aload_n hx hb dX12_seaStands_117 rfl (lv_at hl 0 rfl) ?_
                  refine pg_f (v := .ref w_4940) (C := RX12) (T := TX12) (N := 31) hx hb hts (tw_i inlX12) hown hK hP hL_this hK_this (by decide +kernel) rfl 0 (by decide +kernel) (hts _ (tw_c tw_176)) (pq_hv rfl hR_w_4940) dX12_seaStands_118 ?_
                  refine lv_iload hx hb dX12_seaStands_121 (lv_at hl 6 rfl) ?_
                  refine lv_bipush (v := 11) hx hb dX12_seaStands_123 (by decide +kernel) ?_
                  refine lv_iadd hx hb dX12_seaStands_125 ?_
                  refine lv_topi (fun x_7087 ex_7087 => ?_)
                  replace hF := hF.trans (ap_n ex_7087)
                  have h_7088 : rg x_7087 111 735 := rg_of_eq ex_7087 (rg_add h_4967 (rg_k (11 : Int32) 11 rfl) (by decide +kernel))
                  have uh_7088 := h_7088.1
                  have vh_7088 := h_7088.2
                  have tx_7087 : (x_7087).toInt = (x_4966).toInt + 11 := by rw [ex_7087]; exact i_add_rg (a2 := (x_4966).toInt) (b2 := 11) rfl rfl h_4967 (rg_k (11 : Int32) 11 rfl) (by decide +kernel)
                  refine lv_iload hx hb dX12_seaStands_126 (lv_at hl 7 rfl) ?_
                  have K_7164 : ∀  (H : Heap) (locs : List Loc) (ls : Array Slot), F = g_X12_seaStands_K147_4 a0 (vI 12 σ this I) (vJ 12 σ this J) (vL 12 σ this rj) (vQ 12 σ this rq) x_4567 x_4568 x_4569 (g_X12_seaStands_L8 a0 a1 (vI 12 σ this I) (vJ 12 σ this J) (vR 12 σ this ri) (vL 12 σ this rj) (vQ 12 σ this rq) n_4935) x_4966 (vR 12 σ this r_7086) x_7087  → FR 12 tg σ this (I, J, ri, rj, rq) (I, J, r_7086, rj, rq) → GM [] tg σ I ri I r_7086 rq → va_P D vwCl (pq_P t σ (I, J, r_7086, rj, rq)) H → va_D A (pq_P t σ (I, J, r_7086, rj, rq)) → va_S A s.heap H locs → lv_has ls 9 [(0, .ref this), (1, .int a0), (2, .int a1), (3, .int x_4567), (4, .int x_4568), (5, .int x_4569), (6, .int x_4966), (7, .int 1), (8, .int 1)] → W p l e ({ frames := 2, cells := 0, slots := 0, locals := 43 } : Room) s m (List.toArray ([.ref this, .int a0, .int a1] : List Value)) below meth c H locs 0 0 Q (F0 m 147 ls [.int 0, .int x_7087, .ref w_4940]) := by
                    intro H locs ls hF hFr hG hP hD hS hl
                    replace hF := hF.trans g_X12_seaStands_K147_4_e
                    refine pt_i hx hb hK hP hD hS hL_w_4940 hK_w_4940 hN_w_4940 (rg_in h_7088 (by decide +kernel)) dX12_seaStands_147 (fun r_7165 H locs er_7165 hP hD hS => ?_)
                    replace hFr := fr_R hFr hO_w_4940 (by decide +kernel) er_7165
                    replace hF := hF.trans (ap_n (vR_st hVT hO_w_4940 (by decide +kernel) er_7165))
                    have hG := GM.wz hG hT_w_4940 (by decide +kernel) er_7165 (zn_CELL (c := x_4569.toNatClampNeg) (k := 11) (by have z_i := clampE x_7087; have z_0 := clampE x_4569; omega) (rg_cl1 h_4962 (by decide +kernel)) (by decide +kernel)) rfl (rg_w (rg_k (0 : Int32) 0 rfl) (by decide +kernel)) (by decide +kernel)
                    refine lv_iload hx hb dX12_seaStands_148 (lv_at hl 8 rfl) ?_
                    have K_7239 : ∀  (x_7174 : Int32) (H : Heap) (locs : List Loc) (ls : Array Slot), F = g_X12_seaStands_K167_4 a0 (vI 12 σ this I) (vJ 12 σ this J) (vL 12 σ this rj) (vQ 12 σ this rq) x_4568 x_4569 (g_X12_seaStands_L8 a0 a1 (vI 12 σ this I) (vJ 12 σ this J) (vR 12 σ this ri) (vL 12 σ this rj) (vQ 12 σ this rq) n_4935) x_4966 (vR 12 σ this r_7165) x_7174 → FR 12 tg σ this (I, J, ri, rj, rq) (I, J, r_7165, rj, rq) → GM [] tg σ I ri I r_7165 rq → va_P D vwCl (pq_P t σ (I, J, r_7165, rj, rq)) H → va_D A (pq_P t σ (I, J, r_7165, rj, rq)) → va_S A s.heap H locs → lv_has ls 9 [(0, .ref this), (1, .int a0), (2, .int a1), (3, .int x_7174), (4, .int x_4568), (5, .int x_4569), (6, .int x_4966), (7, .int 1), (8, .int 1)] → W p l e ({ frames := 2, cells := 0, slots := 0, locals := 43 } : Room) s m (List.toArray ([.ref this, .int a0, .int a1] : List Value)) below meth c H locs 0 0 Q (F0 m 167 ls []) := by
                      intro x_7174 H locs ls hF hFr hG hP hD hS hl
                      replace hF := hF.trans g_X12_seaStands_K167_4_e
                      refine lv_iload hx hb dX12_seaStands_167 (lv_at hl 8 rfl) ?_
                      have K_7304 : ∀  (x_7250 : Int32) (H : Heap) (locs : List Loc) (ls : Array Slot), F = g_X12_seaStands_K191_4 a0 (vI 12 σ this I) (vJ 12 σ this J) (vL 12 σ this rj) (vQ 12 σ this rq) x_4569 (g_X12_seaStands_L8 a0 a1 (vI 12 σ this I) (vJ 12 σ this J) (vR 12 σ this ri) (vL 12 σ this rj) (vQ 12 σ this rq) n_4935) x_4966 (vR 12 σ this r_7165) x_7174 x_7250 → FR 12 tg σ this (I, J, ri, rj, rq) (I, J, r_7165, rj, rq) → GM [] tg σ I ri I r_7165 rq → va_P D vwCl (pq_P t σ (I, J, r_7165, rj, rq)) H → va_D A (pq_P t σ (I, J, r_7165, rj, rq)) → va_S A s.heap H locs → lv_has ls 9 [(0, .ref this), (1, .int a0), (2, .int a1), (3, .int x_7174), (4, .int x_7250), (5, .int x_4569), (6, .int x_4966), (7, .int 1)] → W p l e ({ frames := 2, cells := 0, slots := 0, locals := 43 } : Room) s m (List.toArray ([.ref this, .int a0, .int a1] : List Value)) below meth c H locs 0 0 Q (F0 m 191 ls []) := by
                        intro x_7250 H locs ls hF hFr hG hP hD hS hl
                        replace hF := hF.trans g_X12_seaStands_K191_4_e
                        refine lv_iload hx hb dX12_seaStands_191 (lv_at hl 7 rfl) ?_
                        have K_7358 : ∀  (H : Heap) (locs : List Loc) (ls : Array Slot), F = g_X12_seaStands_K207_4 a0 (vI 12 σ this I) (vJ 12 σ this J) (vL 12 σ this rj) (vQ 12 σ this rq) x_4569 (g_X12_seaStands_L8 a0 a1 (vI 12 σ this I) (vJ 12 σ this J) (vR 12 σ this ri) (vL 12 σ this rj) (vQ 12 σ this rq) n_4935) x_4966 (vR 12 σ this r_7165) x_7174 x_7250  → FR 12 tg σ this (I, J, ri, rj, rq) (I, J, r_7165, rj, rq) → GM [] tg σ I ri I r_7165 rq → va_P D vwCl (pq_P t σ (I, J, r_7165, rj, rq)) H → va_D A (pq_P t σ (I, J, r_7165, rj, rq)) → va_S A s.heap H locs → lv_has ls 9 [(0, .ref this), (1, .int a0), (2, .int a1), (3, .int x_7174), (4, .int x_7250), (5, .int x_4569), (6, .int x_4966), (7, .int 1)] → W p l e ({ frames := 2, cells := 0, slots := 0, locals := 43 } : Room) s m (List.toArray ([.ref this, .int a0, .int a1] : List Value)) below meth c H locs 0 0 Q (F0 m 207 ls []) := by
                          intro H locs ls hF hFr hG hP hD hS hl
                          replace hF := hF.trans g_X12_seaStands_K207_4_e
                          refine lv_aload_n hx hb dX12_seaStands_207 rfl (lv_at hl 0 rfl) ?_
                          refine pg_f (v := .ref w_4940) (C := RX12) (T := TX12) (N := 31) hx hb hts (tw_i inlX12) hown hK hP hL_this hK_this (by decide +kernel) rfl 0 (by decide +kernel) (hts _ (tw_c tw_176)) (pq_hv rfl hR_w_4940) dX12_seaStands_208 ?_
                          refine lv_iload hx hb dX12_seaStands_211 (lv_at hl 6 rfl) ?_
                          refine lv_bipush (v := 8) hx hb dX12_seaStands_213 (by decide +kernel) ?_
                          refine lv_iadd hx hb dX12_seaStands_215 ?_
                          refine lv_topi (fun x_7359 ex_7359 => ?_)
                          replace hF := hF.trans (ap_n ex_7359)
                          have h_7360 : rg x_7359 108 732 := rg_of_eq ex_7359 (rg_add h_4967 (rg_k (8 : Int32) 8 rfl) (by decide +kernel))
                          have uh_7360 := h_7360.1
                          have vh_7360 := h_7360.2
                          have tx_7359 : (x_7359).toInt = (x_4966).toInt + 8 := by rw [ex_7359]; exact i_add_rg (a2 := (x_4966).toInt) (b2 := 8) rfl rfl h_4967 (rg_k (8 : Int32) 8 rfl) (by decide +kernel)
                          refine pl_i hx hb hK hP hL_w_4940 hK_w_4940 hN_w_4940 (rg_in h_7360 (by decide +kernel)) dX12_seaStands_216 ?_
                          refine lv_topi (fun x_7361 ex_7361 => ?_)
                          replace hF := hF.trans (ap_n (vR_r hO_w_4940 (by decide +kernel) ex_7361))
                          have K_7411 : ∀  (ri_7408 : Nat → Nat → Int32) (H : Heap) (locs : List Loc) (ls : Array Slot), F = g_X12_seaStands_K360_4 x_4569 (g_X12_seaStands_L8 a0 a1 (vI 12 σ this I) (vJ 12 σ this J) (vR 12 σ this ri) (vL 12 σ this rj) (vQ 12 σ this rq) n_4935) x_7174 x_7250 (vR 12 σ this ri_7408) → FR 12 tg σ this (I, J, ri, rj, rq) (I, J, ri_7408, rj, rq) → GM [] tg σ I ri I ri_7408 rq → va_P D vwCl (pq_P t σ (I, J, ri_7408, rj, rq)) H → va_D A (pq_P t σ (I, J, ri_7408, rj, rq)) → va_S A s.heap H locs → lv_has ls 9 [(0, .ref this), (1, .int a0), (2, .int a1), (3, .int x_7174), (4, .int x_7250), (5, .int x_4569)] → W p l e ({ frames := 2, cells := 0, slots := 0, locals := 43 } : Room) s m (List.toArray ([.ref this, .int a0, .int a1] : List Value)) below meth c H locs 0 0 Q (F0 m 360 ls []) := by
                            intro ri_7408 H locs ls hF hFr hG hP hD hS hl
                            replace hF := hF.trans g_X12_seaStands_K360_4_e
                            obtain ⟨x_7412, ex_7412⟩ : ∃ y : Int32, y = x_4569 + Int32.ofInt 1 := ⟨_, rfl⟩
                            replace hF := hF.trans (ap_n ex_7412)
                            have h_7413 : rg x_7412 1 40 := rg_of_eq ex_7412 (rg_add h_4962 (rg_k (Int32.ofInt 1) 1 rfl) (by decide +kernel))
                            have uh_7413 := h_7413.1
                            have vh_7413 := h_7413.2
                            have tx_7412 : (x_7412).toInt = (x_4569).toInt + 1 := by rw [ex_7412]; exact i_add_rg (a2 := (x_4569).toInt) (b2 := 1) rfl rfl h_4962 (rg_k (Int32.ofInt 1) 1 rfl) (by decide +kernel)
                            refine lv_iinc (v := x_7412) (lv' := [(5, .int x_7412), (0, .ref this), (1, .int a0), (2, .int a1), (3, .int x_7174), (4, .int x_7250)]) hx hb dX12_seaStands_360 hl (k := 5) rfl ex_7412.symm (by decide +kernel) rfl (fun ls hl => ?_)
                            refine lv_goto (tgt := 8) hx hb dX12_seaStands_363 (by decide +kernel) ?_
                            exact ih_4937 x_7174 x_7250 x_7412 ri_7408 _ _ _ (rg_w h_7413 (by decide +kernel)) (ms_up 1 hm_4934 ex_7412 rfl (by decide +kernel) h_4962 (by decide +kernel) (by decide +kernel)) hF hFr hG hP hD hS (lv_sub hl [1, 2, 3, 4, 5, 0] rfl)
                          refine lv_if_ne (tgt := 223) hx hb dX12_seaStands_217 (by decide +kernel) (fun c_7414 => ?_) (fun c_7414 => ?_)
                          · replace hF := hF.trans (if_neg c_7414)
                            have tc_7418 : (x_7361).toInt ≠ 0 := fun q => c_7414 (Int32.toInt_inj.mp q)
                            refine lv_iload hx hb dX12_seaStands_223 (lv_at hl 7 rfl) ?_
                            refine lv_if_eq (tgt := 317) hx hb dX12_seaStands_225 (by decide +kernel) (fun c_7419 => absurd c_7419 (by decide +kernel)) (fun c_7419 => ?_)
                            refine lv_aload_n hx hb dX12_seaStands_228 rfl (lv_at hl 0 rfl) ?_
                            refine pg_f (v := .ref w_4940) (C := RX12) (T := TX12) (N := 31) hx hb hts (tw_i inlX12) hown hK hP hL_this hK_this (by decide +kernel) rfl 0 (by decide +kernel) (hts _ (tw_c tw_176)) (pq_hv rfl hR_w_4940) dX12_seaStands_229 ?_
                            refine lv_iload hx hb dX12_seaStands_232 (lv_at hl 6 rfl) ?_
                            refine lv_bipush (v := 9) hx hb dX12_seaStands_234 (by decide +kernel) ?_
                            refine lv_iadd hx hb dX12_seaStands_236 ?_
                            refine lv_topi (fun x_7420 ex_7420 => ?_)
                            replace hF := hF.trans (ap_n ex_7420)
                            have h_7421 : rg x_7420 109 733 := rg_of_eq ex_7420 (rg_add h_4967 (rg_k (9 : Int32) 9 rfl) (by decide +kernel))
                            have uh_7421 := h_7421.1
                            have vh_7421 := h_7421.2
                            have tx_7420 : (x_7420).toInt = (x_4966).toInt + 9 := by rw [ex_7420]; exact i_add_rg (a2 := (x_4966).toInt) (b2 := 9) rfl rfl h_4967 (rg_k (9 : Int32) 9 rfl) (by decide +kernel)
                            refine lv_dup2_11 hx hb dX12_seaStands_237 rfl rfl ?_
                            refine pl_i hx hb hK hP hL_w_4940 hK_w_4940 hN_w_4940 (rg_in h_7421 (by decide +kernel)) dX12_seaStands_238 ?_
                            refine lv_topi (fun x_7422 ex_7422 => ?_)
                            replace hF := hF.trans (ap_n (vR_r hO_w_4940 (by decide +kernel) ex_7422))
                            refine lv_aload_n hx hb dX12_seaStands_239 rfl (lv_at hl 0 rfl) ?_
                            refine lv_iload_n hx hb dX12_seaStands_240 rfl (lv_at hl 1 rfl) ?_
                            refine lv_iconst (v := 4) hx hb dX12_seaStands_241 (by decide +kernel) ?_
                            refine pk_i (va_runV (As := [.int a0, .int 4]) (rest := [.int x_7422, .int x_7420, .ref w_4940]) ⟨hx, hb, hml, hown, hts⟩ (s_X12_tableAt_c4 l D t σ I J r_7165 rj rq H.size tg hSH hG.1 this a0 hL_this hK_this (rg_w h_a0 (by decide +kernel))) (cwV 2 hts (tw_V tw_1201 tw_1202 tw_1203 tw_5 tw_1204) rfl rfl rfl cv_yX12_tableAt_2 ⟨Nat.le_of_ble_eq_true rfl, Nat.le_of_ble_eq_true rfl⟩) ⟨pq_blind, pq_recv hK hP hL_this hK_this (by decide +kernel) rfl, pq_pre hK hN hP hD⟩ rfl rfl hl.1 rfl (lv_room (Nat.le_of_ble_eq_true rfl)) dX12_seaStands_242 ⟨Nat.le_of_ble_eq_true rfl, Nat.le_of_ble_eq_true rfl⟩) hD hS hA (fun x_7423 σ1 μ1 H locs hw_7424 hP hD hS => ?_)
                            obtain ⟨hu_7425, hfn_7428⟩ := hw_7424
                            obtain ⟨hu_7425a, hu_7425b⟩ := Prod.mk.inj hu_7425
                            rw [hu_7425a, hu_7425b] at hP hD
                            replace hF := hF.trans (bn_n hfn_7428)
                            refine lv_aload_n hx hb dX12_seaStands_245 rfl (lv_at hl 0 rfl) ?_
                            refine pg_f (v := .ref w_4940) (C := RX12) (T := TX12) (N := 31) hx hb hts (tw_i inlX12) hown hK hP hL_this hK_this (by decide +kernel) rfl 0 (by decide +kernel) (hts _ (tw_c tw_176)) (pq_hv rfl hR_w_4940) dX12_seaStands_246 ?_
                            refine lv_iload hx hb dX12_seaStands_249 (lv_at hl 6 rfl) ?_
                            refine lv_bipush (v := 8) hx hb dX12_seaStands_251 (by decide +kernel) ?_
                            refine lv_iadd hx hb dX12_seaStands_253 ?_
                            refine lv_topi (fun x_7430 ex_7430 => ?_)
                            replace hF := hF.trans (ap_n ex_7430)
                            have h_7431 : rg x_7430 108 732 := rg_of_eq ex_7430 (rg_add h_4967 (rg_k (8 : Int32) 8 rfl) (by decide +kernel))
                            have uh_7431 := h_7431.1
                            have vh_7431 := h_7431.2
                            have tx_7430 : (x_7430).toInt = (x_4966).toInt + 8 := by rw [ex_7430]; exact i_add_rg (a2 := (x_4966).toInt) (b2 := 8) rfl rfl h_4967 (rg_k (8 : Int32) 8 rfl) (by decide +kernel)
                            refine pl_i hx hb hK hP hL_w_4940 hK_w_4940 hN_w_4940 (rg_in h_7431 (by decide +kernel)) dX12_seaStands_254 ?_
                            refine lv_topi (fun x_7432 ex_7432 => ?_)
                            replace hF := hF.trans (ap_n (vR_r hO_w_4940 (by decide +kernel) ex_7432))
                            refine lv_imul hx hb dX12_seaStands_255 ?_
                            refine lv_topi (fun x_7433 ex_7433 => ?_)
                            replace hF := hF.trans (ap_n ex_7433)
                            refine lv_iadd hx hb dX12_seaStands_256 ?_
                            refine lv_topi (fun x_7434 ex_7434 => ?_)
                            replace hF := hF.trans (ap_n ex_7434)
                            refine pt_i hx hb hK hP hD hS hL_w_4940 hK_w_4940 hN_w_4940 (rg_in h_7421 (by decide +kernel)) dX12_seaStands_257 (fun r_7435 H locs er_7435 hP hD hS => ?_)
                            replace hFr := fr_R hFr hO_w_4940 (by decide +kernel) er_7435
                            replace hF := hF.trans (ap_n (vR_st hVT hO_w_4940 (by decide +kernel) er_7435))
                            have hG := GM.wz hG hT_w_4940 (by decide +kernel) er_7435 (zn_CELL (c := x_4569.toNatClampNeg) (k := 9) (by have z_i := clampE x_7420; have z_0 := clampE x_4569; omega) (rg_cl1 h_4962 (by decide +kernel)) (by decide +kernel)) rfl (rg_w (rg_full _) (by decide +kernel)) (by decide +kernel)
                            refine lv_aload_n hx hb dX12_seaStands_258 rfl (lv_at hl 0 rfl) ?_
                            refine pg_f (v := .ref w_4940) (C := RX12) (T := TX12) (N := 31) hx hb hts (tw_i inlX12) hown hK hP hL_this hK_this (by decide +kernel) rfl 0 (by decide +kernel) (hts _ (tw_c tw_176)) (pq_hv rfl hR_w_4940) dX12_seaStands_259 ?_
                            refine lv_iload hx hb dX12_seaStands_262 (lv_at hl 6 rfl) ?_
                            refine lv_bipush (v := 9) hx hb dX12_seaStands_264 (by decide +kernel) ?_
                            refine lv_iadd hx hb dX12_seaStands_266 ?_
                            refine lv_topi (fun x_7436 ex_7436 => ?_)
                            replace hF := hF.trans (ap_n ex_7436)
                            have h_7437 : rg x_7436 109 733 := rg_of_eq ex_7436 (rg_add h_4967 (rg_k (9 : Int32) 9 rfl) (by decide +kernel))
                            have uh_7437 := h_7437.1
                            have vh_7437 := h_7437.2
                            have tx_7436 : (x_7436).toInt = (x_4966).toInt + 9 := by rw [ex_7436]; exact i_add_rg (a2 := (x_4966).toInt) (b2 := 9) rfl rfl h_4967 (rg_k (9 : Int32) 9 rfl) (by decide +kernel)
                            refine pl_i hx hb hK hP hL_w_4940 hK_w_4940 hN_w_4940 (rg_in h_7437 (by decide +kernel)) dX12_seaStands_267 ?_
                            refine lv_topi (fun x_7438 ex_7438 => ?_)
                            replace hF := hF.trans (ap_n (vR_r hO_w_4940 (by decide +kernel) ex_7438))
                            refine lv_sipush (v := 10000) hx hb dX12_seaStands_268 (by decide +kernel) ?_
                            have K_7461 : ∀  (ri_7447 : Nat → Nat → Int32) (H : Heap) (locs : List Loc) (ls : Array Slot), F = g_X12_seaStands_K287_2 x_4569 (g_X12_seaStands_L8 a0 a1 (vI 12 σ this I) (vJ 12 σ this J) (vR 12 σ this ri) (vL 12 σ this rj) (vQ 12 σ this rq) n_4935) x_4966 x_7174 x_7250 (vR 12 σ this ri_7447) → FR 12 tg σ this (I, J, ri, rj, rq) (I, J, ri_7447, rj, rq) → GM [] tg σ I ri I ri_7447 rq → va_P D vwCl (pq_P t σ (I, J, ri_7447, rj, rq)) H → va_D A (pq_P t σ (I, J, ri_7447, rj, rq)) → va_S A s.heap H locs → lv_has ls 9 [(0, .ref this), (1, .int a0), (2, .int a1), (3, .int x_7174), (4, .int x_7250), (5, .int x_4569), (6, .int x_4966)] → W p l e ({ frames := 2, cells := 0, slots := 0, locals := 43 } : Room) s m (List.toArray ([.ref this, .int a0, .int a1] : List Value)) below meth c H locs 0 0 Q (F0 m 287 ls []) := by
                              intro ri_7447 H locs ls hF hFr hG hP hD hS hl
                              replace hF := hF.trans g_X12_seaStands_K287_2_e
                              refine lv_aload_n hx hb dX12_seaStands_287 rfl (lv_at hl 0 rfl) ?_
                              refine pg_f (v := .ref w_4940) (C := RX12) (T := TX12) (N := 31) hx hb hts (tw_i inlX12) hown hK hP hL_this hK_this (by decide +kernel) rfl 0 (by decide +kernel) (hts _ (tw_c tw_176)) (pq_hv rfl hR_w_4940) dX12_seaStands_288 ?_
                              refine lv_iload hx hb dX12_seaStands_291 (lv_at hl 6 rfl) ?_
                              refine lv_bipush (v := 10) hx hb dX12_seaStands_293 (by decide +kernel) ?_
                              refine lv_iadd hx hb dX12_seaStands_295 ?_
                              refine lv_topi (fun x_7462 ex_7462 => ?_)
                              replace hF := hF.trans (ap_n ex_7462)
                              have h_7463 : rg x_7462 110 734 := rg_of_eq ex_7462 (rg_add h_4967 (rg_k (10 : Int32) 10 rfl) (by decide +kernel))
                              have uh_7463 := h_7463.1
                              have vh_7463 := h_7463.2
                              have tx_7462 : (x_7462).toInt = (x_4966).toInt + 10 := by rw [ex_7462]; exact i_add_rg (a2 := (x_4966).toInt) (b2 := 10) rfl rfl h_4967 (rg_k (10 : Int32) 10 rfl) (by decide +kernel)
                              refine pl_i hx hb hK hP hL_w_4940 hK_w_4940 hN_w_4940 (rg_in h_7463 (by decide +kernel)) dX12_seaStands_296 ?_
                              refine lv_topi (fun x_7464 ex_7464 => ?_)
                              replace hF := hF.trans (ap_n (vR_r hO_w_4940 (by decide +kernel) ex_7464))
                              refine lv_if_le (tgt := 360) hx hb dX12_seaStands_297 (by decide +kernel) (fun c_7465 => ?_) (fun c_7465 => ?_)
                              · replace hF := hF.trans (if_pos c_7465)
                                have tc_7470 : (x_7464).toInt ≤ 0 := Int32.le_iff_toInt_le.mp c_7465
                                have h_7471 : rg x_7464 (-2147483648) 0 := rg_le1 c_7465 (rg_full _) (rg_k (0 : Int32) 0 rfl) (by decide +kernel)
                                have uh_7471 := h_7471.1
                                have vh_7471 := h_7471.2
                                exact K_7411 ri_7447 _ _ _ hF hFr hG hP hD hS (lv_sub hl [0, 1, 2, 3, 4, 5] rfl)
                              · replace hF := hF.trans (if_neg c_7465)
                                have tc_7472 : 0 < (x_7464).toInt := Int32.lt_iff_toInt_lt.mp (nle c_7465)
                                have h_7473 : rg x_7464 1 2147483647 := rg_lt2 (nle c_7465) (rg_k (0 : Int32) 0 rfl) (rg_full _) (by decide +kernel)
                                have uh_7473 := h_7473.1
                                have vh_7473 := h_7473.2
                                refine lv_aload_n hx hb dX12_seaStands_300 rfl (lv_at hl 0 rfl) ?_
                                refine pg_f (v := .ref w_4940) (C := RX12) (T := TX12) (N := 31) hx hb hts (tw_i inlX12) hown hK hP hL_this hK_this (by decide +kernel) rfl 0 (by decide +kernel) (hts _ (tw_c tw_176)) (pq_hv rfl hR_w_4940) dX12_seaStands_301 ?_
                                refine lv_iload hx hb dX12_seaStands_304 (lv_at hl 6 rfl) ?_
                                refine lv_bipush (v := 10) hx hb dX12_seaStands_306 (by decide +kernel) ?_
                                refine lv_iadd hx hb dX12_seaStands_308 ?_
                                refine lv_topi (fun x_7474 ex_7474 => ?_)
                                replace hF := hF.trans (ap_n ex_7474)
                                have h_7475 : rg x_7474 110 734 := rg_of_eq ex_7474 (rg_add h_4967 (rg_k (10 : Int32) 10 rfl) (by decide +kernel))
                                have uh_7475 := h_7475.1
                                have vh_7475 := h_7475.2
                                have tx_7474 : (x_7474).toInt = (x_4966).toInt + 10 := by rw [ex_7474]; exact i_add_rg (a2 := (x_4966).toInt) (b2 := 10) rfl rfl h_4967 (rg_k (10 : Int32) 10 rfl) (by decide +kernel)
                                refine lv_dup2_11 hx hb dX12_seaStands_309 rfl rfl ?_
                                refine pl_i hx hb hK hP hL_w_4940 hK_w_4940 hN_w_4940 (rg_in h_7475 (by decide +kernel)) dX12_seaStands_310 ?_
                                refine lv_topi (fun x_7476 ex_7476 => ?_)
                                replace hF := hF.trans (ap_n (vR_r hO_w_4940 (by decide +kernel) ex_7476))
                                refine lv_iconst (v := 1) hx hb dX12_seaStands_311 (by decide +kernel) ?_
                                refine lv_isub hx hb dX12_seaStands_312 ?_
                                refine lv_topi (fun x_7477 ex_7477 => ?_)
                                replace hF := hF.trans (ap_n ex_7477)
                                refine pt_i hx hb hK hP hD hS hL_w_4940 hK_w_4940 hN_w_4940 (rg_in h_7475 (by decide +kernel)) dX12_seaStands_313 (fun r_7478 H locs er_7478 hP hD hS => ?_)
                                replace hFr := fr_R hFr hO_w_4940 (by decide +kernel) er_7478
                                replace hF := hF.trans (ap_n (vR_st hVT hO_w_4940 (by decide +kernel) er_7478))
                                have hG := GM.wz hG hT_w_4940 (by decide +kernel) er_7478 (zn_CELL (c := x_4569.toNatClampNeg) (k := 10) (by have z_i := clampE x_7474; have z_0 := clampE x_4569; omega) (rg_cl1 h_4962 (by decide +kernel)) (by decide +kernel)) rfl (rg_w (rg_full _) (by decide +kernel)) (by decide +kernel)
                                refine lv_goto (tgt := 360) hx hb dX12_seaStands_314 (by decide +kernel) ?_
                                exact K_7411 r_7478 _ _ _ hF hFr hG hP hD hS (lv_sub hl [0, 1, 2, 3, 4, 5] rfl)
                            refine lv_icmp_le (tgt := 287) hx hb dX12_seaStands_271 (by decide +kernel) (fun c_7479 => ?_) (fun c_7479 => ?_)
                            · replace hF := hF.trans (if_pos c_7479)
                              have tc_7484 : (x_7438).toInt ≤ 10000 := Int32.le_iff_toInt_le.mp c_7479
                              have h_7485 : rg x_7438 (-2147483648) 10000 := rg_le1 c_7479 (rg_full _) (rg_k (10000 : Int32) 10000 rfl) (by decide +kernel)
                              have uh_7485 := h_7485.1
                              have vh_7485 := h_7485.2
                              exact K_7461 r_7435 _ _ _ hF hFr hG hP hD hS (lv_sub hl [0, 1, 2, 3, 4, 5, 6] rfl)
                            · replace hF := hF.trans (if_neg c_7479)
                              have tc_7486 : 10000 < (x_7438).toInt := Int32.lt_iff_toInt_lt.mp (nle c_7479)
                              have h_7487 : rg x_7438 10001 2147483647 := rg_lt2 (nle c_7479) (rg_k (10000 : Int32) 10000 rfl) (rg_full _) (by decide +kernel)
                              have uh_7487 := h_7487.1
                              have vh_7487 := h_7487.2
                              refine lv_aload_n hx hb dX12_seaStands_274 rfl (lv_at hl 0 rfl) ?_
                              refine pg_f (v := .ref w_4940) (C := RX12) (T := TX12) (N := 31) hx hb hts (tw_i inlX12) hown hK hP hL_this hK_this (by decide +kernel) rfl 0 (by decide +kernel) (hts _ (tw_c tw_176)) (pq_hv rfl hR_w_4940) dX12_seaStands_275 ?_
                              refine lv_iload hx hb dX12_seaStands_278 (lv_at hl 6 rfl) ?_
                              refine lv_bipush (v := 9) hx hb dX12_seaStands_280 (by decide +kernel) ?_
                              refine lv_iadd hx hb dX12_seaStands_282 ?_
                              refine lv_topi (fun x_7488 ex_7488 => ?_)
                              replace hF := hF.trans (ap_n ex_7488)
                              have h_7489 : rg x_7488 109 733 := rg_of_eq ex_7488 (rg_add h_4967 (rg_k (9 : Int32) 9 rfl) (by decide +kernel))
                              have uh_7489 := h_7489.1
                              have vh_7489 := h_7489.2
                              have tx_7488 : (x_7488).toInt = (x_4966).toInt + 9 := by rw [ex_7488]; exact i_add_rg (a2 := (x_4966).toInt) (b2 := 9) rfl rfl h_4967 (rg_k (9 : Int32) 9 rfl) (by decide +kernel)
                              refine lv_sipush (v := 10000) hx hb dX12_seaStands_283 (by decide +kernel) ?_
                              refine pt_i hx hb hK hP hD hS hL_w_4940 hK_w_4940 hN_w_4940 (rg_in h_7489 (by decide +kernel)) dX12_seaStands_286 (fun r_7490 H locs er_7490 hP hD hS => ?_)
                              replace hFr := fr_R hFr hO_w_4940 (by decide +kernel) er_7490
                              replace hF := hF.trans (ap_n (vR_st hVT hO_w_4940 (by decide +kernel) er_7490))
                              have hG := GM.wz hG hT_w_4940 (by decide +kernel) er_7490 (zn_CELL (c := x_4569.toNatClampNeg) (k := 9) (by have z_i := clampE x_7488; have z_0 := clampE x_4569; omega) (rg_cl1 h_4962 (by decide +kernel)) (by decide +kernel)) rfl (rg_w (rg_k (10000 : Int32) 10000 rfl) (by decide +kernel)) (by decide +kernel)
                              exact K_7461 r_7490 _ _ _ hF hFr hG hP hD hS (lv_sub hl [0, 1, 2, 3, 4, 5, 6] rfl)
                          · replace hF := hF.trans (if_pos c_7414)
                            have tc_7491 : (x_7361).toInt = 0 := congrArg Int32.toInt c_7414
                            have h_7492 : rg x_7361 0 0 := rg_and (rg_full _) (rg_of_eq c_7414 (rg_k (0 : Int32) 0 rfl)) (by decide +kernel)
                            have uh_7492 := h_7492.1
                            have vh_7492 := h_7492.2
                            refine lv_goto (tgt := 360) hx hb dX12_seaStands_220 (by decide +kernel) ?_
                            exact K_7411 r_7165 _ _ _ hF hFr hG hP hD hS (lv_sub hl [0, 1, 2, 3, 4, 5] rfl)
                        refine lv_if_ne (tgt := 207) hx hb dX12_seaStands_193 (by decide +kernel) (fun c_7493 => ?_) (fun c_7493 => absurd c_7493 (by decide +kernel))
                        exact K_7358 _ _ _ hF hFr hG hP hD hS (lv_sub hl [0, 1, 2, 3, 4, 5, 6, 7] rfl)
                      refine lv_if_eq (tgt := 191) hx hb dX12_seaStands_169 (by decide +kernel) (fun c_7494 => absurd c_7494 (by decide +kernel)) (fun c_7494 => ?_)
                      refine lv_iload hx hb dX12_seaStands_172 (lv_at hl 5 rfl) ?_
                      refine lv_bipush (v := 20) hx hb dX12_seaStands_174 (by decide +kernel) ?_
                      refine lv_icmp_lt (tgt := 191) hx hb dX12_seaStands_176 (by decide +kernel) (fun c_7495 => ?_) (fun c_7495 => ?_)
                      · replace hF := hF.trans (if_pos c_7495)
                        have tc_7500 : (x_4569).toInt < 20 := Int32.lt_iff_toInt_lt.mp c_7495
                        have h_7501 : rg x_4569 0 19 := rg_lt1 c_7495 h_4962 (rg_k (20 : Int32) 20 rfl) (by decide +kernel)
                        have uh_7501 := h_7501.1
                        have vh_7501 := h_7501.2
                        exact K_7304 x_4568 _ _ _ hF hFr hG hP hD hS (lv_sub hl [0, 1, 2, 3, 4, 5, 6, 7] rfl)
                      · replace hF := hF.trans (if_neg c_7495)
                        have tc_7502 : 20 ≤ (x_4569).toInt := Int32.le_iff_toInt_le.mp (nlt c_7495)
                        have h_7503 : rg x_4569 20 39 := rg_le2 (nlt c_7495) (rg_k (20 : Int32) 20 rfl) h_4962 (by decide +kernel)
                        have uh_7503 := h_7503.1
                        have vh_7503 := h_7503.2
                        refine lv_iload hx hb dX12_seaStands_179 (lv_at hl 4 rfl) ?_
                        refine lv_iconst (v := 1) hx hb dX12_seaStands_181 (by decide +kernel) ?_
                        refine lv_iload hx hb dX12_seaStands_182 (lv_at hl 5 rfl) ?_
                        refine lv_bipush (v := 20) hx hb dX12_seaStands_184 (by decide +kernel) ?_
                        refine lv_isub hx hb dX12_seaStands_186 ?_
                        refine lv_topi (fun x_7504 ex_7504 => ?_)
                        replace hF := hF.trans (ap_n ex_7504)
                        have h_7505 : rg x_7504 0 19 := rg_of_eq ex_7504 (rg_sub h_7503 (rg_k (20 : Int32) 20 rfl) (by decide +kernel))
                        have uh_7505 := h_7505.1
                        have vh_7505 := h_7505.2
                        have tx_7504 : (x_7504).toInt = (x_4569).toInt - 20 := by rw [ex_7504]; exact i_sub_rg (a2 := (x_4569).toInt) (b2 := 20) rfl rfl h_7503 (rg_k (20 : Int32) 20 rfl) (by decide +kernel)
                        refine lv_ishl hx hb dX12_seaStands_187 ?_
                        refine lv_topi (fun x_7506 ex_7506 => ?_)
                        replace hF := hF.trans (ap_n ex_7506)
                        refine lv_ior hx hb dX12_seaStands_188 ?_
                        refine lv_topi (fun x_7507 ex_7507 => ?_)
                        replace hF := hF.trans (ap_n ex_7507)
                        refine lv_istore (lv' := [(4, .int x_7507), (0, .ref this), (1, .int a0), (2, .int a1), (3, .int x_7174), (5, .int x_4569), (6, .int x_4966), (7, .int 1), (8, .int 1)]) hx hb dX12_seaStands_189 hl (by decide +kernel) rfl (fun ls hl => ?_)
                        exact K_7304 x_7507 _ _ _ hF hFr hG hP hD hS (lv_sub hl [1, 2, 3, 4, 0, 5, 6, 7] rfl)
                    refine lv_if_eq (tgt := 167) hx hb dX12_seaStands_150 (by decide +kernel) (fun c_7508 => absurd c_7508 (by decide +kernel)) (fun c_7508 => ?_)
                    refine lv_iload hx hb dX12_seaStands_153 (lv_at hl 5 rfl) ?_
                    refine lv_bipush (v := 20) hx hb dX12_seaStands_155 (by decide +kernel) ?_
                    refine lv_icmp_ge (tgt := 167) hx hb dX12_seaStands_157 (by decide +kernel) (fun c_7509 => ?_) (fun c_7509 => ?_)
                    · replace hF := hF.trans (if_pos c_7509)
                      have tc_7514 : 20 ≤ (x_4569).toInt := Int32.le_iff_toInt_le.mp c_7509
                      have h_7515 : rg x_4569 20 39 := rg_le2 c_7509 (rg_k (20 : Int32) 20 rfl) h_4962 (by decide +kernel)
                      have uh_7515 := h_7515.1
                      have vh_7515 := h_7515.2
                      exact K_7239 x_4567 _ _ _ hF hFr hG hP hD hS (lv_sub hl [0, 1, 2, 3, 4, 5, 6, 7, 8] rfl)
                    · replace hF := hF.trans (if_neg c_7509)
                      have tc_7516 : (x_4569).toInt < 20 := Int32.lt_iff_toInt_lt.mp (nle c_7509)
                      have h_7517 : rg x_4569 0 19 := rg_lt1 (nle c_7509) h_4962 (rg_k (20 : Int32) 20 rfl) (by decide +kernel)
                      have uh_7517 := h_7517.1
                      have vh_7517 := h_7517.2
                      refine lv_iload_n hx hb dX12_seaStands_160 rfl (lv_at hl 3 rfl) ?_
                      refine lv_iconst (v := 1) hx hb dX12_seaStands_161 (by decide +kernel) ?_
                      refine lv_iload hx hb dX12_seaStands_162 (lv_at hl 5 rfl) ?_
                      refine lv_ishl hx hb dX12_seaStands_164 ?_
                      refine lv_topi (fun x_7518 ex_7518 => ?_)
                      replace hF := hF.trans (ap_n ex_7518)
                      refine lv_ior hx hb dX12_seaStands_165 ?_
                      refine lv_topi (fun x_7519 ex_7519 => ?_)
                      replace hF := hF.trans (ap_n ex_7519)
                      refine lv_istore_n (lv' := [(3, .int x_7519), (0, .ref this), (1, .int a0), (2, .int a1), (4, .int x_4568), (5, .int x_4569), (6, .int x_4966), (7, .int 1), (8, .int 1)]) hx hb dX12_seaStands_166 rfl hl (by decide +kernel) rfl (fun ls hl => ?_)
                      exact K_7239 x_7519 _ _ _ hF hFr hG hP hD hS (lv_sub hl [1, 2, 3, 0, 4, 5, 6, 7, 8] rfl)
                  refine lv_if_eq (tgt := 135) hx hb dX12_seaStands_128 (by decide +kernel) (fun c_7520 => absurd c_7520 (by decide +kernel)) (fun c_7520 => ?_)
                  refine lv_iconst (v := 0) hx hb dX12_seaStands_131 (by decide +kernel) ?_
                  refine lv_goto (tgt := 147) hx hb dX12_seaStands_132 (by decide +kernel) ?_
                  exact K_7164 _ _ _ hF hFr hG hP hD hS (lv_sub hl [0, 1, 2, 3, 4, 5, 6, 7, 8] rfl)
                refine lv_if_eq (tgt := 115) hx hb dX12_seaStands_108 (by decide +kernel) (fun c_7521 => absurd c_7521 (by decide +kernel)) (fun c_7521 => ?_)
                refine lv_iconst (v := 1) hx hb dX12_seaStands_111 (by decide +kernel) ?_
                refine lv_goto (tgt := 116) hx hb dX12_seaStands_112 (by decide +kernel) ?_
                exact K_7085 _ _ _ hF hFr hG hP hD hS (lv_sub hl [0, 1, 2, 3, 4, 5, 6, 7, 8] rfl)
              refine lv_if_eq (tgt := 95) hx hb dX12_seaStands_88 (by decide +kernel) (fun c_7522 => absurd c_7522 (by decide +kernel)) (fun c_7522 => ?_)
              refine lv_iconst (v := 1) hx hb dX12_seaStands_91 (by decide +kernel) ?_
              refine lv_goto (tgt := 96) hx hb dX12_seaStands_92 (by decide +kernel) ?_
              exact K_7002 _ _ _ hF hFr hG hP hD hS (lv_sub hl [1, 2, 3, 4, 5, 6, 7, 8, 0] rfl)
            refine lv_icmp_le (tgt := 74) hx hb dX12_seaStands_67 (by decide +kernel) (fun c_7523 => ?_) (fun c_7523 => ?_)
            · replace hF := hF.trans (if_pos c_7523)
              have tc_7528 : (x_6237).toInt ≤ (x_6251).toInt := Int32.le_iff_toInt_le.mp c_7523
              refine lv_iconst (v := 0) hx hb dX12_seaStands_74 (by decide +kernel) ?_
              exact K_6411 _ _ _ hF hFr hG hP hD hS (lv_sub hl [1, 2, 3, 4, 5, 6, 7, 0] rfl)
            · replace hF := hF.trans (if_neg c_7523)
              have tc_7529 : (x_6251).toInt < (x_6237).toInt := Int32.lt_iff_toInt_lt.mp (nle c_7523)
              have h_7530 : rg x_6251 (-2147483648) 2147483646 := rg_lt1 (nle c_7523) (rg_full _) (rg_full _) (by decide +kernel)
              have uh_7530 := h_7530.1
              have vh_7530 := h_7530.2
              have h_7531 : rg x_6237 (-2147483647) 2147483647 := rg_lt2 (nle c_7523) (rg_full _) (rg_full _) (by decide +kernel)
              have uh_7531 := h_7531.1
              have vh_7531 := h_7531.2
              refine lv_iconst (v := 1) hx hb dX12_seaStands_70 (by decide +kernel) ?_
              refine lv_goto (tgt := 75) hx hb dX12_seaStands_71 (by decide +kernel) ?_
              exact K_6912 _ _ _ (rg_w h_7531 (by decide +kernel)) (rg_w h_7530 (by decide +kernel)) hF hFr hG hP hD hS (lv_sub hl [1, 2, 3, 4, 5, 6, 7, 0] rfl)
          refine lv_icmp_le (tgt := 50) hx hb dX12_seaStands_43 (by decide +kernel) (fun c_7532 => ?_) (fun c_7532 => ?_)
          · replace hF := hF.trans (if_pos c_7532)
            have tc_7537 : (x_4968).toInt ≤ (x_4982).toInt := Int32.le_iff_toInt_le.mp c_7532
            refine lv_iconst (v := 0) hx hb dX12_seaStands_50 (by decide +kernel) ?_
            exact K_5306 _ _ _ hF hFr hG hP hD hS (lv_sub hl [1, 2, 3, 4, 5, 6, 0] rfl)
          · replace hF := hF.trans (if_neg c_7532)
            have tc_7538 : (x_4982).toInt < (x_4968).toInt := Int32.lt_iff_toInt_lt.mp (nle c_7532)
            have h_7539 : rg x_4982 (-2147483648) 2147483646 := rg_lt1 (nle c_7532) (rg_full _) (rg_full _) (by decide +kernel)
            have uh_7539 := h_7539.1
            have vh_7539 := h_7539.2
            have h_7540 : rg x_4968 (-2147483647) 2147483647 := rg_lt2 (nle c_7532) (rg_full _) (rg_full _) (by decide +kernel)
            have uh_7540 := h_7540.1
            have vh_7540 := h_7540.2
            refine lv_iconst (v := 1) hx hb dX12_seaStands_46 (by decide +kernel) ?_
            refine lv_goto (tgt := 51) hx hb dX12_seaStands_47 (by decide +kernel) ?_
            exact K_6232 _ _ _ (rg_w h_7540 (by decide +kernel)) (rg_w h_7539 (by decide +kernel)) hF hFr hG hP hD hS (lv_sub hl [1, 2, 3, 4, 5, 6, 0] rfl)
    exact L_4936 _ (0 : Int32) (0 : Int32) (0 : Int32) ri _ _ _ (rg_w (rg_k (0 : Int32) 0 rfl) (by decide +kernel)) (Nat.lt_succ_self _) hF hFr hG hP hD hS (lv_sub hl [3, 4, 5, 2, 1, 0] rfl)
  exact go _ _ _ hP hD hS hl
